/-! THE START: what the Statement gives of it -/
section CST
abbrev sw_W : List Cond := flatC (Jvm.Cond.and given_1 narrow_1)
def sw_fl (o : String) (i : Nat) : Term := Term.field (Term.string o i) "java/lang/String" "value" "[B"
/-- the words on a text -/
def sw_ws (o : String) (i : Nat) (l : List Int32) : List Cond := Cond.exactly (Term.string o i) "java/lang/String" :: Cond.eq (Term.field (Term.string o i) "java/lang/String" "coder" "B") (Term.int 0) :: Cond.arrayOf (sw_fl o i) .byte :: Cond.eq (Term.length (sw_fl o i)) (Term.int (Int32.ofNat l.length)) :: (List.range l.length).map fun j => Cond.eq (Term.elem (sw_fl o i) (Term.int (Int32.ofNat j))) (Term.int (l.getD j 0))
theorem sw_txt {args : Array Value} {s : State} {o : String} {i : Nat} {l : List Int32} {A : Nat → Prop} (hm : ∀ w ∈ sw_ws o i l, w.before args s = true) (hl : l.length < 100) (hA : ∀ a : Nat, a < s.heap.size → ¬ A a) : ∃ a v : Nat, vk_S 1 [l.length] [l] (fun _ => a) (fun _ => v) A s s.heap ∧ (Term.string o i).eval args s none [] s = some (.ref a) := by
  obtain ⟨adK, adV, h1, h2⟩ := vk_Sof (args := args) (s := s) (N := 1) (tm := fun _ => Term.string o i) (len := [l.length]) (byt := [l]) (A := A)
    (fun j hj => by
      have e : j = 0 := by omega
      subst e
      show l.length < 2 ^ 31
      omega)
    (fun j hj => hm _ List.mem_cons_self) (fun j hj => hm _ (List.mem_cons_of_mem _ List.mem_cons_self)) (fun j hj => hm _ (List.mem_cons_of_mem _ (List.mem_cons_of_mem _ List.mem_cons_self)))
    (fun j hj => by
      have e : j = 0 := by omega
      subst e
      exact hm _ (List.mem_cons_of_mem _ (List.mem_cons_of_mem _ (List.mem_cons_of_mem _ List.mem_cons_self))))
    (fun j hj k hk => by
      have e : j = 0 := by omega
      subst e
      exact hm _ (List.mem_cons_of_mem _ (List.mem_cons_of_mem _ (List.mem_cons_of_mem _ (List.mem_cons_of_mem _ (List.mem_map.mpr ⟨k, List.mem_range.mpr hk, rfl⟩))))))
    (fun j k hj hk hne => absurd (show j = k by omega) hne) hA
  refine ⟨adK 0, adV 0, ⟨fun j hj => ?_, fun j k hj hk _ => by omega⟩, h2 0 (by decide)⟩
  have e : j = 0 := by omega
  subst e
  exact h1.1 0 (by decide)
/-- where the words on each text stand -/
def sw_rp : List (Nat × String × Nat) := [(96, "ForgetWar$WarText", 43), (106, "ForgetWar$WarText", 97), (115, "ForgetWar$WarText", 52), (126, "ForgetWar$WarText", 57), (135, "ForgetWar$WarText", 62), (143, "ForgetWar$WarText", 67), (152, "ForgetWar$WarText", 72), (160, "ForgetWar$WarText", 77), (169, "ForgetWar", 124), (196, "ForgetWar", 134), (229, "ForgetWar$LawText", 71), (236, "ForgetWar$LawText", 73), (244, "ForgetWar$LawText", 75), (252, "ForgetWar$LawText", 58), (258, "ForgetWar$LawText", 91), (265, "ForgetWar$LawText", 102), (286, "ForgetWar$LawText", 112), (294, "ForgetWar$LawText", 114), (303, "ForgetWar$LawText", 116), (311, "ForgetWar$LawText", 118), (320, "ForgetWar$LawText", 120), (330, "ForgetWar$LawText", 122), (338, "ForgetWar$LawText", 89), (345, "ForgetWar$LawText", 80), (351, "ForgetWar", 139), (378, "ForgetWar", 489), (396, "ForgetWar", 191), (426, "ForgetWar", 491), (445, "ForgetWar", 228), (476, "ForgetWar", 499), (499, "ForgetWar", 249), (516, "ForgetWar", 261), (546, "ForgetWar", 269), (571, "ForgetWar", 493), (587, "ForgetWar", 294), (610, "ForgetWar", 310), (635, "ForgetWar", 497), (665, "ForgetWar", 324), (692, "ForgetWar", 329), (712, "ForgetWar", 337), (749, "ForgetWar", 495), (765, "ForgetWar", 386), (793, "ForgetWar", 407), (810, "ForgetWar", 409), (860, "ForgetWar", 420), (889, "ForgetWar", 444)]
def sw_at (k : Nat) : Nat × String × Nat := sw_rp.getD k (0, "", 0)
def sw_is (k : Nat) : Prop := ((sw_W.drop (sw_at k).1).take (4 + (am_bs (am_TX.getD k "")).length)) = sw_ws (sw_at k).2.1 (sw_at k).2.2 (am_bs (am_TX.getD k ""))
theorem sw_i0 : sw_is 0 := by unfold sw_is; decide +kernel
theorem sw_i1 : sw_is 1 := by unfold sw_is; decide +kernel
theorem sw_i2 : sw_is 2 := by unfold sw_is; decide +kernel
theorem sw_i3 : sw_is 3 := by unfold sw_is; decide +kernel
theorem sw_i4 : sw_is 4 := by unfold sw_is; decide +kernel
theorem sw_i5 : sw_is 5 := by unfold sw_is; decide +kernel
theorem sw_i6 : sw_is 6 := by unfold sw_is; decide +kernel
theorem sw_i7 : sw_is 7 := by unfold sw_is; decide +kernel
theorem sw_i8 : sw_is 8 := by unfold sw_is; decide +kernel
theorem sw_i9 : sw_is 9 := by unfold sw_is; decide +kernel
theorem sw_i10 : sw_is 10 := by unfold sw_is; decide +kernel
theorem sw_i11 : sw_is 11 := by unfold sw_is; decide +kernel
theorem sw_i12 : sw_is 12 := by unfold sw_is; decide +kernel
theorem sw_i13 : sw_is 13 := by unfold sw_is; decide +kernel
theorem sw_i14 : sw_is 14 := by unfold sw_is; decide +kernel
theorem sw_i15 : sw_is 15 := by unfold sw_is; decide +kernel
theorem sw_i16 : sw_is 16 := by unfold sw_is; decide +kernel
theorem sw_i17 : sw_is 17 := by unfold sw_is; decide +kernel
theorem sw_i18 : sw_is 18 := by unfold sw_is; decide +kernel
theorem sw_i19 : sw_is 19 := by unfold sw_is; decide +kernel
theorem sw_i20 : sw_is 20 := by unfold sw_is; decide +kernel
theorem sw_i21 : sw_is 21 := by unfold sw_is; decide +kernel
theorem sw_i22 : sw_is 22 := by unfold sw_is; decide +kernel
theorem sw_i23 : sw_is 23 := by unfold sw_is; decide +kernel
theorem sw_i24 : sw_is 24 := by unfold sw_is; decide +kernel
theorem sw_i25 : sw_is 25 := by unfold sw_is; decide +kernel
theorem sw_i26 : sw_is 26 := by unfold sw_is; decide +kernel
theorem sw_i27 : sw_is 27 := by unfold sw_is; decide +kernel
theorem sw_i28 : sw_is 28 := by unfold sw_is; decide +kernel
theorem sw_i29 : sw_is 29 := by unfold sw_is; decide +kernel
theorem sw_i30 : sw_is 30 := by unfold sw_is; decide +kernel
theorem sw_i31 : sw_is 31 := by unfold sw_is; decide +kernel
theorem sw_i32 : sw_is 32 := by unfold sw_is; decide +kernel
theorem sw_i33 : sw_is 33 := by unfold sw_is; decide +kernel
theorem sw_i34 : sw_is 34 := by unfold sw_is; decide +kernel
theorem sw_i35 : sw_is 35 := by unfold sw_is; decide +kernel
theorem sw_i36 : sw_is 36 := by unfold sw_is; decide +kernel
theorem sw_i37 : sw_is 37 := by unfold sw_is; decide +kernel
theorem sw_i38 : sw_is 38 := by unfold sw_is; decide +kernel
theorem sw_i39 : sw_is 39 := by unfold sw_is; decide +kernel
theorem sw_i40 : sw_is 40 := by unfold sw_is; decide +kernel
theorem sw_i41 : sw_is 41 := by unfold sw_is; decide +kernel
theorem sw_i42 : sw_is 42 := by unfold sw_is; decide +kernel
theorem sw_i43 : sw_is 43 := by unfold sw_is; decide +kernel
theorem sw_i44 : sw_is 44 := by unfold sw_is; decide +kernel
theorem sw_i45 : sw_is 45 := by unfold sw_is; decide +kernel
theorem sw_ok (k : Nat) (hk : k < 46) : sw_is k := by
  by_cases e0 : k = 0
  · rw [e0]; exact sw_i0
  by_cases e1 : k = 1
  · rw [e1]; exact sw_i1
  by_cases e2 : k = 2
  · rw [e2]; exact sw_i2
  by_cases e3 : k = 3
  · rw [e3]; exact sw_i3
  by_cases e4 : k = 4
  · rw [e4]; exact sw_i4
  by_cases e5 : k = 5
  · rw [e5]; exact sw_i5
  by_cases e6 : k = 6
  · rw [e6]; exact sw_i6
  by_cases e7 : k = 7
  · rw [e7]; exact sw_i7
  by_cases e8 : k = 8
  · rw [e8]; exact sw_i8
  by_cases e9 : k = 9
  · rw [e9]; exact sw_i9
  by_cases e10 : k = 10
  · rw [e10]; exact sw_i10
  by_cases e11 : k = 11
  · rw [e11]; exact sw_i11
  by_cases e12 : k = 12
  · rw [e12]; exact sw_i12
  by_cases e13 : k = 13
  · rw [e13]; exact sw_i13
  by_cases e14 : k = 14
  · rw [e14]; exact sw_i14
  by_cases e15 : k = 15
  · rw [e15]; exact sw_i15
  by_cases e16 : k = 16
  · rw [e16]; exact sw_i16
  by_cases e17 : k = 17
  · rw [e17]; exact sw_i17
  by_cases e18 : k = 18
  · rw [e18]; exact sw_i18
  by_cases e19 : k = 19
  · rw [e19]; exact sw_i19
  by_cases e20 : k = 20
  · rw [e20]; exact sw_i20
  by_cases e21 : k = 21
  · rw [e21]; exact sw_i21
  by_cases e22 : k = 22
  · rw [e22]; exact sw_i22
  by_cases e23 : k = 23
  · rw [e23]; exact sw_i23
  by_cases e24 : k = 24
  · rw [e24]; exact sw_i24
  by_cases e25 : k = 25
  · rw [e25]; exact sw_i25
  by_cases e26 : k = 26
  · rw [e26]; exact sw_i26
  by_cases e27 : k = 27
  · rw [e27]; exact sw_i27
  by_cases e28 : k = 28
  · rw [e28]; exact sw_i28
  by_cases e29 : k = 29
  · rw [e29]; exact sw_i29
  by_cases e30 : k = 30
  · rw [e30]; exact sw_i30
  by_cases e31 : k = 31
  · rw [e31]; exact sw_i31
  by_cases e32 : k = 32
  · rw [e32]; exact sw_i32
  by_cases e33 : k = 33
  · rw [e33]; exact sw_i33
  by_cases e34 : k = 34
  · rw [e34]; exact sw_i34
  by_cases e35 : k = 35
  · rw [e35]; exact sw_i35
  by_cases e36 : k = 36
  · rw [e36]; exact sw_i36
  by_cases e37 : k = 37
  · rw [e37]; exact sw_i37
  by_cases e38 : k = 38
  · rw [e38]; exact sw_i38
  by_cases e39 : k = 39
  · rw [e39]; exact sw_i39
  by_cases e40 : k = 40
  · rw [e40]; exact sw_i40
  by_cases e41 : k = 41
  · rw [e41]; exact sw_i41
  by_cases e42 : k = 42
  · rw [e42]; exact sw_i42
  by_cases e43 : k = 43
  · rw [e43]; exact sw_i43
  by_cases e44 : k = 44
  · rw [e44]; exact sw_i44
  have e : k = 45 := by omega
  rw [e]; exact sw_i45
theorem sw_text {args : Array Value} {s : State} {A : Nat → Prop} (hg : ∀ w ∈ sw_W, w.before args s = true) (hA : ∀ a : Nat, a < s.heap.size → ¬ A a) (k : Nat) (hk : k < am_TX.length) : ∃ a v : Nat, vk_S 1 [(am_bs (am_TX.getD k "")).length] [am_bs (am_TX.getD k "")] (fun _ => a) (fun _ => v) A s s.heap ∧ (Term.string (sw_at k).2.1 (sw_at k).2.2).eval args s none [] s = some (.ref a) := by
  refine sw_txt (fun w hw => ?_) (am_len_lt hk) hA
  have h := sw_ok k hk
  unfold sw_is at h
  rw [← h] at hw
  exact hg w (List.mem_of_mem_drop (List.mem_of_mem_take hw))
/-- a text that the pool of a class names -/
def sw_P (q : String × Nat × String × Nat) : Prop := Cond.stringRef q.1 q.2.1 q.2.2.1 ∈ lw_tbl ∧ q.2.2.2 < am_TX.length ∧ ((sw_at q.2.2.2).2 = (q.1, q.2.1) ∨ Cond.eq (Term.string (sw_at q.2.2.2).2.1 (sw_at q.2.2.2).2.2) (Term.string q.1 q.2.1) ∈ sw_W)
theorem sw_r0 : sw_P ("ForgetWar$WarText", 43, "memory", 0) := ⟨List.mem_of_getElem? (i := 807) (by decide +kernel), by decide, Or.inl rfl⟩
theorem sw_r1 : sw_P ("ForgetWar$WarText", 97, "needs", 1) := ⟨List.mem_of_getElem? (i := 869) (by decide +kernel), by decide, Or.inl rfl⟩
theorem sw_r2 : sw_P ("ForgetWar$WarText", 52, "soldier", 2) := ⟨List.mem_of_getElem? (i := 883) (by decide +kernel), by decide, Or.inl rfl⟩
theorem sw_r3 : sw_P ("ForgetWar$WarText", 57, "knows", 3) := ⟨List.mem_of_getElem? (i := 894) (by decide +kernel), by decide, Or.inl rfl⟩
theorem sw_r4 : sw_P ("ForgetWar$WarText", 62, "book", 4) := ⟨List.mem_of_getElem? (i := 921) (by decide +kernel), by decide, Or.inl rfl⟩
theorem sw_r5 : sw_P ("ForgetWar$WarText", 67, "order", 5) := ⟨List.mem_of_getElem? (i := 927) (by decide +kernel), by decide, Or.inl rfl⟩
theorem sw_r6 : sw_P ("ForgetWar$WarText", 72, "plan", 6) := ⟨List.mem_of_getElem? (i := 936) (by decide +kernel), by decide, Or.inl rfl⟩
theorem sw_r7 : sw_P ("ForgetWar$WarText", 77, "clash", 7) := ⟨List.mem_of_getElem? (i := 941) (by decide +kernel), by decide, Or.inl rfl⟩
theorem sw_r8 : sw_P ("ForgetWar", 124, "a wrong text of the war", 8) := ⟨List.mem_of_getElem? (i := 1001) (by decide +kernel), by decide, Or.inl rfl⟩
theorem sw_r9 : sw_P ("ForgetWar", 134, "there are 12 texts of the war", 9) := ⟨List.mem_of_getElem? (i := 1037) (by decide +kernel), by decide, Or.inl rfl⟩
theorem sw_r10 : sw_P ("ForgetWar$LawText", 71, "aim", 10) := ⟨List.mem_of_getElem? (i := 1068) (by decide +kernel), by decide, Or.inl rfl⟩
theorem sw_r11 : sw_P ("ForgetWar$LawText", 73, "good", 11) := ⟨List.mem_of_getElem? (i := 1070) (by decide +kernel), by decide, Or.inl rfl⟩
theorem sw_r12 : sw_P ("ForgetWar$LawText", 75, "read", 12) := ⟨List.mem_of_getElem? (i := 1071) (by decide +kernel), by decide, Or.inl rfl⟩
theorem sw_r13 : sw_P ("ForgetWar$LawText", 58, "if", 13) := ⟨List.mem_of_getElem? (i := 1074) (by decide +kernel), by decide, Or.inl rfl⟩
theorem sw_r14 : sw_P ("ForgetWar$LawText", 91, "not", 14) := ⟨List.mem_of_getElem? (i := 1087) (by decide +kernel), by decide, Or.inl rfl⟩
theorem sw_r15 : sw_P ("ForgetWar$LawText", 102, "alone", 15) := ⟨List.mem_of_getElem? (i := 1103) (by decide +kernel), by decide, Or.inl rfl⟩
theorem sw_r16 : sw_P ("ForgetWar$LawText", 110, "soldier", 2) := ⟨List.mem_of_getElem? (i := 1112) (by decide +kernel), by decide, Or.inr (List.mem_of_getElem? (i := 285) (by decide +kernel))⟩
theorem sw_r17 : sw_P ("ForgetWar$LawText", 112, "side", 16) := ⟨List.mem_of_getElem? (i := 1113) (by decide +kernel), by decide, Or.inl rfl⟩
theorem sw_r18 : sw_P ("ForgetWar$LawText", 114, "place", 17) := ⟨List.mem_of_getElem? (i := 1114) (by decide +kernel), by decide, Or.inl rfl⟩
theorem sw_r19 : sw_P ("ForgetWar$LawText", 116, "hour", 18) := ⟨List.mem_of_getElem? (i := 1115) (by decide +kernel), by decide, Or.inl rfl⟩
theorem sw_r20 : sw_P ("ForgetWar$LawText", 118, "known", 19) := ⟨List.mem_of_getElem? (i := 1116) (by decide +kernel), by decide, Or.inl rfl⟩
theorem sw_r21 : sw_P ("ForgetWar$LawText", 120, "usable", 20) := ⟨List.mem_of_getElem? (i := 1117) (by decide +kernel), by decide, Or.inl rfl⟩
theorem sw_r22 : sw_P ("ForgetWar$LawText", 122, "foes", 21) := ⟨List.mem_of_getElem? (i := 1118) (by decide +kernel), by decide, Or.inl rfl⟩
theorem sw_r23 : sw_P ("ForgetWar$LawText", 89, "and", 22) := ⟨List.mem_of_getElem? (i := 1119) (by decide +kernel), by decide, Or.inl rfl⟩
theorem sw_r24 : sw_P ("ForgetWar$LawText", 80, "or", 23) := ⟨List.mem_of_getElem? (i := 1120) (by decide +kernel), by decide, Or.inl rfl⟩
theorem sw_r25 : sw_P ("ForgetWar", 139, "a wrong text of the law", 24) := ⟨List.mem_of_getElem? (i := 1125) (by decide +kernel), by decide, Or.inl rfl⟩
theorem sw_r26 : sw_P ("ForgetWar", 489, "no such memory", 25) := ⟨List.mem_of_getElem? (i := 1149) (by decide +kernel), by decide, Or.inl rfl⟩
theorem sw_r27 : sw_P ("ForgetWar", 191, "a memory has no such thing", 26) := ⟨List.mem_of_getElem? (i := 1175) (by decide +kernel), by decide, Or.inl rfl⟩
theorem sw_r28 : sw_P ("ForgetWar", 491, "no such soldier", 27) := ⟨List.mem_of_getElem? (i := 1193) (by decide +kernel), by decide, Or.inl rfl⟩
theorem sw_r29 : sw_P ("ForgetWar", 228, "a soldier has no such thing", 28) := ⟨List.mem_of_getElem? (i := 1206) (by decide +kernel), by decide, Or.inl rfl⟩
theorem sw_r30 : sw_P ("ForgetWar", 499, "this number is none", 29) := ⟨List.mem_of_getElem? (i := 1228) (by decide +kernel), by decide, Or.inl rfl⟩
theorem sw_r31 : sw_P ("ForgetWar", 249, "no such order", 30) := ⟨List.mem_of_getElem? (i := 1254) (by decide +kernel), by decide, Or.inl rfl⟩
theorem sw_r32 : sw_P ("ForgetWar", 261, "an order has no such thing", 31) := ⟨List.mem_of_getElem? (i := 1255) (by decide +kernel), by decide, Or.inl rfl⟩
theorem sw_r33 : sw_P ("ForgetWar", 269, "there is no such rule", 32) := ⟨List.mem_of_getElem? (i := 1300) (by decide +kernel), by decide, Or.inl rfl⟩
theorem sw_r34 : sw_P ("ForgetWar", 493, "both are one", 33) := ⟨List.mem_of_getElem? (i := 1395) (by decide +kernel), by decide, Or.inl rfl⟩
theorem sw_r35 : sw_P ("ForgetWar", 294, "this shot cannot be", 34) := ⟨List.mem_of_getElem? (i := 1407) (by decide +kernel), by decide, Or.inl rfl⟩
theorem sw_r36 : sw_P ("ForgetWar", 310, "this cannot be taught", 35) := ⟨List.mem_of_getElem? (i := 1424) (by decide +kernel), by decide, Or.inl rfl⟩
theorem sw_r37 : sw_P ("ForgetWar", 497, "no such thing in the field", 36) := ⟨List.mem_of_getElem? (i := 1437) (by decide +kernel), by decide, Or.inl rfl⟩
theorem sw_r38 : sw_P ("ForgetWar", 324, "this cannot be gathered", 37) := ⟨List.mem_of_getElem? (i := 1438) (by decide +kernel), by decide, Or.inl rfl⟩
theorem sw_r39 : sw_P ("ForgetWar", 329, "there is no book", 38) := ⟨List.mem_of_getElem? (i := 1447) (by decide +kernel), by decide, Or.inl rfl⟩
theorem sw_r40 : sw_P ("ForgetWar", 337, "what lies there has no such thing", 39) := ⟨List.mem_of_getElem? (i := 1456) (by decide +kernel), by decide, Or.inl rfl⟩
theorem sw_r41 : sw_P ("ForgetWar", 495, "no such side", 40) := ⟨List.mem_of_getElem? (i := 1467) (by decide +kernel), by decide, Or.inl rfl⟩
theorem sw_r42 : sw_P ("ForgetWar", 386, "they are of unlike sides", 41) := ⟨List.mem_of_getElem? (i := 1606) (by decide +kernel), by decide, Or.inl rfl⟩
theorem sw_r43 : sw_P ("ForgetWar", 407, "no such place", 42) := ⟨List.mem_of_getElem? (i := 1658) (by decide +kernel), by decide, Or.inl rfl⟩
theorem sw_r44 : sw_P ("ForgetWar", 409, "these are no memories, or this is none of them", 43) := ⟨List.mem_of_getElem? (i := 1659) (by decide +kernel), by decide, Or.inl rfl⟩
theorem sw_r45 : sw_P ("ForgetWar", 420, "a trial has no such thing", 44) := ⟨List.mem_of_getElem? (i := 1700) (by decide +kernel), by decide, Or.inl rfl⟩
theorem sw_r46 : sw_P ("ForgetWar", 444, "a row of the log has no such thing", 45) := ⟨List.mem_of_getElem? (i := 1724) (by decide +kernel), by decide, Or.inl rfl⟩
theorem sw_r47 : sw_P ("ForgetWarModel", 162, "memory", 0) := ⟨List.mem_of_getElem? (i := 1877) (by decide +kernel), by decide, Or.inr (List.mem_of_getElem? (i := 937) (by decide +kernel))⟩
theorem sw_r48 : sw_P ("ForgetWarModel", 140, "needs", 1) := ⟨List.mem_of_getElem? (i := 1896) (by decide +kernel), by decide, Or.inr (List.mem_of_getElem? (i := 947) (by decide +kernel))⟩
theorem sw_r49 : sw_P ("ForgetWarModel", 167, "soldier", 2) := ⟨List.mem_of_getElem? (i := 1913) (by decide +kernel), by decide, Or.inr (List.mem_of_getElem? (i := 959) (by decide +kernel))⟩
theorem sw_r50 : sw_P ("ForgetWarModel", 172, "knows", 3) := ⟨List.mem_of_getElem? (i := 1926) (by decide +kernel), by decide, Or.inr (List.mem_of_getElem? (i := 970) (by decide +kernel))⟩
theorem sw_r51 : sw_P ("ForgetWarModel", 177, "book", 4) := ⟨List.mem_of_getElem? (i := 1954) (by decide +kernel), by decide, Or.inr (List.mem_of_getElem? (i := 979) (by decide +kernel))⟩
theorem sw_r52 : sw_P ("ForgetWarModel", 182, "order", 5) := ⟨List.mem_of_getElem? (i := 1959) (by decide +kernel), by decide, Or.inr (List.mem_of_getElem? (i := 989) (by decide +kernel))⟩
theorem sw_r53 : sw_P ("ForgetWarModel", 187, "plan", 6) := ⟨List.mem_of_getElem? (i := 1968) (by decide +kernel), by decide, Or.inr (List.mem_of_getElem? (i := 998) (by decide +kernel))⟩
theorem sw_r54 : sw_P ("ForgetWarModel", 192, "clash", 7) := ⟨List.mem_of_getElem? (i := 1973) (by decide +kernel), by decide, Or.inr (List.mem_of_getElem? (i := 1008) (by decide +kernel))⟩
theorem sw_r55 : sw_P ("ForgetWarModel", 244, "aim", 10) := ⟨List.mem_of_getElem? (i := 1982) (by decide +kernel), by decide, Or.inr (List.mem_of_getElem? (i := 1016) (by decide +kernel))⟩
theorem sw_r56 : sw_P ("ForgetWarModel", 246, "good", 11) := ⟨List.mem_of_getElem? (i := 1983) (by decide +kernel), by decide, Or.inr (List.mem_of_getElem? (i := 1025) (by decide +kernel))⟩
theorem sw_r57 : sw_P ("ForgetWarModel", 248, "read", 12) := ⟨List.mem_of_getElem? (i := 1984) (by decide +kernel), by decide, Or.inr (List.mem_of_getElem? (i := 1034) (by decide +kernel))⟩
theorem sw_r58 : sw_P ("ForgetWarModel", 250, "if", 13) := ⟨List.mem_of_getElem? (i := 1985) (by decide +kernel), by decide, Or.inr (List.mem_of_getElem? (i := 1041) (by decide +kernel))⟩
theorem sw_r59 : sw_P ("ForgetWarModel", 227, "not", 14) := ⟨List.mem_of_getElem? (i := 2002) (by decide +kernel), by decide, Or.inr (List.mem_of_getElem? (i := 1049) (by decide +kernel))⟩
theorem sw_r60 : sw_P ("ForgetWarModel", 232, "alone", 15) := ⟨List.mem_of_getElem? (i := 2007) (by decide +kernel), by decide, Or.inr (List.mem_of_getElem? (i := 1059) (by decide +kernel))⟩
theorem sw_r61 : sw_P ("ForgetWarModel", 203, "side", 16) := ⟨List.mem_of_getElem? (i := 2016) (by decide +kernel), by decide, Or.inr (List.mem_of_getElem? (i := 1068) (by decide +kernel))⟩
theorem sw_r62 : sw_P ("ForgetWarModel", 205, "place", 17) := ⟨List.mem_of_getElem? (i := 2017) (by decide +kernel), by decide, Or.inr (List.mem_of_getElem? (i := 1078) (by decide +kernel))⟩
theorem sw_r63 : sw_P ("ForgetWarModel", 207, "hour", 18) := ⟨List.mem_of_getElem? (i := 2018) (by decide +kernel), by decide, Or.inr (List.mem_of_getElem? (i := 1087) (by decide +kernel))⟩
theorem sw_r64 : sw_P ("ForgetWarModel", 209, "known", 19) := ⟨List.mem_of_getElem? (i := 2019) (by decide +kernel), by decide, Or.inr (List.mem_of_getElem? (i := 1097) (by decide +kernel))⟩
theorem sw_r65 : sw_P ("ForgetWarModel", 211, "usable", 20) := ⟨List.mem_of_getElem? (i := 2020) (by decide +kernel), by decide, Or.inr (List.mem_of_getElem? (i := 1108) (by decide +kernel))⟩
theorem sw_r66 : sw_P ("ForgetWarModel", 212, "foes", 21) := ⟨List.mem_of_getElem? (i := 2021) (by decide +kernel), by decide, Or.inr (List.mem_of_getElem? (i := 1117) (by decide +kernel))⟩
theorem sw_r67 : sw_P ("ForgetWarModel", 237, "and", 22) := ⟨List.mem_of_getElem? (i := 2022) (by decide +kernel), by decide, Or.inr (List.mem_of_getElem? (i := 1125) (by decide +kernel))⟩
theorem sw_r68 : sw_P ("ForgetWarModel", 242, "or", 23) := ⟨List.mem_of_getElem? (i := 2023) (by decide +kernel), by decide, Or.inr (List.mem_of_getElem? (i := 1132) (by decide +kernel))⟩
theorem sw_sr : ∀ q ∈ am_SR, sw_P q := (List.forall_mem_cons.mpr ⟨sw_r0, (List.forall_mem_cons.mpr ⟨sw_r1, (List.forall_mem_cons.mpr ⟨sw_r2, (List.forall_mem_cons.mpr ⟨sw_r3, (List.forall_mem_cons.mpr ⟨sw_r4, (List.forall_mem_cons.mpr ⟨sw_r5, (List.forall_mem_cons.mpr ⟨sw_r6, (List.forall_mem_cons.mpr ⟨sw_r7, (List.forall_mem_cons.mpr ⟨sw_r8, (List.forall_mem_cons.mpr ⟨sw_r9, (List.forall_mem_cons.mpr ⟨sw_r10, (List.forall_mem_cons.mpr ⟨sw_r11, (List.forall_mem_cons.mpr ⟨sw_r12, (List.forall_mem_cons.mpr ⟨sw_r13, (List.forall_mem_cons.mpr ⟨sw_r14, (List.forall_mem_cons.mpr ⟨sw_r15, (List.forall_mem_cons.mpr ⟨sw_r16, (List.forall_mem_cons.mpr ⟨sw_r17, (List.forall_mem_cons.mpr ⟨sw_r18, (List.forall_mem_cons.mpr ⟨sw_r19, (List.forall_mem_cons.mpr ⟨sw_r20, (List.forall_mem_cons.mpr ⟨sw_r21, (List.forall_mem_cons.mpr ⟨sw_r22, (List.forall_mem_cons.mpr ⟨sw_r23, (List.forall_mem_cons.mpr ⟨sw_r24, (List.forall_mem_cons.mpr ⟨sw_r25, (List.forall_mem_cons.mpr ⟨sw_r26, (List.forall_mem_cons.mpr ⟨sw_r27, (List.forall_mem_cons.mpr ⟨sw_r28, (List.forall_mem_cons.mpr ⟨sw_r29, (List.forall_mem_cons.mpr ⟨sw_r30, (List.forall_mem_cons.mpr ⟨sw_r31, (List.forall_mem_cons.mpr ⟨sw_r32, (List.forall_mem_cons.mpr ⟨sw_r33, (List.forall_mem_cons.mpr ⟨sw_r34, (List.forall_mem_cons.mpr ⟨sw_r35, (List.forall_mem_cons.mpr ⟨sw_r36, (List.forall_mem_cons.mpr ⟨sw_r37, (List.forall_mem_cons.mpr ⟨sw_r38, (List.forall_mem_cons.mpr ⟨sw_r39, (List.forall_mem_cons.mpr ⟨sw_r40, (List.forall_mem_cons.mpr ⟨sw_r41, (List.forall_mem_cons.mpr ⟨sw_r42, (List.forall_mem_cons.mpr ⟨sw_r43, (List.forall_mem_cons.mpr ⟨sw_r44, (List.forall_mem_cons.mpr ⟨sw_r45, (List.forall_mem_cons.mpr ⟨sw_r46, (List.forall_mem_cons.mpr ⟨sw_r47, (List.forall_mem_cons.mpr ⟨sw_r48, (List.forall_mem_cons.mpr ⟨sw_r49, (List.forall_mem_cons.mpr ⟨sw_r50, (List.forall_mem_cons.mpr ⟨sw_r51, (List.forall_mem_cons.mpr ⟨sw_r52, (List.forall_mem_cons.mpr ⟨sw_r53, (List.forall_mem_cons.mpr ⟨sw_r54, (List.forall_mem_cons.mpr ⟨sw_r55, (List.forall_mem_cons.mpr ⟨sw_r56, (List.forall_mem_cons.mpr ⟨sw_r57, (List.forall_mem_cons.mpr ⟨sw_r58, (List.forall_mem_cons.mpr ⟨sw_r59, (List.forall_mem_cons.mpr ⟨sw_r60, (List.forall_mem_cons.mpr ⟨sw_r61, (List.forall_mem_cons.mpr ⟨sw_r62, (List.forall_mem_cons.mpr ⟨sw_r63, (List.forall_mem_cons.mpr ⟨sw_r64, (List.forall_mem_cons.mpr ⟨sw_r65, (List.forall_mem_cons.mpr ⟨sw_r66, (List.forall_mem_cons.mpr ⟨sw_r67, (List.forall_mem_cons.mpr ⟨sw_r68, (fun q hq => absurd hq List.not_mem_nil)⟩)⟩)⟩)⟩)⟩)⟩)⟩)⟩)⟩)⟩)⟩)⟩)⟩)⟩)⟩)⟩)⟩)⟩)⟩)⟩)⟩)⟩)⟩)⟩)⟩)⟩)⟩)⟩)⟩)⟩)⟩)⟩)⟩)⟩)⟩)⟩)⟩)⟩)⟩)⟩)⟩)⟩)⟩)⟩)⟩)⟩)⟩)⟩)⟩)⟩)⟩)⟩)⟩)⟩)⟩)⟩)⟩)⟩)⟩)⟩)⟩)⟩)⟩)⟩)⟩)⟩)⟩)⟩)⟩)
theorem sw_n0 : Cond.not (Cond.castable "java/lang/UnsupportedOperationException" "java/lang/IllegalArgumentException") ∈ sw_W := List.mem_of_getElem? (i := 24) (by decide +kernel)
theorem sw_n1 : Cond.not (Cond.castable "java/lang/IndexOutOfBoundsException" "java/lang/IllegalArgumentException") ∈ sw_W := List.mem_of_getElem? (i := 25) (by decide +kernel)
theorem sw_n2 : Cond.not (Cond.castable "java/util/NoSuchElementException" "java/lang/IllegalArgumentException") ∈ sw_W := List.mem_of_getElem? (i := 26) (by decide +kernel)
theorem sw_n3 : Cond.not (Cond.castable "java/lang/IllegalStateException" "java/lang/IllegalArgumentException") ∈ sw_W := List.mem_of_getElem? (i := 27) (by decide +kernel)
theorem sw_n4 : Cond.not (Cond.castable "java/lang/IllegalArgumentException" "java/lang/UnsupportedOperationException") ∈ sw_W := List.mem_of_getElem? (i := 41) (by decide +kernel)
theorem sw_n5 : Cond.not (Cond.castable "java/lang/IndexOutOfBoundsException" "java/lang/UnsupportedOperationException") ∈ sw_W := List.mem_of_getElem? (i := 42) (by decide +kernel)
theorem sw_n6 : Cond.not (Cond.castable "java/util/NoSuchElementException" "java/lang/UnsupportedOperationException") ∈ sw_W := List.mem_of_getElem? (i := 43) (by decide +kernel)
theorem sw_n7 : Cond.not (Cond.castable "java/lang/IllegalStateException" "java/lang/UnsupportedOperationException") ∈ sw_W := List.mem_of_getElem? (i := 44) (by decide +kernel)
theorem sw_n8 : Cond.not (Cond.castable "java/lang/IllegalArgumentException" "java/lang/IndexOutOfBoundsException") ∈ sw_W := List.mem_of_getElem? (i := 58) (by decide +kernel)
theorem sw_n9 : Cond.not (Cond.castable "java/lang/UnsupportedOperationException" "java/lang/IndexOutOfBoundsException") ∈ sw_W := List.mem_of_getElem? (i := 59) (by decide +kernel)
theorem sw_n10 : Cond.not (Cond.castable "java/util/NoSuchElementException" "java/lang/IndexOutOfBoundsException") ∈ sw_W := List.mem_of_getElem? (i := 60) (by decide +kernel)
theorem sw_n11 : Cond.not (Cond.castable "java/lang/IllegalStateException" "java/lang/IndexOutOfBoundsException") ∈ sw_W := List.mem_of_getElem? (i := 61) (by decide +kernel)
theorem sw_n12 : Cond.not (Cond.castable "java/lang/IllegalArgumentException" "java/util/NoSuchElementException") ∈ sw_W := List.mem_of_getElem? (i := 75) (by decide +kernel)
theorem sw_n13 : Cond.not (Cond.castable "java/lang/UnsupportedOperationException" "java/util/NoSuchElementException") ∈ sw_W := List.mem_of_getElem? (i := 76) (by decide +kernel)
theorem sw_n14 : Cond.not (Cond.castable "java/lang/IndexOutOfBoundsException" "java/util/NoSuchElementException") ∈ sw_W := List.mem_of_getElem? (i := 77) (by decide +kernel)
theorem sw_n15 : Cond.not (Cond.castable "java/lang/IllegalStateException" "java/util/NoSuchElementException") ∈ sw_W := List.mem_of_getElem? (i := 78) (by decide +kernel)
theorem sw_n16 : Cond.not (Cond.castable "java/lang/IllegalArgumentException" "java/lang/IllegalStateException") ∈ sw_W := List.mem_of_getElem? (i := 92) (by decide +kernel)
theorem sw_n17 : Cond.not (Cond.castable "java/lang/UnsupportedOperationException" "java/lang/IllegalStateException") ∈ sw_W := List.mem_of_getElem? (i := 93) (by decide +kernel)
theorem sw_n18 : Cond.not (Cond.castable "java/lang/IndexOutOfBoundsException" "java/lang/IllegalStateException") ∈ sw_W := List.mem_of_getElem? (i := 94) (by decide +kernel)
theorem sw_n19 : Cond.not (Cond.castable "java/util/NoSuchElementException" "java/lang/IllegalStateException") ∈ sw_W := List.mem_of_getElem? (i := 95) (by decide +kernel)
theorem sw_nc : ∀ q ∈ am_NC, Cond.not (Cond.castable q.1 q.2) ∈ sw_W := (List.forall_mem_cons.mpr ⟨sw_n0, (List.forall_mem_cons.mpr ⟨sw_n1, (List.forall_mem_cons.mpr ⟨sw_n2, (List.forall_mem_cons.mpr ⟨sw_n3, (List.forall_mem_cons.mpr ⟨sw_n4, (List.forall_mem_cons.mpr ⟨sw_n5, (List.forall_mem_cons.mpr ⟨sw_n6, (List.forall_mem_cons.mpr ⟨sw_n7, (List.forall_mem_cons.mpr ⟨sw_n8, (List.forall_mem_cons.mpr ⟨sw_n9, (List.forall_mem_cons.mpr ⟨sw_n10, (List.forall_mem_cons.mpr ⟨sw_n11, (List.forall_mem_cons.mpr ⟨sw_n12, (List.forall_mem_cons.mpr ⟨sw_n13, (List.forall_mem_cons.mpr ⟨sw_n14, (List.forall_mem_cons.mpr ⟨sw_n15, (List.forall_mem_cons.mpr ⟨sw_n16, (List.forall_mem_cons.mpr ⟨sw_n17, (List.forall_mem_cons.mpr ⟨sw_n18, (List.forall_mem_cons.mpr ⟨sw_n19, (fun q hq => absurd hq List.not_mem_nil)⟩)⟩)⟩)⟩)⟩)⟩)⟩)⟩)⟩)⟩)⟩)⟩)⟩)⟩)⟩)⟩)⟩)⟩)⟩)⟩)
set_option maxRecDepth 100000 in
theorem sw_E {b : Nat} {s : State} {A : Nat → Prop} (hts : ∀ w ∈ lw_tbl, w.before #[Value.ref b] s = true) (hg : ∀ w ∈ sw_W, w.before #[Value.ref b] s = true) (hA : ∀ a : Nat, a < s.heap.size → ¬ A a) : ∃ adK : Nat → Nat, am_E adK A s s.heap := by
  have h0 : ∀ k : Nat, ∃ a : Nat, k < am_TX.length → (∃ v : Nat, vk_S 1 [(am_bs (am_TX.getD k "")).length] [am_bs (am_TX.getD k "")] (fun _ => a) (fun _ => v) A s s.heap) ∧ (Term.string (sw_at k).2.1 (sw_at k).2.2).eval #[Value.ref b] s none [] s = some (.ref a) := by
    intro k
    by_cases hk : k < am_TX.length
    · obtain ⟨a, v, h1, h2⟩ := sw_text hg hA k hk
      exact ⟨a, fun _ => ⟨⟨v, h1⟩, h2⟩⟩
    · exact ⟨0, fun h => absurd h hk⟩
  obtain ⟨adK, hK⟩ := Classical.axiomOfChoice h0
  refine ⟨adK, fun w hw => ?_, fun q hq => ?_, fun k hk => (hK k hk).1, ⟨?_, ?_⟩, ⟨?_, ?_⟩, fun q hq => va_Nc.of (hg _ (sw_nc q hq))⟩
  · have hs := (List.mem_filter.mp hw).2
    have hb := hts w (List.mem_filter.mp hw).1
    cases w <;> first | exact va_tabs rfl rfl hb | exact (Bool.false_ne_true hs).elim
  · obtain ⟨h1, h2, h3⟩ := sw_sr q hq
    have he := (hK q.2.2.2 h2).2
    refine vk_R.of (A := #[Value.ref b]) (hts _ h1) ?_
    rcases h3 with h3 | h3
    · rw [h3] at he
      exact he
    · exact va_eqR (hg _ h3) he
  · exact vx_Zqof (args := #[Value.ref b]) (C := "java/lang/Throwable") (n := "UNASSIGNED_STACK") (d := "[Ljava/lang/StackTraceElement;") (hts _ (List.mem_of_getElem? (i := 985) (by decide +kernel))) (hts _ (List.mem_of_getElem? (i := 159) (by decide +kernel))) (hg _ (List.mem_of_getElem? (i := 9) (by decide +kernel))) hA
  · exact vx_Zqof (args := #[Value.ref b]) (C := "java/lang/Throwable") (n := "SUPPRESSED_SENTINEL") (d := "Ljava/util/List;") (hts _ (List.mem_of_getElem? (i := 987) (by decide +kernel))) (hts _ (List.mem_of_getElem? (i := 159) (by decide +kernel))) (hg _ (List.mem_of_getElem? (i := 10) (by decide +kernel))) hA
  · exact va_Zof (args := #[Value.ref b]) (C := "java/lang/String") (n := "COMPACT_STRINGS") (d := "Z") (hts _ (List.mem_of_getElem? (i := 821) (by decide +kernel))) (hts _ (List.mem_of_getElem? (i := 155) (by decide +kernel))) (va_eqt (hg _ (List.mem_of_getElem? (i := 4) (by decide +kernel)))) hA
  · exact va_Zqof (args := #[Value.ref b]) (C := "jdk/internal/util/Preconditions") (n := "SIOOBE_FORMATTER") (d := "Ljava/util/function/BiFunction;") (hts _ (List.mem_of_getElem? (i := 837) (by decide +kernel))) (hts _ (List.mem_of_getElem? (i := 157) (by decide +kernel))) (hg _ (List.mem_of_getElem? (i := 5) (by decide +kernel))) hA
theorem sw_c0 : Cond.instantiable (am_cl 0).1 (am_cl 0).2.2 ∈ am_GW := am_mem 554 (by decide +kernel) rfl
theorem sw_c1 : Cond.instantiable (am_cl 1).1 (am_cl 1).2.2 ∈ am_GW := am_mem 316 (by decide +kernel) rfl
theorem sw_c2 : Cond.instantiable (am_cl 2).1 (am_cl 2).2.2 ∈ am_GW := am_mem 489 (by decide +kernel) rfl
theorem sw_c3 : Cond.instantiable (am_cl 3).1 (am_cl 3).2.2 ∈ am_GW := am_mem 213 (by decide +kernel) rfl
theorem sw_c4 : Cond.instantiable (am_cl 4).1 (am_cl 4).2.2 ∈ am_GW := am_mem 502 (by decide +kernel) rfl
theorem sw_c5 : Cond.instantiable (am_cl 5).1 (am_cl 5).2.2 ∈ am_GW := am_mem 358 (by decide +kernel) rfl
theorem sw_c6 : Cond.instantiable (am_cl 6).1 (am_cl 6).2.2 ∈ am_GW := am_mem 519 (by decide +kernel) rfl
theorem sw_c7 : Cond.instantiable (am_cl 7).1 (am_cl 7).2.2 ∈ am_GW := am_mem 538 (by decide +kernel) rfl
theorem sw_c8 : Cond.instantiable (am_cl 8).1 (am_cl 8).2.2 ∈ am_GW := am_mem 177 (by decide +kernel) rfl
theorem sw_c9 : Cond.instantiable (am_cl 9).1 (am_cl 9).2.2 ∈ am_GW := am_mem 470 (by decide +kernel) rfl
theorem sw_c10 : Cond.instantiable (am_cl 10).1 (am_cl 10).2.2 ∈ am_GW := am_mem 211 (by decide +kernel) rfl
theorem sw_c11 : Cond.instantiable (am_cl 11).1 (am_cl 11).2.2 ∈ am_GW := am_mem 169 (by decide +kernel) rfl
theorem sw_c12 : Cond.instantiable (am_cl 12).1 (am_cl 12).2.2 ∈ am_GW := am_mem 1747 (by decide +kernel) rfl
theorem sw_ci (k : Nat) (hk : k < 13) : Cond.instantiable (am_cl k).1 (am_cl k).2.2 ∈ am_GW := by
  by_cases e0 : k = 0
  · rw [e0]; exact sw_c0
  by_cases e1 : k = 1
  · rw [e1]; exact sw_c1
  by_cases e2 : k = 2
  · rw [e2]; exact sw_c2
  by_cases e3 : k = 3
  · rw [e3]; exact sw_c3
  by_cases e4 : k = 4
  · rw [e4]; exact sw_c4
  by_cases e5 : k = 5
  · rw [e5]; exact sw_c5
  by_cases e6 : k = 6
  · rw [e6]; exact sw_c6
  by_cases e7 : k = 7
  · rw [e7]; exact sw_c7
  by_cases e8 : k = 8
  · rw [e8]; exact sw_c8
  by_cases e9 : k = 9
  · rw [e9]; exact sw_c9
  by_cases e10 : k = 10
  · rw [e10]; exact sw_c10
  by_cases e11 : k = 11
  · rw [e11]; exact sw_c11
  have e : k = 12 := by omega
  rw [e]; exact sw_c12
theorem sw_ao {args : Array Value} {s : State} (hts : ∀ w ∈ lw_tbl, w.before args s = true) : va_AO "ForgetWar$Scene" s := va_AO.of (hts _ (List.mem_of_getElem? (i := 508) (by decide +kernel)))
theorem sw_K {args : Array Value} {s : State} (hts : ∀ w ∈ lw_tbl, w.before args s = true) : ∃ (dC : Nat → ClassId) (dI : Nat → Nat → Nat) (dA : Nat → ClassId), va_K (dC, dI) vwCl (am_ty dA) s := by
  have hG : ∀ w ∈ am_GW, w.before args s = true := fun w hw => hts w (List.mem_filter.mp hw).1
  obtain ⟨cI, kI, mI, i1, i2, i3⟩ := Cond.arrayClass_spec (hG _ nx_ar1)
  obtain ⟨cB, kB, mB, b1, b2, b3⟩ := Cond.arrayClass_spec (hG _ nx_ar2)
  obtain ⟨cZ, kZ, mZ, z1, z2, z3⟩ := Cond.arrayClass_spec (hG _ nx_ar3)
  obtain ⟨cL, kL, mL, l1, l2, l3⟩ := Cond.arrayClass_spec (hG _ nx_ar4)
  obtain ⟨mO, cO, kO, o1, o2, o3, o4, o5⟩ := Cond.arrayOver_spec (sw_ao hts)
  have h0 : ∀ k : Nat, ∃ q : ClassId × (Nat → Nat), k < 13 → u_Kn s (am_cl k).1 (am_cl k).2.1 (am_cl k).2.2 q.1 q.2 := by
    intro k
    by_cases hk : k < 13
    · obtain ⟨c, i, h⟩ := u_known (ws := am_GW) (C := (am_cl k).1) (T := (am_cl k).2.1) (N := (am_cl k).2.2) hG (am_tball hk).2.1 (hG _ (sw_ci k hk))
      exact ⟨(c, i), fun _ => h⟩
    · exact ⟨(cI, fun _ => 0), fun h => absurd h hk⟩
  obtain ⟨F, hF⟩ := Classical.axiomOfChoice h0
  refine ⟨fun k => (F k).1, fun k => (F k).2, fun j => if j = 0 then cI else if j = 1 then cI else if j = 2 then cB else if j = 3 then cZ else if j = 4 then cL else cO, fun c q hq => ?_, fun k q hq => ?_⟩
  · have hc : c < 13 := (List.getElem?_eq_some_iff.mp hq).1
    have e : am_cl c = q := by
      rw [am_cl, List.getD_eq_getElem?_getD, hq]
      rfl
    have h := hF c hc
    rw [e] at h
    exact h
  · have hq := List.mem_of_getElem? hq
    simp only [am_ty, List.mem_cons, List.not_mem_nil, or_false] at hq
    rcases hq with rfl | rfl | rfl | rfl | rfl | rfl
    · exact ⟨fun n z => ⟨(fun k h => by cases h), kI, i2, mI, i3⟩, i1⟩
    · exact ⟨fun n z => ⟨(fun k h => by cases h), kI, i2, mI, i3⟩, i1⟩
    · exact ⟨fun n z => ⟨(fun k h => by cases h), kB, b2, mB, b3⟩, b1⟩
    · exact ⟨fun n z => ⟨(fun k h => by cases h), kZ, z2, mZ, z3⟩, z1⟩
    · exact ⟨fun n z => ⟨(fun k h => by cases h), kL, l2, mL, l3⟩, l1⟩
    · exact ⟨fun n z => ⟨(fun k h => by cases h), kO, o3, mO, o4⟩, kO, mO, o3, o4, o1, o5⟩
end CST
