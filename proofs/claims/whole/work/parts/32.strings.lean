/-! TEXTS: length() and charAt(k) of the string constants, by contract -/
section STR
def am_len (k : Nat) : Nat := (am_bs (am_TX.getD k "")).length
def am_chr (k j : Nat) : Int32 := (am_bs (am_TX.getD k "")).getD j 0
theorem am_txt_ok : ∀ k, k < am_TX.length → (am_bs (am_TX.getD k "")).length < 100 ∧ (am_bs (am_TX.getD k "")).all (fun b => decide (0 ≤ b) && decide (b < 128)) = true := by decide +kernel
theorem am_len_lt {k : Nat} (hk : k < am_TX.length) : am_len k < 100 := (am_txt_ok k hk).1
theorem am_chr_b {k j : Nat} (hk : k < am_TX.length) (hj : j < am_len k) : 0 ≤ am_chr k j ∧ am_chr k j < 128 := by
  have h := List.all_eq_true.mp (am_txt_ok k hk).2 (am_chr k j) (by
    have hj2 : j < (am_bs (am_TX.getD k "")).length := hj
    show (am_bs (am_TX.getD k "")).getD j 0 ∈ am_bs (am_TX.getD k "")
    generalize am_bs (am_TX.getD k "") = l at hj2 ⊢
    rw [List.getD_eq_getElem?_getD, List.getElem?_eq_getElem hj2]
    exact List.getElem_mem hj2)
  simpa using h
theorem am_lowb : ∀ n : Nat, n < 128 → (((nI n &&& nI 255).toUInt32 % 65536).toInt32 = nI n ∧ narrow .char (.int (nI n)) = .int (nI n)) := by decide +kernel
theorem am_lowc {b : Int32} (h0 : 0 ≤ b) (h1 : b < 128) : ((b &&& nI 255).toUInt32 % 65536).toInt32 = b ∧ narrow .char (.int b) = .int b := by
  have hz : (0 : Int32).toInt = 0 := by decide
  have h8 : (128 : Int32).toInt = 128 := by decide
  rw [Int32.le_iff_toInt_le, hz] at h0
  rw [Int32.lt_iff_toInt_lt, h8] at h1
  have e : b = nI b.toInt.toNat := by
    apply Int32.toInt_inj.mp
    rw [nI_toInt (by omega)]
    omega
  rw [e]
  exact am_lowb _ (by omega)
variable {M : am_M} {D MC MS : Nat} {X : am_X} {V : am_V} {cs : Nat × Nat} {pc : Nat} {ls ls' : List (Nat × Value)} {st st0 : List Value} {r r2 : am_R} {h h2 : am_H}
theorem am_getsC {ix : Nat} (C : am_C M D MC MS X) (hd : decode M.2.1 pc = .ok (.getstatic ix, 3)) (hl : Cond.fieldLink M.1.cls ix "java/lang/String" "COMPACT_STRINGS" "Z" ∈ am_GW) (k : am_G X V cs (pc + 3) ls (.int 1 :: st) r h) : am_G X V cs pc ls st r h := by
  obtain ⟨⟨p, l, e, R⟩, ⟨s, m, args, below, meth, c⟩, ⟨A, Z⟩, ⟨dC, dI, dA⟩, adK⟩ := X
  obtain ⟨⟨hx, hb, hml, hrt, hlk, hnm⟩, ⟨hown, hts, htr, hK⟩, ⟨hA, hE⟩, hDf, hDl, hMC, hMS⟩ := C
  intro H locs lsA hw hloc
  exact va_gets hx hb hE.2.2.2.2.1.1 hw.2.2.1 hown (hts _ (List.mem_cons_of_mem _ hl)) (fun _ h9 => h9) hd (k H locs lsA hw hloc)
/-- the text k: what the machine has of it -/
theorem am_txt {adK : Nat → Nat} {A : Nat → Prop} {s : State} {k : Nat} (hk : k < am_TX.length) (hE : am_E adK A s s.heap) : ∃ adV : Nat, va_O "java/lang/String" (adK k) A s s.heap ∧ va_OF "java/lang/String" "coder" "B" (.int 0) (adK k) A s s.heap ∧ va_OF "java/lang/String" "value" "[B" (.ref adV) (adK k) A s s.heap ∧ va_T .byte adV (am_len k) (fun j => .int (am_chr k j)) A s s.heap := by
  obtain ⟨adV, hV⟩ := hE.2.2.1 k hk
  exact ⟨adV, hV.1 0 (by decide)⟩
theorem am_sgetc {ix k : Nat} (hk : k < am_TX.length) (C : am_C M D MC MS X) (hd : decode M.2.1 pc = .ok (.getfield ix, 3)) (hl : Cond.fieldLink M.1.cls ix "java/lang/String" "coder" "B" ∈ am_GW) (kk : am_G X V cs (pc + 3) ls (.int 0 :: st) r h) : am_G X V cs pc ls (.ref (am_SB + k) :: st) r h := by
  obtain ⟨⟨p, l, e, R⟩, ⟨s, m, args, below, meth, c⟩, ⟨A, Z⟩, ⟨dC, dI, dA⟩, adK⟩ := X
  obtain ⟨⟨hx, hb, hml, hrt, hlk, hnm⟩, ⟨hown, hts, htr, hK⟩, ⟨hA, hE⟩, hDf, hDl, hMC, hMS⟩ := C
  intro H locs lsA hw hloc
  obtain ⟨adV, h1, h2, h3, h4⟩ := am_txt hk hE
  show W p l e R s m args below meth c H locs cs.1 cs.2 Z (F0 m pc lsA (.ref (V.1 (am_SB + k)) :: st.map (am_cv V.1)))
  rw [hw.2.2.2 k hk]
  exact vk_getf hx hb h2 hw.2.2.1 hown (hts _ (List.mem_cons_of_mem _ hl)) (fun _ h9 => h9) hd (kk H locs lsA hw hloc)
/-- getfield value; arraylength -/
theorem am_svlen {ix k : Nat} (hk : k < am_TX.length) (C : am_C M D MC MS X) (hd : decode M.2.1 pc = .ok (.getfield ix, 3)) (hd2 : decode M.2.1 (pc + 3) = .ok (.arraylength, 1)) (hl : Cond.fieldLink M.1.cls ix "java/lang/String" "value" "[B" ∈ am_GW) (kk : am_G X V cs (pc + 3 + 1) ls (.int (nI (am_len k)) :: st) r h) : am_G X V cs pc ls (.ref (am_SB + k) :: st) r h := by
  obtain ⟨⟨p, l, e, R⟩, ⟨s, m, args, below, meth, c⟩, ⟨A, Z⟩, ⟨dC, dI, dA⟩, adK⟩ := X
  obtain ⟨⟨hx, hb, hml, hrt, hlk, hnm⟩, ⟨hown, hts, htr, hK⟩, ⟨hA, hE⟩, hDf, hDl, hMC, hMS⟩ := C
  intro H locs lsA hw hloc
  obtain ⟨adV, h1, h2, h3, h4⟩ := am_txt hk hE
  show W p l e R s m args below meth c H locs cs.1 cs.2 Z (F0 m pc lsA (.ref (V.1 (am_SB + k)) :: st.map (am_cv V.1)))
  rw [hw.2.2.2 k hk]
  refine vk_getf hx hb h3 hw.2.2.1 hown (hts _ (List.mem_cons_of_mem _ hl)) (fun _ h9 => h9) hd ?_
  exact va_tlen hx hb h4 hw.2.2.1 rfl hd2 (kk H locs lsA hw hloc)
/-- a call on a text -/
theorem am_callVs {Y : am_M} {n d ix k : Nat} {As : List Value} {Q : Option Value → am_R → am_H → Prop} (hk : k < am_TX.length) (C : am_C M D MC MS X) (hd : decode M.2.1 pc = .ok (.invokevirtual ix, 3)) (hl : Cond.methodLink M.1.cls ix Y.1 ∈ am_GW) (hY : am_IV Y n) (hst : st0 = As.reverse ++ .ref (am_SB + k) :: st) (hn : As.length = n)
    (hcl : Y.1.cls = "java/lang/String") (hD : d + 1 ≤ D) (h1 : cs.1 ≤ MC) (h2 : cs.2 ≤ MS) (h8 : (st.map fun v => v.category).sum ≤ 8)
    (hct : am_CM Y d 0 0 (.ref (am_SB + k) :: As) V r h Q) (kk : ∀ (v : Option Value) (r' : am_R) (h' : am_H), Q v r' h' → am_G X V cs (pc + 3) ls (v.toList ++ st) r' h') : am_G X V cs pc ls st0 r h := by
  obtain ⟨⟨p, l, e, R⟩, ⟨s, m, args, below, meth, c⟩, ⟨A, Z⟩, ⟨dC, dI, dA⟩, adK⟩ := X
  obtain ⟨⟨hx, hb9, hml, hrt, hlk, hnm⟩, ⟨hown, hts, htr, hK⟩, ⟨hA, hE⟩, hDf, hDl, hMC, hMS⟩ := C
  intro H locs lsA hw hloc
  obtain ⟨⟨sg1, sg2, sg3⟩, hcd, hin, hsel⟩ := hY
  subst hst
  have hG : GoodIn (am_wl M) (wsV M.1.cls ix Y.1.cls Y.1 (am_wl Y)) := am_gi (fun w hw => by
    rcases List.mem_append.mp hw with h | h
    · simp only [List.mem_cons, List.not_mem_nil, or_false] at h
      rcases h with rfl | rfl | rfl | rfl
      · exact hl
      · exact hin
      · exact hsel
      · exact hcd.2.1
    · exact am_wsy hcd w h)
  obtain ⟨adV, hV⟩ := hE.2.2.1 k hk
  have hrecv := vk_recv hV (i := 0) (by decide) hw.2.2.1
  rw [← hcl] at hrecv
  refine am_after hw hA (va_runV (As := As.map (am_cv V.1)) (rest := st.map (am_cv V.1)) (b := adK k) (C := Y.1.cls) ⟨hx, hb9, hml, hown, hts⟩ (hct l htr dC dI dA adK H.size)
    (cwV n hts hG rfl rfl rfl ⟨rfl, sg1, sg2, sg3⟩ ⟨by show d + 1 ≤ R.frames; omega, by show 8 + (Y.2.2.1 + 11) + 64 * d ≤ R.locals; have := hcd.2.2; omega⟩) ⟨am_blind, hrecv, ?_⟩ rfl (by rw [List.length_map]; exact hn) (hloc.1.trans hml) ?_ (lv_room (by rw [am_cats]; exact h8)) hd ⟨by omega, by omega⟩) ?_
  · intro U hU hW
    exact ⟨by rw [List.map_cons, show am_cv V.1 (.ref (am_SB + k)) = .ref (adK k) from congrArg Value.ref (hw.2.2.2 k hk)], (am_pre (as := .ref (am_SB + k) :: As) hw hA hK hE U hU hW).2⟩
  · show (As.reverse ++ .ref (am_SB + k) :: st).map (am_cv V.1) = _
    rw [List.map_append, List.map_cons, List.map_reverse, show am_cv V.1 (.ref (am_SB + k)) = .ref (adK k) from congrArg Value.ref (hw.2.2.2 k hk)]
  · intro v r' h' hq H1 locs1 hw1
    rw [am_stk]
    exact kk v r' h' hq H1 locs1 lsA hw1 hloc
theorem c_J0_coder {ad : Nat → Nat} {r : am_R} {h : am_H} {k : Nat} (hk : k < am_TX.length) : am_CM mJ0_coder_7d493 0 0 0 [.ref (am_SB + k)] (am_VV ad) r h (am_po (some (.int 0)) r h) := by
  refine am_CM.ofJ (by decide +kernel) (Nat.le_of_ble_eq_true rfl) (fun X C T => ?_)
  show am_G X (am_VV ad) (0, 0) 0 [(0, .ref (am_SB + k))] [] r h
  refine am_getsC (pc := 0) C dJ0_coder_7d493_0 (am_mem 820 (by decide +kernel) rfl) ?_
  refine am_if_eq (pc := 3) (tgt := 13) C dJ0_coder_7d493_3 (by decide) (fun q => absurd q (by decide)) (fun _ => ?_)
  refine am_aload_n (pc := 6) C dJ0_coder_7d493_6 rfl ?_
  refine am_sgetc (pc := 7) hk C dJ0_coder_7d493_7 (am_mem 2432 (by decide +kernel) rfl) ?_
  refine am_goto (pc := 10) (tgt := 14) C dJ0_coder_7d493_10 (by decide) ?_
  exact am_iret T dJ0_coder_7d493_14 rfl rfl (Nat.le_refl _) (Nat.le_refl _) ⟨rfl, rfl, rfl⟩
theorem c_J0_isLatin1 {ad : Nat → Nat} {r : am_R} {h : am_H} {k : Nat} (hk : k < am_TX.length) : am_CM mJ0_isLatin1_aae02 0 0 0 [.ref (am_SB + k)] (am_VV ad) r h (am_po (some (.int 1)) r h) := by
  refine am_CM.ofJ (by decide +kernel) (Nat.le_of_ble_eq_true rfl) (fun X C T => ?_)
  show am_G X (am_VV ad) (0, 0) 0 [(0, .ref (am_SB + k))] [] r h
  refine am_getsC (pc := 0) C dJ0_isLatin1_aae02_0 (am_mem 820 (by decide +kernel) rfl) ?_
  refine am_if_eq (pc := 3) (tgt := 17) C dJ0_isLatin1_aae02_3 (by decide) (fun q => absurd q (by decide)) (fun _ => ?_)
  refine am_aload_n (pc := 6) C dJ0_isLatin1_aae02_6 rfl ?_
  refine am_sgetc (pc := 7) hk C dJ0_isLatin1_aae02_7 (am_mem 2432 (by decide +kernel) rfl) ?_
  refine am_if_ne (pc := 10) (tgt := 17) C dJ0_isLatin1_aae02_10 (by decide) (fun q => absurd rfl q) (fun _ => ?_)
  refine am_iconstN (pc := 13) (k := 1) C dJ0_isLatin1_aae02_13 ?_
  refine am_goto (pc := 14) (tgt := 18) C dJ0_isLatin1_aae02_14 (by decide) ?_
  exact am_iret T dJ0_isLatin1_aae02_18 rfl rfl (Nat.le_refl _) (Nat.le_refl _) ⟨rfl, rfl, rfl⟩
theorem c_J0_length {ad : Nat → Nat} {r : am_R} {h : am_H} {k : Nat} (hk : k < am_TX.length) : am_CM mJ0_length_8abf5 1 0 0 [.ref (am_SB + k)] (am_VV ad) r h (am_po (some (.int (nI (am_len k)))) r h) := by
  refine am_CM.ofJ (by decide +kernel) (Nat.le_of_ble_eq_true rfl) (fun X C T => ?_)
  show am_G X (am_VV ad) (0, 0) 0 [(0, .ref (am_SB + k))] [] r h
  refine am_aload_n (pc := 0) C dJ0_length_8abf5_0 rfl ?_
  refine am_svlen (pc := 1) hk C dJ0_length_8abf5_1 dJ0_length_8abf5_4 (am_mem 2431 (by decide +kernel) rfl) ?_
  refine am_aload_n (pc := 5) C dJ0_length_8abf5_5 rfl ?_
  refine am_callVs (Y := mJ0_coder_7d493) (pc := 6) (st := [.int (nI (am_len k))]) (As := []) hk C dJ0_length_8abf5_6 (am_mem 816 (by decide +kernel) rfl) v_J0_coder_7d493 rfl rfl rfl (by decide) (Nat.zero_le _) (Nat.zero_le _) (Nat.le_of_ble_eq_true rfl) (c_J0_coder hk) (fun v r' h' hq => ?_)
  obtain ⟨rfl, rfl, rfl⟩ := hq
  refine am_ishr (pc := 9) C dJ0_length_8abf5_9 ?_
  have e : nI (am_len k) >>> ((0 : Int32) &&& 31) = nI (am_len k) := by
    have h9 : am_len k < 100 := am_len_lt hk
    have : ∀ n, n < 100 → nI n >>> ((0 : Int32) &&& 31) = nI n := by decide +kernel
    exact this _ h9
  exact am_iret T dJ0_length_8abf5_10 rfl rfl (Nat.le_refl _) (Nat.le_refl _) ⟨by rw [e], rfl, rfl⟩
/-- Preconditions.checkIndex(i, n, f), i within n -/
theorem c_J3_checkIndex {V : am_V} {r : am_R} {h : am_H} {i n f : Nat} (hi : i < n) (hn : n < 1000) (l : Launch) (hl : l.stackTraces = false) (dC : Nat → ClassId) (dI : Nat → Nat → Nat) (dA : Nat → ClassId) (adK : Nat → Nat) (sz : Nat) :
    Met l mJ3_checkIndex_8e157.1 (am_wl mJ3_checkIndex_8e157) (am_rm 0 0 0) (va_Pc [.int (nI i), .int (nI n), .ref f] (am_Pre dC dI dA adK V sz r h)) (am_Post dC dI dA V sz (am_po (some (.int (nI i))) r h)) 0 0 (am_A V sz) := by
  refine am_ofW (cc := mJ3_checkIndex_8e157.2.1) (maxL := 3) (ret := some .int) (by decide +kernel) rfl ?_
  intro p e s m args below meth c s₁ B hml hv
  obtain ⟨rfl, hsz, hP, hK, hD0, hE, hstr⟩ := hv
  have hS : va_S (am_A V sz) s.heap s.heap [] := va_S.rf
  have hx := B.exec
  have hb := B.bytes
  have hloc := lv_entry [.int (nI i), .int (nI n), .ref f] (n := 3) (Nat.le_of_ble_eq_true rfl)
  rw [lg_entry_eq]
  generalize (lg_sl [.int (nI i), .int (nI n), .ref f] ++ List.replicate (3 - (lg_sl [.int (nI i), .int (nI n), .ref f]).length) Slot.unset).toArray = ls at hloc ⊢
  have hloc : lv_has ls 3 [(0, .int (nI i)), (1, .int (nI n)), (2, .ref f)] := hloc
  refine lv_iload_n hx hb dJ3_checkIndex_8e157_0 rfl (lv_at hloc 0 rfl) ?_
  refine lv_if_lt (tgt := 9) hx hb dJ3_checkIndex_8e157_1 (by decide) (fun q => absurd q (nI_pos (by omega))) (fun _ => ?_)
  refine lv_iload_n hx hb dJ3_checkIndex_8e157_4 rfl (lv_at hloc 0 rfl) ?_
  refine lv_iload_n hx hb dJ3_checkIndex_8e157_5 rfl (lv_at hloc 1 rfl) ?_
  refine lv_icmp_lt (tgt := 16) hx hb dJ3_checkIndex_8e157_6 (by decide) (fun _ => ?_) (fun q => absurd ((nI_ltI (by omega) (by omega)).mpr hi) q)
  refine lv_iload_n hx hb dJ3_checkIndex_8e157_16 rfl (lv_at hloc 0 rfl) ?_
  exact W.zret (ty := .int) hx hb B.returns rfl (fun t ht _ => ⟨⟨some (.int (nI i)), r, h, rfl, ⟨rfl, rfl, rfl⟩, by rw [ht]; exact hP⟩, hS.F ht⟩) hS.2.2 dJ3_checkIndex_8e157_17 B.notSynchronized
/-- the same with no formatter -/
theorem c_J3_checkIndexN {V : am_V} {r : am_R} {h : am_H} {i n : Nat} (hi : i < n) (hn : n < 1000) (l : Launch) (hl : l.stackTraces = false) (dC : Nat → ClassId) (dI : Nat → Nat → Nat) (dA : Nat → ClassId) (adK : Nat → Nat) (sz : Nat) :
    Met l mJ3_checkIndex_8e157.1 (am_wl mJ3_checkIndex_8e157) (am_rm 0 0 0) (va_Pc [.int (nI i), .int (nI n), .null] (am_Pre dC dI dA adK V sz r h)) (am_Post dC dI dA V sz (am_po (some (.int (nI i))) r h)) 0 0 (am_A V sz) := by
  refine am_ofW (cc := mJ3_checkIndex_8e157.2.1) (maxL := 3) (ret := some .int) (by decide +kernel) rfl ?_
  intro p e s m args below meth c s₁ B hml hv
  obtain ⟨rfl, hsz, hP, hK, hD0, hE, hstr⟩ := hv
  have hS : va_S (am_A V sz) s.heap s.heap [] := va_S.rf
  have hx := B.exec
  have hb := B.bytes
  have hloc := lv_entry [.int (nI i), .int (nI n), .null] (n := 3) (Nat.le_of_ble_eq_true rfl)
  rw [lg_entry_eq]
  generalize (lg_sl [.int (nI i), .int (nI n), .null] ++ List.replicate (3 - (lg_sl [.int (nI i), .int (nI n), .null]).length) Slot.unset).toArray = ls at hloc ⊢
  have hloc : lv_has ls 3 [(0, .int (nI i)), (1, .int (nI n)), (2, .null)] := hloc
  refine lv_iload_n hx hb dJ3_checkIndex_8e157_0 rfl (lv_at hloc 0 rfl) ?_
  refine lv_if_lt (tgt := 9) hx hb dJ3_checkIndex_8e157_1 (by decide) (fun q => absurd q (nI_pos (by omega))) (fun _ => ?_)
  refine lv_iload_n hx hb dJ3_checkIndex_8e157_4 rfl (lv_at hloc 0 rfl) ?_
  refine lv_iload_n hx hb dJ3_checkIndex_8e157_5 rfl (lv_at hloc 1 rfl) ?_
  refine lv_icmp_lt (tgt := 16) hx hb dJ3_checkIndex_8e157_6 (by decide) (fun _ => ?_) (fun q => absurd ((nI_ltI (by omega) (by omega)).mpr hi) q)
  refine lv_iload_n hx hb dJ3_checkIndex_8e157_16 rfl (lv_at hloc 0 rfl) ?_
  exact W.zret (ty := .int) hx hb B.returns rfl (fun t ht _ => ⟨⟨some (.int (nI i)), r, h, rfl, ⟨rfl, rfl, rfl⟩, by rw [ht]; exact hP⟩, hS.F ht⟩) hS.2.2 dJ3_checkIndex_8e157_17 B.notSynchronized
/-- String.checkIndex(i, n) -/
theorem c_J0_checkIndex {V : am_V} {r : am_R} {h : am_H} {i n : Nat} (hi : i < n) (hn : n < 1000) : am_CM mJ0_checkIndex_df160 1 0 0 [.int (nI i), .int (nI n)] V r h (am_po none r h) := by
  refine am_CM.ofJ (by decide +kernel) (Nat.le_of_ble_eq_true rfl) (fun X C T => ?_)
  show am_G X V (0, 0) 0 [(0, .int (nI i)), (1, .int (nI n))] [] r h
  refine am_iload_n (pc := 0) C dJ0_checkIndex_df160_0 rfl ?_
  refine am_iload_n (pc := 1) C dJ0_checkIndex_df160_1 rfl ?_
  have K : am_G X V (0, 0) 8 [(0, .int (nI i)), (1, .int (nI n))] [.int (nI i)] r h := by
    refine am_pop (pc := 8) C dJ0_checkIndex_df160_8 rfl ?_
    exact am_vretv T dJ0_checkIndex_df160_9 rfl (Nat.le_refl _) (Nat.le_refl _) rfl rfl
  obtain ⟨⟨p, l, e, R⟩, ⟨s, m, args, below, meth, c⟩, ⟨A, Z⟩, ⟨dC, dI, dA⟩, adK⟩ := X
  obtain ⟨⟨hx, hb, hml, hrt, hlk, hnm⟩, ⟨hown, hts, htr, hK⟩, ⟨hA, hE⟩, hDf, hDl, hMC, hMS⟩ := C
  intro H locs lsA hw hloc
  have good : ∀ w ∈ am_GW, w.before args s = true := fun w h => hts w (List.mem_cons_of_mem _ h)
  rcases hE.2.2.2.2.1.2 with hf | ⟨f, hf⟩
  · refine va_gets hx hb hf hw.2.2.1 hown (good _ (am_mem (w := .fieldLink "java/lang/String" 1053 "jdk/internal/util/Preconditions" "SIOOBE_FORMATTER" "Ljava/util/function/BiFunction;") 836 (by decide +kernel) rfl)) (fun _ h9 => h9) dJ0_checkIndex_df160_2 ?_
    obtain ⟨⟨sg1, sg2, sg3⟩, hcd, hstat⟩ := v_J3_checkIndex_8e157
    refine am_after (V := V) (r := r) (h := h) (cs := (0, 0)) hw hA (va_runS (As := [.int (nI i), .int (nI n), .null]) (rest := []) ⟨hx, hb, hml, hown, hts⟩ (c_J3_checkIndexN hi hn l htr dC dI dA adK H.size)
      ⟨callB_of 3 hts (am_gi (am_wsy hcd)) rfl rfl rfl (good _ hcd.2.1) (good _ (am_mem (w := .methodLink "java/lang/String" 1059 yJ3_checkIndex_8e157) 838 (by decide +kernel) rfl)) ⟨sg1, sg2, sg3⟩ ⟨by show 0 + 1 ≤ R.frames; omega, by show 8 + (3 + 11) + 64 * 0 ≤ R.locals; omega⟩, good _ hstat⟩ ⟨am_blind, fun U hU hW => ⟨rfl, (am_pre (as := []) hw hA hK hE U hU hW).2⟩⟩ rfl rfl (hloc.1.trans hml) rfl (lv_room (Nat.le_of_ble_eq_true rfl)) dJ0_checkIndex_df160_5 ⟨by show 0 + 0 ≤ R.cells; omega, by show 0 + 0 ≤ R.slots; omega⟩) ?_
    intro v r' h' hq H1 locs1 hw1
    obtain ⟨rfl, rfl, rfl⟩ := hq
    exact K H1 locs1 lsA hw1 hloc
  · refine va_gets hx hb hf hw.2.2.1 hown (good _ (am_mem (w := .fieldLink "java/lang/String" 1053 "jdk/internal/util/Preconditions" "SIOOBE_FORMATTER" "Ljava/util/function/BiFunction;") 836 (by decide +kernel) rfl)) (fun _ h9 => h9) dJ0_checkIndex_df160_2 ?_
    obtain ⟨⟨sg1, sg2, sg3⟩, hcd, hstat⟩ := v_J3_checkIndex_8e157
    refine am_after (V := V) (r := r) (h := h) (cs := (0, 0)) hw hA (va_runS (As := [.int (nI i), .int (nI n), .ref f]) (rest := []) ⟨hx, hb, hml, hown, hts⟩ (c_J3_checkIndex hi hn l htr dC dI dA adK H.size)
      ⟨callB_of 3 hts (am_gi (am_wsy hcd)) rfl rfl rfl (good _ hcd.2.1) (good _ (am_mem (w := .methodLink "java/lang/String" 1059 yJ3_checkIndex_8e157) 838 (by decide +kernel) rfl)) ⟨sg1, sg2, sg3⟩ ⟨by show 0 + 1 ≤ R.frames; omega, by show 8 + (3 + 11) + 64 * 0 ≤ R.locals; omega⟩, good _ hstat⟩ ⟨am_blind, fun U hU hW => ⟨rfl, (am_pre (as := []) hw hA hK hE U hU hW).2⟩⟩ rfl rfl (hloc.1.trans hml) rfl (lv_room (Nat.le_of_ble_eq_true rfl)) dJ0_checkIndex_df160_5 ⟨by show 0 + 0 ≤ R.cells; omega, by show 0 + 0 ≤ R.slots; omega⟩) ?_
    intro v r' h' hq H1 locs1 hw1
    obtain ⟨rfl, rfl, rfl⟩ := hq
    exact K H1 locs1 lsA hw1 hloc
/-- StringLatin1.charAt(value, j) -/
theorem c_J1_charAt {V : am_V} {r : am_R} {h : am_H} {k j a : Nat} (hk : k < am_TX.length) (hj : j < am_len k) (l : Launch) (hl : l.stackTraces = false) (dC : Nat → ClassId) (dI : Nat → Nat → Nat) (dA : Nat → ClassId) (adK : Nat → Nat) (sz : Nat) :
    Met l mJ1_charAt_3b067.1 (am_wl mJ1_charAt_3b067) (am_rm 2 0 0) (va_Pc [.ref a, .int (nI j)] (fun U => am_Pre dC dI dA adK V sz r h U ∧ va_T .byte a (am_len k) (fun j => .int (am_chr k j)) (am_A V sz) U U.heap)) (am_Post dC dI dA V sz (am_po (some (.int (am_chr k j))) r h)) 0 0 (am_A V sz) := by
  have hlen := am_len_lt hk
  refine am_ofW (cc := mJ1_charAt_3b067.2.1) (maxL := 2) (ret := some .char) (by decide +kernel) rfl ?_
  intro p e s m args below meth c s₁ B hml hv
  obtain ⟨rfl, ⟨hsz, hP, hK, hD0, hE, hstr⟩, hT⟩ := hv
  have hD : am_Dj (am_A V sz) V := ⟨hD0.1, fun i hi => Or.inl ⟨i, hi, rfl⟩⟩
  have hA : ∀ q, s.heap.size ≤ q → am_A V sz q := fun q hq => Or.inr (by omega)
  have hS : va_S (am_A V sz) s.heap s.heap [] := va_S.rf
  have hx := B.exec
  have hb := B.bytes
  have hts : ∀ w ∈ am_wl mJ1_charAt_3b067, w.before [.ref a, .int (nI j)].toArray s = true := atoms_spec (ws := am_wl mJ1_charAt_3b067) B.pre
  have hown : s.vm.findClass mJ1_charAt_3b067.1.cls = some m.cls := findClass_of_methodNamed B.named
  have good : ∀ w ∈ am_GW, w.before [.ref a, .int (nI j)].toArray s = true := fun w h => hts w (List.mem_cons_of_mem _ h)
  have hloc := lv_entry [.ref a, .int (nI j)] (n := 2) (Nat.le_of_ble_eq_true rfl)
  rw [lg_entry_eq]
  generalize (lg_sl [.ref a, .int (nI j)] ++ List.replicate (2 - (lg_sl [.ref a, .int (nI j)]).length) Slot.unset).toArray = ls at hloc ⊢
  have hloc : lv_has ls 2 [(0, .ref a), (1, .int (nI j))] := hloc
  refine lv_iload_n hx hb dJ1_charAt_3b067_0 rfl (lv_at hloc 1 rfl) ?_
  refine lv_aload_n hx hb dJ1_charAt_3b067_1 rfl (lv_at hloc 0 rfl) ?_
  refine va_tlen hx hb hT hS (v := nI (am_len k)) rfl dJ1_charAt_3b067_2 ?_
  obtain ⟨⟨sg1, sg2, sg3⟩, hcd, hstat⟩ := v_J0_checkIndex_df160
  refine am_after (V := V) (r := r) (h := h) (cs := (0, 0)) (adK := adK) ⟨hP, hD, hS, hstr⟩ hA (va_runS (As := [.int (nI j), .int (nI (am_len k))]) (rest := []) ⟨hx, hb, hml, hown, hts⟩ (c_J0_checkIndex hj (by omega) l hl dC dI dA adK s.heap.size)
    ⟨callB_of 2 hts (am_gi (am_wsy hcd)) rfl rfl rfl (good _ hcd.2.1) (good _ (am_mem (w := .methodLink "java/lang/StringLatin1" 9 yJ0_checkIndex_df160) 833 (by decide +kernel) rfl)) ⟨sg1, sg2, sg3⟩ ⟨Nat.le_of_ble_eq_true rfl, Nat.le_of_ble_eq_true rfl⟩, good _ hstat⟩ ⟨am_blind, am_pre (as := [.int (nI j), .int (nI (am_len k))]) (Z := fun _ => True) (m := m) (p := p) (l := l) (e := e) (R := (headSpec (am_wl mJ1_charAt_3b067) (am_rm 2 0 0)).room) (below := below) (meth := meth) (c := c) (args := [.ref a, .int (nI j)].toArray) (locs := []) ⟨hP, hD, hS, hstr⟩ hA hK (by rw [hsz] at *; exact hE)⟩ rfl rfl hloc.1 rfl (lv_room (Nat.le_of_ble_eq_true rfl)) dJ1_charAt_3b067_3 ⟨Nat.le_of_ble_eq_true rfl, Nat.le_of_ble_eq_true rfl⟩) ?_
  intro v r' h' hq H1 locs1 hw1
  obtain ⟨rfl, rfl, rfl⟩ := hq
  obtain ⟨hP1, hD1, hS1, -⟩ := hw1
  refine lv_aload_n hx hb dJ1_charAt_3b067_6 rfl (lv_at hloc 0 rfl) ?_
  refine lv_iload_n hx hb dJ1_charAt_3b067_7 rfl (lv_at hloc 1 rfl) ?_
  refine va_tb hx hb hT hS1 (vp_in_nI hj (by omega)) (v := .int (am_chr k j)) (by rw [nI_clamp (by omega)]) dJ1_charAt_3b067_8 ?_
  refine lv_sipush (v := nI 255) hx hb dJ1_charAt_3b067_9 (by decide) ?_
  refine lv_iand hx hb dJ1_charAt_3b067_12 ?_
  obtain ⟨b0, b1⟩ := am_chr_b hk hj
  obtain ⟨e1, e2⟩ := am_lowc b0 b1
  refine lv_i2c (v := am_chr k j) hx hb dJ1_charAt_3b067_13 e1 ?_
  exact W.zret (ty := .char) hx hb B.returns e2 (fun t ht _ => ⟨⟨some (.int (am_chr k j)), r', h', rfl, ⟨rfl, rfl, rfl⟩, by rw [ht]; exact hP1⟩, hS1.F ht⟩) hS1.2.2 dJ1_charAt_3b067_14 B.notSynchronized
/-- String.charAt(j) -/
theorem c_J0_charAt {ad : Nat → Nat} {r : am_R} {h : am_H} {k j : Nat} (hk : k < am_TX.length) (hj : j < am_len k) : am_CM mJ0_charAt_5068e 3 0 0 [.ref (am_SB + k), .int (nI j)] (am_VV ad) r h (am_po (some (.int (am_chr k j))) r h) := by
  refine am_CM.ofJ (by decide +kernel) (Nat.le_of_ble_eq_true rfl) (fun X C T => ?_)
  show am_G X (am_VV ad) (0, 0) 0 [(0, .ref (am_SB + k)), (1, .int (nI j))] [] r h
  refine am_aload_n (pc := 0) C dJ0_charAt_5068e_0 rfl ?_
  refine am_callVs (Y := mJ0_isLatin1_aae02) (pc := 1) (st := []) (As := []) hk C dJ0_charAt_5068e_1 (am_mem 826 (by decide +kernel) rfl) v_J0_isLatin1_aae02 rfl rfl rfl (by decide) (Nat.zero_le _) (Nat.zero_le _) (Nat.le_of_ble_eq_true rfl) (c_J0_isLatin1 hk) (fun v r' h' hq => ?_)
  obtain ⟨rfl, rfl, rfl⟩ := hq
  refine am_if_eq (pc := 4) (tgt := 16) C dJ0_charAt_5068e_4 (by decide) (fun q => absurd q (by decide)) (fun _ => ?_)
  refine am_aload_n (pc := 7) C dJ0_charAt_5068e_7 rfl ?_
  obtain ⟨b0, b1⟩ := am_chr_b hk hj
  have K : am_G X (am_VV ad) (0, 0) 15 [(0, .ref (am_SB + k)), (1, .int (nI j))] [.int (am_chr k j)] r' h' := am_iret T dJ0_charAt_5068e_15 rfl (am_lowc b0 b1).2 (Nat.le_refl _) (Nat.le_refl _) ⟨rfl, rfl, rfl⟩
  obtain ⟨⟨p, l, e, R⟩, ⟨s, m, args, below, meth, c⟩, ⟨A, Z⟩, ⟨dC, dI, dA⟩, adK⟩ := X
  obtain ⟨⟨hx, hb, hml, hrt, hlk, hnm⟩, ⟨hown, hts, htr, hK⟩, ⟨hA, hE⟩, hDf, hDl, hMC, hMS⟩ := C
  intro H locs lsA hw hloc
  have good : ∀ w ∈ am_GW, w.before args s = true := fun w h => hts w (List.mem_cons_of_mem _ h)
  obtain ⟨adV, h1, h2, h3, h4⟩ := am_txt hk hE
  show W p l e R s m args below meth c H locs 0 0 Z (F0 m 8 lsA [.ref (ad (am_SB + k))])
  rw [show ad (am_SB + k) = adK k from hw.2.2.2 k hk]
  refine vk_getf hx hb h3 hw.2.2.1 hown (good _ (am_mem (w := .fieldLink "java/lang/String" 9 "java/lang/String" "value" "[B") 2431 (by decide +kernel) rfl)) (fun _ h9 => h9) dJ0_charAt_5068e_8 ?_
  refine lv_iload_n hx hb dJ0_charAt_5068e_11 rfl (am_load hloc (i := 1) (v := .int (nI j)) rfl) ?_
  obtain ⟨⟨sg1, sg2, sg3⟩, hcd, hstat⟩ := v_J1_charAt_3b067
  refine am_after (V := am_VV ad) (r := r') (h := h') (cs := (0, 0)) hw hA (va_runS (As := [.ref adV, .int (nI j)]) (rest := []) ⟨hx, hb, hml, hown, hts⟩ (c_J1_charAt (V := am_VV ad) (r := r') (h := h') (a := adV) hk hj l htr dC dI dA adK H.size)
    ⟨callB_of 2 hts (am_gi (am_wsy hcd)) rfl rfl rfl (good _ hcd.2.1) (good _ (am_mem (w := .methodLink "java/lang/String" 495 yJ1_charAt_3b067) 830 (by decide +kernel) rfl)) ⟨sg1, sg2, sg3⟩ ⟨by show 2 + 1 ≤ R.frames; omega, by show 8 + (2 + 11) + 64 * 2 ≤ R.locals; omega⟩, good _ hstat⟩ ⟨?_, ?_⟩ rfl rfl (hloc.1.trans hml) rfl (lv_room (Nat.le_of_ble_eq_true rfl)) dJ0_charAt_5068e_12 ⟨by show 0 + 0 ≤ R.cells; omega, by show 0 + 0 ≤ R.slots; omega⟩) ?_
  · intro a U g mk q
    obtain ⟨q0, ⟨p0, p1, p2, p3, p4, p5⟩, q2⟩ := q
    exact ⟨q0, ⟨p0, p1, va_K.moved (u := U) (U := U.calling g mk a) (Vm.Alike.refl U.vm) p2, p3, am_E.same (u := U) (U := U.calling g mk a) rfl p4, p5⟩, va_T.moved (u := U) (U := U.calling g mk a) (Vm.Alike.refl U.vm) q2⟩
  · intro U hU hW
    refine ⟨rfl, (am_pre (as := []) hw hA hK hE U hU hW).2, ?_⟩
    rw [hU]
    exact ((h4.moved hW.alike).kept hw.2.2.1.2.1).narrow (am_inA hA hw.2.1 hw.2.2.1)
  · intro v r2 h2 hq H1 locs1 hw1
    obtain ⟨rfl, rfl, rfl⟩ := hq
    exact K H1 locs1 lsA hw1 hloc
end STR
