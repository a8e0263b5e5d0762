/-! AN ABSTRACT MACHINE over the kit's rows: a heap of numbered cells (shape V.sh, references r, numbers h), one goal am_G for a running frame, one contract am_CM for a method. A cell's number i stands for the address V.ad i. -/
section AM
abbrev am_Sh : Type := Nat → Nat × Nat
abbrev am_R : Type := Nat → Nat → Value
abbrev am_H : Type := Nat → Nat → Int32
abbrev am_V : Type := (Nat → Nat) × Nat × am_Sh
abbrev am_M : Type := MethodName × ByteArray × Nat × Option FieldType
abbrev am_X : Type := (Program × Launch × Env × Room) × (State × MethodId × Array Value × List Frame × Method × Code) × ((Nat → Prop) × (State → Prop)) × ((Nat → ClassId) × (Nat → Nat → Nat) × (Nat → ClassId)) × (Nat → Nat)
def am_cv (ad : Nat → Nat) (v : Value) : Value := match v with
  | .ref i => .ref (ad i)
  | w => w
def am_opt (ad : Nat → Nat) (v : Value) : Option Nat := match v with
  | .ref i => some (ad i)
  | _ => none
def am_cl (ci : Nat) : vw_C := vwCl.getD ci ("", fun _ => ("", "", "", false), 0)
def am_num (d : String) : Bool := d == "I" || d == "Z"
def am_fv (ad : Nat → Nat) (T : u_T) (r : Nat → Value) (h : Nat → Int32) (k : Nat) : Value := bif am_num (T k).2.2.1 then .int (h k) else am_cv ad (r k)
def am_en (dA : Nat → ClassId) (ad : Nat → Nat) (q : Nat × Nat) (r : Nat → Value) (h : Nat → Int32) : va_E :=
  if q.1 = 0 then .inr (q.2, (List.range (am_cl q.2).2.2).map (am_fv ad (am_cl q.2).2.1 r h))
  else if q.1 = 4 then .inl (dA 4, q.2, .inr (.inl fun j => (h j).toInt64))
  else if q.1 = 5 then .inl (dA 5, q.2, .inr (.inr (.inr (.inr fun j => am_opt ad (r j)))))
  else .inl (dA q.1, q.2, .inl h)
def am_ws (dA : Nat → ClassId) (V : am_V) (r : am_R) (h : am_H) : va_W := (List.range V.2.1).map fun i => (V.1 i, am_en dA V.1 (V.2.2 i) (r i) (h i))
def am_up {α : Type} (f : Nat → Nat → α) (i k : Nat) (v : α) : Nat → Nat → α := fun a b => if a = i ∧ b = k then v else f a b
def am_ty (dA : Nat → ClassId) : List (ClassId × FieldType) := [(dA 0, .int), (dA 1, .int), (dA 2, .byte), (dA 3, .boolean), (dA 4, .long), (dA 5, .object "ForgetWar$Scene")]
theorem am_up_same {α : Type} (f : Nat → Nat → α) (i k : Nat) (v : α) : am_up f i k v i k = v := by simp [am_up]
theorem am_up_ne {α : Type} (f : Nat → Nat → α) (i k a : Nat) (v : α) (h : a ≠ i) : am_up f i k v a = f a := by funext b; simp [am_up, h]
theorem am_up_row (f : am_H) (i k : Nat) (v : Int32) : am_up f i k v i = upd (f i) k v := by funext b; simp [am_up, upd]
theorem am_ws_at {dA : Nat → ClassId} {V : am_V} {r : am_R} {h : am_H} {i : Nat} (hi : i < V.2.1) : (am_ws dA V r h)[i]? = some (V.1 i, am_en dA V.1 (V.2.2 i) (r i) (h i)) := by
  simp [am_ws, List.getElem?_map, hi]
theorem am_ws_set {dA : Nat → ClassId} {V : am_V} {r r' : am_R} {h h' : am_H} {i : Nat} {x : va_E} (hx : am_en dA V.1 (V.2.2 i) (r' i) (h' i) = x) (ho : ∀ j, j ≠ i → am_en dA V.1 (V.2.2 j) (r' j) (h' j) = am_en dA V.1 (V.2.2 j) (r j) (h j)) : (am_ws dA V r h).set i (V.1 i, x) = am_ws dA V r' h' := by
  subst hx
  apply List.ext_getElem?
  intro j
  rw [List.getElem?_set]
  by_cases hj : i = j
  · subst hj
    by_cases hi : i < V.2.1
    · simp [am_ws, hi]
    · simp [am_ws, hi]
  · simp only [hj, if_false]
    by_cases hi : j < V.2.1
    · rw [am_ws_at hi, am_ws_at hi, ho j (fun e => hj e.symm)]
    · simp [am_ws, hi]
/-- the addresses are apart, and of a kind -/
def am_Dj (A : Nat → Prop) (V : am_V) : Prop := (∀ i j, i < V.2.1 → j < V.2.1 → V.1 i = V.1 j → i = j) ∧ ∀ i, i < V.2.1 → A (V.1 i)
theorem am_D {A : Nat → Prop} {dA : Nat → ClassId} {V : am_V} {r : am_R} {h : am_H} (hD : am_Dj A V) : va_D A (am_ws dA V r h) := by
  have key : ∀ (k : Nat) (q : Nat × va_E), (am_ws dA V r h)[k]? = some q → k < V.2.1 ∧ q.1 = V.1 k := by
    intro k q hk
    by_cases hi : k < V.2.1
    · rw [am_ws_at hi] at hk
      cases hk
      exact ⟨hi, rfl⟩
    · simp [am_ws, hi] at hk
  refine ⟨fun i j p q hp hq he => ?_, fun k q hk => ?_⟩
  · obtain ⟨h1, h2⟩ := key i p hp
    obtain ⟨h3, h4⟩ := key j q hq
    exact hD.1 i j h1 h3 (by rw [← h2, ← h4]; exact he)
  · obtain ⟨h1, h2⟩ := key k q hk
    rw [h2]
    exact hD.2 k h1
/-! the words -/
def am_GW : List Cond := lw_tbl.filter goodWord
def am_wl (M : am_M) : List Cond := .code M.1 M.2.1 M.2.2.1 M.2.2.2 :: am_GW
theorem am_mem {w : Cond} (i : Nat) (h : lw_tbl[i]? = some w) (g : goodWord w = true) : w ∈ am_GW := List.mem_filter.mpr ⟨List.mem_of_getElem? h, g⟩
theorem am_gw {w : Cond} (h : w ∈ am_GW) : goodWord w = true := (List.mem_filter.mp h).2
theorem am_gi {M : am_M} {ws : List Cond} (h : ∀ w ∈ ws, w ∈ am_GW) : GoodIn (am_wl M) ws := fun w hw => ⟨List.mem_cons_of_mem _ (h w hw), good_of_word (am_gw (h w hw))⟩
/-! what stays outside the cells: links of nest mates, texts, the JDK's statics -/
def am_soft (w : Cond) : Bool := match w with
  | .methodLinkNest _ _ _ _ => true
  | .castable _ _ => true
  | _ => false
def am_NW : List Cond := lw_tbl.filter am_soft
theorem am_nw {w : Cond} (i : Nat) (h : lw_tbl[i]? = some w) (g : am_soft w = true) : w ∈ am_NW := List.mem_filter.mpr ⟨List.mem_of_getElem? h, g⟩
/-- the texts of the string constants, as bytes; where they stand -/
def am_bs (t : String) : List Int32 := t.toList.map fun c => Int32.ofNat c.toNat
def am_TX : List String := ["memory", "needs", "soldier", "knows", "book", "order", "plan", "clash", "a wrong text of the war", "there are 12 texts of the war", "aim", "good", "read", "if", "not", "alone", "side", "place", "hour", "known", "usable", "foes", "and", "or", "a wrong text of the law", "no such memory", "a memory has no such thing", "no such soldier", "a soldier has no such thing", "this number is none", "no such order", "an order has no such thing", "there is no such rule", "both are one", "this shot cannot be", "this cannot be taught", "no such thing in the field", "this cannot be gathered", "there is no book", "what lies there has no such thing", "no such side", "they are of unlike sides", "no such place", "these are no memories, or this is none of them", "a trial has no such thing", "a row of the log has no such thing"]
def am_SR : List (String × Nat × String × Nat) := [("ForgetWar$WarText", 43, "memory", 0), ("ForgetWar$WarText", 97, "needs", 1), ("ForgetWar$WarText", 52, "soldier", 2), ("ForgetWar$WarText", 57, "knows", 3), ("ForgetWar$WarText", 62, "book", 4), ("ForgetWar$WarText", 67, "order", 5), ("ForgetWar$WarText", 72, "plan", 6), ("ForgetWar$WarText", 77, "clash", 7), ("ForgetWar", 124, "a wrong text of the war", 8), ("ForgetWar", 134, "there are 12 texts of the war", 9), ("ForgetWar$LawText", 71, "aim", 10), ("ForgetWar$LawText", 73, "good", 11), ("ForgetWar$LawText", 75, "read", 12), ("ForgetWar$LawText", 58, "if", 13), ("ForgetWar$LawText", 91, "not", 14), ("ForgetWar$LawText", 102, "alone", 15), ("ForgetWar$LawText", 110, "soldier", 2), ("ForgetWar$LawText", 112, "side", 16), ("ForgetWar$LawText", 114, "place", 17), ("ForgetWar$LawText", 116, "hour", 18), ("ForgetWar$LawText", 118, "known", 19), ("ForgetWar$LawText", 120, "usable", 20), ("ForgetWar$LawText", 122, "foes", 21), ("ForgetWar$LawText", 89, "and", 22), ("ForgetWar$LawText", 80, "or", 23), ("ForgetWar", 139, "a wrong text of the law", 24), ("ForgetWar", 489, "no such memory", 25), ("ForgetWar", 191, "a memory has no such thing", 26), ("ForgetWar", 491, "no such soldier", 27), ("ForgetWar", 228, "a soldier has no such thing", 28), ("ForgetWar", 499, "this number is none", 29), ("ForgetWar", 249, "no such order", 30), ("ForgetWar", 261, "an order has no such thing", 31), ("ForgetWar", 269, "there is no such rule", 32), ("ForgetWar", 493, "both are one", 33), ("ForgetWar", 294, "this shot cannot be", 34), ("ForgetWar", 310, "this cannot be taught", 35), ("ForgetWar", 497, "no such thing in the field", 36), ("ForgetWar", 324, "this cannot be gathered", 37), ("ForgetWar", 329, "there is no book", 38), ("ForgetWar", 337, "what lies there has no such thing", 39), ("ForgetWar", 495, "no such side", 40), ("ForgetWar", 386, "they are of unlike sides", 41), ("ForgetWar", 407, "no such place", 42), ("ForgetWar", 409, "these are no memories, or this is none of them", 43), ("ForgetWar", 420, "a trial has no such thing", 44), ("ForgetWar", 444, "a row of the log has no such thing", 45), ("ForgetWarModel", 162, "memory", 0), ("ForgetWarModel", 140, "needs", 1), ("ForgetWarModel", 167, "soldier", 2), ("ForgetWarModel", 172, "knows", 3), ("ForgetWarModel", 177, "book", 4), ("ForgetWarModel", 182, "order", 5), ("ForgetWarModel", 187, "plan", 6), ("ForgetWarModel", 192, "clash", 7), ("ForgetWarModel", 244, "aim", 10), ("ForgetWarModel", 246, "good", 11), ("ForgetWarModel", 248, "read", 12), ("ForgetWarModel", 250, "if", 13), ("ForgetWarModel", 227, "not", 14), ("ForgetWarModel", 232, "alone", 15), ("ForgetWarModel", 203, "side", 16), ("ForgetWarModel", 205, "place", 17), ("ForgetWarModel", 207, "hour", 18), ("ForgetWarModel", 209, "known", 19), ("ForgetWarModel", 211, "usable", 20), ("ForgetWarModel", 212, "foes", 21), ("ForgetWarModel", 237, "and", 22), ("ForgetWarModel", 242, "or", 23)]
def am_NC : List (String × String) := [("java/lang/UnsupportedOperationException", "java/lang/IllegalArgumentException"), ("java/lang/IndexOutOfBoundsException", "java/lang/IllegalArgumentException"), ("java/util/NoSuchElementException", "java/lang/IllegalArgumentException"), ("java/lang/IllegalStateException", "java/lang/IllegalArgumentException"), ("java/lang/IllegalArgumentException", "java/lang/UnsupportedOperationException"), ("java/lang/IndexOutOfBoundsException", "java/lang/UnsupportedOperationException"), ("java/util/NoSuchElementException", "java/lang/UnsupportedOperationException"), ("java/lang/IllegalStateException", "java/lang/UnsupportedOperationException"), ("java/lang/IllegalArgumentException", "java/lang/IndexOutOfBoundsException"), ("java/lang/UnsupportedOperationException", "java/lang/IndexOutOfBoundsException"), ("java/util/NoSuchElementException", "java/lang/IndexOutOfBoundsException"), ("java/lang/IllegalStateException", "java/lang/IndexOutOfBoundsException"), ("java/lang/IllegalArgumentException", "java/util/NoSuchElementException"), ("java/lang/UnsupportedOperationException", "java/util/NoSuchElementException"), ("java/lang/IndexOutOfBoundsException", "java/util/NoSuchElementException"), ("java/lang/IllegalStateException", "java/util/NoSuchElementException"), ("java/lang/IllegalArgumentException", "java/lang/IllegalStateException"), ("java/lang/UnsupportedOperationException", "java/lang/IllegalStateException"), ("java/lang/IndexOutOfBoundsException", "java/lang/IllegalStateException"), ("java/util/NoSuchElementException", "java/lang/IllegalStateException")]
def am_SB : Nat := 1000000
def am_E (adK : Nat → Nat) (A : Nat → Prop) (U : State) (H : Heap) : Prop :=
  (∀ w ∈ am_NW, va_Nw w U) ∧ (∀ q ∈ am_SR, vk_R q.1 q.2.1 q.2.2.1 (adK q.2.2.2) U) ∧
  (∀ k, k < am_TX.length → ∃ adV : Nat, vk_S 1 [(am_bs (am_TX.getD k "")).length] [am_bs (am_TX.getD k "")] (fun _ => adK k) (fun _ => adV) A U H) ∧
  (vx_Zq Bundle.tN "UNASSIGNED_STACK" Bundle.steD A U H ∧ vx_Zq Bundle.tN "SUPPRESSED_SENTINEL" Bundle.listD A U H) ∧
  (va_Z "java/lang/String" "COMPACT_STRINGS" "Z" (.int 1) A U H ∧ va_Zq "jdk/internal/util/Preconditions" "SIOOBE_FORMATTER" "Ljava/util/function/BiFunction;" A U H) ∧
  (∀ q ∈ am_NC, va_Nc q.1 q.2 U)
theorem am_E.pass {adK : Nat → Nat} {A B : Nat → Prop} {s U : State} {H : Heap} (hW : s.WarmedH U.vm) (hk : ∀ a : Nat, a < s.heap.size → ¬ A a → H[a]? = s.heap[a]?) (hBA : ∀ q, B q → A q) (h : am_E adK A s s.heap) : am_E adK B U H := by
  obtain ⟨h1, h2, h3, ⟨h4, h5⟩, ⟨h6, h7⟩, h8⟩ := h
  refine ⟨fun w hw => ?_, fun q hq => (h2 q hq).warm hW, fun k hk' => ?_, ⟨((h4.moved hW.alike).kept hk).narrow hBA, ((h5.moved hW.alike).kept hk).narrow hBA⟩, ⟨((h6.moved hW.alike).kept hk).narrow hBA, ((va_Zq.moved hW.alike h7).kept hk).narrow hBA⟩, fun q hq => (h8 q hq).moved hW.alike⟩
  · have hs := (List.mem_filter.mp hw).2
    have hn := h1 w hw
    cases w <;> first | exact va_Nw.warmM hW hn | exact va_Nw.warmC hW hn | exact (Bool.false_ne_true hs).elim
  · obtain ⟨adV, hV⟩ := h3 k hk'
    exact ⟨adV, ((hV.moved hW.alike).kept hk).narrow hBA⟩
/-! the running frame -/
/-- what a running method M stands on: depth D, room for MC cells of MS slots -/
def am_C (M : am_M) (D MC MS : Nat) (X : am_X) : Prop := match X with
  | ((p, l, e, R), (s, m, args, below, meth, c), (A, Z), (dC, dI, dA), adK) =>
    (p.tables.exec = Jvm.exec ∧ c.code = M.2.1 ∧ c.maxLocals = M.2.2.1 ∧ meth.sig.returnType = M.2.2.2 ∧ meth.locks = false ∧ meth.name = M.1.name) ∧
    (s.vm.findClass M.1.cls = some m.cls ∧ (∀ w ∈ am_wl M, w.before args s = true) ∧ l.stackTraces = false ∧ va_K (dC, dI) vwCl (am_ty dA) s) ∧
    ((∀ q, s.heap.size ≤ q → A q) ∧ am_E adK A s s.heap) ∧ D ≤ R.frames ∧ 64 * D ≤ R.locals ∧ R.cells = MC ∧ R.slots = MS
def am_w (X : am_X) (V : am_V) (r : am_R) (h : am_H) (H : Heap) (locs : List Loc) : Prop := match X with
  | ((p, l, e, R), (s, m, args, below, meth, c), (A, Z), (dC, dI, dA), adK) =>
    va_P (dC, dI) vwCl (am_ws dA V r h) H ∧ am_Dj A V ∧ va_S A s.heap H locs ∧ ∀ k, k < am_TX.length → V.1 (am_SB + k) = adK k
def am_cvp (ad : Nat → Nat) (q : Nat × Value) : Nat × Value := (q.1, am_cv ad q.2)
/-- the frame at pc, with locals ls, operand stack st, over references r and numbers h, having made cs.1 cells of cs.2 slots, comes to its end -/
def am_G (X : am_X) (V : am_V) (cs : Nat × Nat) (pc : Nat) (ls : List (Nat × Value)) (st : List Value) (r : am_R) (h : am_H) : Prop := match X with
  | ((p, l, e, R), (s, m, args, below, meth, c), (A, Z), (dC, dI, dA), adK) =>
    ∀ (H : Heap) (locs : List Loc) (lsA : Array Slot), am_w ((p, l, e, R), (s, m, args, below, meth, c), (A, Z), (dC, dI, dA), adK) V r h H locs → lv_has lsA c.maxLocals (ls.map (am_cvp V.1)) →
      W p l e R s m args below meth c H locs cs.1 cs.2 Z (F0 m pc lsA (st.map (am_cv V.1)))
/-- how the method may end -/
def am_T (M : am_M) (X : am_X) (V : am_V) (mc ms : Nat) (Q : Option Value → am_R → am_H → Prop) : Prop := match X with
  | ((p, l, e, R), (s, m, args, below, meth, c), (A, Z), (dC, dI, dA), adK) =>
    ∀ (v : Option Value) (r : am_R) (h : am_H), Q v r h → ∀ (cs : Nat × Nat) (pc : Nat) (H : Heap) (locs : List Loc) (lsA : Array Slot), cs.1 ≤ mc → cs.2 ≤ ms →
      ((∃ (x : Int32) (ty : FieldType), v = some (.int x) ∧ decode M.2.1 pc = .ok (.ireturn, 1) ∧ M.2.2.2 = some ty ∧ narrow ty (.int x) = .int x) ∨ (v = none ∧ decode M.2.1 pc = .ok (.return_, 1) ∧ M.2.2.2 = none)) →
      am_w ((p, l, e, R), (s, m, args, below, meth, c), (A, Z), (dC, dI, dA), adK) V r h H locs → W p l e R s m args below meth c H locs cs.1 cs.2 Z (F0 m pc lsA (v.toList.map (am_cv V.1)))
/-- the cells that a method may change -/
def am_A (V : am_V) (sz : Nat) : Nat → Prop := fun q => (∃ i, i < V.2.1 ∧ q = V.1 i) ∨ sz ≤ q
def am_rm (d mc ms : Nat) : Room := { frames := d, cells := mc, slots := ms, locals := 64 * d }
def am_Pre (dC : Nat → ClassId) (dI : Nat → Nat → Nat) (dA : Nat → ClassId) (adK : Nat → Nat) (V : am_V) (sz : Nat) (r : am_R) (h : am_H) (U : State) : Prop :=
  U.heap.size = sz ∧ va_P (dC, dI) vwCl (am_ws dA V r h) U.heap ∧ va_K (dC, dI) vwCl (am_ty dA) U ∧ am_Dj (fun _ => True) V ∧ am_E adK (am_A V sz) U U.heap ∧ ∀ k, k < am_TX.length → V.1 (am_SB + k) = adK k
def am_Post (dC : Nat → ClassId) (dI : Nat → Nat → Nat) (dA : Nat → ClassId) (V : am_V) (sz : Nat) (Q : Option Value → am_R → am_H → Prop) : Array Value → State → Outcome → State → Prop := fun _ st o t =>
  (∃ (v : Option Value) (r' : am_R) (h' : am_H), o = .returned (v.map (am_cv V.1)) ∧ Q v r' h' ∧ va_P (dC, dI) vwCl (am_ws dA V r' h') t.heap) ∧ va_F (am_A V sz) st t
/-- THE CONTRACT of a method that makes no cell that stays and throws nothing: called with 'as' over r, h it returns v over r', h' with Q -/
def am_CM (Y : am_M) (d mc ms : Nat) (as : List Value) (V : am_V) (r : am_R) (h : am_H) (Q : Option Value → am_R → am_H → Prop) : Prop :=
  ∀ (l : Launch), l.stackTraces = false → ∀ (dC : Nat → ClassId) (dI : Nat → Nat → Nat) (dA : Nat → ClassId) (adK : Nat → Nat) (sz : Nat),
    Met l Y.1 (am_wl Y) (am_rm d mc ms) (va_Pc (as.map (am_cv V.1)) (am_Pre dC dI dA adK V sz r h)) (am_Post dC dI dA V sz Q) mc ms (am_A V sz)
end AM
