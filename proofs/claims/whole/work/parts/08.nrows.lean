/-! ROWS for numbers nI n, for truth values am_b b, for calls of methods that make no cell -/
section AMN
def am_b (b : Bool) : Int32 := bif b then 1 else 0
def am_po (v : Option Value) (r2 : am_R) (h2 : am_H) : Option Value → am_R → am_H → Prop := fun a b c => a = v ∧ b = r2 ∧ c = h2
theorem am_ofI (k : Nat) : Int32.ofInt (k : Int) = nI k := by
  apply Int32.toBitVec_inj.mp
  simp [nI]
theorem am_b_t : am_b true = 1 := rfl
theorem am_b_f : am_b false = 0 := rfl
theorem am_b_nar (b : Bool) : narrow .boolean (.int (am_b b)) = .int (am_b b) := by cases b <;> rfl
theorem am_b_01 (b : Bool) : am_b b = 0 ∨ am_b b = 1 := by cases b <;> simp [am_b]
theorem am_b_0 (b : Bool) : am_b b = 0 ↔ b = false := by cases b <;> decide
theorem am_b_inj {a b : Bool} : am_b a = am_b b ↔ a = b := by cases a <;> cases b <;> decide
variable {M : am_M} {D MC MS : Nat} {X : am_X} {V : am_V} {cs : Nat × Nat} {pc : Nat} {ls ls' : List (Nat × Value)} {st st0 : List Value} {r r2 : am_R} {h h2 : am_H}
/-- the top of the stack by another name -/
theorem am_top {x y : Int32} (e : x = y) (k : am_G X V cs pc ls (.int y :: st) r h) : am_G X V cs pc ls (.int x :: st) r h := by rw [e]; exact k
theorem am_top2 {z x y : Int32} (e : x = y) (k : am_G X V cs pc ls (.int z :: .int y :: st) r h) : am_G X V cs pc ls (.int z :: .int x :: st) r h := by rw [e]; exact k
theorem am_hp {h' : am_H} (e : h = h') (k : am_G X V cs pc ls st r h') : am_G X V cs pc ls st r h := by rw [e]; exact k
theorem am_stv {st' : List Value} (e : st = st') (k : am_G X V cs pc ls st' r h) : am_G X V cs pc ls st r h := by rw [e]; exact k
theorem am_lsv (e : ls = ls') (k : am_G X V cs pc ls' st r h) : am_G X V cs pc ls st r h := by rw [e]; exact k
theorem am_iconstN {k : Nat} (C : am_C M D MC MS X) (hd : decode M.2.1 pc = .ok (.iconst (k : Int), 1)) (kk : am_G X V cs (pc + 1) ls (.int (nI k) :: st) r h) : am_G X V cs pc ls st r h := am_iconst C hd (am_ofI k) kk
theorem am_iaddN {a b : Nat} (C : am_C M D MC MS X) (hd : decode M.2.1 pc = .ok (.iadd, 1)) (kk : am_G X V cs (pc + 1) ls (.int (nI (a + b)) :: st) r h) : am_G X V cs pc ls (.int (nI b) :: .int (nI a) :: st) r h := am_iadd C hd (by rw [nI_add]; exact kk)
theorem am_isubN {a b : Nat} (C : am_C M D MC MS X) (hd : decode M.2.1 pc = .ok (.isub, 1)) (hab : b ≤ a) (kk : am_G X V cs (pc + 1) ls (.int (nI (a - b)) :: st) r h) : am_G X V cs pc ls (.int (nI b) :: .int (nI a) :: st) r h := am_isub C hd (by rw [pk_sub hab]; exact kk)
theorem am_imulN {a b : Nat} (C : am_C M D MC MS X) (hd : decode M.2.1 pc = .ok (.imul, 1)) (kk : am_G X V cs (pc + 1) ls (.int (nI (a * b)) :: st) r h) : am_G X V cs pc ls (.int (nI b) :: .int (nI a) :: st) r h := am_imul C hd (by rw [pk_mul]; exact kk)
theorem am_idivN {a b : Nat} (C : am_C M D MC MS X) (hd : decode M.2.1 pc = .ok (.idiv, 1)) (ha : a < 2147483648) (h0 : 0 < b) (hb : b < 2147483648) (kk : am_G X V cs (pc + 1) ls (.int (nI (a / b)) :: st) r h) : am_G X V cs pc ls (.int (nI b) :: .int (nI a) :: st) r h := am_idiv C hd (nI_ne0 h0 hb) (by rw [pk_div ha h0 hb]; exact kk)
theorem am_iremN {a b : Nat} (C : am_C M D MC MS X) (hd : decode M.2.1 pc = .ok (.irem, 1)) (ha : a < 2147483648) (h0 : 0 < b) (hb : b < 2147483648) (kk : am_G X V cs (pc + 1) ls (.int (nI (a % b)) :: st) r h) : am_G X V cs pc ls (.int (nI b) :: .int (nI a) :: st) r h := am_irem C hd (nI_ne0 h0 hb) (by rw [pk_rem ha h0 hb]; exact kk)
theorem am_iincN {i : Nat} {n : Int} {a b : Nat} (C : am_C M D MC MS X) (hd : decode M.2.1 pc = .ok (.iinc i n, 3)) (hg : am_get ls i = some (.int (nI a))) (hv : nI a + Int32.ofInt n = nI b) (hn : i < M.2.2.1) (hs : am_set ls i (.int (nI b)) = ls') (k : am_G X V cs (pc + 3) ls' st r h) : am_G X V cs pc ls st r h := am_iinc C hd hg hv hn hs k
theorem am_up1 (a : Nat) : nI a + Int32.ofInt 1 = nI (a + 1) := nI_1 a
theorem am_dn1 (a : Nat) : nI (a + 1) + Int32.ofInt (-1) = nI a := pk_m1 a
theorem am_dn {a : Nat} (h : 0 < a) : nI a + Int32.ofInt (-1) = nI (a - 1) := by
  obtain ⟨b, rfl⟩ : ∃ b, a = b + 1 := ⟨a - 1, by omega⟩
  exact pk_m1 b
theorem am_upk (a k : Nat) : nI a + Int32.ofInt (k : Int) = nI (a + k) := by rw [am_ofI, nI_add]
theorem am_icmp_eqN {a b : Nat} {off : Int} {tgt : Nat} (C : am_C M D MC MS X) (hd : decode M.2.1 pc = .ok (.if_icmp .eq off, 3)) (ht : (pc : Int) + off = (tgt : Int)) (ha : a < 2147483648) (hb : b < 2147483648) (kt : a = b → am_G X V cs tgt ls st r h) (kf : a ≠ b → am_G X V cs (pc + 3) ls st r h) : am_G X V cs pc ls (.int (nI b) :: .int (nI a) :: st) r h :=
  am_icmp_eq C hd ht (fun q => kt ((nI_eq ha hb).mp q)) (fun q => kf (fun e => q ((nI_eq ha hb).mpr e)))
theorem am_icmp_neN {a b : Nat} {off : Int} {tgt : Nat} (C : am_C M D MC MS X) (hd : decode M.2.1 pc = .ok (.if_icmp .ne off, 3)) (ht : (pc : Int) + off = (tgt : Int)) (ha : a < 2147483648) (hb : b < 2147483648) (kt : a ≠ b → am_G X V cs tgt ls st r h) (kf : a = b → am_G X V cs (pc + 3) ls st r h) : am_G X V cs pc ls (.int (nI b) :: .int (nI a) :: st) r h :=
  am_icmp_ne C hd ht (fun q => kt (fun e => q ((nI_eq ha hb).mpr e))) (fun q => kf ((nI_eq ha hb).mp q))
theorem am_icmp_ltN {a b : Nat} {off : Int} {tgt : Nat} (C : am_C M D MC MS X) (hd : decode M.2.1 pc = .ok (.if_icmp .lt off, 3)) (ht : (pc : Int) + off = (tgt : Int)) (ha : a < 2147483648) (hb : b < 2147483648) (kt : a < b → am_G X V cs tgt ls st r h) (kf : b ≤ a → am_G X V cs (pc + 3) ls st r h) : am_G X V cs pc ls (.int (nI b) :: .int (nI a) :: st) r h :=
  am_icmp_lt C hd ht (fun q => kt ((nI_ltI ha hb).mp q)) (fun q => kf (Nat.le_of_not_lt fun e => q ((nI_ltI ha hb).mpr e)))
theorem am_icmp_geN {a b : Nat} {off : Int} {tgt : Nat} (C : am_C M D MC MS X) (hd : decode M.2.1 pc = .ok (.if_icmp .ge off, 3)) (ht : (pc : Int) + off = (tgt : Int)) (ha : a < 2147483648) (hb : b < 2147483648) (kt : b ≤ a → am_G X V cs tgt ls st r h) (kf : a < b → am_G X V cs (pc + 3) ls st r h) : am_G X V cs pc ls (.int (nI b) :: .int (nI a) :: st) r h :=
  am_icmp_ge C hd ht (fun q => kt ((nI_leI hb ha).mp q)) (fun q => kf (Nat.lt_of_not_le fun e => q ((nI_leI hb ha).mpr e)))
theorem am_icmp_gtN {a b : Nat} {off : Int} {tgt : Nat} (C : am_C M D MC MS X) (hd : decode M.2.1 pc = .ok (.if_icmp .gt off, 3)) (ht : (pc : Int) + off = (tgt : Int)) (ha : a < 2147483648) (hb : b < 2147483648) (kt : b < a → am_G X V cs tgt ls st r h) (kf : a ≤ b → am_G X V cs (pc + 3) ls st r h) : am_G X V cs pc ls (.int (nI b) :: .int (nI a) :: st) r h :=
  am_icmp_gt C hd ht (fun q => kt ((nI_ltI hb ha).mp q)) (fun q => kf (Nat.le_of_not_lt fun e => q ((nI_ltI hb ha).mpr e)))
theorem am_icmp_leN {a b : Nat} {off : Int} {tgt : Nat} (C : am_C M D MC MS X) (hd : decode M.2.1 pc = .ok (.if_icmp .le off, 3)) (ht : (pc : Int) + off = (tgt : Int)) (ha : a < 2147483648) (hb : b < 2147483648) (kt : a ≤ b → am_G X V cs tgt ls st r h) (kf : b < a → am_G X V cs (pc + 3) ls st r h) : am_G X V cs pc ls (.int (nI b) :: .int (nI a) :: st) r h :=
  am_icmp_le C hd ht (fun q => kt ((nI_leI ha hb).mp q)) (fun q => kf (Nat.lt_of_not_le fun e => q ((nI_leI ha hb).mpr e)))
theorem am_if_eqN {a : Nat} {off : Int} {tgt : Nat} (C : am_C M D MC MS X) (hd : decode M.2.1 pc = .ok (.ifCond .eq off, 3)) (ht : (pc : Int) + off = (tgt : Int)) (ha : a < 2147483648) (kt : a = 0 → am_G X V cs tgt ls st r h) (kf : 0 < a → am_G X V cs (pc + 3) ls st r h) : am_G X V cs pc ls (.int (nI a) :: st) r h :=
  am_if_eq C hd ht (fun q => kt ((nI_eq ha (by decide)).mp q)) (fun q => kf (Nat.pos_of_ne_zero fun e => q ((nI_eq ha (by decide)).mpr e)))
theorem am_if_neN {a : Nat} {off : Int} {tgt : Nat} (C : am_C M D MC MS X) (hd : decode M.2.1 pc = .ok (.ifCond .ne off, 3)) (ht : (pc : Int) + off = (tgt : Int)) (ha : a < 2147483648) (kt : 0 < a → am_G X V cs tgt ls st r h) (kf : a = 0 → am_G X V cs (pc + 3) ls st r h) : am_G X V cs pc ls (.int (nI a) :: st) r h :=
  am_if_ne C hd ht (fun q => kt (Nat.pos_of_ne_zero fun e => q ((nI_eq ha (by decide)).mpr e))) (fun q => kf ((nI_eq ha (by decide)).mp q))
theorem am_if_geN {a : Nat} {off : Int} {tgt : Nat} (C : am_C M D MC MS X) (hd : decode M.2.1 pc = .ok (.ifCond .ge off, 3)) (ht : (pc : Int) + off = (tgt : Int)) (ha : a < 2147483648) (kt : am_G X V cs tgt ls st r h) : am_G X V cs pc ls (.int (nI a) :: st) r h :=
  am_if_ge C hd ht (fun _ => kt) (fun q => absurd (nI_pos' ha) q)
theorem am_if_ltN {a : Nat} {off : Int} {tgt : Nat} (C : am_C M D MC MS X) (hd : decode M.2.1 pc = .ok (.ifCond .lt off, 3)) (ht : (pc : Int) + off = (tgt : Int)) (ha : a < 2147483648) (kf : am_G X V cs (pc + 3) ls st r h) : am_G X V cs pc ls (.int (nI a) :: st) r h :=
  am_if_lt C hd ht (fun q => absurd q (nI_pos ha)) (fun _ => kf)
theorem am_if_leN {a : Nat} {off : Int} {tgt : Nat} (C : am_C M D MC MS X) (hd : decode M.2.1 pc = .ok (.ifCond .le off, 3)) (ht : (pc : Int) + off = (tgt : Int)) (ha : a < 2147483648) (kt : a = 0 → am_G X V cs tgt ls st r h) (kf : 0 < a → am_G X V cs (pc + 3) ls st r h) : am_G X V cs pc ls (.int (nI a) :: st) r h :=
  am_if_le C hd ht (fun q => kt (by have := (nI_leI ha (by decide : 0 < 2147483648)).mp q; omega)) (fun q => kf (Nat.lt_of_not_le fun e => q ((nI_leI ha (by decide)).mpr e)))
theorem am_if_gtN {a : Nat} {off : Int} {tgt : Nat} (C : am_C M D MC MS X) (hd : decode M.2.1 pc = .ok (.ifCond .gt off, 3)) (ht : (pc : Int) + off = (tgt : Int)) (ha : a < 2147483648) (kt : 0 < a → am_G X V cs tgt ls st r h) (kf : a = 0 → am_G X V cs (pc + 3) ls st r h) : am_G X V cs pc ls (.int (nI a) :: st) r h :=
  am_if_gt C hd ht (fun q => kt ((nI_ltI (by decide) ha).mp q)) (fun q => kf (Nat.eq_zero_of_not_pos fun e => q ((nI_ltI (by decide) ha).mpr e)))
theorem am_if_eqB {b : Bool} {off : Int} {tgt : Nat} (C : am_C M D MC MS X) (hd : decode M.2.1 pc = .ok (.ifCond .eq off, 3)) (ht : (pc : Int) + off = (tgt : Int)) (kt : b = false → am_G X V cs tgt ls st r h) (kf : b = true → am_G X V cs (pc + 3) ls st r h) : am_G X V cs pc ls (.int (am_b b) :: st) r h :=
  am_if_eq C hd ht (fun q => kt ((am_b_0 b).mp q)) (fun q => kf (by cases b <;> first | rfl | exact absurd rfl q))
theorem am_if_neB {b : Bool} {off : Int} {tgt : Nat} (C : am_C M D MC MS X) (hd : decode M.2.1 pc = .ok (.ifCond .ne off, 3)) (ht : (pc : Int) + off = (tgt : Int)) (kt : b = true → am_G X V cs tgt ls st r h) (kf : b = false → am_G X V cs (pc + 3) ls st r h) : am_G X V cs pc ls (.int (am_b b) :: st) r h :=
  am_if_ne C hd ht (fun q => kt (by cases b <;> first | rfl | exact absurd rfl q)) (fun q => kf ((am_b_0 b).mp q))
theorem am_callVi {Y : am_M} {b ci : Nat} {n d ix : Nat} {As : List Value} {x : Int32} (C : am_C M D MC MS X) (hd : decode M.2.1 pc = .ok (.invokevirtual ix, 3)) (hl : Cond.methodLink M.1.cls ix Y.1 ∈ am_GW) (hY : am_IV Y n) (hst : st0 = As.reverse ++ .ref b :: st) (hn : As.length = n) (hb : b < V.2.1) (hs : V.2.2 b = (0, ci)) (hci : ci < 13 ∧ (am_cl ci).1 = Y.1.cls) (hD : d + 1 ≤ D) (c1 : cs.1 ≤ MC) (c2 : cs.2 ≤ MS) (h8 : (st.map fun v => v.category).sum ≤ 8)
    (hct : am_CM Y d 0 0 (.ref b :: As) V r h (am_po (some (.int x)) r2 h2)) (k : am_G X V cs (pc + 3) ls (.int x :: st) r2 h2) : am_G X V cs pc ls st0 r h :=
  am_callV C hd hl hY hst hn hb hs hci hD c1 c2 h8 hct (fun v r' h' hq => by obtain ⟨rfl, rfl, rfl⟩ := hq; exact k)
theorem am_callVv {Y : am_M} {b ci : Nat} {n d ix : Nat} {As : List Value} (C : am_C M D MC MS X) (hd : decode M.2.1 pc = .ok (.invokevirtual ix, 3)) (hl : Cond.methodLink M.1.cls ix Y.1 ∈ am_GW) (hY : am_IV Y n) (hst : st0 = As.reverse ++ .ref b :: st) (hn : As.length = n) (hb : b < V.2.1) (hs : V.2.2 b = (0, ci)) (hci : ci < 13 ∧ (am_cl ci).1 = Y.1.cls) (hD : d + 1 ≤ D) (c1 : cs.1 ≤ MC) (c2 : cs.2 ≤ MS) (h8 : (st.map fun v => v.category).sum ≤ 8)
    (hct : am_CM Y d 0 0 (.ref b :: As) V r h (am_po none r2 h2)) (k : am_G X V cs (pc + 3) ls (st) r2 h2) : am_G X V cs pc ls st0 r h :=
  am_callV C hd hl hY hst hn hb hs hci hD c1 c2 h8 hct (fun v r' h' hq => by obtain ⟨rfl, rfl, rfl⟩ := hq; exact k)
theorem am_callSi {Y : am_M} {n d ix : Nat} {As : List Value} {x : Int32} (C : am_C M D MC MS X) (hd : decode M.2.1 pc = .ok (.invokestatic ix, 3)) (hl : Cond.methodLink M.1.cls ix Y.1 ∈ am_GW) (hY : am_IS Y n) (hst : st0 = As.reverse ++ st) (hn : As.length = n) (hD : d + 1 ≤ D) (c1 : cs.1 ≤ MC) (c2 : cs.2 ≤ MS) (h8 : (st.map fun v => v.category).sum ≤ 8)
    (hct : am_CM Y d 0 0 As V r h (am_po (some (.int x)) r2 h2)) (k : am_G X V cs (pc + 3) ls (.int x :: st) r2 h2) : am_G X V cs pc ls st0 r h :=
  am_callS C hd hl hY hst hn hD c1 c2 h8 hct (fun v r' h' hq => by obtain ⟨rfl, rfl, rfl⟩ := hq; exact k)
theorem am_callSv {Y : am_M} {n d ix : Nat} {As : List Value} (C : am_C M D MC MS X) (hd : decode M.2.1 pc = .ok (.invokestatic ix, 3)) (hl : Cond.methodLink M.1.cls ix Y.1 ∈ am_GW) (hY : am_IS Y n) (hst : st0 = As.reverse ++ st) (hn : As.length = n) (hD : d + 1 ≤ D) (c1 : cs.1 ≤ MC) (c2 : cs.2 ≤ MS) (h8 : (st.map fun v => v.category).sum ≤ 8)
    (hct : am_CM Y d 0 0 As V r h (am_po none r2 h2)) (k : am_G X V cs (pc + 3) ls (st) r2 h2) : am_G X V cs pc ls st0 r h :=
  am_callS C hd hl hY hst hn hD c1 c2 h8 hct (fun v r' h' hq => by obtain ⟨rfl, rfl, rfl⟩ := hq; exact k)
theorem am_callSNi {Y : am_M} {host : String} {n d ix : Nat} {As : List Value} {x : Int32} (C : am_C M D MC MS X) (hd : decode M.2.1 pc = .ok (.invokestatic ix, 3)) (hl : Cond.methodLinkNest M.1.cls ix Y.1 host ∈ am_NW) (hY : am_IS Y n) (hst : st0 = As.reverse ++ st) (hn : As.length = n) (hD : d + 1 ≤ D) (c1 : cs.1 ≤ MC) (c2 : cs.2 ≤ MS) (h8 : (st.map fun v => v.category).sum ≤ 8)
    (hct : am_CM Y d 0 0 As V r h (am_po (some (.int x)) r2 h2)) (k : am_G X V cs (pc + 3) ls (.int x :: st) r2 h2) : am_G X V cs pc ls st0 r h :=
  am_callSN C hd hl hY hst hn hD c1 c2 h8 hct (fun v r' h' hq => by obtain ⟨rfl, rfl, rfl⟩ := hq; exact k)
theorem am_callSNv {Y : am_M} {host : String} {n d ix : Nat} {As : List Value} (C : am_C M D MC MS X) (hd : decode M.2.1 pc = .ok (.invokestatic ix, 3)) (hl : Cond.methodLinkNest M.1.cls ix Y.1 host ∈ am_NW) (hY : am_IS Y n) (hst : st0 = As.reverse ++ st) (hn : As.length = n) (hD : d + 1 ≤ D) (c1 : cs.1 ≤ MC) (c2 : cs.2 ≤ MS) (h8 : (st.map fun v => v.category).sum ≤ 8)
    (hct : am_CM Y d 0 0 As V r h (am_po none r2 h2)) (k : am_G X V cs (pc + 3) ls (st) r2 h2) : am_G X V cs pc ls st0 r h :=
  am_callSN C hd hl hY hst hn hD c1 c2 h8 hct (fun v r' h' hq => by obtain ⟨rfl, rfl, rfl⟩ := hq; exact k)
/-- the end of a method that answers as said -/
theorem am_ireti {mc ms : Nat} {x y : Int32} {r2 : am_R} {h2 : am_H} (T : am_T M X V mc ms (am_po (some (.int y)) r2 h2)) (hd : decode M.2.1 pc = .ok (.ireturn, 1)) (hr : M.2.2.2 = some .int) (h1 : cs.1 ≤ mc) (h2' : cs.2 ≤ ms) (e : x = y) (er : r = r2) (eh : h = h2) : am_G X V cs pc ls [.int x] r h := am_iret T hd hr rfl h1 h2' ⟨by rw [e], er, eh⟩
theorem am_iretb {mc ms : Nat} {x : Int32} {b : Bool} {r2 : am_R} {h2 : am_H} (T : am_T M X V mc ms (am_po (some (.int (am_b b))) r2 h2)) (hd : decode M.2.1 pc = .ok (.ireturn, 1)) (hr : M.2.2.2 = some .boolean) (h1 : cs.1 ≤ mc) (h2' : cs.2 ≤ ms) (e : x = am_b b) (er : r = r2) (eh : h = h2) : am_G X V cs pc ls [.int x] r h := am_iret T hd hr (by rw [e]; exact am_b_nar b) h1 h2' ⟨by rw [e], er, eh⟩
theorem am_vretv {mc ms : Nat} {r2 : am_R} {h2 : am_H} (T : am_T M X V mc ms (am_po none r2 h2)) (hd : decode M.2.1 pc = .ok (.return_, 1)) (hr : M.2.2.2 = none) (h1 : cs.1 ≤ mc) (h2' : cs.2 ≤ ms) (er : r = r2) (eh : h = h2) : am_G X V cs pc ls [] r h := am_vret T hd hr h1 h2' ⟨rfl, er, eh⟩
end AMN
