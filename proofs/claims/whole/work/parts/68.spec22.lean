/-! THE CLASS'S TALK: crowds by hour and place against the reference's hearing -/
section SPEC22
/-- one's way written into the crowds -/
def cl_fw (w : rf_W) (s : Nat) (f : Nat → Int32) : Nat → Nat → Int32
  | 0 => f
  | n + 1 => upd (cl_fw w s f n) (n * 8 + rf_p2n w s n) (cl_fw w s f n (n * 8 + rf_p2n w s n) ||| (nI 1 <<< (nI s &&& 31)))
/-- all ways of a team written into the crowds -/
def cl_fc (w : rf_W) (team : Int32) (H : Nat) (f : Nat → Int32) : Nat → Nat → Int32
  | 0 => f
  | s + 1 => if am_bt team s = true then cl_fw w s (cl_fc w team H f s) (H + 1) else cl_fc w team H f s
/-- who has heard behind the first p places of an hour -/
def cl_hi (f : Nat → Int32) (hr : Nat) (heard silent : Int32) : Nat → Int32
  | 0 => heard
  | p + 1 => if f (hr * 8 + p) &&& heard &&& (silent ^^^ (-1)) = 0 then cl_hi f hr heard silent p else cl_hi f hr heard silent p ||| f (hr * 8 + p)
/-- who has heard behind n hours -/
def cl_hg (f : Nat → Int32) (first silent : Int32) : Nat → Int32
  | 0 => first
  | n + 1 => cl_hi f n (cl_hg f first silent n) silent 8
theorem cl_fw_at {w : rf_W} {s : Nat} {f : Nat → Int32} (h8 : ∀ n, rf_p2n w s n < 8) : ∀ n k, cl_fw w s f n k = if k / 8 < n ∧ k % 8 = rf_p2n w s (k / 8) then f k ||| (nI 1 <<< (nI s &&& 31)) else f k
  | 0, k => by rw [if_neg (by omega)]; rfl
  | n + 1, k => by
    have ih := cl_fw_at (w := w) (s := s) (f := f) h8 n
    have hp := h8 n
    rw [cl_fw]
    by_cases e : k = n * 8 + rf_p2n w s n
    · have e1 : k / 8 = n := by omega
      have e2 : k % 8 = rf_p2n w s n := by omega
      rw [← e, rf_upd_eq, ih k, e1, if_neg (by omega), if_pos ⟨by omega, e2⟩]
    · rw [rf_upd_ne e, ih k]
      by_cases hc : k / 8 < n ∧ k % 8 = rf_p2n w s (k / 8)
      · rw [if_pos hc, if_pos ⟨by omega, hc.2⟩]
      · rw [if_neg hc, if_neg (fun z => hc ⟨by
          rcases Nat.lt_or_ge (k / 8) n with q | q
          · exact q
          · have e3 : k / 8 = n := by omega
            have := z.2
            rw [e3] at this
            omega, z.2⟩)]
theorem rf_p2n_lt {w : rf_W} (hI : rf_I w) {s : Nat} (hs : s < rf_S w) (n : Nat) : rf_p2n w s n < 8 := (rf_pl2_n (hI.2.1 s hs)).2
theorem rf_side_lt {w : rf_W} (hI : rf_I w) {d : Int32} {s : Nat} (hs : s < 32) (h : am_bt (rf_sideOf w d) s = true) : s < rf_S w ∧ rf_of w s 0 = d := by
  have hS : rf_S w < 11 := hI.1.2.1.2
  rw [rf_sideOf, rf_set_bt hs _ (by omega), Bool.and_eq_true, decide_eq_true_eq, decide_eq_true_eq] at h
  exact h
theorem rf_side_bt {w : rf_W} (hI : rf_I w) {d : Int32} {s : Nat} (hs : s < rf_S w) (h : rf_of w s 0 = d) : am_bt (rf_sideOf w d) s = true := by
  have hS : rf_S w < 11 := hI.1.2.1.2
  rw [rf_sideOf, rf_set_bt (by omega) _ (by omega), decide_eq_true hs, decide_eq_true h]; rfl
theorem cl_fc_at {w : rf_W} (hI : rf_I w) {d : Int32} {H k : Nat} {f : Nat → Int32} (hk : k < (H + 1) * 8) (h0 : f k = nI 0) : ∀ n, n ≤ 32 → cl_fc w (rf_sideOf w d) H f n k = rf_set (fun s => am_bt (rf_sideOf w d) s && decide (rf_p2n w s (k / 8) = k % 8)) n
  | 0, _ => h0
  | n + 1, hn => by
    have ih := cl_fc_at hI (d := d) hk h0 n (by omega)
    rw [cl_fc, rf_set]
    by_cases hb : am_bt (rf_sideOf w d) n = true
    · have hs := (rf_side_lt hI (by omega) hb).1
      rw [if_pos hb, cl_fw_at (rf_p2n_lt hI hs), ih, hb, Bool.true_and]
      by_cases hc : rf_p2n w n (k / 8) = k % 8
      · rw [if_pos ⟨by omega, hc.symm⟩, decide_eq_true hc, if_pos rfl]
      · rw [if_neg (fun z => hc z.2.symm), decide_eq_false hc, if_neg Bool.false_ne_true, rf_or_n0]
    · rw [if_neg hb, ih, Bool.eq_false_iff.mpr hb, Bool.false_and, if_neg Bool.false_ne_true, rf_or_n0]
theorem cl_hi_bt {f : Nat → Int32} {hr : Nat} {heard silent : Int32} {j : Nat} : ∀ n, am_bt (cl_hi f hr heard silent n) j = true ↔ am_bt heard j = true ∨ ∃ p, p < n ∧ am_bt (f (hr * 8 + p)) j = true ∧ ∃ i, i < 32 ∧ am_bt (f (hr * 8 + p)) i = true ∧ am_bt heard i = true ∧ am_bt silent i = false
  | 0 => by
    rw [cl_hi]
    exact ⟨Or.inl, fun h => h.elim id (fun ⟨p, hp, _⟩ => absurd hp (by omega))⟩
  | n + 1 => by
    have ih := cl_hi_bt (f := f) (hr := hr) (heard := heard) (silent := silent) (j := j) n
    have h0 : (f (hr * 8 + n) &&& heard &&& (silent ^^^ (-1)) = 0) ↔ ¬ ∃ i, i < 32 ∧ am_bt (f (hr * 8 + n)) i = true ∧ am_bt heard i = true ∧ am_bt silent i = false := by
      rw [am_eq0]
      constructor
      · rintro h ⟨i, hi, h1, h2, h3⟩
        have := h i hi
        rw [am_bt_and, am_bt_and, am_bt_not hi, h1, h2, h3] at this
        exact absurd this (by decide)
      · intro h i hi
        rw [am_bt_and, am_bt_and, am_bt_not hi]
        cases h1 : am_bt (f (hr * 8 + n)) i <;> cases h2 : am_bt heard i <;> cases h3 : am_bt silent i <;> first | rfl | exact absurd ⟨i, hi, h1, h2, h3⟩ h
    rw [cl_hi]
    split
    · rename_i hc
      rw [ih]
      constructor
      · rintro (h | ⟨p, hp, h⟩)
        · exact Or.inl h
        · exact Or.inr ⟨p, by omega, h⟩
      · rintro (h | ⟨p, hp, h⟩)
        · exact Or.inl h
        · by_cases e : p = n
          · subst e; exact absurd h.2 (h0.mp hc)
          · exact Or.inr ⟨p, by omega, h⟩
    · rename_i hc
      have hex := Classical.not_not.mp (fun z => hc (h0.mpr z))
      rw [am_bt_or, Bool.or_eq_true, ih]
      constructor
      · rintro ((h | ⟨p, hp, h⟩) | h)
        · exact Or.inl h
        · exact Or.inr ⟨p, by omega, h⟩
        · exact Or.inr ⟨n, by omega, h, hex⟩
      · rintro (h | ⟨p, hp, h⟩)
        · exact Or.inl (Or.inl h)
        · by_cases e : p = n
          · subst e; exact Or.inr h.1
          · exact Or.inl (Or.inr ⟨p, by omega, h⟩)
theorem rf_pls_bt {w : rf_W} {talk : Int32} {h : Nat} {p : Nat} (hp : p < 32) : ∀ n, (∀ s, s < n → rf_p2n w s h < 32) → (am_bt (rf_pls w talk h n) p = true ↔ ∃ s, s < n ∧ am_bt talk s = true ∧ rf_p2n w s h = p)
  | 0, _ => by
    rw [rf_pls, am_bt_n0]
    exact ⟨fun z => absurd z Bool.false_ne_true, fun ⟨s, hs, _⟩ => absurd hs (by omega)⟩
  | n + 1, hl => by
    have ih := rf_pls_bt (w := w) (talk := talk) (h := h) hp n (fun s hs => hl s (by omega))
    rw [rf_pls, am_bt_or, Bool.or_eq_true, ih]
    have hln := hl n (by omega)
    constructor
    · rintro (⟨s, hs, h1⟩ | h1)
      · exact ⟨s, by omega, h1⟩
      · by_cases hb : am_bt talk n = true
        · rw [if_pos hb, am_bt_1 hln hp, decide_eq_true_eq] at h1
          exact ⟨n, by omega, hb, h1.symm⟩
        · rw [if_neg hb, am_bt_n0] at h1
          exact absurd h1 Bool.false_ne_true
    · rintro ⟨s, hs, h1, h2⟩
      by_cases e : s = n
      · subst e
        refine Or.inr ?_
        rw [if_pos h1, am_bt_1 hln hp, decide_eq_true_eq]
        exact h2.symm
      · exact Or.inl ⟨s, by omega, h1, h2⟩
theorem rf_hd_bt {w : rf_W} {side places heard : Int32} {h j : Nat} (hj : j < 32) : ∀ n, n ≤ 32 → (am_bt (rf_hd w side places heard h n) j = true ↔ am_bt heard j = true ∨ (j < n ∧ rf_of w j 0 = side ∧ am_bt places (rf_p2n w j h) = true))
  | 0, _ => by
    rw [rf_hd]
    exact ⟨Or.inl, fun h => h.elim id (fun z => absurd z.1 (by omega))⟩
  | n + 1, hn => by
    have ih := rf_hd_bt (w := w) (side := side) (places := places) (heard := heard) (h := h) hj n (by omega)
    rw [rf_hd, am_bt_or, Bool.or_eq_true, ih]
    constructor
    · rintro ((h1 | h1) | h1)
      · exact Or.inl h1
      · exact Or.inr ⟨by omega, h1.2⟩
      · split at h1
        · rename_i hc
          rw [am_bt_1 (by omega) hj, decide_eq_true_eq] at h1
          subst h1
          exact Or.inr ⟨by omega, hc⟩
        · rw [am_bt_n0] at h1; exact absurd h1 Bool.false_ne_true
    · rintro (h1 | ⟨h1, h2⟩)
      · exact Or.inl (Or.inl h1)
      · by_cases e : j = n
        · subst e
          refine Or.inr ?_
          rw [if_pos h2, am_bt_1 (by omega) hj]
          exact decide_eq_true rfl
        · exact Or.inl (Or.inr ⟨by omega, h2⟩)
section
variable {w : rf_W}
theorem rf_hd_sub (hI : rf_I w) {d places heard : Int32} {h : Nat} (hs : rf_sub heard (rf_sideOf w d)) : rf_sub (rf_hd w d places heard h (rf_S w)) (rf_sideOf w d) := fun j hj hb => by
  have hS : rf_S w < 11 := hI.1.2.1.2
  rcases (rf_hd_bt hj _ (by omega)).mp hb with h1 | ⟨h1, h2, -⟩
  · exact hs j hj h1
  · exact rf_side_bt hI h1 h2
theorem rf_hr_sub (hI : rf_I w) {first d silent : Int32} (hs : rf_sub first (rf_sideOf w d)) : ∀ n, rf_sub (rf_hr w first d silent n) (rf_sideOf w d)
  | 0 => hs
  | n + 1 => rf_hd_sub hI (rf_hr_sub hI hs n)
theorem rf_hr_grow (hI : rf_I w) {first d silent : Int32} {n : Nat} : ∀ m, n ≤ m → rf_sub (rf_hr w first d silent n) (rf_hr w first d silent m)
  | 0, h => by rw [show n = 0 by omega]; exact fun _ _ h => h
  | m + 1, h => by
    by_cases e : n = m + 1
    · rw [e]; exact fun _ _ h => h
    · have ih := rf_hr_grow hI (first := first) (d := d) (silent := silent) (n := n) m (by omega)
      have hS : rf_S w < 11 := hI.1.2.1.2
      exact fun j hj hb => (rf_hd_bt hj _ (by omega)).mpr (Or.inl (ih j hj hb))
theorem rf_sub_eq {x y : Int32} (h1 : rf_sub x y) (h2 : rf_sub y x) : x = y := am_ext (fun j hj => Bool.eq_iff_iff.mpr ⟨h1 j hj, h2 j hj⟩)
/-- when all of the side have heard it stays so -/
theorem rf_hr_all (hI : rf_I w) {first d silent : Int32} (hs : rf_sub first (rf_sideOf w d)) {n m : Nat} (hnm : n ≤ m) (h : rf_hr w first d silent n = rf_sideOf w d) : rf_hr w first d silent m = rf_sideOf w d := by
  refine rf_sub_eq (rf_hr_sub hI hs m) ?_
  rw [← h]
  exact rf_hr_grow hI m hnm
theorem cl_hi_hd (hI : rf_I w) {d heard silent : Int32} {H hr : Nat} {f : Nat → Int32} (hf : ∀ k, k < (H + 1) * 8 → f k = nI 0) (hh : hr ≤ H) (hs : rf_sub heard (rf_sideOf w d)) : cl_hi (cl_fc w (rf_sideOf w d) H f 10) hr heard silent 8 = rf_hd w d (rf_pls w (heard &&& (silent ^^^ (-1))) hr (rf_S w)) heard hr (rf_S w) := by
  have hS : rf_S w < 11 := hI.1.2.1.2
  have hrow : ∀ p, p < 8 → ∀ i, i < 32 → (am_bt (cl_fc w (rf_sideOf w d) H f 10 (hr * 8 + p)) i = true ↔ am_bt (rf_sideOf w d) i = true ∧ rf_p2n w i hr = p) := fun p hp i hi => by
    have hk : hr * 8 + p < (H + 1) * 8 := by omega
    rw [cl_fc_at hI hk (hf _ hk) 10 (by omega), show (hr * 8 + p) / 8 = hr by omega, show (hr * 8 + p) % 8 = p by omega, rf_set_bt hi _ (by omega), Bool.and_eq_true, Bool.and_eq_true, decide_eq_true_eq, decide_eq_true_eq]
    constructor
    · rintro ⟨-, h⟩; exact h
    · intro h
      have := (rf_side_lt hI hi h.1).1
      exact ⟨by omega, h⟩
  refine am_ext (fun j hj => ?_)
  rw [Bool.eq_iff_iff, cl_hi_bt, rf_hd_bt hj _ (by omega)]
  constructor
  · rintro (h | ⟨p, hp, h1, i, hi, h2, h3, h4⟩)
    · exact Or.inl h
    · obtain ⟨a1, a2⟩ := (hrow p hp j hj).mp h1
      obtain ⟨b1, b2⟩ := (hrow p hp i hi).mp h2
      obtain ⟨c1, c2⟩ := rf_side_lt hI hj a1
      refine Or.inr ⟨c1, c2, (rf_pls_bt (by omega) _ (fun s hs => by have := rf_p2n_lt hI hs hr; omega)).mpr ⟨i, (rf_side_lt hI hi b1).1, ?_, by omega⟩⟩
      rw [am_bt_and, am_bt_not hi, h3, h4]; rfl
  · rintro (h | ⟨h1, h2, h3⟩)
    · exact Or.inl h
    · have hp := rf_p2n_lt hI h1 hr
      obtain ⟨i, hi, h4, h5⟩ := (rf_pls_bt (by omega) _ (fun s hs => by have := rf_p2n_lt hI hs hr; omega)).mp h3
      rw [am_bt_and, am_bt_not (by omega), Bool.and_eq_true, Bool.not_eq_true'] at h4
      exact Or.inr ⟨_, hp, (hrow _ hp j hj).mpr ⟨rf_side_bt hI h1 h2, rfl⟩, i, by omega, (hrow _ hp i (by omega)).mpr ⟨hs i (by omega) h4.1, h5⟩, h4⟩
theorem cl_z_0 {f : Nat → Int32} {n : Nat} : ∀ k, k < n → cl_z f n k = nI 0 := fun k hk => by rw [cl_z_at, if_pos hk]
theorem cl_hg_hr (hI : rf_I w) {d first silent : Int32} {H : Nat} {f : Nat → Int32} (hf : ∀ k, k < (H + 1) * 8 → f k = nI 0) (hs : rf_sub first (rf_sideOf w d)) : ∀ n, n ≤ H + 1 → cl_hg (cl_fc w (rf_sideOf w d) H f 10) first silent n = rf_hr w first d silent n
  | 0, _ => rfl
  | n + 1, hn => by
    rw [cl_hg, cl_hg_hr hI hf hs n (by omega), cl_hi_hd hI hf (by omega) (rf_hr_sub hI hs n), rf_hr]
/-- the class's fewest silent after n -/
def cl_bm (w : rf_W) (first d all : Int32) (n : Nat) : Int32 := if rf_mu w first d all n < 0 then all else rf_mu w first d all n
theorem rf_side_lo (hI : rf_I w) {d : Int32} : am_lo (rf_sideOf w d) 10 := by
  have hS : rf_S w < 11 := hI.1.2.1.2
  exact am_lo_mono (rf_set_lo (by omega)) (by omega)
theorem rf_mu_sub {first d all : Int32} : ∀ n, n ≤ 65536 → rf_mu w first d all n = -2 ∨ (∃ a, a < n ∧ rf_mu w first d all n = nI a ∧ rf_sub (nI a) all)
  | 0, _ => Or.inl rfl
  | n + 1, hn => by
    rw [rf_mu]
    split
    · rename_i hc; exact Or.inr ⟨n, by omega, rfl, rf_sub_iff.mp hc.1⟩
    · rcases rf_mu_sub (first := first) (d := d) (all := all) n (by omega) with h | ⟨a, h1, h2⟩
      · exact Or.inl h
      · exact Or.inr ⟨a, by omega, h2⟩
theorem cl_bm_sub {first d all : Int32} {n : Nat} (hn : n ≤ 65536) : rf_sub (cl_bm w first d all n) all := by
  rw [cl_bm]
  rcases rf_mu_sub (w := w) (first := first) (d := d) (all := all) n hn with h | ⟨a, h1, h2, h3⟩
  · rw [h, if_pos (by decide)]; exact fun _ _ h => h
  · rw [h2, if_neg (by rw [show (0 : Int32) = nI 0 from rfl, nI_ltI (by omega) (by omega)]; omega)]; exact h3
theorem cl_bm_step (hI : rf_I w) {first d : Int32} {i : Nat} (hi : i < rf_nat (rf_sideOf w d)) : cl_bm w first d (rf_sideOf w d) (i + 1) = if nI i &&& (rf_sideOf w d ^^^ (-1)) = 0 ∧ rf_pc (nI i) < rf_pc (cl_bm w first d (rf_sideOf w d) i) ∧ rf_hr w first d (nI i) 13 ≠ rf_sideOf w d then nI i else cl_bm w first d (rf_sideOf w d) i := by
  have ha16 : am_lo (rf_sideOf w d) 16 := am_lo_mono (rf_side_lo hI) (by omega)
  have han := am_lo_n (k := 16) (by decide) ha16
  have han2 : rf_nat (rf_sideOf w d) < 65536 := han.2
  have hge : ∀ a, a < 65536 → ¬ nI a < 0 := fun a ha => by
    rw [show (0 : Int32) = nI 0 from rfl, nI_ltI (by omega) (by omega)]; omega
  rcases rf_mu_sub (w := w) (first := first) (d := d) (all := rf_sideOf w d) i (by omega) with h | ⟨a, h1, h2, h3⟩
  · have e1 : cl_bm w first d (rf_sideOf w d) i = rf_sideOf w d := by rw [cl_bm, h, if_pos (by decide)]
    rw [e1]
    by_cases hc : nI i &&& (rf_sideOf w d ^^^ (-1)) = 0 ∧ rf_hr w first d (nI i) 13 ≠ rf_sideOf w d
    · have hlt : rf_pc (nI i) < rf_pc (rf_sideOf w d) := by
        have hsb := rf_sub_iff.mp hc.1
        have h16 := rf_sub_lo hsb ha16
        rw [rf_pc_bc h16, rf_pc_bc ha16]
        have b1 := rf_bc_le (rf_sideOf w d)
        have b2 := rf_bc_sub hsb
        rw [nI_ltI (by omega) (by omega)]
        rcases Nat.lt_or_ge (rf_bc (nI i)) (rf_bc (rf_sideOf w d)) with q | q
        · exact q
        · have := rf_bc_eq ha16 hsb (by omega)
          have hi2 : i < 65536 := by omega
          rw [← this, rf_nat_nI (by omega)] at hi
          omega
      have hm := rf_mu_yes (w := w) (first := first) (side := d) (all := rf_sideOf w d) (i := i) ⟨hc.1, Or.inl (by rw [h]; decide), hc.2⟩
      rw [cl_bm, hm, if_neg (hge i (by omega)), if_pos ⟨hc.1, hlt, hc.2⟩]
    · have hm := rf_mu_no (w := w) (first := first) (side := d) (all := rf_sideOf w d) (i := i) (fun z => hc ⟨z.1, z.2.2⟩)
      rw [cl_bm, hm, h, if_pos (show (-2 : Int32) < 0 by decide), if_neg (fun z => hc ⟨z.1, z.2.2⟩)]
  · have e1 : cl_bm w first d (rf_sideOf w d) i = nI a := by rw [cl_bm, h2, if_neg (hge a (by omega))]
    rw [e1]
    by_cases hc : nI i &&& (rf_sideOf w d ^^^ (-1)) = 0 ∧ rf_pc (nI i) < rf_pc (nI a) ∧ rf_hr w first d (nI i) 13 ≠ rf_sideOf w d
    · have hm := rf_mu_yes (w := w) (first := first) (side := d) (all := rf_sideOf w d) (i := i) ⟨hc.1, Or.inr (by rw [h2]; exact hc.2.1), hc.2.2⟩
      rw [cl_bm, hm, if_neg (hge i (by omega)), if_pos hc]
    · have hm := rf_mu_no (w := w) (first := first) (side := d) (all := rf_sideOf w d) (i := i) (fun z => hc ⟨z.1, z.2.1.elim (fun q => absurd q (by rw [h2]; exact hge a (by omega))) (fun q => by rw [h2] at q; exact q), z.2.2⟩)
      rw [cl_bm, hm, h2, if_neg (hge a (by omega)), if_neg hc]
/-- silent, all of them: nobody hears -/
theorem rf_hr_mute (hI : rf_I w) {first d : Int32} (hs : rf_sub first (rf_sideOf w d)) : ∀ n, rf_hr w first d (rf_sideOf w d) n = first
  | 0 => rfl
  | n + 1 => by
    have hS : rf_S w < 11 := hI.1.2.1.2
    rw [rf_hr, rf_hr_mute hI hs n]
    have h0 : first &&& (rf_sideOf w d ^^^ (-1)) = 0 := rf_sub_iff.mpr hs
    rw [h0]
    refine am_ext (fun j hj => ?_)
    rw [Bool.eq_iff_iff, rf_hd_bt hj _ (by omega)]
    refine ⟨fun h => h.elim id (fun ⟨h1, _, h3⟩ => ?_), Or.inl⟩
    have hp := rf_p2n_lt hI h1 n
    obtain ⟨i, -, h4, -⟩ := (rf_pls_bt (by omega) _ (fun s hs => by have := rf_p2n_lt hI hs n; omega)).mp h3
    rw [am_bt_0] at h4
    exact absurd h4 Bool.false_ne_true
theorem cl_bm_mu (hI : rf_I w) {first d : Int32} (hs : rf_sub first (rf_sideOf w d)) (hne : first ≠ rf_sideOf w d) : rf_mu w first d (rf_sideOf w d) (rf_nat (rf_sideOf w d) + 1) = cl_bm w first d (rf_sideOf w d) (rf_nat (rf_sideOf w d)) := by
  have ha16 : am_lo (rf_sideOf w d) 16 := am_lo_mono (rf_side_lo hI) (by omega)
  have han := am_lo_n (k := 16) (by decide) ha16
  have han2 : rf_nat (rf_sideOf w d) < 65536 := han.2
  have hge : ∀ a, a < 65536 → ¬ nI a < 0 := fun a ha => by
    rw [show (0 : Int32) = nI 0 from rfl, nI_ltI (by omega) (by omega)]; omega
  rcases rf_mu_sub (w := w) (first := first) (d := d) (all := rf_sideOf w d) (rf_nat (rf_sideOf w d)) (by omega) with h | ⟨a, h1, h2, h3⟩
  · rw [cl_bm, h, if_pos (show (-2 : Int32) < 0 by decide)]
    rw [rf_mu_yes ⟨by rw [← han.1]; exact rf_sub_iff.mpr (fun _ _ h => h), Or.inl (by rw [h]; decide), by rw [← han.1, rf_hr_mute hI hs]; exact hne⟩]
    exact han.1.symm
  · rw [cl_bm, h2, if_neg (hge a (by omega)), rf_mu_no (fun z => ?_), h2]
    rw [h2, ← han.1] at z
    rcases z.2.1 with q | q
    · exact hge a (by omega) q
    · rw [rf_pc_bc (rf_sub_lo h3 ha16), rf_pc_bc ha16] at q
      have b1 := rf_bc_le (nI a)
      have b2 := rf_bc_le (rf_sideOf w d)
      have b3 := rf_bc_sub h3
      rw [nI_ltI (by omega) (by omega)] at q
      omega
/-- when all have heard at first nobody need be silent -/
theorem rf_mu_all (hI : rf_I w) {d : Int32} : ∀ n, rf_mu w (rf_sideOf w d) d (rf_sideOf w d) n = -2
  | 0 => rfl
  | n + 1 => by
    rw [rf_mu, if_neg (fun z => z.2.2 (rf_hr_all hI (fun _ _ h => h) (Nat.zero_le 13) rfl)), rf_mu_all hI n]
end
end SPEC22
