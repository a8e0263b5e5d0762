/-! WHAT STAYS TRUE of the reference's world -/
section INV
theorem rf_n_congr {x y : Int32} {b : Nat} (e : x = y) (h : rf_n y b) : rf_n x b := by rw [e]; exact h
theorem rf_n_mk {n b : Nat} (h : n < b) (hb : b < 2147483648) : rf_n (nI n) b := by
  have e : rf_nat (nI n) = n := rf_nat_nI (by omega)
  exact ⟨by rw [e], by rw [e]; exact h⟩
theorem rf_Is_congr {w w' : rf_W} {s : Nat} (h : ∀ k, k < 23 → rf_of w' s k = rf_of w s k) (hM : rf_M w' = rf_M w) (hs : rf_Is w s) : rf_Is w' s := by
  obtain ⟨h0, h2, h1, hw, h9, hl, hd, hb⟩ := hs
  have e2 : rf_ofn w' s 2 = rf_ofn w s 2 := by rw [rf_ofn, rf_ofn, h 2 (by omega)]
  have ek : rf_kn w' s = rf_kn w s := by rw [rf_kn, rf_kn, rf_ofn, rf_ofn, h 9 (by omega)]
  have hk : rf_kn w s < 13 := h9.2
  have hn : rf_ofn w s 2 < 7 := h2.2
  have el : ∀ k, k < rf_kn w s → rf_li w' s k = rf_li w s k := fun k hk' => by rw [rf_li, rf_li, rf_ofn, rf_ofn, h (10 + k) (by omega)]
  refine ⟨rf_n_congr (h 0 (by omega)) h0, rf_n_congr (h 2 (by omega)) h2, ?_, fun j hj => ?_, rf_n_congr (h 9 (by omega)) h9, fun k hk' => ?_, fun j k hj hk' e => ?_, ?_⟩
  · rw [e2]; exact rf_n_congr (h 1 (by omega)) h1
  · rw [e2] at hj; exact rf_n_congr (h (3 + j) (by omega)) (hw j hj)
  · rw [ek] at hk'; rw [hM]; exact rf_n_congr (h (10 + k) (by omega)) (hl k hk')
  · rw [ek] at hj hk'
    rw [el j hj, el k hk'] at e
    exact hd j k hj hk' e
  · rw [h 22 (by omega), hM]; exact hb
theorem rf_I_core {w w' : rf_W} (hI : rf_I w) (h : ∀ a, a < 5 ∨ (11 ≤ a ∧ a < 61) ∨ (291 ≤ a ∧ a < 311) → w' a = w a) (hs : ∀ s, s < rf_S w → rf_Is w' s) (h6 : rf_n (w' 6) 41) (h9 : rf_n (w' 9) 61)
    (hf : ∀ f, f < rf_F w' → rf_If w' f) (hl : ∀ a, a < rf_G w' → rf_Il w' a) : rf_I w' := by
  obtain ⟨⟨c0, c1, c2⟩, -, hm, ho, ⟨x3, x4, -, -⟩, ⟨p1, p2⟩, -, -⟩ := hI
  have eM : rf_M w' = rf_M w := by rw [rf_M, rf_M, h 0 (by omega)]
  have eS : rf_S w' = rf_S w := by rw [rf_S, rf_S, h 1 (by omega)]
  have eO : rf_O w' = rf_O w := by rw [rf_O, rf_O, h 2 (by omega)]
  have hM : rf_M w < 17 := c0.2
  have hO : rf_O w < 11 := c2.2
  refine ⟨⟨rf_n_congr (h 0 (by omega)) c0, rf_n_congr (h 1 (by omega)) c1, rf_n_congr (h 2 (by omega)) c2⟩, fun s hs' => hs s (by rw [← eS]; exact hs'), fun m hm' => ?_, fun o ho' => ?_, ⟨rf_n_congr (h 3 (by omega)) x3, rf_n_congr (h 4 (by omega)) x4, h6, h9⟩, ⟨?_, ?_⟩, hf, hl⟩
  · rw [eM] at hm'
    obtain ⟨a1, a2, a3⟩ := hm m hm'
    exact ⟨rf_n_congr (h (13 + 3 * m + 0) (by omega)) a1, by rw [rf_mem, h (13 + 3 * m + 1) (by omega)]; exact a2, by rw [rf_mem, h (13 + 3 * m + 2) (by omega), eM]; exact a3⟩
  · rw [eO] at ho'
    obtain ⟨a1, a2⟩ := ho o ho'
    exact ⟨by rw [eS]; exact rf_n_congr (h (291 + 2 * o + 0) (by omega)) a1, by rw [rf_ord, h (291 + 2 * o + 1) (by omega), eM]; exact a2⟩
  · rw [h 11 (by omega), eM]; exact p1
  · rw [h 12 (by omega), eM]; exact p2
/-- only numbers that say nothing of others change -/
theorem rf_I_num {w w' : rf_W} (hI : rf_I w) (h : ∀ a, a ≠ 5 → a ≠ 7 → a ≠ 8 → a ≠ 10 → w' a = w a) : rf_I w' := by
  have eM : rf_M w' = rf_M w := by rw [rf_M, rf_M, h 0 (by omega) (by omega) (by omega) (by omega)]
  have eS : rf_S w' = rf_S w := by rw [rf_S, rf_S, h 1 (by omega) (by omega) (by omega) (by omega)]
  have eF : rf_F w' = rf_F w := by rw [rf_F, rf_F, h 6 (by omega) (by omega) (by omega) (by omega)]
  have eG : rf_G w' = rf_G w := by rw [rf_G, rf_G, h 9 (by omega) (by omega) (by omega) (by omega)]
  refine rf_I_core hI (fun a ha => h a (by omega) (by omega) (by omega) (by omega)) (fun s hs => rf_Is_congr (fun k hk => h _ (by omega) (by omega) (by omega) (by omega)) eM (hI.2.1 s hs)) (rf_n_congr (h 6 (by omega) (by omega) (by omega) (by omega)) hI.2.2.2.2.1.2.2.1) (rf_n_congr (h 9 (by omega) (by omega) (by omega) (by omega)) hI.2.2.2.2.1.2.2.2) (fun f hf => ?_) (fun a ha => ?_)
  · rw [eF] at hf
    obtain ⟨a1, a2, a3⟩ := hI.2.2.2.2.2.2.1 f hf
    exact ⟨by rw [eM]; exact rf_n_congr (h _ (by omega) (by omega) (by omega) (by omega)) a1, rf_n_congr (h _ (by omega) (by omega) (by omega) (by omega)) a2, by rw [eS]; exact rf_n_congr (h _ (by omega) (by omega) (by omega) (by omega)) a3⟩
  · rw [eG] at ha
    obtain ⟨a1, a2, a3⟩ := hI.2.2.2.2.2.2.2 a ha
    exact ⟨by rw [eS]; exact rf_n_congr (h _ (by omega) (by omega) (by omega) (by omega)) a1, by rw [eS]; exact rf_n_congr (h _ (by omega) (by omega) (by omega) (by omega)) a2, by rw [eM]; exact rf_n_congr (h _ (by omega) (by omega) (by omega) (by omega)) a3⟩
/-- a soldier changes -/
theorem rf_I_sol {w w' : rf_W} {s : Nat} (hI : rf_I w) (h : ∀ a, (a < 61 + 23 * s ∨ 84 + 23 * s ≤ a) → a ≠ 5 → a ≠ 7 → a ≠ 8 → a ≠ 10 → w' a = w a) (hs : rf_Is w' s) (hS : s < 10) : rf_I w' := by
  have eM : rf_M w' = rf_M w := by rw [rf_M, rf_M, h 0 (by omega) (by omega) (by omega) (by omega) (by omega)]
  have eS : rf_S w' = rf_S w := by rw [rf_S, rf_S, h 1 (by omega) (by omega) (by omega) (by omega) (by omega)]
  have eF : rf_F w' = rf_F w := by rw [rf_F, rf_F, h 6 (by omega) (by omega) (by omega) (by omega) (by omega)]
  have eG : rf_G w' = rf_G w := by rw [rf_G, rf_G, h 9 (by omega) (by omega) (by omega) (by omega) (by omega)]
  refine rf_I_core hI (fun a ha => h a (by omega) (by omega) (by omega) (by omega) (by omega)) (fun s' hs' => ?_) (rf_n_congr (h 6 (by omega) (by omega) (by omega) (by omega) (by omega)) hI.2.2.2.2.1.2.2.1) (rf_n_congr (h 9 (by omega) (by omega) (by omega) (by omega) (by omega)) hI.2.2.2.2.1.2.2.2) (fun f hf => ?_) (fun a ha => ?_)
  · by_cases e : s' = s
    · rw [e]; exact hs
    · exact rf_Is_congr (fun k hk => h _ (by omega) (by omega) (by omega) (by omega) (by omega)) eM (hI.2.1 s' hs')
  · rw [eF] at hf
    obtain ⟨a1, a2, a3⟩ := hI.2.2.2.2.2.2.1 f hf
    exact ⟨by rw [eM]; exact rf_n_congr (h _ (by omega) (by omega) (by omega) (by omega) (by omega)) a1, rf_n_congr (h _ (by omega) (by omega) (by omega) (by omega) (by omega)) a2, by rw [eS]; exact rf_n_congr (h _ (by omega) (by omega) (by omega) (by omega) (by omega)) a3⟩
  · rw [eG] at ha
    obtain ⟨a1, a2, a3⟩ := hI.2.2.2.2.2.2.2 a ha
    exact ⟨by rw [eS]; exact rf_n_congr (h _ (by omega) (by omega) (by omega) (by omega) (by omega)) a1, by rw [eS]; exact rf_n_congr (h _ (by omega) (by omega) (by omega) (by omega) (by omega)) a2, by rw [eM]; exact rf_n_congr (h _ (by omega) (by omega) (by omega) (by omega) (by omega)) a3⟩
/-- what is known, as bits -/
theorem rf_bits_bt {f : Nat → Nat} {j : Nat} (hj : j < 32) : ∀ n, (∀ k, k < n → f k < 32) → (am_bt (rf_bits f n) j = true ↔ ∃ k, k < n ∧ f k = j)
  | 0, _ => by
    rw [rf_bits, am_bt_0]
    constructor
    · intro h; exact absurd h Bool.false_ne_true
    · rintro ⟨k, hk, _⟩; exact absurd hk (by omega)
  | n + 1, hf => by
    have ih := rf_bits_bt hj n (fun k hk => hf k (by omega))
    rw [rf_bits, am_bt_or, am_bt_1 (hf n (by omega)) hj, Bool.or_eq_true, ih, decide_eq_true_eq]
    constructor
    · rintro (⟨k, hk, e⟩ | e)
      · exact ⟨k, by omega, e⟩
      · exact ⟨n, by omega, e.symm⟩
    · rintro ⟨k, hk, e⟩
      rcases Nat.lt_or_ge k n with h | h
      · exact Or.inl ⟨k, h, e⟩
      · exact Or.inr (by rw [← e, show k = n by omega])
theorem rf_li_lt {w : rf_W} {s k : Nat} (hI : rf_Is w s) (hk : k < rf_kn w s) : rf_li w s k < rf_M w := (hI.2.2.2.2.2.1 k hk).2
theorem rf_known_bt {w : rf_W} {s j : Nat} (hI : rf_Is w s) (hM : rf_M w < 17) (hj : j < 32) : am_bt (rf_known w s) j = true ↔ ∃ k, k < rf_kn w s ∧ rf_li w s k = j := by
  have hk : rf_kn w s < 13 := hI.2.2.2.2.1.2
  rw [rf_known, rf_first, Nat.min_eq_left (by omega)]
  exact rf_bits_bt hj _ (fun k hk' => by have := rf_li_lt hI hk'; omega)
theorem rf_bits_lo {f : Nat → Nat} {b : Nat} (hb : b ≤ 32) : ∀ n, (∀ k, k < n → f k < b) → am_lo (rf_bits f n) b := by
  intro n hf j hj
  by_cases h32 : j < 32
  · cases hc : am_bt (rf_bits f n) j with
    | false => rfl
    | true =>
      obtain ⟨k, hk, e⟩ := (rf_bits_bt h32 n (fun k hk => by have := hf k hk; omega)).mp hc
      have := hf k hk
      omega
  · exact am_bt_big (by omega)
theorem rf_I_draw {w : rf_W} (hI : rf_I w) : rf_I (rf_draw w) := rf_I_num hI (fun a _ _ _ h => rf_upd_ne h)
/-- one knows one more -/
theorem rf_I_app {w : rf_W} {s m : Nat} (hI : rf_I w) (hs : s < rf_S w) (hk : rf_kn w s < 12) (hm : m < rf_M w) (hn : am_bt (rf_known w s) m = false) : rf_I (rf_app w s m) := by
  have hS : rf_S w < 11 := hI.1.2.1.2
  have hM : rf_M w < 17 := hI.1.1.2
  have hIs := hI.2.1 s hs
  have ho : ∀ a, a ≠ 61 + 23 * s + (10 + rf_kn w s) → a ≠ 61 + 23 * s + 9 → rf_app w s m a = w a := fun a h1 h2 => by rw [rf_app, rf_upd_ne h2, rf_upd_ne h1]
  refine rf_I_sol (s := s) hI (fun a ha _ _ _ _ => ho a (by omega) (by omega)) ?_ (by omega)
  have eM : rf_M (rf_app w s m) = rf_M w := by rw [rf_M, rf_M, ho 0 (by omega) (by omega)]
  have e9 : rf_of (rf_app w s m) s 9 = nI (rf_kn w s + 1) := by rw [rf_of, rf_app, rf_upd_eq]
  have ek : rf_kn (rf_app w s m) s = rf_kn w s + 1 := by rw [rf_kn, rf_ofn, e9, rf_nat_nI (by omega)]
  have eo : ∀ k, k < 23 → k ≠ 9 → k ≠ 10 + rf_kn w s → rf_of (rf_app w s m) s k = rf_of w s k := fun k _ h1 h2 => ho _ (by omega) (by omega)
  have el : rf_of (rf_app w s m) s (10 + rf_kn w s) = nI m := by rw [rf_of, rf_app, rf_upd_ne (by omega), rf_upd_eq]
  have elk : rf_li (rf_app w s m) s (rf_kn w s) = m := by rw [rf_li, rf_ofn, el, rf_nat_nI (by omega)]
  have elo : ∀ k, k < rf_kn w s → rf_li (rf_app w s m) s k = rf_li w s k := fun k hk' => by rw [rf_li, rf_li, rf_ofn, rf_ofn, eo _ (by omega) (by omega) (by omega)]
  have e2 : rf_ofn (rf_app w s m) s 2 = rf_ofn w s 2 := by rw [rf_ofn, rf_ofn, eo 2 (by omega) (by omega) (by omega)]
  obtain ⟨h0, h2, h1, hw, h9, hl, hd, hb⟩ := hIs
  have hn7 : rf_ofn w s 2 < 7 := h2.2
  have hnew : ∀ k, k < rf_kn w s → rf_li w s k ≠ m := fun k hk' e => by
    have := (rf_known_bt (hI.2.1 s hs) hM (by omega)).mpr ⟨k, hk', e⟩
    rw [hn] at this
    exact Bool.false_ne_true this
  refine ⟨rf_n_congr (eo 0 (by omega) (by omega) (by omega)) h0, rf_n_congr (eo 2 (by omega) (by omega) (by omega)) h2, ?_, fun j hj => ?_, ?_, fun k hk' => ?_, fun j k hj hk' e => ?_, ?_⟩
  · rw [e2]; exact rf_n_congr (eo 1 (by omega) (by omega) (by omega)) h1
  · rw [e2] at hj; exact rf_n_congr (eo _ (by omega) (by omega) (by omega)) (hw j hj)
  · rw [e9]; exact rf_n_mk (by omega) (by omega)
  · rw [ek] at hk'; rw [eM]
    rcases Nat.lt_or_ge k (rf_kn w s) with h | h
    · exact rf_n_congr (eo _ (by omega) (by omega) (by omega)) (hl k h)
    · rw [show k = rf_kn w s by omega, el]; exact rf_n_mk hm (by omega)
  · rw [ek] at hj hk'
    rcases Nat.lt_or_ge j (rf_kn w s) with h | h <;> rcases Nat.lt_or_ge k (rf_kn w s) with h' | h'
    · rw [elo j h, elo k h'] at e; exact hd j k h h' e
    · rw [elo j h, show k = rf_kn w s by omega, elk] at e; exact absurd e (hnew j h)
    · rw [elo k h', show j = rf_kn w s by omega, elk] at e; exact absurd e.symm (hnew k h')
    · omega
  · rw [eo 22 (by omega) (by omega) (by omega), eM]; exact hb
theorem rf_I_learn {w : rf_W} {s m : Nat} (hI : rf_I w) (hs : s < rf_S w) (hm : m < rf_M w) : rf_I (rf_learn w s m) := by
  rw [rf_learn]
  cases hc : rf_can w s m with
  | false => exact hI
  | true =>
    have hc2 := hc
    simp only [rf_can, Bool.and_eq_true, decide_eq_true_eq, Bool.not_eq_true'] at hc2
    exact rf_I_num (rf_I_app hI hs hc2.2.1 hm hc2.1) (fun a _ _ h _ => rf_upd_ne h)
end INV
