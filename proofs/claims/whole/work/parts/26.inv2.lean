/-! WHAT STAYS TRUE of the reference's world, second part: a memory is lost, lies in the field, is logged -/
section INV2
theorem rf_pos_spec {w : rf_W} {s m : Nat} (hw : ∃ q, q < rf_kn w s ∧ rf_of w s (10 + q) = nI m) : rf_pos w s m < rf_kn w s ∧ rf_of w s (10 + rf_pos w s m) = nI m ∧ ∀ j, j < rf_pos w s m → rf_of w s (10 + j) ≠ nI m := by
  obtain ⟨q, h1, h2⟩ := hw
  obtain ⟨-, a2, a3, a4⟩ := rf_fp_spec (fun k => decide (rf_of w s (10 + k) = nI m)) (rf_kn w s) 0 ⟨q, by omega, by omega, decide_eq_true h2⟩
  exact ⟨by rw [rf_pos]; omega, of_decide_eq_true a3, fun j hj => of_decide_eq_false (a4 j (by omega) hj)⟩
theorem rf_lose_of {w : rf_W} {s m k : Nat} (hP : rf_pos w s m < rf_kn w s) (hk : k < 23) (hkn : rf_kn w s < 13) : rf_of (rf_lose w s m) s k = if k = 9 then nI (rf_kn w s - 1) else if 10 + rf_pos w s m ≤ k ∧ k < 9 + rf_kn w s then rf_of w s (k + 1) else rf_of w s k := by
  rw [rf_of, rf_lose]
  by_cases h9 : k = 9
  · subst h9; rw [if_pos rfl, rf_upd_eq]
  · rw [if_neg h9, rf_upd_ne (by omega)]
    by_cases hi : 10 + rf_pos w s m ≤ k ∧ k < 9 + rf_kn w s
    · rw [if_pos hi, rf_cp_in (by omega) (by omega)]
      rw [rf_of]; congr 1; omega
    · rw [if_neg hi, rf_cp_out (by omega)]; rfl
theorem rf_lose_out {w : rf_W} {s m a : Nat} (hP : rf_pos w s m < rf_kn w s) (hkn : rf_kn w s < 13) (ha : a < 61 + 23 * s ∨ 84 + 23 * s ≤ a) : rf_lose w s m a = w a := by
  rw [rf_lose, rf_upd_ne (by omega), rf_cp_out (by omega)]
theorem rf_lose_kn {w : rf_W} {s m : Nat} (hP : rf_pos w s m < rf_kn w s) (hkn : rf_kn w s < 13) : rf_kn (rf_lose w s m) s = rf_kn w s - 1 := by
  rw [rf_kn, rf_ofn, rf_lose_of hP (by omega) hkn, if_pos rfl, rf_nat_nI (by omega)]
theorem rf_lose_li {w : rf_W} {s m k : Nat} (hP : rf_pos w s m < rf_kn w s) (hkn : rf_kn w s < 13) (hk : k < rf_kn w s - 1) : rf_li (rf_lose w s m) s k = rf_li w s (if k < rf_pos w s m then k else k + 1) := by
  rw [rf_li, rf_ofn, rf_lose_of hP (by omega) hkn, if_neg (by omega)]
  by_cases h : k < rf_pos w s m
  · rw [if_neg (by omega), if_pos h]; rfl
  · rw [if_pos (by omega), if_neg h]; rfl
theorem rf_I_lose {w : rf_W} {s m : Nat} (hI : rf_I w) (hs : s < rf_S w) (hP : rf_pos w s m < rf_kn w s) : rf_I (rf_lose w s m) := by
  have hS : rf_S w < 11 := hI.1.2.1.2
  have hIs := hI.2.1 s hs
  have hkn : rf_kn w s < 13 := hIs.2.2.2.2.1.2
  refine rf_I_sol (s := s) hI (fun a ha _ _ _ _ => rf_lose_out hP hkn ha) ?_ (by omega)
  have eM : rf_M (rf_lose w s m) = rf_M w := by rw [rf_M, rf_M, rf_lose_out hP hkn (by omega)]
  have eo : ∀ k, k < 23 → k ≠ 9 → ¬ (10 + rf_pos w s m ≤ k ∧ k < 9 + rf_kn w s) → rf_of (rf_lose w s m) s k = rf_of w s k := fun k h1 h2 h3 => by rw [rf_lose_of hP h1 hkn, if_neg h2, if_neg h3]
  obtain ⟨h0, h2, h1, hw, h9, hl, hd, hb⟩ := hIs
  have hn7 : rf_ofn w s 2 < 7 := h2.2
  have e2 : rf_ofn (rf_lose w s m) s 2 = rf_ofn w s 2 := by rw [rf_ofn, rf_ofn, eo 2 (by omega) (by omega) (by omega)]
  have ek := rf_lose_kn hP hkn
  refine ⟨rf_n_congr (eo 0 (by omega) (by omega) (by omega)) h0, rf_n_congr (eo 2 (by omega) (by omega) (by omega)) h2, ?_, fun j hj => ?_, ?_, fun k hk' => ?_, fun j k hj hk' e => ?_, ?_⟩
  · rw [e2]; exact rf_n_congr (eo 1 (by omega) (by omega) (by omega)) h1
  · rw [e2] at hj; exact rf_n_congr (eo _ (by omega) (by omega) (by omega)) (hw j hj)
  · rw [rf_lose_of hP (by omega) hkn, if_pos rfl]; exact rf_n_mk (by omega) (by omega)
  · rw [ek] at hk'; rw [eM, rf_lose_of hP (by omega) hkn, if_neg (by omega)]
    by_cases h : 10 + rf_pos w s m ≤ 10 + k ∧ 10 + k < 9 + rf_kn w s
    · rw [if_pos h]; exact hl (k + 1) (by omega)
    · rw [if_neg h]; exact hl k (by omega)
  · rw [ek] at hj hk'
    rw [rf_lose_li hP hkn hj, rf_lose_li hP hkn hk'] at e
    have := hd _ _ (by split <;> omega) (by split <;> omega) e
    split at this <;> split at this <;> omega
  · rw [eo 22 (by omega) (by omega) (by omega), eM]; exact hb
theorem rf_remove_out {w : rf_W} {k a : Nat} (ha : a < 311 ∨ 431 ≤ a) (h6 : a ≠ 6) (hk : k < rf_F w) (hF : rf_F w < 41) : rf_remove w k a = w a := by
  rw [rf_remove, rf_upd_ne h6, rf_cp_out (by omega)]
theorem rf_remove_F {w : rf_W} {k : Nat} (hF : rf_F w < 41) : rf_F (rf_remove w k) = rf_F w - 1 := by rw [rf_F, rf_remove, rf_upd_eq, rf_nat_nI (by omega)]
theorem rf_remove_fld {w : rf_W} {k f x : Nat} (hk : k < rf_F w) (hf : f < rf_F w - 1) (hx : x < 3) : rf_fld (rf_remove w k) f x = rf_fld w (if f < k then f else f + 1) x := by
  rw [rf_fld, rf_remove, rf_upd_ne (by omega)]
  by_cases h : f < k
  · rw [if_pos h, rf_cp_out (by omega)]; rfl
  · rw [if_neg h, rf_cp_in (by omega) (by omega), rf_fld]; congr 1; omega
/-- the field changes -/
theorem rf_I_fl {w w' : rf_W} (hI : rf_I w) (h : ∀ a, (a < 311 ∨ 431 ≤ a) → a ≠ 6 → w' a = w a) (h6 : rf_n (w' 6) 41) (hf : ∀ f, f < rf_F w' → rf_If w' f) : rf_I w' := by
  have eM : rf_M w' = rf_M w := by rw [rf_M, rf_M, h 0 (by omega) (by omega)]
  have eS : rf_S w' = rf_S w := by rw [rf_S, rf_S, h 1 (by omega) (by omega)]
  have eG : rf_G w' = rf_G w := by rw [rf_G, rf_G, h 9 (by omega) (by omega)]
  have hS : rf_S w < 11 := hI.1.2.1.2
  refine rf_I_core hI (fun a ha => h a (by omega) (by omega)) (fun s hs => rf_Is_congr (fun k hk => h _ (by omega) (by omega)) eM (hI.2.1 s hs)) h6 (rf_n_congr (h 9 (by omega) (by omega)) hI.2.2.2.2.1.2.2.2) hf (fun a ha => ?_)
  rw [eG] at ha
  obtain ⟨a1, a2, a3⟩ := hI.2.2.2.2.2.2.2 a ha
  exact ⟨by rw [eS]; exact rf_n_congr (h _ (by omega) (by omega)) a1, by rw [eS]; exact rf_n_congr (h _ (by omega) (by omega)) a2, by rw [eM]; exact rf_n_congr (h _ (by omega) (by omega)) a3⟩
theorem rf_I_remove {w : rf_W} {k : Nat} (hI : rf_I w) (hk : k < rf_F w) : rf_I (rf_remove w k) := by
  have hF : rf_F w < 41 := hI.2.2.2.2.1.2.2.1.2
  have ho := fun a ha h6 => rf_remove_out (w := w) (k := k) (a := a) ha h6 hk hF
  have eM : rf_M (rf_remove w k) = rf_M w := by rw [rf_M, rf_M, ho 0 (by omega) (by omega)]
  have eS : rf_S (rf_remove w k) = rf_S w := by rw [rf_S, rf_S, ho 1 (by omega) (by omega)]
  refine rf_I_fl hI ho (by rw [rf_remove, rf_upd_eq]; exact rf_n_mk (by omega) (by omega)) (fun f hf => ?_)
  rw [rf_remove_F hF] at hf
  have hj : (if f < k then f else f + 1) < rf_F w := by split <;> omega
  obtain ⟨a1, a2, a3⟩ := hI.2.2.2.2.2.2.1 _ hj
  exact ⟨by rw [rf_remove_fld hk hf (by omega), eM]; exact a1, by rw [rf_remove_fld hk hf (by omega)]; exact a2, by rw [rf_remove_fld hk hf (by omega), eS]; exact a3⟩
theorem rf_put_out {w : rf_W} {m p x : Int32} {a : Nat} (ha : a < 311 ∨ 431 ≤ a) (h6 : a ≠ 6) (hF : rf_F w < 40) : rf_put w m p x a = w a := by
  rw [rf_put, rf_upd_ne h6, rf_upd_ne (by omega), rf_upd_ne (by omega), rf_upd_ne (by omega)]
theorem rf_put_F {w : rf_W} {m p x : Int32} (hF : rf_F w < 40) : rf_F (rf_put w m p x) = rf_F w + 1 := by rw [rf_F, rf_put, rf_upd_eq, rf_nat_nI (by omega)]
theorem rf_put_fld {w : rf_W} {m p x : Int32} {f k : Nat} (hF : rf_F w < 40) (hf : f < rf_F w) (hk : k < 3) : rf_fld (rf_put w m p x) f k = rf_fld w f k := by
  rw [rf_fld, rf_put, rf_upd_ne (by omega), rf_upd_ne (by omega), rf_upd_ne (by omega), rf_upd_ne (by omega)]; rfl
theorem rf_put_new {w : rf_W} {m p x : Int32} : rf_fld (rf_put w m p x) (rf_F w) 0 = m ∧ rf_fld (rf_put w m p x) (rf_F w) 1 = p ∧ rf_fld (rf_put w m p x) (rf_F w) 2 = x := by
  refine ⟨?_, ?_, ?_⟩
  · rw [rf_fld, rf_put, rf_upd_ne (by omega), rf_upd_ne (by omega), rf_upd_ne (by omega)]; exact rf_upd_eq
  · rw [rf_fld, rf_put, rf_upd_ne (by omega), rf_upd_ne (by omega)]; exact rf_upd_eq
  · rw [rf_fld, rf_put, rf_upd_ne (by omega)]; exact rf_upd_eq
theorem rf_I_put {w : rf_W} {m p x : Int32} (hI : rf_I w) (hF : rf_F w < 40) (hm : rf_n m (rf_M w)) (hp : rf_n p 8) (hx : rf_n x (rf_S w)) : rf_I (rf_put w m p x) := by
  have ho := fun a ha h6 => rf_put_out (w := w) (m := m) (p := p) (x := x) (a := a) ha h6 hF
  have eM : rf_M (rf_put w m p x) = rf_M w := by rw [rf_M, rf_M, ho 0 (by omega) (by omega)]
  have eS : rf_S (rf_put w m p x) = rf_S w := by rw [rf_S, rf_S, ho 1 (by omega) (by omega)]
  refine rf_I_fl hI ho (by rw [rf_put, rf_upd_eq]; exact rf_n_mk (by omega) (by omega)) (fun f hf => ?_)
  rw [rf_put_F hF] at hf
  rcases Nat.lt_or_ge f (rf_F w) with h | h
  · obtain ⟨a1, a2, a3⟩ := hI.2.2.2.2.2.2.1 f h
    exact ⟨by rw [rf_put_fld hF h (by omega), eM]; exact a1, by rw [rf_put_fld hF h (by omega)]; exact a2, by rw [rf_put_fld hF h (by omega), eS]; exact a3⟩
  · have e : f = rf_F w := by omega
    obtain ⟨a1, a2, a3⟩ := rf_put_new (w := w) (m := m) (p := p) (x := x)
    rw [e]
    exact ⟨by rw [a1, eM]; exact hm, by rw [a2]; exact hp, by rw [a3, eS]; exact hx⟩
theorem rf_I_lie {w : rf_W} {m p x : Int32} (hI : rf_I w) (hm : rf_n m (rf_M w)) (hp : rf_n p 8) (hx : rf_n x (rf_S w)) : rf_I (rf_lie w m p x) := by
  have hF : rf_F w < 41 := hI.2.2.2.2.1.2.2.1.2
  rw [rf_lie]
  by_cases h : rf_F w = 40
  · rw [if_pos h]
    have ho := fun a ha h6 => rf_remove_out (w := w) (k := 0) (a := a) ha h6 (by omega) hF
    have eM : rf_M (rf_remove w 0) = rf_M w := by rw [rf_M, rf_M, ho 0 (by omega) (by omega)]
    have eS : rf_S (rf_remove w 0) = rf_S w := by rw [rf_S, rf_S, ho 1 (by omega) (by omega)]
    exact rf_I_put (rf_I_remove hI (by omega)) (by rw [rf_remove_F hF]; omega) (by rw [eM]; exact hm) hp (by rw [eS]; exact hx)
  · rw [if_neg h]
    exact rf_I_put hI (by omega) hm hp hx
theorem rf_lie_out {w : rf_W} {m p x : Int32} {a : Nat} (ha : a < 311 ∨ 431 ≤ a) (h6 : a ≠ 6) (hF : rf_F w < 41) : rf_lie w m p x a = w a := by
  rw [rf_lie]
  by_cases h : rf_F w = 40
  · rw [if_pos h, rf_put_out ha h6 (by rw [rf_remove_F hF]; omega), rf_remove_out ha h6 (by omega) hF]
  · rw [if_neg h, rf_put_out ha h6 (by omega)]
theorem rf_min60 {w : rf_W} (h : rf_n (w 9) 61) : rf_min (nI 60) (w 9 + nI 1) = nI (min 60 (rf_G w + 1)) := by
  have h2 : rf_G w < 61 := h.2
  rw [h.1, nI_add, rf_min]
  show (if nI 60 ≤ nI (rf_G w + 1) then nI 60 else nI (rf_G w + 1)) = _
  by_cases hc : 60 ≤ rf_G w + 1
  · rw [if_pos ((nI_leI (by omega) (by omega)).mpr hc), Nat.min_eq_left hc]
  · rw [if_neg (fun z => hc ((nI_leI (by omega) (by omega)).mp z)), Nat.min_eq_right (by omega)]
theorem rf_logs_out {w : rf_W} {b x m : Int32} {g : Bool} {a : Nat} (ha : a < 431 ∨ 731 ≤ a) (h9 : a ≠ 9) (h7 : a ≠ 7) : rf_logs w b x m g a = w a := by
  rw [rf_logs, rf_upd_ne h9, rf_upd_ne (by omega), rf_upd_ne (by omega), rf_upd_ne (by omega), rf_upd_ne (by omega), rf_upd_ne (by omega), rf_sr_out (by omega), rf_upd_ne h7]
theorem rf_logs_G {w : rf_W} {b x m : Int32} {g : Bool} (h : rf_n (w 9) 61) : rf_G (rf_logs w b x m g) = min 60 (rf_G w + 1) := by
  have h2 : rf_G w < 61 := h.2
  rw [rf_G, rf_logs, rf_upd_eq, rf_min60 h, rf_nat_nI (by omega)]
theorem rf_logs_old {w : rf_W} {b x m : Int32} {g : Bool} {a k : Nat} (ha : a + 1 < 60) (hk : k < 5) : rf_log (rf_logs w b x m g) (a + 1) k = rf_log w a k := by
  rw [rf_log, rf_logs, rf_upd_ne (by omega), rf_upd_ne (by omega), rf_upd_ne (by omega), rf_upd_ne (by omega), rf_upd_ne (by omega), rf_upd_ne (by omega), rf_sr, if_pos (by omega), rf_upd_ne (by omega), rf_log]
  congr 1; omega
theorem rf_logs_new {w : rf_W} {b x m : Int32} {g : Bool} : rf_log (rf_logs w b x m g) 0 0 = w 5 ∧ rf_log (rf_logs w b x m g) 0 1 = b ∧ rf_log (rf_logs w b x m g) 0 2 = x ∧ rf_log (rf_logs w b x m g) 0 3 = m ∧ rf_log (rf_logs w b x m g) 0 4 = am_b g := by
  refine ⟨?_, ?_, ?_, ?_, ?_⟩ <;> rw [rf_log, rf_logs] <;> simp [upd]
theorem rf_I_logs {w : rf_W} {b x m : Int32} {g : Bool} (hI : rf_I w) (hb : rf_n b (rf_S w)) (hx : rf_n x (rf_S w)) (hm : rf_n m (rf_M w)) : rf_I (rf_logs w b x m g) := by
  have h9 := hI.2.2.2.2.1.2.2.2
  have hG : rf_G w < 61 := h9.2
  have hS : rf_S w < 11 := hI.1.2.1.2
  have hF : rf_F w < 41 := hI.2.2.2.2.1.2.2.1.2
  have ho := fun a ha h9 h7 => rf_logs_out (w := w) (b := b) (x := x) (m := m) (g := g) (a := a) ha h9 h7
  have eM : rf_M (rf_logs w b x m g) = rf_M w := by rw [rf_M, rf_M, ho 0 (by omega) (by omega) (by omega)]
  have eS : rf_S (rf_logs w b x m g) = rf_S w := by rw [rf_S, rf_S, ho 1 (by omega) (by omega) (by omega)]
  have eF : rf_F (rf_logs w b x m g) = rf_F w := by rw [rf_F, rf_F, ho 6 (by omega) (by omega) (by omega)]
  refine rf_I_core hI (fun a ha => ho a (by omega) (by omega) (by omega)) (fun s hs => rf_Is_congr (fun k hk => ho _ (by omega) (by omega) (by omega)) eM (hI.2.1 s hs)) (rf_n_congr (ho 6 (by omega) (by omega) (by omega)) hI.2.2.2.2.1.2.2.1) ?_ (fun f hf => ?_) (fun a ha => ?_)
  · rw [rf_logs, rf_upd_eq, rf_min60 h9]; exact rf_n_mk (by omega) (by omega)
  · rw [eF] at hf
    obtain ⟨a1, a2, a3⟩ := hI.2.2.2.2.2.2.1 f hf
    exact ⟨by rw [eM]; exact rf_n_congr (ho _ (by omega) (by omega) (by omega)) a1, rf_n_congr (ho _ (by omega) (by omega) (by omega)) a2, by rw [eS]; exact rf_n_congr (ho _ (by omega) (by omega) (by omega)) a3⟩
  · rw [rf_logs_G h9] at ha
    cases a with
    | zero =>
      obtain ⟨-, a1, a2, a3, -⟩ := rf_logs_new (w := w) (b := b) (x := x) (m := m) (g := g)
      exact ⟨by rw [a1, eS]; exact hb, by rw [a2, eS]; exact hx, by rw [a3, eM]; exact hm⟩
    | succ a =>
      obtain ⟨a1, a2, a3⟩ := hI.2.2.2.2.2.2.2 a (by omega)
      exact ⟨by rw [rf_logs_old (by omega) (by omega), eS]; exact a1, by rw [rf_logs_old (by omega) (by omega), eS]; exact a2, by rw [rf_logs_old (by omega) (by omega), eM]; exact a3⟩
/-- the memory that a shot takes is known -/
theorem rf_tk_spec (w : rf_W) (k : Int32) : ∀ n, (0 < rf_tk w k n → am_bt k (rf_tk w k n - 1) = true) ∧ (rf_tk w k n = 0 → ∀ m, m < n → am_bt k m = false)
  | 0 => ⟨fun h => absurd h (Nat.lt_irrefl 0), fun _ m hm => absurd hm (by omega)⟩
  | n + 1 => by
    obtain ⟨i1, i2⟩ := rf_tk_spec w k n
    rw [rf_tk]
    by_cases hc : am_bt k n = true ∧ (rf_tk w k n = 0 ∨ rf_falls w k (rf_tk w k n - 1) < rf_falls w k n)
    · rw [if_pos hc]
      exact ⟨fun _ => hc.1, fun h => absurd h (by omega)⟩
    · rw [if_neg hc]
      refine ⟨i1, fun h m hm => ?_⟩
      rcases Nat.lt_or_ge m n with h1 | h1
      · exact i2 h m h1
      · rw [show m = n by omega]
        cases hb : am_bt k n with
        | false => rfl
        | true => exact absurd ⟨hb, Or.inl h⟩ hc
theorem rf_takes_ok {w : rf_W} {s : Nat} {g : Bool} (hI : rf_I w) (hs : s < rf_S w) (hk : 0 < rf_kn w s) : 0 < rf_takes w s g ∧ rf_takes w s g - 1 < rf_M w ∧ ∃ q, q < rf_kn w s ∧ rf_of w s (10 + q) = nI (rf_takes w s g - 1) := by
  have hM : rf_M w < 17 := hI.1.1.2
  have hIs := hI.2.1 s hs
  have hkn : rf_kn w s < 13 := hIs.2.2.2.2.1.2
  rw [rf_takes]
  cases g with
  | false =>
    show 0 < rf_li w s (rf_kn w s - 1) + 1 ∧ rf_li w s (rf_kn w s - 1) + 1 - 1 < rf_M w ∧ _
    exact ⟨Nat.succ_pos _, rf_li_lt hIs (by omega), rf_kn w s - 1, by omega, (hIs.2.2.2.2.2.1 _ (by omega)).1⟩
  | true =>
    show 0 < rf_tk w (rf_known w s) (rf_M w) ∧ rf_tk w (rf_known w s) (rf_M w) - 1 < rf_M w ∧ _
    have h0 : 0 < rf_tk w (rf_known w s) (rf_M w) := by
      rcases Nat.eq_zero_or_pos (rf_tk w (rf_known w s) (rf_M w)) with e | e
      · have h1 := rf_li_lt hIs hk
        have h2 := (rf_tk_spec w (rf_known w s) (rf_M w)).2 e _ h1
        rw [(rf_known_bt hIs hM (by omega)).mpr ⟨0, hk, rfl⟩] at h2
        exact absurd h2 (by decide)
      · exact e
    have hle := rf_tk_le w (rf_known w s) (rf_M w)
    obtain ⟨q, hq, e⟩ := (rf_known_bt hIs hM (by omega)).mp ((rf_tk_spec w (rf_known w s) (rf_M w)).1 h0)
    refine ⟨h0, by omega, q, hq, ?_⟩
    rw [(hIs.2.2.2.2.2.1 q hq).1]
    exact congrArg nI e
end INV2
