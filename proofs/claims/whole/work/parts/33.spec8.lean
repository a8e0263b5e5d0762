/-! THE TAPE as the reference reads it: t its bytes, e where it ends, p a place on it -/
section SPEC8
def rf_at (t : rf_W) (e p lo hi : Nat) : Bool := decide (p < e) && (decide (nI lo ≤ t p) && decide (t p ≤ nI hi))
/-- from p on over all that is of lo to hi -/
def rf_sk (t : rf_W) (e lo hi : Nat) : Nat → Nat → Nat
  | 0, p => p
  | f + 1, p => if rf_at t e p lo hi = true then rf_sk t e lo hi f (p + 1) else p
termination_by f _ => f
def rf_run (t : rf_W) (e lo hi p : Nat) : Nat := rf_sk t e lo hi (e - p) p
def rf_sb (t : rf_W) (e p : Nat) : Nat := rf_run t e 32 32 p
def rf_sl (t : rf_W) (e p : Nat) : Nat := rf_run t e 97 122 (rf_sb t e p)
def rf_sd (t : rf_W) (e p : Nat) : Nat := rf_run t e 48 57 (rf_sb t e p)
theorem rf_at_lt {t : rf_W} {e p lo hi : Nat} (h : rf_at t e p lo hi = true) : p < e := by
  simp only [rf_at, Bool.and_eq_true, decide_eq_true_eq] at h
  exact h.1
theorem rf_at_ge {t : rf_W} {e p lo hi : Nat} (h : e ≤ p) : rf_at t e p lo hi = false := by
  simp only [rf_at, Bool.and_eq_false_iff, decide_eq_false_iff_not]
  exact Or.inl (by omega)
theorem rf_sk_ge (t : rf_W) (e lo hi : Nat) : ∀ f p, p ≤ rf_sk t e lo hi f p
  | 0, p => Nat.le_of_eq (by rw [rf_sk])
  | f + 1, p => by
    rw [rf_sk]
    split
    · have := rf_sk_ge t e lo hi f (p + 1); omega
    · exact Nat.le_refl p
theorem rf_sk_le (t : rf_W) (e lo hi : Nat) : ∀ f p, p ≤ e → rf_sk t e lo hi f p ≤ e
  | 0, p, h => by rw [rf_sk]; exact h
  | f + 1, p, h => by
    rw [rf_sk]
    split
    · rename_i hc
      exact rf_sk_le t e lo hi f (p + 1) (rf_at_lt hc)
    · exact h
theorem rf_run_le {t : rf_W} {e lo hi p : Nat} (h : p ≤ e) : p ≤ rf_run t e lo hi p ∧ rf_run t e lo hi p ≤ e := ⟨rf_sk_ge _ _ _ _ _ _, rf_sk_le _ _ _ _ _ _ h⟩
theorem rf_run_t {t : rf_W} {e lo hi p : Nat} (h : rf_at t e p lo hi = true) : rf_run t e lo hi p = rf_run t e lo hi (p + 1) := by
  have hp := rf_at_lt h
  rw [rf_run, show e - p = (e - (p + 1)) + 1 by omega, rf_sk, if_pos h]
  rfl
theorem rf_run_f {t : rf_W} {e lo hi p : Nat} (h : rf_at t e p lo hi = false) : rf_run t e lo hi p = p := by
  rw [rf_run]
  cases e - p with
  | zero => rw [rf_sk]
  | succ f => rw [rf_sk, if_neg (by rw [h]; exact Bool.false_ne_true)]
theorem rf_sb_le {t : rf_W} {e p : Nat} (h : p ≤ e) : p ≤ rf_sb t e p ∧ rf_sb t e p ≤ e := rf_run_le h
theorem rf_sl_le {t : rf_W} {e p : Nat} (h : p ≤ e) : rf_sb t e p ≤ rf_sl t e p ∧ rf_sl t e p ≤ e := rf_run_le (rf_sb_le h).2
theorem rf_sd_le {t : rf_W} {e p : Nat} (h : p ≤ e) : rf_sb t e p ≤ rf_sd t e p ∧ rf_sd t e p ≤ e := rf_run_le (rf_sb_le h).2
theorem rf_upd_upd {w : rf_W} {a : Nat} {v v' : Int32} : upd (upd w a v) a v' = upd w a v' := by
  funext k
  by_cases h : k = a <;> simp [upd, h]
theorem rf_upd_id {w : rf_W} {a : Nat} {v : Int32} (h : w a = v) : upd w a v = w := by
  funext k
  by_cases hk : k = a
  · subst hk; rw [rf_upd_eq, h]
  · rw [rf_upd_ne hk]
theorem rf_upd_c {w : rf_W} {a b : Nat} {v v' : Int32} (h : a ≠ b) : upd (upd w a v) b v' = upd (upd w b v') a v := by
  funext k
  by_cases ha : k = a
  · subst ha; rw [rf_upd_ne h, rf_upd_eq, rf_upd_eq]
  · by_cases hb : k = b
    · subst hb; rw [rf_upd_eq, rf_upd_ne ha, rf_upd_eq]
    · rw [rf_upd_ne hb, rf_upd_ne ha, rf_upd_ne ha, rf_upd_ne hb]
/-- the reader's fields: where it is, where the latest thing begins -/
def rf_pb (o : rf_W) (p b : Nat) : rf_W := upd (upd o 12 (nI b)) 10 (nI p)
theorem rf_pb_pb {o : rf_W} {p b p' b' : Nat} : rf_pb (rf_pb o p b) p' b' = rf_pb o p' b' := by
  rw [rf_pb, rf_pb, rf_pb, rf_upd_c (a := 10) (b := 12) (by decide), rf_upd_upd, rf_upd_upd]
theorem rf_pb_10 {o : rf_W} {p b : Nat} : rf_pb o p b 10 = nI p := rf_upd_eq
theorem rf_pb_12 {o : rf_W} {p b : Nat} : rf_pb o p b 12 = nI b := by rw [rf_pb, rf_upd_ne (by decide), rf_upd_eq]
theorem rf_pb_o {o : rf_W} {p b k : Nat} (h1 : k ≠ 10) (h2 : k ≠ 12) : rf_pb o p b k = o k := by rw [rf_pb, rf_upd_ne h1, rf_upd_ne h2]
theorem rf_pb_p {o : rf_W} {p b p' : Nat} : upd (rf_pb o p b) 10 (nI p') = rf_pb o p' b := by rw [rf_pb, rf_upd_upd]; rfl
theorem rf_pb_b {o : rf_W} {p b b' : Nat} : upd (rf_pb o p b) 12 (nI b') = rf_pb o p b' := by rw [rf_pb, rf_upd_c (by decide), rf_upd_upd]; rfl
theorem rf_pb_id {o : rf_W} {p b : Nat} (h1 : o 10 = nI p) (h2 : o 12 = nI b) : rf_pb o p b = o := by rw [rf_pb, rf_upd_id h2, rf_upd_id h1]
/-- the reader stands well: at p of e -/
def rf_To (o : rf_W) : Prop := rf_n (o 10) 401 ∧ rf_n (o 11) 401 ∧ rf_nat (o 10) ≤ rf_nat (o 11) ∧ rf_n (o 12) 401
def rf_p (o : rf_W) : Nat := rf_nat (o 10)
def rf_e (o : rf_W) : Nat := rf_nat (o 11)
def rf_b (o : rf_W) : Nat := rf_nat (o 12)
theorem rf_To_pb {o : rf_W} {p b : Nat} (h : rf_To o) (hb : b < 401) (hp : p ≤ rf_e o) : rf_To (rf_pb o p b) := by
  have he : rf_nat (o 11) < 401 := h.2.1.2
  have hp2 : p ≤ rf_nat (o 11) := hp
  refine ⟨by rw [rf_pb_10]; exact rf_n_mk (by omega) (by omega), by rw [rf_pb_o (by decide) (by decide)]; exact h.2.1, ?_, by rw [rf_pb_12]; exact rf_n_mk (by omega) (by omega)⟩
  rw [rf_pb_10, rf_pb_o (by decide) (by decide), rf_nat_nI (by omega)]; exact hp
theorem rf_p_pb {o : rf_W} {p b : Nat} (hp : p < 2147483648) : rf_p (rf_pb o p b) = p := by rw [rf_p, rf_pb_10, rf_nat_nI hp]
theorem rf_b_pb {o : rf_W} {p b : Nat} (hb : b < 2147483648) : rf_b (rf_pb o p b) = b := by rw [rf_b, rf_pb_12, rf_nat_nI hb]
theorem rf_e_pb {o : rf_W} {p b : Nat} : rf_e (rf_pb o p b) = rf_e o := by rw [rf_e, rf_pb_o (by decide) (by decide)]; rfl
/-- the word of the tape from b to p is the text k -/
def rf_wn (t : rf_W) (b k : Nat) : Nat → Bool
  | 0 => true
  | n + 1 => rf_wn t b k n && decide (t (b + n) = am_chr k n)
def rf_word (t : rf_W) (b p k : Nat) : Bool := decide (p - b = am_len k) && rf_wn t b k (am_len k)
theorem rf_wn_f {t : rf_W} {b k i : Nat} (h : rf_wn t b k i = false) : ∀ n, i ≤ n → rf_wn t b k n = false
  | 0, hn => by
    obtain rfl : i = 0 := by omega
    exact h
  | n + 1, hn => by
    by_cases hi : i = n + 1
    · subst hi; exact h
    · rw [rf_wn, rf_wn_f h n (by omega)]; rfl
theorem rf_word_f {t : rf_W} {b p k i : Nat} (hi : i ≤ am_len k) (h : (decide (p - b = am_len k) && rf_wn t b k i) = false) : rf_word t b p k = false := by
  rw [rf_word]
  cases hd : decide (p - b = am_len k) with
  | false => rfl
  | true =>
    rw [hd] at h
    exact rf_wn_f (by exact h) _ hi
theorem rf_wn_s {t : rf_W} {b p k i : Nat} {c : Bool} (h : (decide (p - b = am_len k) && rf_wn t b k i) = true) (hc : decide (t (b + i) = am_chr k i) = c) : (decide (p - b = am_len k) && rf_wn t b k (i + 1)) = c := by
  rw [Bool.and_eq_true] at h
  rw [rf_wn, h.1, h.2, hc]
  rfl
/-- the number of the first three figures from b on -/
def rf_nv (t : rf_W) (b : Nat) : Nat → Nat
  | 0 => 0
  | n + 1 => if n < 3 then 10 * rf_nv t b n + (rf_nat (t (b + n)) - 48) else rf_nv t b n
theorem rf_nv_lt {t : rf_W} {b : Nat} : ∀ n, (∀ k, k < n → rf_nat (t (b + k)) ≤ 57) → rf_nv t b n < 10 ^ (min n 3)
  | 0, _ => by rw [rf_nv]; exact Nat.pow_pos (by decide)
  | n + 1, h => by
    have h1 := rf_nv_lt (t := t) (b := b) n (fun k hk => h k (by omega))
    have h2 := h n (by omega)
    rw [rf_nv]
    by_cases h3 : n < 3
    · rw [if_pos h3, Nat.min_eq_left (by omega), Nat.pow_succ]
      rw [Nat.min_eq_left (by omega)] at h1
      omega
    · rw [if_neg h3]
      rw [Nat.min_eq_right (by omega)] at h1 ⊢
      exact h1
/-- a number of low to high that stands from b to p: 0 none, v + 1 the number v -/
def rf_num (t : rf_W) (b p : Nat) (low : Nat) (high : Int32) : Nat := if p = b ∨ 3 < p - b ∨ rf_nv t b (p - b) < low ∨ high < nI (rf_nv t b (p - b)) then 0 else rf_nv t b (p - b) + 1
/-! the readers as steps of the machine's own fields o over the tape t -/
def rf_SB (t o : rf_W) : Nat := rf_sb t (rf_e o) (rf_p o)
def rf_SL (t o : rf_W) : Nat := rf_sl t (rf_e o) (rf_p o)
def rf_SD (t o : rf_W) : Nat := rf_sd t (rf_e o) (rf_p o)
def rf_isAt (t o : rf_W) (lo hi : Nat) : Bool := rf_at t (rf_e o) (rf_p o) lo hi
def rf_isW (t o : rf_W) (k : Nat) : Bool := rf_word t (rf_b o) (rf_p o) k
def rf_oBl (t o : rf_W) : rf_W := rf_pb o (rf_SB t o) (rf_SB t o)
def rf_oLe (t o : rf_W) : rf_W := rf_pb o (rf_SL t o) (rf_SB t o)
def rf_rPas (t o : rf_W) (k : Nat) : Bool := rf_word t (rf_SB t o) (rf_SL t o) k
def rf_oPas (t o : rf_W) (k : Nat) : rf_W := rf_pb o (bif rf_rPas t o k then rf_SL t o else rf_SB t o) (rf_SB t o)
def rf_rSig (t o : rf_W) (c : Nat) : Bool := rf_at t (rf_e o) (rf_SB t o) c c
def rf_oSig (t o : rf_W) (c : Nat) : rf_W := rf_pb o (bif rf_rSig t o c then rf_SB t o + 1 else rf_SB t o) (rf_SB t o)
def rf_rFig (t o : rf_W) : Bool := rf_at t (rf_e o) (rf_SB t o) 48 57
def rf_rNum (t o : rf_W) (low : Nat) (high : Int32) : Nat := rf_num t (rf_SB t o) (rf_SD t o) low high
def rf_oNum (t o : rf_W) : rf_W := rf_pb o (rf_SD t o) (rf_SB t o)
/-- the reader goes on -/
def rf_Tm (o o' : rf_W) : Prop := rf_To o' ∧ rf_p o ≤ rf_p o' ∧ (∀ k, k ≠ 10 → k ≠ 12 → o' k = o k) ∧ rf_b o' ≤ rf_p o'
theorem rf_Tm.rfl' {o : rf_W} (h : rf_To o) (hb : rf_b o ≤ rf_p o) : rf_Tm o o := ⟨h, Nat.le_refl _, fun _ _ _ => rfl, hb⟩
theorem rf_Tm.tr {a b c : rf_W} (h : rf_Tm a b) (g : rf_Tm b c) : rf_Tm a c := ⟨g.1, Nat.le_trans h.2.1 g.2.1, fun k h1 h2 => (g.2.2.1 k h1 h2).trans (h.2.2.1 k h1 h2), g.2.2.2⟩
theorem rf_Tm.e {a b : rf_W} (h : rf_Tm a b) : rf_e b = rf_e a := by rw [rf_e, rf_e, h.2.2.1 11 (by decide) (by decide)]
theorem rf_Tm_pb {o : rf_W} {p b : Nat} (h : rf_To o) (h1 : rf_p o ≤ p) (h2 : b ≤ p) (h3 : p ≤ rf_e o) : rf_Tm o (rf_pb o p b) := by
  have he : rf_e o < 401 := h.2.1.2
  exact ⟨rf_To_pb h (by omega) h3, by rw [rf_p_pb (by omega)]; exact h1, fun k a b => rf_pb_o a b, by rw [rf_b_pb (by omega), rf_p_pb (by omega)]; exact h2⟩
theorem rf_S_le {t o : rf_W} (h : rf_To o) : rf_p o ≤ rf_SB t o ∧ rf_SB t o ≤ rf_e o ∧ rf_SB t o ≤ rf_SL t o ∧ rf_SL t o ≤ rf_e o ∧ rf_SB t o ≤ rf_SD t o ∧ rf_SD t o ≤ rf_e o ∧ rf_e o < 401 := by
  have hp : rf_p o ≤ rf_e o := h.2.2.1
  have h1 := rf_sb_le (t := t) hp
  have h2 := rf_sl_le (t := t) hp
  have h3 := rf_sd_le (t := t) hp
  exact ⟨h1.1, h1.2, h2.1, h2.2, h3.1, h3.2, h.2.1.2⟩
theorem rf_Tm_bl {t o : rf_W} (h : rf_To o) : rf_Tm o (rf_oBl t o) := by
  obtain ⟨a, b, c, d, e, f, g⟩ := rf_S_le (t := t) h
  exact rf_Tm_pb h (by omega) (by omega) (by omega)
theorem rf_Tm_le {t o : rf_W} (h : rf_To o) : rf_Tm o (rf_oLe t o) := by
  obtain ⟨a, b, c, d, e, f, g⟩ := rf_S_le (t := t) h
  exact rf_Tm_pb h (by omega) (by omega) (by omega)
theorem rf_Tm_num {t o : rf_W} (h : rf_To o) : rf_Tm o (rf_oNum t o) := by
  obtain ⟨a, b, c, d, e, f, g⟩ := rf_S_le (t := t) h
  exact rf_Tm_pb h (by omega) (by omega) (by omega)
theorem rf_Tm_pas {t o : rf_W} {k : Nat} (h : rf_To o) : rf_Tm o (rf_oPas t o k) := by
  obtain ⟨a, b, c, d, e, f, g⟩ := rf_S_le (t := t) h
  rw [rf_oPas]
  cases rf_rPas t o k with
  | true => exact rf_Tm_pb h (by show _ ≤ rf_SL t o; omega) (by show _ ≤ rf_SL t o; omega) (by show rf_SL t o ≤ _; omega)
  | false => exact rf_Tm_pb h (by show _ ≤ rf_SB t o; omega) (by show _ ≤ rf_SB t o; omega) (by show rf_SB t o ≤ _; omega)
theorem rf_Tm_sig {t o : rf_W} {c : Nat} (h : rf_To o) : rf_Tm o (rf_oSig t o c) := by
  obtain ⟨a, b, _, d, e, f, g⟩ := rf_S_le (t := t) h
  rw [rf_oSig]
  cases hr : rf_rSig t o c with
  | true =>
    have := rf_at_lt hr
    exact rf_Tm_pb h (by show _ ≤ rf_SB t o + 1; omega) (by show _ ≤ rf_SB t o + 1; omega) (by show rf_SB t o + 1 ≤ _; omega)
  | false => exact rf_Tm_pb h (by show _ ≤ rf_SB t o; omega) (by show _ ≤ rf_SB t o; omega) (by show rf_SB t o ≤ _; omega)
theorem rf_num_s {t o : rf_W} {low : Nat} {high : Int32} (h : rf_To o) (hn : rf_rNum t o low high ≠ 0) : rf_p o < rf_p (rf_oNum t o) := by
  obtain ⟨a, b, c, d, e, f, g⟩ := rf_S_le (t := t) h
  rw [rf_oNum, rf_p_pb (by omega)]
  rw [rf_rNum, rf_num] at hn
  split at hn
  · exact absurd rfl hn
  · rename_i hq
    have : ¬ rf_SD t o = rf_SB t o := fun z => hq (Or.inl z)
    omega
theorem rf_sig_s {t o : rf_W} {c : Nat} (h : rf_To o) (hn : rf_rSig t o c = true) : rf_p o < rf_p (rf_oSig t o c) := by
  obtain ⟨a, b, _, d, e, f, g⟩ := rf_S_le (t := t) h
  rw [rf_oSig, hn]
  show _ < rf_p (rf_pb o (rf_SB t o + 1) _)
  rw [rf_p_pb (by omega)]
  omega
theorem rf_pas_s {t o : rf_W} {k : Nat} (h : rf_To o) (hk : 0 < am_len k) (hn : rf_rPas t o k = true) : rf_p o + am_len k ≤ rf_p (rf_oPas t o k) := by
  obtain ⟨a, b, _, d, e, f, g⟩ := rf_S_le (t := t) h
  rw [rf_oPas, hn]
  show _ ≤ rf_p (rf_pb o (rf_SL t o) _)
  rw [rf_p_pb (by omega)]
  rw [rf_rPas, rf_word, Bool.and_eq_true, decide_eq_true_eq] at hn
  omega
theorem rf_sk_all (t : rf_W) (e lo hi : Nat) : ∀ f p k, p ≤ k → k < rf_sk t e lo hi f p → rf_at t e k lo hi = true
  | 0, p, k, h1, h2 => by rw [rf_sk] at h2; omega
  | f + 1, p, k, h1, h2 => by
    rw [rf_sk] at h2
    split at h2
    · rename_i hc
      by_cases hk : k = p
      · subst hk; exact hc
      · exact rf_sk_all t e lo hi f (p + 1) k (by omega) h2
    · omega
theorem rf_at_n {t : rf_W} {e p : Nat} (h : rf_at t e p 48 57 = true) : t p = nI (rf_nat (t p)) ∧ 48 ≤ rf_nat (t p) ∧ rf_nat (t p) ≤ 57 := by
  simp only [rf_at, Bool.and_eq_true, decide_eq_true_eq] at h
  obtain ⟨j, hj, hx⟩ := nI_of (x := t p) (Int32.not_lt.mpr (Int32.le_trans (by decide : (0 : Int32) ≤ nI 48) h.2.1))
  rw [hx, rf_nat_nI hj]
  have h1 := h.2.1
  have h2 := h.2.2
  rw [hx, nI_leI (by decide) hj] at h1
  rw [hx, nI_leI hj (by decide)] at h2
  exact ⟨rfl, h1, h2⟩
theorem rf_nv_1000 {t : rf_W} {e b n : Nat} (h : ∀ k, b ≤ k → k < b + n → rf_at t e k 48 57 = true) : rf_nv t b n < 1000 := by
  have h1 := rf_nv_lt (t := t) (b := b) n (fun k hk => (rf_at_n (h (b + k) (by omega) (by omega))).2.2)
  have h2 : 10 ^ (min n 3) ≤ 10 ^ 3 := Nat.pow_le_pow_right (by decide) (Nat.min_le_right _ _)
  omega
theorem rf_sd_1000 {t : rf_W} {e p : Nat} : rf_nv t (rf_sb t e p) (rf_sd t e p - rf_sb t e p) < 1000 := by
  refine rf_nv_1000 (e := e) (fun k h1 h2 => ?_)
  exact rf_sk_all t e 48 57 (e - rf_sb t e p) (rf_sb t e p) k h1 (by rw [rf_sd, rf_run] at h2; omega)
theorem rf_num_lt {t o : rf_W} {low n : Nat} (hn : n < 1073741824) (h : rf_rNum t o low (nI n - nI 1) ≠ 0) : rf_rNum t o low (nI n - nI 1) ≤ n := by
  have hv : rf_nv t (rf_SB t o) (rf_SD t o - rf_SB t o) < 1000 := rf_sd_1000
  rw [rf_rNum, rf_num] at h ⊢
  split at h
  · exact absurd rfl h
  · rename_i hq
    rw [if_neg hq]
    have hz : ¬ nI n - nI 1 < nI _ := fun z => hq (Or.inr (Or.inr (Or.inr z)))
    rw [Int32.lt_iff_toInt_lt, pk_sub_toInt (by omega) (by decide), nI_toInt (by omega)] at hz
    omega
theorem rf_num_le {t o : rf_W} {low n : Nat} (hn : n < 2147483648) (h : rf_rNum t o low (nI n) ≠ 0) : rf_rNum t o low (nI n) ≤ n + 1 ∧ low < rf_rNum t o low (nI n) := by
  have hv : rf_nv t (rf_SB t o) (rf_SD t o - rf_SB t o) < 1000 := rf_sd_1000
  rw [rf_rNum, rf_num] at h ⊢
  split at h
  · exact absurd rfl h
  · rename_i hq
    rw [if_neg hq]
    have hz : ¬ nI n < nI _ := fun z => hq (Or.inr (Or.inr (Or.inr z)))
    have hl : ¬ rf_nv t (rf_SB t o) (rf_SD t o - rf_SB t o) < low := fun z => hq (Or.inr (Or.inr (Or.inl z)))
    rw [nI_ltI (by omega) (by omega)] at hz
    omega
section
variable {M : am_M} {D MC MS : Nat} {X : am_X} {V : am_V} {cs : Nat × Nat} {pc : Nat} {ls ls' : List (Nat × Value)} {st st0 : List Value} {r r2 : am_R} {h h2 : am_H}
theorem am_callVsi {Y : am_M} {n d ix k : Nat} {As : List Value} {x : Int32} (hk : k < am_TX.length) (C : am_C M D MC MS X) (hd : decode M.2.1 pc = .ok (.invokevirtual ix, 3)) (hl : Cond.methodLink M.1.cls ix Y.1 ∈ am_GW) (hY : am_IV Y n) (hst : st0 = As.reverse ++ .ref (am_SB + k) :: st) (hn : As.length = n)
    (hcl : Y.1.cls = "java/lang/String") (hD : d + 1 ≤ D) (h1 : cs.1 ≤ MC) (h2' : cs.2 ≤ MS) (h8 : (st.map fun v => v.category).sum ≤ 8)
    (hct : am_CM Y d 0 0 (.ref (am_SB + k) :: As) V r h (am_po (some (.int x)) r h)) (kk : am_G X V cs (pc + 3) ls (.int x :: st) r h) : am_G X V cs pc ls st0 r h :=
  am_callVs hk C hd hl hY hst hn hcl hD h1 h2' h8 hct (fun v r' h' hq => by obtain ⟨rfl, rfl, rfl⟩ := hq; exact kk)
/-- the machine's text constant -/
theorem am_ldcs {ix k : Nat} {t : String} (C : am_C M D MC MS X) (hd : decode M.2.1 pc = .ok (.ldc ix, 2)) (hk : k < am_TX.length) (hs : (M.1.cls, ix, t, k) ∈ am_SR) (kk : am_G X V cs (pc + 2) ls (.ref (am_SB + k) :: st) r h) : am_G X V cs pc ls st r h := by
  obtain ⟨⟨p, l, e, R⟩, ⟨s, m, args, below, meth, c⟩, ⟨A, Z⟩, ⟨dC, dI, dA⟩, adK⟩ := X
  obtain ⟨⟨hx, hb, hml, hrt, hlk, hnm⟩, ⟨hown, hts, htr, hK⟩, ⟨hA, hE⟩, hDf, hDl, hMC, hMS⟩ := C
  intro H locs lsA hw hloc
  have K := kk H locs lsA hw hloc
  rw [List.map_cons, show am_cv V.1 (.ref (am_SB + k)) = .ref (adK k) from congrArg Value.ref (hw.2.2.2 k hk)] at K
  exact va_ldcS hx hb hown (hE.2.1 _ hs) hd K
end
end SPEC8
