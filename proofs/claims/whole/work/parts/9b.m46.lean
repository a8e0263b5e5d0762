/-! THE CLASS: its tape, read thing by thing -/
section M46
def cl_pk (f : Nat → Int32) (k : Nat) : Int32 := if k < 400 then f k else nI 0
/-- the kind of what begins at b: 0 the end, 1 a word, 2 a number, 3 a sign -/
def cl_kd (t : rf_W) (e b : Nat) : Nat := bif rf_at t e b 97 122 then 1 else bif rf_at t e b 48 57 then 2 else if b < e then 3 else 0
def cl_sp (t : rf_W) (e b : Nat) : Nat := bif rf_at t e b 97 122 then rf_run t e 97 122 b else bif rf_at t e b 48 57 then rf_run t e 48 57 b else if b < e then b + 1 else b
def cl_nm (t : rf_W) (b p : Nat) : Int32 := if p - b ≤ 3 then nI (rf_nv t b (p - b)) else -1
def cl_vl (f : Nat → Int32) (t : rf_W) (e b : Nat) : Int32 := if cl_kd t e b = 2 then cl_nm t b (cl_sp t e b) else cl_pk f b
/-- the class's tape stands at b -/
def cl_tp (h : am_H) (t : rf_W) (e b : Nat) : Prop := cl_by (h 2) t e ∧ e ≤ 400 ∧ b ≤ e ∧ (h 1) 1 = nI e ∧ (h 1) 2 = nI (cl_kd t e b) ∧ (h 1) 3 = nI b ∧ (h 1) 4 = nI (cl_sp t e b) ∧ (h 1) 5 = cl_vl (h 2) t e b
def cl_s0 (t : rf_W) (e b : Nat) : Nat := if cl_kd t e b = 0 then b else b + 1
def cl_rk (t : rf_W) (e k q : Nat) : Nat := if k = 1 then rf_run t e 97 122 q else if k = 2 then rf_run t e 48 57 q else q
/-- a sign that no word and no number begins with -/
def cl_sg (c : Nat) : Prop := c < 128 ∧ (c < 48 ∨ 57 < c) ∧ (c < 97 ∨ 122 < c)
theorem cl_ta {f t : Nat → Int32} {e k lo hi : Nat} (hby : cl_by f t e) (hk : k < e) (hlo : lo < 2147483648) (hhi : hi < 128) : rf_at t e k lo hi = true ↔ ¬ f k < nI lo ∧ ¬ nI hi < f k := by
  obtain ⟨m, hm, e1, e2, e3⟩ := hby k hk
  rw [rf_at, decide_eq_true hk, Bool.true_and, Bool.and_eq_true, decide_eq_true_eq, decide_eq_true_eq, e1, Int32.not_lt, Int32.not_lt]
  by_cases q : m < 128
  · rw [e2 q]
  · have h0 := e3 (by omega)
    constructor
    · intro ⟨h1, _⟩
      exact absurd (Int32.lt_of_le_of_lt h1 h0) (nI_pos hlo)
    · intro ⟨_, h1⟩
      rw [nI_leI (by omega) (by omega)] at h1
      omega
theorem cl_at_ex {t : rf_W} {e k : Nat} (h : rf_at t e k 97 122 = true) : rf_at t e k 48 57 = false := by
  simp only [rf_at, Bool.and_eq_true, decide_eq_true_eq] at h
  simp only [rf_at, Bool.and_eq_false_iff, decide_eq_false_iff_not]
  refine Or.inr (Or.inr (fun z => ?_))
  exact absurd (Int32.le_trans h.2.1 z) (by decide)
theorem cl_kd_lt {t : rf_W} {e b : Nat} : cl_kd t e b < 4 := by
  rw [cl_kd]
  cases rf_at t e b 97 122 <;> cases rf_at t e b 48 57 <;> simp only [cond_true, cond_false] <;> (try split) <;> omega
theorem cl_kd_0 {t : rf_W} {e b : Nat} (h : e ≤ b) : cl_kd t e b = 0 := by rw [cl_kd, rf_at_ge h, rf_at_ge h, if_neg (by omega)]; rfl
theorem cl_kd_1 {f t : Nat → Int32} {e k : Nat} (hby : cl_by f t e) (hk : k < e) (h1 : ¬ f k < nI 97) (h2 : ¬ nI 122 < f k) : cl_kd t e k = 1 := by rw [cl_kd, (cl_ta hby hk (by decide) (by decide)).mpr ⟨h1, h2⟩]; rfl
theorem cl_at_no {f t : Nat → Int32} {e k lo hi : Nat} (hby : cl_by f t e) (hk : k < e) (hlo : lo < 2147483648) (hhi : hi < 128) (h : f k < nI lo ∨ nI hi < f k) : rf_at t e k lo hi = false := by
  cases q : rf_at t e k lo hi with
  | false => rfl
  | true =>
    have := (cl_ta hby hk hlo hhi).mp q
    rcases h with h | h
    · exact absurd h this.1
    · exact absurd h this.2
theorem cl_kd_2 {f t : Nat → Int32} {e k : Nat} (hby : cl_by f t e) (hk : k < e) (h : f k < nI 97 ∨ nI 122 < f k) (h1 : ¬ f k < nI 48) (h2 : ¬ nI 57 < f k) : cl_kd t e k = 2 := by rw [cl_kd, cl_at_no hby hk (by decide) (by decide) h, (cl_ta hby hk (by decide) (by decide)).mpr ⟨h1, h2⟩]; rfl
theorem cl_kd_3 {f t : Nat → Int32} {e k : Nat} (hby : cl_by f t e) (hk : k < e) (h : f k < nI 97 ∨ nI 122 < f k) (h2 : f k < nI 48 ∨ nI 57 < f k) : cl_kd t e k = 3 := by rw [cl_kd, cl_at_no hby hk (by decide) (by decide) h, cl_at_no hby hk (by decide) (by decide) h2, if_pos hk]; rfl
theorem cl_by_t {f t : Nat → Int32} {e k : Nat} (hby : cl_by f t e) (h : rf_at t e k 48 57 = true) : f k = t k := by
  obtain ⟨m, hm, e1, e2, e3⟩ := hby k (rf_at_lt h)
  by_cases q : m < 128
  · rw [e1, e2 q]
  · have h0 := (rf_at_n h).1
    have h1 := e3 (by omega)
    have h2 := (rf_at_n h).2
    rw [h0] at h1
    exact absurd h1 (nI_pos (by omega))
theorem cl_by_n1 {f t : Nat → Int32} {e k : Nat} (hby : cl_by f t e) (hk : k < e) : ¬ f k = -1 := by
  obtain ⟨m, hm, e1, -, -⟩ := hby k hk
  rw [e1]
  intro z
  have h0 : ¬ nI m < 0 := nI_pos (by omega)
  rw [z] at h0
  exact h0 (by decide)
theorem cl_sp_t {f t : Nat → Int32} {e k : Nat} (hby : cl_by f t e) (hk : k < e) (h : f k = nI 32) : rf_at t e k 32 32 = true := (cl_ta hby hk (by decide) (by decide)).mpr (by rw [h]; decide)
theorem cl_sp_f {f t : Nat → Int32} {e k : Nat} (hby : cl_by f t e) (h : ¬ f k = nI 32) : rf_at t e k 32 32 = false := by
  by_cases hk : k < e
  · cases q : rf_at t e k 32 32 with
    | false => rfl
    | true =>
      obtain ⟨a, b⟩ := (cl_ta hby hk (by decide) (by decide)).mp q
      exact absurd (Int32.le_antisymm (Int32.not_lt.mp b) (Int32.not_lt.mp a)) h
  · exact rf_at_ge (by omega)
theorem cl_kd_is {t : rf_W} {e b : Nat} : (cl_kd t e b = 1 ∧ rf_at t e b 97 122 = true) ∨ (cl_kd t e b = 2 ∧ rf_at t e b 97 122 = false ∧ rf_at t e b 48 57 = true) ∨ (cl_kd t e b = 3 ∧ rf_at t e b 97 122 = false ∧ rf_at t e b 48 57 = false ∧ b < e) ∨ (cl_kd t e b = 0 ∧ rf_at t e b 97 122 = false ∧ rf_at t e b 48 57 = false ∧ e ≤ b) := by
  rw [cl_kd]
  cases rf_at t e b 97 122 with
  | true => exact Or.inl ⟨rfl, rfl⟩
  | false =>
    cases rf_at t e b 48 57 with
    | true => exact Or.inr (Or.inl ⟨rfl, rfl, rfl⟩)
    | false =>
      by_cases h : b < e
      · exact Or.inr (Or.inr (Or.inl ⟨by rw [if_pos h]; rfl, rfl, rfl, h⟩))
      · exact Or.inr (Or.inr (Or.inr ⟨by rw [if_neg h]; rfl, rfl, rfl, by omega⟩))
theorem cl_rk_e {t : rf_W} {e k q : Nat} (h : e ≤ q) : cl_rk t e k q = q := by
  rw [cl_rk]
  split
  · exact rf_run_f (rf_at_ge h)
  · split
    · exact rf_run_f (rf_at_ge h)
    · rfl
theorem cl_rk_3 {t : rf_W} {e k q : Nat} (h : k = 3) : cl_rk t e k q = q := by rw [cl_rk, if_neg (by omega), if_neg (by omega)]
theorem cl_rk_x {t : rf_W} {e k q : Nat} (h : cl_kd t e q ≠ k) : cl_rk t e k q = q := by
  rw [cl_rk]
  split
  · rename_i h1
    rcases cl_kd_is (t := t) (e := e) (b := q) with ⟨a, _⟩ | ⟨_, a, _⟩ | ⟨_, a, _⟩ | ⟨_, a, _⟩
    · exact absurd (a.trans h1.symm) h
    all_goals exact rf_run_f a
  · split
    · rename_i h1
      rcases cl_kd_is (t := t) (e := e) (b := q) with ⟨_, a⟩ | ⟨a, _⟩ | ⟨_, _, a, _⟩ | ⟨_, _, a, _⟩
      · exact rf_run_f (cl_at_ex a)
      · exact absurd (a.trans h1.symm) h
      all_goals exact rf_run_f a
    · rfl
theorem cl_rk_s {t : rf_W} {e k q : Nat} (hq : q < e) (h3 : k ≠ 3) (h : cl_kd t e q = k) : cl_rk t e k (q + 1) = cl_rk t e k q := by
  subst h
  rw [cl_rk, cl_rk]
  rcases cl_kd_is (t := t) (e := e) (b := q) with ⟨b, a⟩ | ⟨b, _, a⟩ | ⟨b, _⟩ | ⟨b, _, _, a⟩
  · rw [if_pos b, if_pos b]; exact (rf_run_t a).symm
  · rw [if_neg (by omega), if_pos b, if_neg (by omega), if_pos b]; exact (rf_run_t a).symm
  · exact absurd b h3
  · omega
theorem cl_sp_1 {t : rf_W} {e b : Nat} (h : cl_kd t e b = 1) : cl_sp t e b = rf_run t e 97 122 b := by
  rcases cl_kd_is (t := t) (e := e) (b := b) with ⟨_, a⟩ | ⟨a, _⟩ | ⟨a, _⟩ | ⟨a, _⟩
  · rw [cl_sp, a]; rfl
  all_goals omega
theorem cl_sp_2 {t : rf_W} {e b : Nat} (h : cl_kd t e b = 2) : cl_sp t e b = rf_run t e 48 57 b := by
  rcases cl_kd_is (t := t) (e := e) (b := b) with ⟨a, _⟩ | ⟨_, a, c⟩ | ⟨a, _⟩ | ⟨a, _⟩
  · omega
  · rw [cl_sp, a, c]; rfl
  all_goals omega
theorem cl_sp_s {t : rf_W} {e b : Nat} (h : cl_kd t e b = 3) : cl_sp t e b = b + 1 := by
  rcases cl_kd_is (t := t) (e := e) (b := b) with ⟨a, _⟩ | ⟨a, _⟩ | ⟨_, a, c, d⟩ | ⟨a, _⟩
  · omega
  · omega
  · rw [cl_sp, a, c, if_pos d]; rfl
  · omega
theorem cl_sp_0 {t : rf_W} {e b : Nat} (h : cl_kd t e b = 0) : cl_sp t e b = b := by
  rcases cl_kd_is (t := t) (e := e) (b := b) with ⟨a, _⟩ | ⟨a, _⟩ | ⟨a, _⟩ | ⟨_, a, c, d⟩
  · omega
  · omega
  · omega
  · rw [cl_sp, a, c, if_neg (by omega)]; rfl
theorem cl_sp_le {t : rf_W} {e b : Nat} (h : b ≤ e) : b ≤ cl_sp t e b ∧ cl_sp t e b ≤ e := by
  rcases cl_kd_is (t := t) (e := e) (b := b) with ⟨a, _⟩ | ⟨a, _⟩ | ⟨a, _, _, d⟩ | ⟨a, _⟩
  · rw [cl_sp_1 a]; exact rf_run_le h
  · rw [cl_sp_2 a]; exact rf_run_le h
  · rw [cl_sp_s a]; omega
  · rw [cl_sp_0 a]; omega
theorem cl_s0_ge {t : rf_W} {e b : Nat} : b ≤ cl_s0 t e b := by rw [cl_s0]; split <;> omega
theorem cl_s0_le {t : rf_W} {e b : Nat} (h : b ≤ e) : cl_s0 t e b ≤ e := by
  rw [cl_s0]
  split
  · exact h
  · rename_i h0
    by_cases hb : b < e
    · omega
    · exact absurd (cl_kd_0 (by omega)) h0
theorem cl_rk_0 {t : rf_W} {e b : Nat} (h : b ≤ e) : cl_rk t e (cl_kd t e b) (cl_s0 t e b) = cl_sp t e b := by
  rcases cl_kd_is (t := t) (e := e) (b := b) with ⟨a, c⟩ | ⟨a, _, c⟩ | ⟨a, _⟩ | ⟨a, _⟩
  · rw [cl_s0, if_neg (by omega), cl_sp_1 a, cl_rk, if_pos a]; exact (rf_run_t c).symm
  · rw [cl_s0, if_neg (by omega), cl_sp_2 a, cl_rk, if_neg (by omega), if_pos a]; exact (rf_run_t c).symm
  · rw [cl_s0, if_neg (by omega), cl_sp_s a, cl_rk_3 a]
  · rw [cl_s0, if_pos a, cl_sp_0 a, cl_rk, if_neg (by omega), if_neg (by omega)]
theorem cl_sp_all {t : rf_W} {e b : Nat} (h : cl_kd t e b = 2) : ∀ k, b ≤ k → k < cl_sp t e b → rf_at t e k 48 57 = true := fun k h1 h2 => by
  rw [cl_sp_2 h, rf_run] at h2
  exact rf_sk_all t e 48 57 (e - b) b k h1 h2
theorem cl_vl_0 {f : Nat → Int32} {t : rf_W} {e b : Nat} (h : cl_kd t e b ≠ 2) : cl_pk f b = cl_vl f t e b := by rw [cl_vl, if_neg h]
theorem cl_vl_2 {f : Nat → Int32} {t : rf_W} {e b q : Nat} (h : cl_kd t e b = 2) (hq : q = cl_sp t e b) : cl_nm t b q = cl_vl f t e b := by rw [cl_vl, if_pos h, hq]
theorem cl_tk_mk {h : am_H} {t : rf_W} {e s p q : Nat} {v : Int32} (hB : rf_sb t e s = p) (hQ : q = cl_sp t e p) (hby : cl_by (h 2) t e) (he4 : e ≤ 400) (hp : p ≤ e) (he : (h 1) 1 = nI e) (hv : v = cl_vl (h 2) t e p) : cl_tp (am_row h 1 (upd (upd (upd (upd (h 1) 3 (nI p)) 2 (nI (cl_kd t e p))) 4 (nI q)) 5 v)) t e (rf_sb t e s) := by
  subst hB hQ hv
  refine ⟨by rw [am_row_ne _ _ _ (by decide)]; exact hby, he4, hp, ?_, ?_, ?_, ?_, ?_⟩
  · rw [am_row_at, rf_upd_ne (by decide), rf_upd_ne (by decide), rf_upd_ne (by decide), rf_upd_ne (by decide)]; exact he
  · rw [am_row_at, rf_upd_ne (by decide), rf_upd_ne (by decide), rf_upd_eq]
  · rw [am_row_at, rf_upd_ne (by decide), rf_upd_ne (by decide), rf_upd_ne (by decide), rf_upd_eq]
  · rw [am_row_at, rf_upd_ne (by decide), rf_upd_eq]
  · rw [am_row_at, rf_upd_eq, am_row_ne _ _ _ (by decide)]
theorem cl_word_1 {t : rf_W} {e b k : Nat} (hk0 : 0 < am_len k) (h : cl_kd t e b ≠ 1) : rf_word t b (rf_run t e 97 122 b) k = false := by
  rcases cl_kd_is (t := t) (e := e) (b := b) with ⟨a, _⟩ | ⟨_, a, _⟩ | ⟨_, a, _⟩ | ⟨_, a, _⟩
  · exact absurd a h
  all_goals rw [rf_word, rf_run_f a, decide_eq_false (by omega)]; rfl
theorem cl_word_2 {t : rf_W} {e b k : Nat} (h : cl_kd t e b = 1) (h2 : ¬ cl_sp t e b - b = am_len k) : rf_word t b (rf_run t e 97 122 b) k = false := by
  rw [rf_word, ← cl_sp_1 h, decide_eq_false h2]; rfl
theorem cl_chr {f t : Nat → Int32} {e b k i : Nat} (hby : cl_by f t e) (hk : k < am_TX.length) (hi : i < am_len k) (hb : b + i < e) : f (b + i) = am_chr k i ↔ t (b + i) = am_chr k i := by
  obtain ⟨m, hm, e1, e2, e3⟩ := hby _ hb
  obtain ⟨c0, c1⟩ := am_chr_b hk hi
  by_cases q : m < 128
  · rw [e1, e2 q]
  · constructor
    · intro z
      rw [e1] at z
      rw [← z, show (128 : Int32) = nI 128 from rfl, nI_ltI (by omega) (by decide)] at c1
      omega
    · intro z
      rw [z] at e3
      exact absurd (e3 (by omega)) (Int32.not_lt.mpr c0)
theorem cl_at_c {t : rf_W} {e b c : Nat} (h : rf_at t e b c c = true) : t b = nI c ∧ b < e := by
  have hb := rf_at_lt h
  simp only [rf_at, Bool.and_eq_true, decide_eq_true_eq] at h
  exact ⟨Int32.le_antisymm h.2.2 h.2.1, hb⟩
theorem cl_sg_3 {t : rf_W} {e b c : Nat} (hc : cl_sg c) (h : rf_at t e b c c = true) : cl_kd t e b = 3 := by
  obtain ⟨h1, h2⟩ := cl_at_c h
  have h8 := hc.1
  rcases cl_kd_is (t := t) (e := e) (b := b) with ⟨_, a⟩ | ⟨_, _, a⟩ | ⟨a, _⟩ | ⟨_, _, _, a⟩
  · simp only [rf_at, Bool.and_eq_true, decide_eq_true_eq] at a
    rw [h1, nI_leI (by decide) (by omega), nI_leI (by omega) (by decide)] at a
    have := hc.2.2; omega
  · simp only [rf_at, Bool.and_eq_true, decide_eq_true_eq] at a
    rw [h1, nI_leI (by decide) (by omega), nI_leI (by omega) (by decide)] at a
    have := hc.2.1; omega
  · exact a
  · omega
theorem cl_isg_0 {t : rf_W} {e b c : Nat} (hc : cl_sg c) (h : cl_kd t e b ≠ 3) : rf_at t e b c c = false := by
  cases q : rf_at t e b c c with
  | false => rfl
  | true => exact absurd (cl_sg_3 hc q) h
theorem cl_vl_3 {f : Nat → Int32} {t : rf_W} {e b : Nat} (he4 : e ≤ 400) (h : cl_kd t e b = 3) : cl_vl f t e b = f b ∧ b < e := by
  rcases cl_kd_is (t := t) (e := e) (b := b) with ⟨a, _⟩ | ⟨a, _⟩ | ⟨_, _, _, d⟩ | ⟨a, _⟩
  · omega
  · omega
  · exact ⟨by rw [cl_vl, if_neg (by omega), cl_pk, if_pos (by omega)], d⟩
  · omega
theorem cl_isg_1 {f t : Nat → Int32} {e b c : Nat} (hby : cl_by f t e) (he4 : e ≤ 400) (hc : cl_sg c) (h : cl_kd t e b = 3) (h2 : ¬ cl_vl f t e b = nI c) : rf_at t e b c c = false := by
  obtain ⟨h3, h4⟩ := cl_vl_3 (f := f) he4 h
  rw [h3] at h2
  have h8 := hc.1
  cases q : rf_at t e b c c with
  | false => rfl
  | true =>
    obtain ⟨x, y⟩ := (cl_ta hby h4 (by omega) hc.1).mp q
    exact absurd (Int32.le_antisymm (Int32.not_lt.mp y) (Int32.not_lt.mp x)) h2
theorem cl_isg_2 {f t : Nat → Int32} {e b c : Nat} (hby : cl_by f t e) (he4 : e ≤ 400) (hc : cl_sg c) (h : cl_kd t e b = 3) (h2 : cl_vl f t e b = nI c) : rf_at t e b c c = true := by
  obtain ⟨h3, h4⟩ := cl_vl_3 (f := f) he4 h
  rw [h3] at h2
  have h8 := hc.1
  exact (cl_ta hby h4 (by omega) hc.1).mpr (by rw [h2]; exact ⟨Int32.lt_irrefl, Int32.lt_irrefl⟩)
theorem cl_sp_3 {t : rf_W} {e b c : Nat} (hc : cl_sg c) (h : rf_at t e b c c = true) : cl_sp t e b = b + 1 := cl_sp_s (cl_sg_3 hc h)
theorem cl_isn_0 {t : rf_W} {e b lo : Nat} {hi : Int32} (h : cl_kd t e b ≠ 2) : decide (rf_num t b (rf_run t e 48 57 b) lo hi ≠ 0) = false := by
  refine decide_eq_false (fun z => z ?_)
  have h2 : rf_at t e b 48 57 = false := by
    rcases cl_kd_is (t := t) (e := e) (b := b) with ⟨_, a⟩ | ⟨a, _⟩ | ⟨_, _, a, _⟩ | ⟨_, _, a, _⟩
    · exact cl_at_ex a
    · exact absurd a h
    all_goals exact a
  rw [rf_num, if_pos (Or.inl (rf_run_f h2))]
theorem cl_run_2 {t : rf_W} {e b : Nat} (hbe : b ≤ e) (h : cl_kd t e b = 2) : b < rf_run t e 48 57 b ∧ rf_nv t b (rf_run t e 48 57 b - b) < 1000 := by
  rcases cl_kd_is (t := t) (e := e) (b := b) with ⟨a, _⟩ | ⟨_, _, a⟩ | ⟨a, _⟩ | ⟨a, _⟩
  · omega
  · refine ⟨?_, rf_nv_1000 (e := e) (fun k h1 h2 => cl_sp_all h k h1 (by rw [cl_sp_2 h]; omega))⟩
    rw [rf_run_t a]
    exact (rf_run_le (t := t) (e := e) (lo := 48) (hi := 57) (show b + 1 ≤ e from rf_at_lt a)).1
  all_goals omega
theorem cl_vl_n {f t : Nat → Int32} {e b : Nat} (h : cl_kd t e b = 2) : cl_vl f t e b = cl_nm t b (rf_run t e 48 57 b) := by rw [cl_vl, if_pos h, cl_sp_2 h]
theorem cl_isn_1 {f t : Nat → Int32} {e b lo : Nat} {hi : Int32} (_hby : cl_by f t e) (hbe : b ≤ e) (h : cl_kd t e b = 2) (h2 : cl_vl f t e b < nI lo ∨ hi < cl_vl f t e b) (hlo : lo < 1000) : decide (rf_num t b (rf_run t e 48 57 b) lo hi ≠ 0) = false := by
  obtain ⟨h3, h4⟩ := cl_run_2 hbe h
  refine decide_eq_false (fun z => z ?_)
  rw [cl_vl_n h, cl_nm] at h2
  by_cases q : rf_run t e 48 57 b - b ≤ 3
  · rw [if_pos q] at h2
    rw [rf_num]
    rcases h2 with h2 | h2
    · rw [nI_ltI (by omega) (by omega)] at h2
      rw [if_pos (Or.inr (Or.inr (Or.inl h2)))]
    · rw [if_pos (Or.inr (Or.inr (Or.inr h2)))]
  · rw [rf_num, if_pos (Or.inr (Or.inl (by omega)))]
theorem cl_isn_2 {f t : Nat → Int32} {e b lo : Nat} {hi : Int32} (_hby : cl_by f t e) (hbe : b ≤ e) (hlo : lo < 1000) (h : cl_kd t e b = 2) (h1 : ¬ cl_vl f t e b < nI lo) (h2 : ¬ hi < cl_vl f t e b) : decide (rf_num t b (rf_run t e 48 57 b) lo hi ≠ 0) = true ∧ cl_vl f t e b = nI (rf_num t b (rf_run t e 48 57 b) lo hi - 1) := by
  obtain ⟨h3, h4⟩ := cl_run_2 hbe h
  rw [cl_vl_n h, cl_nm] at h1 h2 ⊢
  by_cases q : rf_run t e 48 57 b - b ≤ 3
  · rw [if_pos q] at h1 h2 ⊢
    rw [nI_ltI (by omega) (by omega)] at h1
    have e1 : rf_num t b (rf_run t e 48 57 b) lo hi = rf_nv t b (rf_run t e 48 57 b - b) + 1 := by
      rw [rf_num, if_neg]
      intro z
      rcases z with z | z | z | z
      · omega
      · omega
      · omega
      · exact h2 z
    rw [e1]
    exact ⟨decide_eq_true (by omega), rfl⟩
  · rw [if_neg q] at h1
    exact absurd (Int32.lt_of_lt_of_le (show (-1 : Int32) < 0 by decide) (Int32.not_lt.mp (nI_pos (show lo < 2147483648 by omega)))) h1
/-- the value of what is a number within bounds -/
theorem cl_num_v {h : am_H} {t : rf_W} {e b lo : Nat} {hi : Int32} (K : cl_tp h t e b) (hlo : lo < 1000) (hn : rf_num t b (rf_run t e 48 57 b) lo hi ≠ 0) : (h 1) 5 = nI (rf_num t b (rf_run t e 48 57 b) lo hi - 1) ∧ (h 1) 4 = nI (rf_run t e 48 57 b) ∧ cl_kd t e b = 2 := by
  obtain ⟨hby, he4, hbe, he, hkd, hb, hs, hv⟩ := K
  have h2 : cl_kd t e b = 2 := Classical.byContradiction (fun z => of_decide_eq_false (cl_isn_0 (lo := lo) (hi := hi) z) hn)
  refine ⟨?_, by rw [hs, cl_sp_2 h2], h2⟩
  by_cases q1 : cl_vl (h 2) t e b < nI lo
  · exact absurd hn (of_decide_eq_false (cl_isn_1 hby hbe h2 (Or.inl q1) hlo))
  · by_cases q2 : hi < cl_vl (h 2) t e b
    · exact absurd hn (of_decide_eq_false (cl_isn_1 hby hbe h2 (Or.inr q2) hlo))
    · rw [hv]; exact (cl_isn_2 hby hbe hlo h2 q1 q2).2
end M46

set_option maxHeartbeats 400000 in
theorem c_X11_pick2 {ad : Nat → Nat} {r : am_R} {h : am_H} (k : Nat) (hk : k < 2147483648)  : am_CM mX11_pick 0 0 0 [.ref 2, .int (nI k)] (am_VV ad) r h (am_po (some (.int (cl_pk (h 2) k))) r h) := by
  refine am_CM.of (by decide +kernel) (Nat.le_of_ble_eq_true rfl) (fun X C T => ?_)
  show am_G X (am_VV ad) (0, 0) 0 [(0, .ref 2), (1, .int (nI k))] [] r h
  refine am_iload_n (pc := 0) C dX11_pick_0 rfl ?_
  refine am_if_ltN (pc := 1) (tgt := 16) C dX11_pick_1 (by decide) (by omega) ?_
  refine am_iload_n (pc := 4) C dX11_pick_4 rfl ?_
  refine am_aload_n (pc := 5) C dX11_pick_5 rfl ?_
  refine am_len1 (pc := 6) (v := nI 400) C dX11_pick_6 bn_2 sh_2 rfl ?_
  refine am_icmp_geN (pc := 7) (tgt := 16) C dX11_pick_7 (by decide) (by omega) (by omega) (fun q7 => ?_) (fun q7 => ?_)
  · skip
    refine am_iconstN (pc := 16) (k := 0) C dX11_pick_16 ?_
    exact am_ireti T dX11_pick_17 rfl (Nat.le_refl _) (Nat.le_refl _) (by rw [cl_pk, if_neg (by omega)]) rfl rfl
  · skip
    refine am_aload_n (pc := 10) C dX11_pick_10 rfl ?_
    refine am_iload_n (pc := 11) C dX11_pick_11 rfl ?_
    refine am_iaload (pc := 12) C dX11_pick_12 bn_2 sh_2 (vp_in_nI (by omega) (by decide)) ?_
    refine am_top (show (h 2) (nI k).toNatClampNeg = (h 2) k from by rw [nI_clamp (by omega)]) ?_
    refine am_goto (pc := 13) (tgt := 17) C dX11_pick_13 (by decide) ?_
    exact am_ireti T dX11_pick_17 rfl (Nat.le_refl _) (Nat.le_refl _) (by rw [cl_pk, if_pos (by omega)]) rfl rfl

set_option maxHeartbeats 400000 in
set_option maxRecDepth 100000 in
theorem c_X8_kindAt {ad : Nat → Nat} {r : am_R} (hR : am_rs r) {h : am_H} (k : Nat) (t : rf_W) (e : Nat) (hby : cl_by (h 2) t e) (he4 : e ≤ 400) (he : (h 1) 1 = nI e) (hk : k < 2147483648)  : am_CM mX8_kindAt 0 0 0 [.ref 1, .int (nI k)] (am_VV ad) r h (am_po (some (.int (nI (cl_kd t e k)))) r h) := by
  refine am_CM.of (by decide +kernel) (Nat.le_of_ble_eq_true rfl) (fun X C T => ?_)
  show am_G X (am_VV ad) (0, 0) 0 [(0, .ref 1), (1, .int (nI k))] [] r h
  refine am_iload_n (pc := 0) C dX8_kindAt_0 rfl ?_
  refine am_if_ltN (pc := 1) (tgt := 28) C dX8_kindAt_1 (by decide) (by omega) ?_
  refine am_iload_n (pc := 4) C dX8_kindAt_4 rfl ?_
  have hk9 : k < 2147483648 := hk
  refine am_aload_n (pc := 5) C dX8_kindAt_5 rfl ?_
  refine am_getI (pc := 6) C dX8_kindAt_6 f8_15 bn_1 sh_1 ?_
  refine am_top (show ((h 1) 1) = (nI e) from he) ?_
  refine am_icmp_geN (pc := 9) (tgt := 28) C dX8_kindAt_9 (by decide) (by omega) (by omega) (fun q9 => ?_) (fun q9 => ?_)
  · skip
    refine am_iconst (pc := 28) (v := -1) C dX8_kindAt_28 rfl ?_
    refine am_istore_n (pc := 29) (ls' := [(0, .ref 1), (1, .int (nI k)), (2, .int (-1))]) C dX8_kindAt_29 (by decide) rfl ?_
    refine am_iload_n (pc := 30) C dX8_kindAt_30 rfl ?_
    refine am_bipush (pc := 31) (v := nI 97) C dX8_kindAt_31 (by decide) ?_
    refine am_icmp_lt (pc := 33) (tgt := 44) C dX8_kindAt_33 (by decide) (fun q33 => ?_) (fun q33 => ?_)
    · skip
      refine am_iload_n (pc := 44) C dX8_kindAt_44 rfl ?_
      refine am_bipush (pc := 45) (v := nI 48) C dX8_kindAt_45 (by decide) ?_
      refine am_icmp_lt (pc := 47) (tgt := 58) C dX8_kindAt_47 (by decide) (fun q47 => ?_) (fun q47 => ?_)
      · skip
        refine am_iload_n (pc := 58) C dX8_kindAt_58 rfl ?_
        refine am_iconst (pc := 59) (v := -1) C dX8_kindAt_59 rfl ?_
        refine am_icmp_ne (pc := 60) (tgt := 67) C dX8_kindAt_60 (by decide) (fun q60 => ?_) (fun q60 => ?_)
        · skip
          exact absurd rfl q60
        · skip
          refine am_iconstN (pc := 63) (k := 0) C dX8_kindAt_63 ?_
          refine am_goto (pc := 64) (tgt := 68) C dX8_kindAt_64 (by decide) ?_
          exact am_ireti T dX8_kindAt_68 rfl (Nat.le_refl _) (Nat.le_refl _) (by rw [cl_kd_0 q9]) rfl rfl
      · skip
        exact absurd (show (-1 : Int32) < nI 48 by decide) q47
    · skip
      exact absurd (show (-1 : Int32) < nI 97 by decide) q33
  · skip
    refine am_iload_n (pc := 12) C dX8_kindAt_12 rfl ?_
    refine am_sipush (pc := 13) (v := nI 400) C dX8_kindAt_13 (by decide) ?_
    refine am_icmp_geN (pc := 16) (tgt := 28) C dX8_kindAt_16 (by decide) (by omega) (by omega) (fun q16 => ?_) (fun q16 => ?_)
    · skip
      exact absurd q16 (by omega)
    · skip
      refine am_aload_n (pc := 19) C dX8_kindAt_19 rfl ?_
      refine am_getR (pc := 20) (j := 2) C dX8_kindAt_20 f8_9 bn_1 sh_1 (rf_1_0 hR) ?_
      refine am_iload_n (pc := 23) C dX8_kindAt_23 rfl ?_
      refine am_iaload (pc := 24) C dX8_kindAt_24 bn_2 sh_2 (vp_in_nI (by omega) (by decide)) ?_
      refine am_top (show (h 2) (nI k).toNatClampNeg = (h 2) k from by rw [nI_clamp (by omega)]) ?_
      refine am_goto (pc := 25) (tgt := 29) C dX8_kindAt_25 (by decide) ?_
      refine am_istore_n (pc := 29) (ls' := [(0, .ref 1), (1, .int (nI k)), (2, .int ((h 2) k))]) C dX8_kindAt_29 (by decide) rfl ?_
      refine am_iload_n (pc := 30) C dX8_kindAt_30 rfl ?_
      refine am_bipush (pc := 31) (v := nI 97) C dX8_kindAt_31 (by decide) ?_
      refine am_icmp_lt (pc := 33) (tgt := 44) C dX8_kindAt_33 (by decide) (fun q33 => ?_) (fun q33 => ?_)
      · skip
        refine am_iload_n (pc := 44) C dX8_kindAt_44 rfl ?_
        refine am_bipush (pc := 45) (v := nI 48) C dX8_kindAt_45 (by decide) ?_
        refine am_icmp_lt (pc := 47) (tgt := 58) C dX8_kindAt_47 (by decide) (fun q47 => ?_) (fun q47 => ?_)
        · skip
          refine am_iload_n (pc := 58) C dX8_kindAt_58 rfl ?_
          refine am_iconst (pc := 59) (v := -1) C dX8_kindAt_59 rfl ?_
          refine am_icmp_ne (pc := 60) (tgt := 67) C dX8_kindAt_60 (by decide) (fun q60 => ?_) (fun q60 => ?_)
          · skip
            refine am_iconstN (pc := 67) (k := 3) C dX8_kindAt_67 ?_
            exact am_ireti T dX8_kindAt_68 rfl (Nat.le_refl _) (Nat.le_refl _) (by rw [cl_kd_3 hby (by omega) (Or.inl q33) (Or.inl q47)]) rfl rfl
          · skip
            exact absurd q60 (cl_by_n1 hby (by omega))
        · skip
          refine am_iload_n (pc := 50) C dX8_kindAt_50 rfl ?_
          refine am_bipush (pc := 51) (v := nI 57) C dX8_kindAt_51 (by decide) ?_
          refine am_icmp_gt (pc := 53) (tgt := 58) C dX8_kindAt_53 (by decide) (fun q53 => ?_) (fun q53 => ?_)
          · skip
            refine am_iload_n (pc := 58) C dX8_kindAt_58 rfl ?_
            refine am_iconst (pc := 59) (v := -1) C dX8_kindAt_59 rfl ?_
            refine am_icmp_ne (pc := 60) (tgt := 67) C dX8_kindAt_60 (by decide) (fun q60 => ?_) (fun q60 => ?_)
            · skip
              refine am_iconstN (pc := 67) (k := 3) C dX8_kindAt_67 ?_
              exact am_ireti T dX8_kindAt_68 rfl (Nat.le_refl _) (Nat.le_refl _) (by rw [cl_kd_3 hby (by omega) (Or.inl q33) (Or.inr q53)]) rfl rfl
            · skip
              exact absurd q60 (cl_by_n1 hby (by omega))
          · skip
            refine am_iconstN (pc := 56) (k := 2) C dX8_kindAt_56 ?_
            exact am_ireti T dX8_kindAt_57 rfl (Nat.le_refl _) (Nat.le_refl _) (by rw [cl_kd_2 hby (by omega) (Or.inl q33) q47 q53]) rfl rfl
      · skip
        refine am_iload_n (pc := 36) C dX8_kindAt_36 rfl ?_
        refine am_bipush (pc := 37) (v := nI 122) C dX8_kindAt_37 (by decide) ?_
        refine am_icmp_gt (pc := 39) (tgt := 44) C dX8_kindAt_39 (by decide) (fun q39 => ?_) (fun q39 => ?_)
        · skip
          refine am_iload_n (pc := 44) C dX8_kindAt_44 rfl ?_
          refine am_bipush (pc := 45) (v := nI 48) C dX8_kindAt_45 (by decide) ?_
          refine am_icmp_lt (pc := 47) (tgt := 58) C dX8_kindAt_47 (by decide) (fun q47 => ?_) (fun q47 => ?_)
          · skip
            refine am_iload_n (pc := 58) C dX8_kindAt_58 rfl ?_
            refine am_iconst (pc := 59) (v := -1) C dX8_kindAt_59 rfl ?_
            refine am_icmp_ne (pc := 60) (tgt := 67) C dX8_kindAt_60 (by decide) (fun q60 => ?_) (fun q60 => ?_)
            · skip
              refine am_iconstN (pc := 67) (k := 3) C dX8_kindAt_67 ?_
              exact am_ireti T dX8_kindAt_68 rfl (Nat.le_refl _) (Nat.le_refl _) (by rw [cl_kd_3 hby (by omega) (Or.inr q39) (Or.inl q47)]) rfl rfl
            · skip
              exact absurd q60 (cl_by_n1 hby (by omega))
          · skip
            refine am_iload_n (pc := 50) C dX8_kindAt_50 rfl ?_
            refine am_bipush (pc := 51) (v := nI 57) C dX8_kindAt_51 (by decide) ?_
            refine am_icmp_gt (pc := 53) (tgt := 58) C dX8_kindAt_53 (by decide) (fun q53 => ?_) (fun q53 => ?_)
            · skip
              refine am_iload_n (pc := 58) C dX8_kindAt_58 rfl ?_
              refine am_iconst (pc := 59) (v := -1) C dX8_kindAt_59 rfl ?_
              refine am_icmp_ne (pc := 60) (tgt := 67) C dX8_kindAt_60 (by decide) (fun q60 => ?_) (fun q60 => ?_)
              · skip
                refine am_iconstN (pc := 67) (k := 3) C dX8_kindAt_67 ?_
                exact am_ireti T dX8_kindAt_68 rfl (Nat.le_refl _) (Nat.le_refl _) (by rw [cl_kd_3 hby (by omega) (Or.inr q39) (Or.inr q53)]) rfl rfl
              · skip
                exact absurd q60 (cl_by_n1 hby (by omega))
            · skip
              refine am_iconstN (pc := 56) (k := 2) C dX8_kindAt_56 ?_
              exact am_ireti T dX8_kindAt_57 rfl (Nat.le_refl _) (Nat.le_refl _) (by rw [cl_kd_2 hby (by omega) (Or.inr q39) q47 q53]) rfl rfl
        · skip
          refine am_iconstN (pc := 42) (k := 1) C dX8_kindAt_42 ?_
          exact am_ireti T dX8_kindAt_43 rfl (Nat.le_refl _) (Nat.le_refl _) (by rw [cl_kd_1 hby (by omega) q33 q39]) rfl rfl

set_option maxHeartbeats 400000 in
set_option maxRecDepth 100000 in
theorem c_X8_numberRead {ad : Nat → Nat} {r : am_R} (hR : am_rs r) {h : am_H}  (t : rf_W) (e : Nat) (hby : cl_by (h 2) t e) (he4 : e ≤ 400) (he : (h 1) 1 = nI e) (b : Nat) (s : Nat) (hb : (h 1) 3 = nI b) (hs : (h 1) 4 = nI s) (hbs : b ≤ s) (hse : s ≤ e) (hall : ∀ k, b ≤ k → k < s → rf_at t e k 48 57 = true)  : am_CM mX8_numberRead 0 0 0 [.ref 1] (am_VV ad) r h (am_po (some (.int (cl_nm t b s))) r h) := by
  refine am_CM.of (by decide +kernel) (Nat.le_of_ble_eq_true rfl) (fun X C T => ?_)
  show am_G X (am_VV ad) (0, 0) 0 [(0, .ref 1)] [] r h
  refine am_iconstN (pc := 0) (k := 0) C dX8_numberRead_0 ?_
  refine am_istore_n (pc := 1) (ls' := [(0, .ref 1), (1, .int (nI 0))]) C dX8_numberRead_1 (by decide) rfl ?_
  refine am_aload_n (pc := 2) C dX8_numberRead_2 rfl ?_
  refine am_getI (pc := 3) C dX8_numberRead_3 f8_29 bn_1 sh_1 ?_
  refine am_top (show ((h 1) 3) = (nI b) from hb) ?_
  refine am_istore_n (pc := 6) (ls' := [(0, .ref 1), (1, .int (nI 0)), (2, .int (nI b))]) C dX8_numberRead_6 (by decide) rfl ?_
  have L7 : ∀ (j7 : Nat) (p : Nat), (hpj : p + j7 = s) → (hpp : b ≤ p) → am_G X (am_VV ad) (0, 0) 7 [(0, .ref 1), (1, .int (cl_nm t b p)), (2, .int (nI p))] [] r h := by
    intro j7
    induction j7 with
    | zero =>
      intro p hpj hpp
      have hps : p = s := by omega
      refine am_iload_n (pc := 7) C dX8_numberRead_7 rfl ?_
      refine am_aload_n (pc := 8) C dX8_numberRead_8 rfl ?_
      refine am_getI (pc := 9) C dX8_numberRead_9 f8_23 bn_1 sh_1 ?_
      refine am_top (show ((h 1) 4) = (nI s) from hs) ?_
      refine am_icmp_geN (pc := 12) (tgt := 57) C dX8_numberRead_12 (by decide) (by omega) (by omega) (fun q12 => ?_) (fun q12 => ?_)
      · skip
        refine am_iload_n (pc := 57) C dX8_numberRead_57 rfl ?_
        exact am_ireti T dX8_numberRead_58 rfl (Nat.le_refl _) (Nat.le_refl _) (by rw [hps]) rfl rfl
      · skip
        exact absurd q12 (by omega)
    | succ j7 ih7 =>
      intro p hpj hpp
      have hat := hall p hpp (by omega)
      have ht9 : 48 ≤ rf_nat (t p) ∧ rf_nat (t p) ≤ 57 := (rf_at_n hat).2
      have hnv : rf_nv t b (p - b) < 1000 := rf_nv_1000 (e := e) (fun k h1 h2 => hall k h1 (by omega))
      refine am_iload_n (pc := 7) C dX8_numberRead_7 rfl ?_
      refine am_aload_n (pc := 8) C dX8_numberRead_8 rfl ?_
      refine am_getI (pc := 9) C dX8_numberRead_9 f8_23 bn_1 sh_1 ?_
      refine am_top (show ((h 1) 4) = (nI s) from hs) ?_
      refine am_icmp_geN (pc := 12) (tgt := 57) C dX8_numberRead_12 (by decide) (by omega) (by omega) (fun q12 => ?_) (fun q12 => ?_)
      · skip
        exact absurd q12 (by omega)
      · skip
        refine am_iload_n (pc := 15) C dX8_numberRead_15 rfl ?_
        refine am_sipush (pc := 16) (v := nI 400) C dX8_numberRead_16 (by decide) ?_
        refine am_icmp_geN (pc := 19) (tgt := 57) C dX8_numberRead_19 (by decide) (by omega) (by omega) (fun q19 => ?_) (fun q19 => ?_)
        · skip
          exact absurd q19 (by omega)
        · skip
          refine am_iload_n (pc := 22) C dX8_numberRead_22 rfl ?_
          refine am_aload_n (pc := 23) C dX8_numberRead_23 rfl ?_
          refine am_getI (pc := 24) C dX8_numberRead_24 f8_29 bn_1 sh_1 ?_
          refine am_top (show ((h 1) 3) = (nI b) from hb) ?_
          refine am_isubN (pc := 27) C dX8_numberRead_27 (by omega) ?_
          refine am_iconstN (pc := 28) (k := 3) C dX8_numberRead_28 ?_
          refine am_icmp_geN (pc := 29) (tgt := 49) C dX8_numberRead_29 (by decide) (by omega) (by omega) (fun q29 => ?_) (fun q29 => ?_)
          · skip
            refine am_iconst (pc := 49) (v := -1) C dX8_numberRead_49 rfl ?_
            refine am_istore_n (pc := 50) (ls' := [(0, .ref 1), (1, .int (-1)), (2, .int (nI p))]) C dX8_numberRead_50 (by decide) rfl ?_
            refine am_iincN (pc := 51) (ls' := [(0, .ref 1), (1, .int (-1)), (2, .int (nI (p + 1)))]) C dX8_numberRead_51 rfl (am_up1 _) (by decide) rfl ?_
            refine am_goto (pc := 54) (tgt := 7) C dX8_numberRead_54 (by decide) ?_
            refine am_lsv (ls' := [(0, .ref 1), (1, .int (cl_nm t b (p + 1))), (2, .int (nI (p + 1)))]) (by rw [show (-1) = (cl_nm t b (p + 1)) from (by rw [cl_nm, if_neg (by omega)])]) ?_
            exact ih7 (p + 1) (by omega) (by omega)
          · skip
            refine am_lsv (ls' := [(0, .ref 1), (1, .int (nI (rf_nv t b (p - b)))), (2, .int (nI p))]) (congrArg (fun z9 : Int32 => ([(0, .ref 1), (1, Value.int z9), (2, .int (nI p))] : List (Nat × Value))) (show (cl_nm t b p) = (nI (rf_nv t b (p - b))) from (by rw [cl_nm, if_pos (by omega)]))) ?_
            refine am_iload_n (pc := 32) C dX8_numberRead_32 rfl ?_
            refine am_bipush (pc := 33) (v := nI 10) C dX8_numberRead_33 (by decide) ?_
            refine am_imulN (pc := 35) C dX8_numberRead_35 ?_
            refine am_aload_n (pc := 36) C dX8_numberRead_36 rfl ?_
            refine am_getR (pc := 37) (j := 2) C dX8_numberRead_37 f8_9 bn_1 sh_1 (rf_1_0 hR) ?_
            refine am_iload_n (pc := 40) C dX8_numberRead_40 rfl ?_
            refine am_iaload (pc := 41) C dX8_numberRead_41 bn_2 sh_2 (vp_in_nI (by omega) (by decide)) ?_
            refine am_top (show (h 2) (nI p).toNatClampNeg = (h 2) p from by rw [nI_clamp (by omega)]) ?_
            refine am_top (show ((h 2) p) = (nI (rf_nat (t p))) from ((cl_by_t hby hat).trans (rf_at_n hat).1)) ?_
            refine am_iaddN (pc := 42) C dX8_numberRead_42 ?_
            refine am_bipush (pc := 43) (v := nI 48) C dX8_numberRead_43 (by decide) ?_
            refine am_isubN (pc := 45) C dX8_numberRead_45 (by omega) ?_
            refine am_goto (pc := 46) (tgt := 50) C dX8_numberRead_46 (by decide) ?_
            refine am_istore_n (pc := 50) (ls' := [(0, .ref 1), (1, .int (nI ((((rf_nv t b (p - b)) * 10) + (rf_nat (t p))) - 48))), (2, .int (nI p))]) C dX8_numberRead_50 (by decide) rfl ?_
            refine am_iincN (pc := 51) (ls' := [(0, .ref 1), (1, .int (nI ((((rf_nv t b (p - b)) * 10) + (rf_nat (t p))) - 48))), (2, .int (nI (p + 1)))]) C dX8_numberRead_51 rfl (am_up1 _) (by decide) rfl ?_
            refine am_goto (pc := 54) (tgt := 7) C dX8_numberRead_54 (by decide) ?_
            refine am_lsv (ls' := [(0, .ref 1), (1, .int (cl_nm t b (p + 1))), (2, .int (nI (p + 1)))]) (by rw [show (nI ((((rf_nv t b (p - b)) * 10) + (rf_nat (t p))) - 48)) = (cl_nm t b (p + 1)) from (by rw [cl_nm, if_pos (by omega), show p + 1 - b = (p - b) + 1 by omega, rf_nv, if_pos (by omega), show b + (p - b) = p by omega]; exact congrArg nI (by omega))]) ?_
            exact ih7 (p + 1) (by omega) (by omega)
  refine am_lsv (ls' := [(0, .ref 1), (1, .int (cl_nm t b b)), (2, .int (nI b))]) (by rw [show (nI 0) = (cl_nm t b b) from (by rw [cl_nm, Nat.sub_self]; rfl)]) ?_
  exact L7 (s - b) b (by omega) (by omega)

set_option maxHeartbeats 400000 in
set_option maxRecDepth 100000 in
theorem c_X8_advance {ad : Nat → Nat} {r : am_R} (hR : am_rs r) {h : am_H}  (t : rf_W) (e : Nat) (hby : cl_by (h 2) t e) (he4 : e ≤ 400) (he : (h 1) 1 = nI e) (s : Nat) (hs : (h 1) 4 = nI s) (hse : s ≤ e)  : am_CM mX8_advance 2 0 0 [.ref 1] (am_VV ad) r h (am_pr none r (fun c9 => cl_tp (c9) t e (rf_sb t e s) ∧ cl_fr (h) c9 1 1)) := by
  refine am_CM.of (by decide +kernel) (Nat.le_of_ble_eq_true rfl) (fun X C T => ?_)
  show am_G X (am_VV ad) (0, 0) 0 [(0, .ref 1)] [] r h
  refine am_aload_n (pc := 0) C dX8_advance_0 rfl ?_
  refine am_aload_n (pc := 1) C dX8_advance_1 rfl ?_
  refine am_getI (pc := 2) C dX8_advance_2 f8_23 bn_1 sh_1 ?_
  refine am_top (show ((h 1) 4) = (nI s) from hs) ?_
  refine am_putI (pc := 5) C dX8_advance_5 f8_29 bn_1 sh_1 rfl rfl ?_
  refine am_hp (show am_up h 1 3 (nI s) = am_row h 1 (upd (h 1) 3 (nI s)) from am_up_rw _ _ _ _) ?_
  have L8 : ∀ (j8 : Nat) (p : Nat), (hpj : p + j8 = e) → (hrun : rf_run t e 32 32 p = rf_sb t e s) → am_G X (am_VV ad) (0, 0) 8 [(0, .ref 1)] [] r (am_row h 1 (upd (h 1) 3 (nI p))) := by
    intro j8
    induction j8 with
    | zero =>
      intro p hpj hrun
      have hB : rf_sb t e s = p := hrun.symm.trans (rf_run_f (rf_at_ge (by omega)))
      refine am_aload_n (pc := 8) C dX8_advance_8 rfl ?_
      refine am_getI (pc := 9) C dX8_advance_9 f8_29 bn_1 sh_1 ?_
      refine am_top (show ((upd (h 1) 3 (nI p)) 3) = (nI p) from (by (repeat rw [rf_upd_ne (by decide)]); exact rf_upd_eq)) ?_
      refine am_aload_n (pc := 12) C dX8_advance_12 rfl ?_
      refine am_getI (pc := 13) C dX8_advance_13 f8_15 bn_1 sh_1 ?_
      refine am_top (show ((upd (h 1) 3 (nI p)) 1) = (nI e) from (by (repeat rw [rf_upd_ne (by decide)]); exact he)) ?_
      refine am_icmp_geN (pc := 16) (tgt := 58) C dX8_advance_16 (by decide) (by omega) (by omega) (fun q16 => ?_) (fun q16 => ?_)
      · skip
        refine am_aload_n (pc := 58) C dX8_advance_58 rfl ?_
        refine am_aload_n (pc := 59) C dX8_advance_59 rfl ?_
        refine am_aload_n (pc := 60) C dX8_advance_60 rfl ?_
        refine am_getI (pc := 61) C dX8_advance_61 f8_29 bn_1 sh_1 ?_
        refine am_top (show ((upd (h 1) 3 (nI p)) 3) = (nI p) from (by (repeat rw [rf_upd_ne (by decide)]); exact rf_upd_eq)) ?_
        refine am_callVi (Y := mX8_kindAt) (pc := 64) (st := [.ref 1]) (As := [.int (nI p)]) (x := (nI (cl_kd t e p))) (h2 := (am_row h 1 (upd (h 1) 3 (nI p)))) C dX8_advance_64 k8_36 v_X8_kindAt rfl rfl bn_1 sh_1 ⟨by decide, rfl⟩ (by decide) (Nat.zero_le _) (Nat.zero_le _) (Nat.le_of_ble_eq_true rfl) (c_X8_kindAt (h := (am_row h 1 (upd (h 1) 3 (nI p)))) hR p t e (show cl_by (h 2) t e from hby) (show e ≤ 400 from he4) (show (upd (h 1) 3 (nI p)) 1 = nI e from (by (repeat rw [rf_upd_ne (by decide)]); exact he)) (show p < 2147483648 from (by omega))) ?_
        have hkd4 : cl_kd t e p < 4 := cl_kd_lt
        refine am_putI (pc := 67) C dX8_advance_67 f8_40 bn_1 sh_1 rfl rfl ?_
        refine am_hp (show am_up (am_row h 1 (upd (h 1) 3 (nI p))) 1 2 (nI (cl_kd t e p)) = am_row (am_row h 1 (upd (h 1) 3 (nI p))) 1 (upd (upd (h 1) 3 (nI p)) 2 (nI (cl_kd t e p))) from am_up_rw _ _ _ _) ?_
        refine am_hp (show am_row (am_row h 1 (upd (h 1) 3 (nI p))) 1 (upd (upd (h 1) 3 (nI p)) 2 (nI (cl_kd t e p))) = (am_row h 1 (upd (upd (h 1) 3 (nI p)) 2 (nI (cl_kd t e p)))) from am_row_s0) ?_
        refine am_aload_n (pc := 70) C dX8_advance_70 rfl ?_
        refine am_aload_n (pc := 71) C dX8_advance_71 rfl ?_
        refine am_getI (pc := 72) C dX8_advance_72 f8_40 bn_1 sh_1 ?_
        refine am_top (show ((upd (upd (h 1) 3 (nI p)) 2 (nI (cl_kd t e p))) 2) = (nI (cl_kd t e p)) from (by (repeat rw [rf_upd_ne (by decide)]); exact rf_upd_eq)) ?_
        refine am_if_neN (pc := 75) (tgt := 85) C dX8_advance_75 (by decide) (by omega) (fun q73 => ?_) (fun q73 => ?_)
        · skip
          refine am_aload_n (pc := 85) C dX8_advance_85 rfl ?_
          refine am_getI (pc := 86) C dX8_advance_86 f8_29 bn_1 sh_1 ?_
          refine am_top (show ((upd (upd (h 1) 3 (nI p)) 2 (nI (cl_kd t e p))) 3) = (nI p) from (by (repeat rw [rf_upd_ne (by decide)]); exact rf_upd_eq)) ?_
          refine am_iconstN (pc := 89) (k := 1) C dX8_advance_89 ?_
          refine am_iaddN (pc := 90) C dX8_advance_90 ?_
          refine am_putI (pc := 91) C dX8_advance_91 f8_23 bn_1 sh_1 rfl rfl ?_
          refine am_hp (show am_up (am_row h 1 (upd (upd (h 1) 3 (nI p)) 2 (nI (cl_kd t e p)))) 1 4 (nI (p + 1)) = am_row (am_row h 1 (upd (upd (h 1) 3 (nI p)) 2 (nI (cl_kd t e p)))) 1 (upd (upd (upd (h 1) 3 (nI p)) 2 (nI (cl_kd t e p))) 4 (nI (p + 1))) from am_up_rw _ _ _ _) ?_
          refine am_hp (show am_row (am_row h 1 (upd (upd (h 1) 3 (nI p)) 2 (nI (cl_kd t e p)))) 1 (upd (upd (upd (h 1) 3 (nI p)) 2 (nI (cl_kd t e p))) 4 (nI (p + 1))) = (am_row h 1 (upd (upd (upd (h 1) 3 (nI p)) 2 (nI (cl_kd t e p))) 4 (nI (p + 1)))) from am_row_s0) ?_
          have L92 : ∀ (j92 : Nat) (q : Nat), (hqj : q + j92 = e) → (hqp : p ≤ q) → (hrk : cl_rk t e (cl_kd t e p) q = cl_sp t e p) → am_G X (am_VV ad) (0, 0) 94 [(0, .ref 1)] [] r (am_row h 1 (upd (upd (upd (h 1) 3 (nI p)) 2 (nI (cl_kd t e p))) 4 (nI q))) := by
            intro j92
            induction j92 with
            | zero =>
              intro q hqj hqp hrk
              have hkd4 : cl_kd t e p < 4 := cl_kd_lt
              have hQ : q = cl_sp t e p := (cl_rk_e (by omega)).symm.trans hrk
              refine am_aload_n (pc := 94) C dX8_advance_94 rfl ?_
              refine am_getI (pc := 95) C dX8_advance_95 f8_40 bn_1 sh_1 ?_
              refine am_top (show ((upd (upd (upd (h 1) 3 (nI p)) 2 (nI (cl_kd t e p))) 4 (nI q)) 2) = (nI (cl_kd t e p)) from (by (repeat rw [rf_upd_ne (by decide)]); exact rf_upd_eq)) ?_
              refine am_iconstN (pc := 98) (k := 3) C dX8_advance_98 ?_
              refine am_icmp_eqN (pc := 99) (tgt := 141) C dX8_advance_99 (by decide) (by omega) (by omega) (fun q97 => ?_) (fun q97 => ?_)
              · skip
                have hQ : q = cl_sp t e p := (cl_rk_3 q97).symm.trans hrk
                refine am_aload_n (pc := 141) C dX8_advance_141 rfl ?_
                refine am_aload_n (pc := 142) C dX8_advance_142 rfl ?_
                refine am_getI (pc := 143) C dX8_advance_143 f8_40 bn_1 sh_1 ?_
                refine am_top (show ((upd (upd (upd (h 1) 3 (nI p)) 2 (nI (cl_kd t e p))) 4 (nI q)) 2) = (nI (cl_kd t e p)) from (by (repeat rw [rf_upd_ne (by decide)]); exact rf_upd_eq)) ?_
                refine am_iconstN (pc := 146) (k := 2) C dX8_advance_146 ?_
                refine am_icmp_neN (pc := 147) (tgt := 157) C dX8_advance_147 (by decide) (by omega) (by omega) (fun q145 => ?_) (fun q145 => ?_)
                · skip
                  refine am_aload_n (pc := 157) C dX8_advance_157 rfl ?_
                  refine am_getR (pc := 158) (j := 2) C dX8_advance_158 f8_9 bn_1 sh_1 (rf_1_0 hR) ?_
                  refine am_aload_n (pc := 161) C dX8_advance_161 rfl ?_
                  refine am_getI (pc := 162) C dX8_advance_162 f8_29 bn_1 sh_1 ?_
                  refine am_top (show ((upd (upd (upd (h 1) 3 (nI p)) 2 (nI (cl_kd t e p))) 4 (nI q)) 3) = (nI p) from (by (repeat rw [rf_upd_ne (by decide)]); exact rf_upd_eq)) ?_
                  refine am_callSNi (Y := mX11_pick) (pc := 165) (st := [.ref 1]) (As := [.ref 2, .int (nI p)]) (x := (cl_pk (h 2) p)) (h2 := (am_row h 1 (upd (upd (upd (h 1) 3 (nI p)) 2 (nI (cl_kd t e p))) 4 (nI q)))) C dX8_advance_165 k8_32 v_X11_pick rfl rfl (by decide) (Nat.zero_le _) (Nat.zero_le _) (Nat.le_of_ble_eq_true rfl) (c_X11_pick2 (h := (am_row h 1 (upd (upd (upd (h 1) 3 (nI p)) 2 (nI (cl_kd t e p))) 4 (nI q)))) p (show p < 2147483648 from by omega)) ?_
                  refine am_putI (pc := 168) C dX8_advance_168 f8_47 bn_1 sh_1 rfl rfl ?_
                  refine am_hp (show am_up (am_row h 1 (upd (upd (upd (h 1) 3 (nI p)) 2 (nI (cl_kd t e p))) 4 (nI q))) 1 5 (cl_pk (h 2) p) = am_row (am_row h 1 (upd (upd (upd (h 1) 3 (nI p)) 2 (nI (cl_kd t e p))) 4 (nI q))) 1 (upd (upd (upd (upd (h 1) 3 (nI p)) 2 (nI (cl_kd t e p))) 4 (nI q)) 5 (cl_pk (h 2) p)) from am_up_rw _ _ _ _) ?_
                  refine am_hp (show am_row (am_row h 1 (upd (upd (upd (h 1) 3 (nI p)) 2 (nI (cl_kd t e p))) 4 (nI q))) 1 (upd (upd (upd (upd (h 1) 3 (nI p)) 2 (nI (cl_kd t e p))) 4 (nI q)) 5 (cl_pk (h 2) p)) = (am_row h 1 (upd (upd (upd (upd (h 1) 3 (nI p)) 2 (nI (cl_kd t e p))) 4 (nI q)) 5 (cl_pk (h 2) p))) from am_row_s0) ?_
                  exact am_vretvr T dX8_advance_171 rfl (Nat.le_refl _) (Nat.le_refl _) rfl ⟨cl_tk_mk hB hQ hby he4 (by omega) he (cl_vl_0 q145), (fun i9 h9 => by rw [am_row_ne _ _ _ (by omega)])⟩
                · skip
                  refine am_aload_n (pc := 150) C dX8_advance_150 rfl ?_
                  refine am_callVi (Y := mX8_numberRead) (pc := 151) (st := [.ref 1]) (As := []) (x := (cl_nm t p q)) (h2 := (am_row h 1 (upd (upd (upd (h 1) 3 (nI p)) 2 (nI (cl_kd t e p))) 4 (nI q)))) C dX8_advance_151 k8_43 v_X8_numberRead rfl rfl bn_1 sh_1 ⟨by decide, rfl⟩ (by decide) (Nat.zero_le _) (Nat.zero_le _) (Nat.le_of_ble_eq_true rfl) (c_X8_numberRead (h := (am_row h 1 (upd (upd (upd (h 1) 3 (nI p)) 2 (nI (cl_kd t e p))) 4 (nI q)))) hR t e (show cl_by (h 2) t e from hby) (show e ≤ 400 from he4) (show (upd (upd (upd (h 1) 3 (nI p)) 2 (nI (cl_kd t e p))) 4 (nI q)) 1 = nI e from (by (repeat rw [rf_upd_ne (by decide)]); exact he)) p q (show (upd (upd (upd (h 1) 3 (nI p)) 2 (nI (cl_kd t e p))) 4 (nI q)) 3 = nI p from (by (repeat rw [rf_upd_ne (by decide)]); exact rf_upd_eq)) (show (upd (upd (upd (h 1) 3 (nI p)) 2 (nI (cl_kd t e p))) 4 (nI q)) 4 = nI q from (by (repeat rw [rf_upd_ne (by decide)]); exact rf_upd_eq)) (show p ≤ q from hqp) (show q ≤ e from (by omega)) (show ∀ k, p ≤ k → k < q → rf_at t e k 48 57 = true from (by rw [hQ]; exact cl_sp_all q145))) ?_
                  refine am_goto (pc := 154) (tgt := 168) C dX8_advance_154 (by decide) ?_
                  refine am_putI (pc := 168) C dX8_advance_168 f8_47 bn_1 sh_1 rfl rfl ?_
                  refine am_hp (show am_up (am_row h 1 (upd (upd (upd (h 1) 3 (nI p)) 2 (nI (cl_kd t e p))) 4 (nI q))) 1 5 (cl_nm t p q) = am_row (am_row h 1 (upd (upd (upd (h 1) 3 (nI p)) 2 (nI (cl_kd t e p))) 4 (nI q))) 1 (upd (upd (upd (upd (h 1) 3 (nI p)) 2 (nI (cl_kd t e p))) 4 (nI q)) 5 (cl_nm t p q)) from am_up_rw _ _ _ _) ?_
                  refine am_hp (show am_row (am_row h 1 (upd (upd (upd (h 1) 3 (nI p)) 2 (nI (cl_kd t e p))) 4 (nI q))) 1 (upd (upd (upd (upd (h 1) 3 (nI p)) 2 (nI (cl_kd t e p))) 4 (nI q)) 5 (cl_nm t p q)) = (am_row h 1 (upd (upd (upd (upd (h 1) 3 (nI p)) 2 (nI (cl_kd t e p))) 4 (nI q)) 5 (cl_nm t p q))) from am_row_s0) ?_
                  exact am_vretvr T dX8_advance_171 rfl (Nat.le_refl _) (Nat.le_refl _) rfl ⟨cl_tk_mk hB hQ hby he4 (by omega) he (cl_vl_2 q145 hQ), (fun i9 h9 => by rw [am_row_ne _ _ _ (by omega)])⟩
              · skip
                refine am_aload_n (pc := 102) C dX8_advance_102 rfl ?_
                refine am_getI (pc := 103) C dX8_advance_103 f8_23 bn_1 sh_1 ?_
                refine am_top (show ((upd (upd (upd (h 1) 3 (nI p)) 2 (nI (cl_kd t e p))) 4 (nI q)) 4) = (nI q) from rf_upd_eq) ?_
                refine am_aload_n (pc := 106) C dX8_advance_106 rfl ?_
                refine am_getI (pc := 107) C dX8_advance_107 f8_15 bn_1 sh_1 ?_
                refine am_top (show ((upd (upd (upd (h 1) 3 (nI p)) 2 (nI (cl_kd t e p))) 4 (nI q)) 1) = (nI e) from (by (repeat rw [rf_upd_ne (by decide)]); exact he)) ?_
                refine am_icmp_geN (pc := 110) (tgt := 141) C dX8_advance_110 (by decide) (by omega) (by omega) (fun q108 => ?_) (fun q108 => ?_)
                · skip
                  refine am_aload_n (pc := 141) C dX8_advance_141 rfl ?_
                  refine am_aload_n (pc := 142) C dX8_advance_142 rfl ?_
                  refine am_getI (pc := 143) C dX8_advance_143 f8_40 bn_1 sh_1 ?_
                  refine am_top (show ((upd (upd (upd (h 1) 3 (nI p)) 2 (nI (cl_kd t e p))) 4 (nI q)) 2) = (nI (cl_kd t e p)) from (by (repeat rw [rf_upd_ne (by decide)]); exact rf_upd_eq)) ?_
                  refine am_iconstN (pc := 146) (k := 2) C dX8_advance_146 ?_
                  refine am_icmp_neN (pc := 147) (tgt := 157) C dX8_advance_147 (by decide) (by omega) (by omega) (fun q145 => ?_) (fun q145 => ?_)
                  · skip
                    refine am_aload_n (pc := 157) C dX8_advance_157 rfl ?_
                    refine am_getR (pc := 158) (j := 2) C dX8_advance_158 f8_9 bn_1 sh_1 (rf_1_0 hR) ?_
                    refine am_aload_n (pc := 161) C dX8_advance_161 rfl ?_
                    refine am_getI (pc := 162) C dX8_advance_162 f8_29 bn_1 sh_1 ?_
                    refine am_top (show ((upd (upd (upd (h 1) 3 (nI p)) 2 (nI (cl_kd t e p))) 4 (nI q)) 3) = (nI p) from (by (repeat rw [rf_upd_ne (by decide)]); exact rf_upd_eq)) ?_
                    refine am_callSNi (Y := mX11_pick) (pc := 165) (st := [.ref 1]) (As := [.ref 2, .int (nI p)]) (x := (cl_pk (h 2) p)) (h2 := (am_row h 1 (upd (upd (upd (h 1) 3 (nI p)) 2 (nI (cl_kd t e p))) 4 (nI q)))) C dX8_advance_165 k8_32 v_X11_pick rfl rfl (by decide) (Nat.zero_le _) (Nat.zero_le _) (Nat.le_of_ble_eq_true rfl) (c_X11_pick2 (h := (am_row h 1 (upd (upd (upd (h 1) 3 (nI p)) 2 (nI (cl_kd t e p))) 4 (nI q)))) p (show p < 2147483648 from by omega)) ?_
                    refine am_putI (pc := 168) C dX8_advance_168 f8_47 bn_1 sh_1 rfl rfl ?_
                    refine am_hp (show am_up (am_row h 1 (upd (upd (upd (h 1) 3 (nI p)) 2 (nI (cl_kd t e p))) 4 (nI q))) 1 5 (cl_pk (h 2) p) = am_row (am_row h 1 (upd (upd (upd (h 1) 3 (nI p)) 2 (nI (cl_kd t e p))) 4 (nI q))) 1 (upd (upd (upd (upd (h 1) 3 (nI p)) 2 (nI (cl_kd t e p))) 4 (nI q)) 5 (cl_pk (h 2) p)) from am_up_rw _ _ _ _) ?_
                    refine am_hp (show am_row (am_row h 1 (upd (upd (upd (h 1) 3 (nI p)) 2 (nI (cl_kd t e p))) 4 (nI q))) 1 (upd (upd (upd (upd (h 1) 3 (nI p)) 2 (nI (cl_kd t e p))) 4 (nI q)) 5 (cl_pk (h 2) p)) = (am_row h 1 (upd (upd (upd (upd (h 1) 3 (nI p)) 2 (nI (cl_kd t e p))) 4 (nI q)) 5 (cl_pk (h 2) p))) from am_row_s0) ?_
                    exact am_vretvr T dX8_advance_171 rfl (Nat.le_refl _) (Nat.le_refl _) rfl ⟨cl_tk_mk hB hQ hby he4 (by omega) he (cl_vl_0 q145), (fun i9 h9 => by rw [am_row_ne _ _ _ (by omega)])⟩
                  · skip
                    refine am_aload_n (pc := 150) C dX8_advance_150 rfl ?_
                    refine am_callVi (Y := mX8_numberRead) (pc := 151) (st := [.ref 1]) (As := []) (x := (cl_nm t p q)) (h2 := (am_row h 1 (upd (upd (upd (h 1) 3 (nI p)) 2 (nI (cl_kd t e p))) 4 (nI q)))) C dX8_advance_151 k8_43 v_X8_numberRead rfl rfl bn_1 sh_1 ⟨by decide, rfl⟩ (by decide) (Nat.zero_le _) (Nat.zero_le _) (Nat.le_of_ble_eq_true rfl) (c_X8_numberRead (h := (am_row h 1 (upd (upd (upd (h 1) 3 (nI p)) 2 (nI (cl_kd t e p))) 4 (nI q)))) hR t e (show cl_by (h 2) t e from hby) (show e ≤ 400 from he4) (show (upd (upd (upd (h 1) 3 (nI p)) 2 (nI (cl_kd t e p))) 4 (nI q)) 1 = nI e from (by (repeat rw [rf_upd_ne (by decide)]); exact he)) p q (show (upd (upd (upd (h 1) 3 (nI p)) 2 (nI (cl_kd t e p))) 4 (nI q)) 3 = nI p from (by (repeat rw [rf_upd_ne (by decide)]); exact rf_upd_eq)) (show (upd (upd (upd (h 1) 3 (nI p)) 2 (nI (cl_kd t e p))) 4 (nI q)) 4 = nI q from (by (repeat rw [rf_upd_ne (by decide)]); exact rf_upd_eq)) (show p ≤ q from hqp) (show q ≤ e from (by omega)) (show ∀ k, p ≤ k → k < q → rf_at t e k 48 57 = true from (by rw [hQ]; exact cl_sp_all q145))) ?_
                    refine am_goto (pc := 154) (tgt := 168) C dX8_advance_154 (by decide) ?_
                    refine am_putI (pc := 168) C dX8_advance_168 f8_47 bn_1 sh_1 rfl rfl ?_
                    refine am_hp (show am_up (am_row h 1 (upd (upd (upd (h 1) 3 (nI p)) 2 (nI (cl_kd t e p))) 4 (nI q))) 1 5 (cl_nm t p q) = am_row (am_row h 1 (upd (upd (upd (h 1) 3 (nI p)) 2 (nI (cl_kd t e p))) 4 (nI q))) 1 (upd (upd (upd (upd (h 1) 3 (nI p)) 2 (nI (cl_kd t e p))) 4 (nI q)) 5 (cl_nm t p q)) from am_up_rw _ _ _ _) ?_
                    refine am_hp (show am_row (am_row h 1 (upd (upd (upd (h 1) 3 (nI p)) 2 (nI (cl_kd t e p))) 4 (nI q))) 1 (upd (upd (upd (upd (h 1) 3 (nI p)) 2 (nI (cl_kd t e p))) 4 (nI q)) 5 (cl_nm t p q)) = (am_row h 1 (upd (upd (upd (upd (h 1) 3 (nI p)) 2 (nI (cl_kd t e p))) 4 (nI q)) 5 (cl_nm t p q))) from am_row_s0) ?_
                    exact am_vretvr T dX8_advance_171 rfl (Nat.le_refl _) (Nat.le_refl _) rfl ⟨cl_tk_mk hB hQ hby he4 (by omega) he (cl_vl_2 q145 hQ), (fun i9 h9 => by rw [am_row_ne _ _ _ (by omega)])⟩
                · skip
                  exact absurd q108 (by omega)
            | succ j92 ih92 =>
              intro q hqj hqp hrk
              have hkd4 : cl_kd t e p < 4 := cl_kd_lt
              have hkq4 : cl_kd t e q < 4 := cl_kd_lt
              refine am_aload_n (pc := 94) C dX8_advance_94 rfl ?_
              refine am_getI (pc := 95) C dX8_advance_95 f8_40 bn_1 sh_1 ?_
              refine am_top (show ((upd (upd (upd (h 1) 3 (nI p)) 2 (nI (cl_kd t e p))) 4 (nI q)) 2) = (nI (cl_kd t e p)) from (by (repeat rw [rf_upd_ne (by decide)]); exact rf_upd_eq)) ?_
              refine am_iconstN (pc := 98) (k := 3) C dX8_advance_98 ?_
              refine am_icmp_eqN (pc := 99) (tgt := 141) C dX8_advance_99 (by decide) (by omega) (by omega) (fun q97 => ?_) (fun q97 => ?_)
              · skip
                have hQ : q = cl_sp t e p := (cl_rk_3 q97).symm.trans hrk
                refine am_aload_n (pc := 141) C dX8_advance_141 rfl ?_
                refine am_aload_n (pc := 142) C dX8_advance_142 rfl ?_
                refine am_getI (pc := 143) C dX8_advance_143 f8_40 bn_1 sh_1 ?_
                refine am_top (show ((upd (upd (upd (h 1) 3 (nI p)) 2 (nI (cl_kd t e p))) 4 (nI q)) 2) = (nI (cl_kd t e p)) from (by (repeat rw [rf_upd_ne (by decide)]); exact rf_upd_eq)) ?_
                refine am_iconstN (pc := 146) (k := 2) C dX8_advance_146 ?_
                refine am_icmp_neN (pc := 147) (tgt := 157) C dX8_advance_147 (by decide) (by omega) (by omega) (fun q145 => ?_) (fun q145 => ?_)
                · skip
                  refine am_aload_n (pc := 157) C dX8_advance_157 rfl ?_
                  refine am_getR (pc := 158) (j := 2) C dX8_advance_158 f8_9 bn_1 sh_1 (rf_1_0 hR) ?_
                  refine am_aload_n (pc := 161) C dX8_advance_161 rfl ?_
                  refine am_getI (pc := 162) C dX8_advance_162 f8_29 bn_1 sh_1 ?_
                  refine am_top (show ((upd (upd (upd (h 1) 3 (nI p)) 2 (nI (cl_kd t e p))) 4 (nI q)) 3) = (nI p) from (by (repeat rw [rf_upd_ne (by decide)]); exact rf_upd_eq)) ?_
                  refine am_callSNi (Y := mX11_pick) (pc := 165) (st := [.ref 1]) (As := [.ref 2, .int (nI p)]) (x := (cl_pk (h 2) p)) (h2 := (am_row h 1 (upd (upd (upd (h 1) 3 (nI p)) 2 (nI (cl_kd t e p))) 4 (nI q)))) C dX8_advance_165 k8_32 v_X11_pick rfl rfl (by decide) (Nat.zero_le _) (Nat.zero_le _) (Nat.le_of_ble_eq_true rfl) (c_X11_pick2 (h := (am_row h 1 (upd (upd (upd (h 1) 3 (nI p)) 2 (nI (cl_kd t e p))) 4 (nI q)))) p (show p < 2147483648 from by omega)) ?_
                  refine am_putI (pc := 168) C dX8_advance_168 f8_47 bn_1 sh_1 rfl rfl ?_
                  refine am_hp (show am_up (am_row h 1 (upd (upd (upd (h 1) 3 (nI p)) 2 (nI (cl_kd t e p))) 4 (nI q))) 1 5 (cl_pk (h 2) p) = am_row (am_row h 1 (upd (upd (upd (h 1) 3 (nI p)) 2 (nI (cl_kd t e p))) 4 (nI q))) 1 (upd (upd (upd (upd (h 1) 3 (nI p)) 2 (nI (cl_kd t e p))) 4 (nI q)) 5 (cl_pk (h 2) p)) from am_up_rw _ _ _ _) ?_
                  refine am_hp (show am_row (am_row h 1 (upd (upd (upd (h 1) 3 (nI p)) 2 (nI (cl_kd t e p))) 4 (nI q))) 1 (upd (upd (upd (upd (h 1) 3 (nI p)) 2 (nI (cl_kd t e p))) 4 (nI q)) 5 (cl_pk (h 2) p)) = (am_row h 1 (upd (upd (upd (upd (h 1) 3 (nI p)) 2 (nI (cl_kd t e p))) 4 (nI q)) 5 (cl_pk (h 2) p))) from am_row_s0) ?_
                  exact am_vretvr T dX8_advance_171 rfl (Nat.le_refl _) (Nat.le_refl _) rfl ⟨cl_tk_mk hB hQ hby he4 (by omega) he (cl_vl_0 q145), (fun i9 h9 => by rw [am_row_ne _ _ _ (by omega)])⟩
                · skip
                  refine am_aload_n (pc := 150) C dX8_advance_150 rfl ?_
                  refine am_callVi (Y := mX8_numberRead) (pc := 151) (st := [.ref 1]) (As := []) (x := (cl_nm t p q)) (h2 := (am_row h 1 (upd (upd (upd (h 1) 3 (nI p)) 2 (nI (cl_kd t e p))) 4 (nI q)))) C dX8_advance_151 k8_43 v_X8_numberRead rfl rfl bn_1 sh_1 ⟨by decide, rfl⟩ (by decide) (Nat.zero_le _) (Nat.zero_le _) (Nat.le_of_ble_eq_true rfl) (c_X8_numberRead (h := (am_row h 1 (upd (upd (upd (h 1) 3 (nI p)) 2 (nI (cl_kd t e p))) 4 (nI q)))) hR t e (show cl_by (h 2) t e from hby) (show e ≤ 400 from he4) (show (upd (upd (upd (h 1) 3 (nI p)) 2 (nI (cl_kd t e p))) 4 (nI q)) 1 = nI e from (by (repeat rw [rf_upd_ne (by decide)]); exact he)) p q (show (upd (upd (upd (h 1) 3 (nI p)) 2 (nI (cl_kd t e p))) 4 (nI q)) 3 = nI p from (by (repeat rw [rf_upd_ne (by decide)]); exact rf_upd_eq)) (show (upd (upd (upd (h 1) 3 (nI p)) 2 (nI (cl_kd t e p))) 4 (nI q)) 4 = nI q from (by (repeat rw [rf_upd_ne (by decide)]); exact rf_upd_eq)) (show p ≤ q from hqp) (show q ≤ e from (by omega)) (show ∀ k, p ≤ k → k < q → rf_at t e k 48 57 = true from (by rw [hQ]; exact cl_sp_all q145))) ?_
                  refine am_goto (pc := 154) (tgt := 168) C dX8_advance_154 (by decide) ?_
                  refine am_putI (pc := 168) C dX8_advance_168 f8_47 bn_1 sh_1 rfl rfl ?_
                  refine am_hp (show am_up (am_row h 1 (upd (upd (upd (h 1) 3 (nI p)) 2 (nI (cl_kd t e p))) 4 (nI q))) 1 5 (cl_nm t p q) = am_row (am_row h 1 (upd (upd (upd (h 1) 3 (nI p)) 2 (nI (cl_kd t e p))) 4 (nI q))) 1 (upd (upd (upd (upd (h 1) 3 (nI p)) 2 (nI (cl_kd t e p))) 4 (nI q)) 5 (cl_nm t p q)) from am_up_rw _ _ _ _) ?_
                  refine am_hp (show am_row (am_row h 1 (upd (upd (upd (h 1) 3 (nI p)) 2 (nI (cl_kd t e p))) 4 (nI q))) 1 (upd (upd (upd (upd (h 1) 3 (nI p)) 2 (nI (cl_kd t e p))) 4 (nI q)) 5 (cl_nm t p q)) = (am_row h 1 (upd (upd (upd (upd (h 1) 3 (nI p)) 2 (nI (cl_kd t e p))) 4 (nI q)) 5 (cl_nm t p q))) from am_row_s0) ?_
                  exact am_vretvr T dX8_advance_171 rfl (Nat.le_refl _) (Nat.le_refl _) rfl ⟨cl_tk_mk hB hQ hby he4 (by omega) he (cl_vl_2 q145 hQ), (fun i9 h9 => by rw [am_row_ne _ _ _ (by omega)])⟩
              · skip
                refine am_aload_n (pc := 102) C dX8_advance_102 rfl ?_
                refine am_getI (pc := 103) C dX8_advance_103 f8_23 bn_1 sh_1 ?_
                refine am_top (show ((upd (upd (upd (h 1) 3 (nI p)) 2 (nI (cl_kd t e p))) 4 (nI q)) 4) = (nI q) from rf_upd_eq) ?_
                refine am_aload_n (pc := 106) C dX8_advance_106 rfl ?_
                refine am_getI (pc := 107) C dX8_advance_107 f8_15 bn_1 sh_1 ?_
                refine am_top (show ((upd (upd (upd (h 1) 3 (nI p)) 2 (nI (cl_kd t e p))) 4 (nI q)) 1) = (nI e) from (by (repeat rw [rf_upd_ne (by decide)]); exact he)) ?_
                refine am_icmp_geN (pc := 110) (tgt := 141) C dX8_advance_110 (by decide) (by omega) (by omega) (fun q108 => ?_) (fun q108 => ?_)
                · skip
                  exact absurd q108 (by omega)
                · skip
                  refine am_aload_n (pc := 113) C dX8_advance_113 rfl ?_
                  refine am_aload_n (pc := 114) C dX8_advance_114 rfl ?_
                  refine am_getI (pc := 115) C dX8_advance_115 f8_23 bn_1 sh_1 ?_
                  refine am_top (show ((upd (upd (upd (h 1) 3 (nI p)) 2 (nI (cl_kd t e p))) 4 (nI q)) 4) = (nI q) from rf_upd_eq) ?_
                  refine am_callVi (Y := mX8_kindAt) (pc := 118) (st := []) (As := [.int (nI q)]) (x := (nI (cl_kd t e q))) (h2 := (am_row h 1 (upd (upd (upd (h 1) 3 (nI p)) 2 (nI (cl_kd t e p))) 4 (nI q)))) C dX8_advance_118 k8_36 v_X8_kindAt rfl rfl bn_1 sh_1 ⟨by decide, rfl⟩ (by decide) (Nat.zero_le _) (Nat.zero_le _) (Nat.le_of_ble_eq_true rfl) (c_X8_kindAt (h := (am_row h 1 (upd (upd (upd (h 1) 3 (nI p)) 2 (nI (cl_kd t e p))) 4 (nI q)))) hR q t e (show cl_by (h 2) t e from hby) (show e ≤ 400 from he4) (show (upd (upd (upd (h 1) 3 (nI p)) 2 (nI (cl_kd t e p))) 4 (nI q)) 1 = nI e from (by (repeat rw [rf_upd_ne (by decide)]); exact he)) (show q < 2147483648 from (by omega))) ?_
                  refine am_aload_n (pc := 121) C dX8_advance_121 rfl ?_
                  refine am_getI (pc := 122) C dX8_advance_122 f8_40 bn_1 sh_1 ?_
                  refine am_top (show ((upd (upd (upd (h 1) 3 (nI p)) 2 (nI (cl_kd t e p))) 4 (nI q)) 2) = (nI (cl_kd t e p)) from (by (repeat rw [rf_upd_ne (by decide)]); exact rf_upd_eq)) ?_
                  refine am_icmp_neN (pc := 125) (tgt := 141) C dX8_advance_125 (by decide) (by omega) (by omega) (fun q123 => ?_) (fun q123 => ?_)
                  · skip
                    have hQ : q = cl_sp t e p := (cl_rk_x q123).symm.trans hrk
                    refine am_aload_n (pc := 141) C dX8_advance_141 rfl ?_
                    refine am_aload_n (pc := 142) C dX8_advance_142 rfl ?_
                    refine am_getI (pc := 143) C dX8_advance_143 f8_40 bn_1 sh_1 ?_
                    refine am_top (show ((upd (upd (upd (h 1) 3 (nI p)) 2 (nI (cl_kd t e p))) 4 (nI q)) 2) = (nI (cl_kd t e p)) from (by (repeat rw [rf_upd_ne (by decide)]); exact rf_upd_eq)) ?_
                    refine am_iconstN (pc := 146) (k := 2) C dX8_advance_146 ?_
                    refine am_icmp_neN (pc := 147) (tgt := 157) C dX8_advance_147 (by decide) (by omega) (by omega) (fun q145 => ?_) (fun q145 => ?_)
                    · skip
                      refine am_aload_n (pc := 157) C dX8_advance_157 rfl ?_
                      refine am_getR (pc := 158) (j := 2) C dX8_advance_158 f8_9 bn_1 sh_1 (rf_1_0 hR) ?_
                      refine am_aload_n (pc := 161) C dX8_advance_161 rfl ?_
                      refine am_getI (pc := 162) C dX8_advance_162 f8_29 bn_1 sh_1 ?_
                      refine am_top (show ((upd (upd (upd (h 1) 3 (nI p)) 2 (nI (cl_kd t e p))) 4 (nI q)) 3) = (nI p) from (by (repeat rw [rf_upd_ne (by decide)]); exact rf_upd_eq)) ?_
                      refine am_callSNi (Y := mX11_pick) (pc := 165) (st := [.ref 1]) (As := [.ref 2, .int (nI p)]) (x := (cl_pk (h 2) p)) (h2 := (am_row h 1 (upd (upd (upd (h 1) 3 (nI p)) 2 (nI (cl_kd t e p))) 4 (nI q)))) C dX8_advance_165 k8_32 v_X11_pick rfl rfl (by decide) (Nat.zero_le _) (Nat.zero_le _) (Nat.le_of_ble_eq_true rfl) (c_X11_pick2 (h := (am_row h 1 (upd (upd (upd (h 1) 3 (nI p)) 2 (nI (cl_kd t e p))) 4 (nI q)))) p (show p < 2147483648 from by omega)) ?_
                      refine am_putI (pc := 168) C dX8_advance_168 f8_47 bn_1 sh_1 rfl rfl ?_
                      refine am_hp (show am_up (am_row h 1 (upd (upd (upd (h 1) 3 (nI p)) 2 (nI (cl_kd t e p))) 4 (nI q))) 1 5 (cl_pk (h 2) p) = am_row (am_row h 1 (upd (upd (upd (h 1) 3 (nI p)) 2 (nI (cl_kd t e p))) 4 (nI q))) 1 (upd (upd (upd (upd (h 1) 3 (nI p)) 2 (nI (cl_kd t e p))) 4 (nI q)) 5 (cl_pk (h 2) p)) from am_up_rw _ _ _ _) ?_
                      refine am_hp (show am_row (am_row h 1 (upd (upd (upd (h 1) 3 (nI p)) 2 (nI (cl_kd t e p))) 4 (nI q))) 1 (upd (upd (upd (upd (h 1) 3 (nI p)) 2 (nI (cl_kd t e p))) 4 (nI q)) 5 (cl_pk (h 2) p)) = (am_row h 1 (upd (upd (upd (upd (h 1) 3 (nI p)) 2 (nI (cl_kd t e p))) 4 (nI q)) 5 (cl_pk (h 2) p))) from am_row_s0) ?_
                      exact am_vretvr T dX8_advance_171 rfl (Nat.le_refl _) (Nat.le_refl _) rfl ⟨cl_tk_mk hB hQ hby he4 (by omega) he (cl_vl_0 q145), (fun i9 h9 => by rw [am_row_ne _ _ _ (by omega)])⟩
                    · skip
                      refine am_aload_n (pc := 150) C dX8_advance_150 rfl ?_
                      refine am_callVi (Y := mX8_numberRead) (pc := 151) (st := [.ref 1]) (As := []) (x := (cl_nm t p q)) (h2 := (am_row h 1 (upd (upd (upd (h 1) 3 (nI p)) 2 (nI (cl_kd t e p))) 4 (nI q)))) C dX8_advance_151 k8_43 v_X8_numberRead rfl rfl bn_1 sh_1 ⟨by decide, rfl⟩ (by decide) (Nat.zero_le _) (Nat.zero_le _) (Nat.le_of_ble_eq_true rfl) (c_X8_numberRead (h := (am_row h 1 (upd (upd (upd (h 1) 3 (nI p)) 2 (nI (cl_kd t e p))) 4 (nI q)))) hR t e (show cl_by (h 2) t e from hby) (show e ≤ 400 from he4) (show (upd (upd (upd (h 1) 3 (nI p)) 2 (nI (cl_kd t e p))) 4 (nI q)) 1 = nI e from (by (repeat rw [rf_upd_ne (by decide)]); exact he)) p q (show (upd (upd (upd (h 1) 3 (nI p)) 2 (nI (cl_kd t e p))) 4 (nI q)) 3 = nI p from (by (repeat rw [rf_upd_ne (by decide)]); exact rf_upd_eq)) (show (upd (upd (upd (h 1) 3 (nI p)) 2 (nI (cl_kd t e p))) 4 (nI q)) 4 = nI q from (by (repeat rw [rf_upd_ne (by decide)]); exact rf_upd_eq)) (show p ≤ q from hqp) (show q ≤ e from (by omega)) (show ∀ k, p ≤ k → k < q → rf_at t e k 48 57 = true from (by rw [hQ]; exact cl_sp_all q145))) ?_
                      refine am_goto (pc := 154) (tgt := 168) C dX8_advance_154 (by decide) ?_
                      refine am_putI (pc := 168) C dX8_advance_168 f8_47 bn_1 sh_1 rfl rfl ?_
                      refine am_hp (show am_up (am_row h 1 (upd (upd (upd (h 1) 3 (nI p)) 2 (nI (cl_kd t e p))) 4 (nI q))) 1 5 (cl_nm t p q) = am_row (am_row h 1 (upd (upd (upd (h 1) 3 (nI p)) 2 (nI (cl_kd t e p))) 4 (nI q))) 1 (upd (upd (upd (upd (h 1) 3 (nI p)) 2 (nI (cl_kd t e p))) 4 (nI q)) 5 (cl_nm t p q)) from am_up_rw _ _ _ _) ?_
                      refine am_hp (show am_row (am_row h 1 (upd (upd (upd (h 1) 3 (nI p)) 2 (nI (cl_kd t e p))) 4 (nI q))) 1 (upd (upd (upd (upd (h 1) 3 (nI p)) 2 (nI (cl_kd t e p))) 4 (nI q)) 5 (cl_nm t p q)) = (am_row h 1 (upd (upd (upd (upd (h 1) 3 (nI p)) 2 (nI (cl_kd t e p))) 4 (nI q)) 5 (cl_nm t p q))) from am_row_s0) ?_
                      exact am_vretvr T dX8_advance_171 rfl (Nat.le_refl _) (Nat.le_refl _) rfl ⟨cl_tk_mk hB hQ hby he4 (by omega) he (cl_vl_2 q145 hQ), (fun i9 h9 => by rw [am_row_ne _ _ _ (by omega)])⟩
                  · skip
                    refine am_aload_n (pc := 128) C dX8_advance_128 rfl ?_
                    refine am_dup (pc := 129) C dX8_advance_129 rfl ?_
                    refine am_getI (pc := 130) C dX8_advance_130 f8_23 bn_1 sh_1 ?_
                    refine am_top (show ((upd (upd (upd (h 1) 3 (nI p)) 2 (nI (cl_kd t e p))) 4 (nI q)) 4) = (nI q) from rf_upd_eq) ?_
                    refine am_iconstN (pc := 133) (k := 1) C dX8_advance_133 ?_
                    refine am_iaddN (pc := 134) C dX8_advance_134 ?_
                    refine am_putI (pc := 135) C dX8_advance_135 f8_23 bn_1 sh_1 rfl rfl ?_
                    refine am_hp (show am_up (am_row h 1 (upd (upd (upd (h 1) 3 (nI p)) 2 (nI (cl_kd t e p))) 4 (nI q))) 1 4 (nI (q + 1)) = am_row (am_row h 1 (upd (upd (upd (h 1) 3 (nI p)) 2 (nI (cl_kd t e p))) 4 (nI q))) 1 (upd (upd (upd (upd (h 1) 3 (nI p)) 2 (nI (cl_kd t e p))) 4 (nI q)) 4 (nI (q + 1))) from am_up_rw _ _ _ _) ?_
                    refine am_hp (show am_row (am_row h 1 (upd (upd (upd (h 1) 3 (nI p)) 2 (nI (cl_kd t e p))) 4 (nI q))) 1 (upd (upd (upd (upd (h 1) 3 (nI p)) 2 (nI (cl_kd t e p))) 4 (nI q)) 4 (nI (q + 1))) = (am_row h 1 (upd (upd (upd (upd (h 1) 3 (nI p)) 2 (nI (cl_kd t e p))) 4 (nI q)) 4 (nI (q + 1)))) from am_row_s0) ?_
                    refine am_goto (pc := 138) (tgt := 94) C dX8_advance_138 (by decide) ?_
                    refine am_hp (show (am_row h 1 (upd (upd (upd (upd (h 1) 3 (nI p)) 2 (nI (cl_kd t e p))) 4 (nI q)) 4 (nI (q + 1)))) = (am_row h 1 (upd (upd (upd (h 1) 3 (nI p)) 2 (nI (cl_kd t e p))) 4 (nI (q + 1)))) from (by rw [rf_upd_upd])) ?_
                    exact ih92 (q + 1) (by omega) (by omega) ((cl_rk_s (by omega) q97 q123).trans hrk)
          refine am_hp (show (am_row h 1 (upd (upd (upd (h 1) 3 (nI p)) 2 (nI (cl_kd t e p))) 4 (nI (p + 1)))) = (am_row h 1 (upd (upd (upd (h 1) 3 (nI p)) 2 (nI (cl_kd t e p))) 4 (nI (cl_s0 t e p)))) from (by rw [cl_s0, if_neg (by omega)])) ?_
          exact L92 (e - cl_s0 t e p) (cl_s0 t e p) (by have := cl_s0_le (t := t) (b := p) (e := e) (by omega); omega) cl_s0_ge (cl_rk_0 (by omega))
        · skip
          refine am_aload_n (pc := 78) C dX8_advance_78 rfl ?_
          refine am_getI (pc := 79) C dX8_advance_79 f8_29 bn_1 sh_1 ?_
          refine am_top (show ((upd (upd (h 1) 3 (nI p)) 2 (nI (cl_kd t e p))) 3) = (nI p) from (by (repeat rw [rf_upd_ne (by decide)]); exact rf_upd_eq)) ?_
          refine am_goto (pc := 82) (tgt := 91) C dX8_advance_82 (by decide) ?_
          refine am_putI (pc := 91) C dX8_advance_91 f8_23 bn_1 sh_1 rfl rfl ?_
          refine am_hp (show am_up (am_row h 1 (upd (upd (h 1) 3 (nI p)) 2 (nI (cl_kd t e p)))) 1 4 (nI p) = am_row (am_row h 1 (upd (upd (h 1) 3 (nI p)) 2 (nI (cl_kd t e p)))) 1 (upd (upd (upd (h 1) 3 (nI p)) 2 (nI (cl_kd t e p))) 4 (nI p)) from am_up_rw _ _ _ _) ?_
          refine am_hp (show am_row (am_row h 1 (upd (upd (h 1) 3 (nI p)) 2 (nI (cl_kd t e p)))) 1 (upd (upd (upd (h 1) 3 (nI p)) 2 (nI (cl_kd t e p))) 4 (nI p)) = (am_row h 1 (upd (upd (upd (h 1) 3 (nI p)) 2 (nI (cl_kd t e p))) 4 (nI p))) from am_row_s0) ?_
          have L92 : ∀ (j92 : Nat) (q : Nat), (hqj : q + j92 = e) → (hqp : p ≤ q) → (hrk : cl_rk t e (cl_kd t e p) q = cl_sp t e p) → am_G X (am_VV ad) (0, 0) 94 [(0, .ref 1)] [] r (am_row h 1 (upd (upd (upd (h 1) 3 (nI p)) 2 (nI (cl_kd t e p))) 4 (nI q))) := by
            intro j92
            induction j92 with
            | zero =>
              intro q hqj hqp hrk
              have hkd4 : cl_kd t e p < 4 := cl_kd_lt
              have hQ : q = cl_sp t e p := (cl_rk_e (by omega)).symm.trans hrk
              refine am_aload_n (pc := 94) C dX8_advance_94 rfl ?_
              refine am_getI (pc := 95) C dX8_advance_95 f8_40 bn_1 sh_1 ?_
              refine am_top (show ((upd (upd (upd (h 1) 3 (nI p)) 2 (nI (cl_kd t e p))) 4 (nI q)) 2) = (nI (cl_kd t e p)) from (by (repeat rw [rf_upd_ne (by decide)]); exact rf_upd_eq)) ?_
              refine am_iconstN (pc := 98) (k := 3) C dX8_advance_98 ?_
              refine am_icmp_eqN (pc := 99) (tgt := 141) C dX8_advance_99 (by decide) (by omega) (by omega) (fun q97 => ?_) (fun q97 => ?_)
              · skip
                have hQ : q = cl_sp t e p := (cl_rk_3 q97).symm.trans hrk
                refine am_aload_n (pc := 141) C dX8_advance_141 rfl ?_
                refine am_aload_n (pc := 142) C dX8_advance_142 rfl ?_
                refine am_getI (pc := 143) C dX8_advance_143 f8_40 bn_1 sh_1 ?_
                refine am_top (show ((upd (upd (upd (h 1) 3 (nI p)) 2 (nI (cl_kd t e p))) 4 (nI q)) 2) = (nI (cl_kd t e p)) from (by (repeat rw [rf_upd_ne (by decide)]); exact rf_upd_eq)) ?_
                refine am_iconstN (pc := 146) (k := 2) C dX8_advance_146 ?_
                refine am_icmp_neN (pc := 147) (tgt := 157) C dX8_advance_147 (by decide) (by omega) (by omega) (fun q145 => ?_) (fun q145 => ?_)
                · skip
                  refine am_aload_n (pc := 157) C dX8_advance_157 rfl ?_
                  refine am_getR (pc := 158) (j := 2) C dX8_advance_158 f8_9 bn_1 sh_1 (rf_1_0 hR) ?_
                  refine am_aload_n (pc := 161) C dX8_advance_161 rfl ?_
                  refine am_getI (pc := 162) C dX8_advance_162 f8_29 bn_1 sh_1 ?_
                  refine am_top (show ((upd (upd (upd (h 1) 3 (nI p)) 2 (nI (cl_kd t e p))) 4 (nI q)) 3) = (nI p) from (by (repeat rw [rf_upd_ne (by decide)]); exact rf_upd_eq)) ?_
                  refine am_callSNi (Y := mX11_pick) (pc := 165) (st := [.ref 1]) (As := [.ref 2, .int (nI p)]) (x := (cl_pk (h 2) p)) (h2 := (am_row h 1 (upd (upd (upd (h 1) 3 (nI p)) 2 (nI (cl_kd t e p))) 4 (nI q)))) C dX8_advance_165 k8_32 v_X11_pick rfl rfl (by decide) (Nat.zero_le _) (Nat.zero_le _) (Nat.le_of_ble_eq_true rfl) (c_X11_pick2 (h := (am_row h 1 (upd (upd (upd (h 1) 3 (nI p)) 2 (nI (cl_kd t e p))) 4 (nI q)))) p (show p < 2147483648 from by omega)) ?_
                  refine am_putI (pc := 168) C dX8_advance_168 f8_47 bn_1 sh_1 rfl rfl ?_
                  refine am_hp (show am_up (am_row h 1 (upd (upd (upd (h 1) 3 (nI p)) 2 (nI (cl_kd t e p))) 4 (nI q))) 1 5 (cl_pk (h 2) p) = am_row (am_row h 1 (upd (upd (upd (h 1) 3 (nI p)) 2 (nI (cl_kd t e p))) 4 (nI q))) 1 (upd (upd (upd (upd (h 1) 3 (nI p)) 2 (nI (cl_kd t e p))) 4 (nI q)) 5 (cl_pk (h 2) p)) from am_up_rw _ _ _ _) ?_
                  refine am_hp (show am_row (am_row h 1 (upd (upd (upd (h 1) 3 (nI p)) 2 (nI (cl_kd t e p))) 4 (nI q))) 1 (upd (upd (upd (upd (h 1) 3 (nI p)) 2 (nI (cl_kd t e p))) 4 (nI q)) 5 (cl_pk (h 2) p)) = (am_row h 1 (upd (upd (upd (upd (h 1) 3 (nI p)) 2 (nI (cl_kd t e p))) 4 (nI q)) 5 (cl_pk (h 2) p))) from am_row_s0) ?_
                  exact am_vretvr T dX8_advance_171 rfl (Nat.le_refl _) (Nat.le_refl _) rfl ⟨cl_tk_mk hB hQ hby he4 (by omega) he (cl_vl_0 q145), (fun i9 h9 => by rw [am_row_ne _ _ _ (by omega)])⟩
                · skip
                  refine am_aload_n (pc := 150) C dX8_advance_150 rfl ?_
                  refine am_callVi (Y := mX8_numberRead) (pc := 151) (st := [.ref 1]) (As := []) (x := (cl_nm t p q)) (h2 := (am_row h 1 (upd (upd (upd (h 1) 3 (nI p)) 2 (nI (cl_kd t e p))) 4 (nI q)))) C dX8_advance_151 k8_43 v_X8_numberRead rfl rfl bn_1 sh_1 ⟨by decide, rfl⟩ (by decide) (Nat.zero_le _) (Nat.zero_le _) (Nat.le_of_ble_eq_true rfl) (c_X8_numberRead (h := (am_row h 1 (upd (upd (upd (h 1) 3 (nI p)) 2 (nI (cl_kd t e p))) 4 (nI q)))) hR t e (show cl_by (h 2) t e from hby) (show e ≤ 400 from he4) (show (upd (upd (upd (h 1) 3 (nI p)) 2 (nI (cl_kd t e p))) 4 (nI q)) 1 = nI e from (by (repeat rw [rf_upd_ne (by decide)]); exact he)) p q (show (upd (upd (upd (h 1) 3 (nI p)) 2 (nI (cl_kd t e p))) 4 (nI q)) 3 = nI p from (by (repeat rw [rf_upd_ne (by decide)]); exact rf_upd_eq)) (show (upd (upd (upd (h 1) 3 (nI p)) 2 (nI (cl_kd t e p))) 4 (nI q)) 4 = nI q from (by (repeat rw [rf_upd_ne (by decide)]); exact rf_upd_eq)) (show p ≤ q from hqp) (show q ≤ e from (by omega)) (show ∀ k, p ≤ k → k < q → rf_at t e k 48 57 = true from (by rw [hQ]; exact cl_sp_all q145))) ?_
                  refine am_goto (pc := 154) (tgt := 168) C dX8_advance_154 (by decide) ?_
                  refine am_putI (pc := 168) C dX8_advance_168 f8_47 bn_1 sh_1 rfl rfl ?_
                  refine am_hp (show am_up (am_row h 1 (upd (upd (upd (h 1) 3 (nI p)) 2 (nI (cl_kd t e p))) 4 (nI q))) 1 5 (cl_nm t p q) = am_row (am_row h 1 (upd (upd (upd (h 1) 3 (nI p)) 2 (nI (cl_kd t e p))) 4 (nI q))) 1 (upd (upd (upd (upd (h 1) 3 (nI p)) 2 (nI (cl_kd t e p))) 4 (nI q)) 5 (cl_nm t p q)) from am_up_rw _ _ _ _) ?_
                  refine am_hp (show am_row (am_row h 1 (upd (upd (upd (h 1) 3 (nI p)) 2 (nI (cl_kd t e p))) 4 (nI q))) 1 (upd (upd (upd (upd (h 1) 3 (nI p)) 2 (nI (cl_kd t e p))) 4 (nI q)) 5 (cl_nm t p q)) = (am_row h 1 (upd (upd (upd (upd (h 1) 3 (nI p)) 2 (nI (cl_kd t e p))) 4 (nI q)) 5 (cl_nm t p q))) from am_row_s0) ?_
                  exact am_vretvr T dX8_advance_171 rfl (Nat.le_refl _) (Nat.le_refl _) rfl ⟨cl_tk_mk hB hQ hby he4 (by omega) he (cl_vl_2 q145 hQ), (fun i9 h9 => by rw [am_row_ne _ _ _ (by omega)])⟩
              · skip
                refine am_aload_n (pc := 102) C dX8_advance_102 rfl ?_
                refine am_getI (pc := 103) C dX8_advance_103 f8_23 bn_1 sh_1 ?_
                refine am_top (show ((upd (upd (upd (h 1) 3 (nI p)) 2 (nI (cl_kd t e p))) 4 (nI q)) 4) = (nI q) from rf_upd_eq) ?_
                refine am_aload_n (pc := 106) C dX8_advance_106 rfl ?_
                refine am_getI (pc := 107) C dX8_advance_107 f8_15 bn_1 sh_1 ?_
                refine am_top (show ((upd (upd (upd (h 1) 3 (nI p)) 2 (nI (cl_kd t e p))) 4 (nI q)) 1) = (nI e) from (by (repeat rw [rf_upd_ne (by decide)]); exact he)) ?_
                refine am_icmp_geN (pc := 110) (tgt := 141) C dX8_advance_110 (by decide) (by omega) (by omega) (fun q108 => ?_) (fun q108 => ?_)
                · skip
                  refine am_aload_n (pc := 141) C dX8_advance_141 rfl ?_
                  refine am_aload_n (pc := 142) C dX8_advance_142 rfl ?_
                  refine am_getI (pc := 143) C dX8_advance_143 f8_40 bn_1 sh_1 ?_
                  refine am_top (show ((upd (upd (upd (h 1) 3 (nI p)) 2 (nI (cl_kd t e p))) 4 (nI q)) 2) = (nI (cl_kd t e p)) from (by (repeat rw [rf_upd_ne (by decide)]); exact rf_upd_eq)) ?_
                  refine am_iconstN (pc := 146) (k := 2) C dX8_advance_146 ?_
                  refine am_icmp_neN (pc := 147) (tgt := 157) C dX8_advance_147 (by decide) (by omega) (by omega) (fun q145 => ?_) (fun q145 => ?_)
                  · skip
                    refine am_aload_n (pc := 157) C dX8_advance_157 rfl ?_
                    refine am_getR (pc := 158) (j := 2) C dX8_advance_158 f8_9 bn_1 sh_1 (rf_1_0 hR) ?_
                    refine am_aload_n (pc := 161) C dX8_advance_161 rfl ?_
                    refine am_getI (pc := 162) C dX8_advance_162 f8_29 bn_1 sh_1 ?_
                    refine am_top (show ((upd (upd (upd (h 1) 3 (nI p)) 2 (nI (cl_kd t e p))) 4 (nI q)) 3) = (nI p) from (by (repeat rw [rf_upd_ne (by decide)]); exact rf_upd_eq)) ?_
                    refine am_callSNi (Y := mX11_pick) (pc := 165) (st := [.ref 1]) (As := [.ref 2, .int (nI p)]) (x := (cl_pk (h 2) p)) (h2 := (am_row h 1 (upd (upd (upd (h 1) 3 (nI p)) 2 (nI (cl_kd t e p))) 4 (nI q)))) C dX8_advance_165 k8_32 v_X11_pick rfl rfl (by decide) (Nat.zero_le _) (Nat.zero_le _) (Nat.le_of_ble_eq_true rfl) (c_X11_pick2 (h := (am_row h 1 (upd (upd (upd (h 1) 3 (nI p)) 2 (nI (cl_kd t e p))) 4 (nI q)))) p (show p < 2147483648 from by omega)) ?_
                    refine am_putI (pc := 168) C dX8_advance_168 f8_47 bn_1 sh_1 rfl rfl ?_
                    refine am_hp (show am_up (am_row h 1 (upd (upd (upd (h 1) 3 (nI p)) 2 (nI (cl_kd t e p))) 4 (nI q))) 1 5 (cl_pk (h 2) p) = am_row (am_row h 1 (upd (upd (upd (h 1) 3 (nI p)) 2 (nI (cl_kd t e p))) 4 (nI q))) 1 (upd (upd (upd (upd (h 1) 3 (nI p)) 2 (nI (cl_kd t e p))) 4 (nI q)) 5 (cl_pk (h 2) p)) from am_up_rw _ _ _ _) ?_
                    refine am_hp (show am_row (am_row h 1 (upd (upd (upd (h 1) 3 (nI p)) 2 (nI (cl_kd t e p))) 4 (nI q))) 1 (upd (upd (upd (upd (h 1) 3 (nI p)) 2 (nI (cl_kd t e p))) 4 (nI q)) 5 (cl_pk (h 2) p)) = (am_row h 1 (upd (upd (upd (upd (h 1) 3 (nI p)) 2 (nI (cl_kd t e p))) 4 (nI q)) 5 (cl_pk (h 2) p))) from am_row_s0) ?_
                    exact am_vretvr T dX8_advance_171 rfl (Nat.le_refl _) (Nat.le_refl _) rfl ⟨cl_tk_mk hB hQ hby he4 (by omega) he (cl_vl_0 q145), (fun i9 h9 => by rw [am_row_ne _ _ _ (by omega)])⟩
                  · skip
                    refine am_aload_n (pc := 150) C dX8_advance_150 rfl ?_
                    refine am_callVi (Y := mX8_numberRead) (pc := 151) (st := [.ref 1]) (As := []) (x := (cl_nm t p q)) (h2 := (am_row h 1 (upd (upd (upd (h 1) 3 (nI p)) 2 (nI (cl_kd t e p))) 4 (nI q)))) C dX8_advance_151 k8_43 v_X8_numberRead rfl rfl bn_1 sh_1 ⟨by decide, rfl⟩ (by decide) (Nat.zero_le _) (Nat.zero_le _) (Nat.le_of_ble_eq_true rfl) (c_X8_numberRead (h := (am_row h 1 (upd (upd (upd (h 1) 3 (nI p)) 2 (nI (cl_kd t e p))) 4 (nI q)))) hR t e (show cl_by (h 2) t e from hby) (show e ≤ 400 from he4) (show (upd (upd (upd (h 1) 3 (nI p)) 2 (nI (cl_kd t e p))) 4 (nI q)) 1 = nI e from (by (repeat rw [rf_upd_ne (by decide)]); exact he)) p q (show (upd (upd (upd (h 1) 3 (nI p)) 2 (nI (cl_kd t e p))) 4 (nI q)) 3 = nI p from (by (repeat rw [rf_upd_ne (by decide)]); exact rf_upd_eq)) (show (upd (upd (upd (h 1) 3 (nI p)) 2 (nI (cl_kd t e p))) 4 (nI q)) 4 = nI q from (by (repeat rw [rf_upd_ne (by decide)]); exact rf_upd_eq)) (show p ≤ q from hqp) (show q ≤ e from (by omega)) (show ∀ k, p ≤ k → k < q → rf_at t e k 48 57 = true from (by rw [hQ]; exact cl_sp_all q145))) ?_
                    refine am_goto (pc := 154) (tgt := 168) C dX8_advance_154 (by decide) ?_
                    refine am_putI (pc := 168) C dX8_advance_168 f8_47 bn_1 sh_1 rfl rfl ?_
                    refine am_hp (show am_up (am_row h 1 (upd (upd (upd (h 1) 3 (nI p)) 2 (nI (cl_kd t e p))) 4 (nI q))) 1 5 (cl_nm t p q) = am_row (am_row h 1 (upd (upd (upd (h 1) 3 (nI p)) 2 (nI (cl_kd t e p))) 4 (nI q))) 1 (upd (upd (upd (upd (h 1) 3 (nI p)) 2 (nI (cl_kd t e p))) 4 (nI q)) 5 (cl_nm t p q)) from am_up_rw _ _ _ _) ?_
                    refine am_hp (show am_row (am_row h 1 (upd (upd (upd (h 1) 3 (nI p)) 2 (nI (cl_kd t e p))) 4 (nI q))) 1 (upd (upd (upd (upd (h 1) 3 (nI p)) 2 (nI (cl_kd t e p))) 4 (nI q)) 5 (cl_nm t p q)) = (am_row h 1 (upd (upd (upd (upd (h 1) 3 (nI p)) 2 (nI (cl_kd t e p))) 4 (nI q)) 5 (cl_nm t p q))) from am_row_s0) ?_
                    exact am_vretvr T dX8_advance_171 rfl (Nat.le_refl _) (Nat.le_refl _) rfl ⟨cl_tk_mk hB hQ hby he4 (by omega) he (cl_vl_2 q145 hQ), (fun i9 h9 => by rw [am_row_ne _ _ _ (by omega)])⟩
                · skip
                  exact absurd q108 (by omega)
            | succ j92 ih92 =>
              intro q hqj hqp hrk
              have hkd4 : cl_kd t e p < 4 := cl_kd_lt
              have hkq4 : cl_kd t e q < 4 := cl_kd_lt
              refine am_aload_n (pc := 94) C dX8_advance_94 rfl ?_
              refine am_getI (pc := 95) C dX8_advance_95 f8_40 bn_1 sh_1 ?_
              refine am_top (show ((upd (upd (upd (h 1) 3 (nI p)) 2 (nI (cl_kd t e p))) 4 (nI q)) 2) = (nI (cl_kd t e p)) from (by (repeat rw [rf_upd_ne (by decide)]); exact rf_upd_eq)) ?_
              refine am_iconstN (pc := 98) (k := 3) C dX8_advance_98 ?_
              refine am_icmp_eqN (pc := 99) (tgt := 141) C dX8_advance_99 (by decide) (by omega) (by omega) (fun q97 => ?_) (fun q97 => ?_)
              · skip
                have hQ : q = cl_sp t e p := (cl_rk_3 q97).symm.trans hrk
                refine am_aload_n (pc := 141) C dX8_advance_141 rfl ?_
                refine am_aload_n (pc := 142) C dX8_advance_142 rfl ?_
                refine am_getI (pc := 143) C dX8_advance_143 f8_40 bn_1 sh_1 ?_
                refine am_top (show ((upd (upd (upd (h 1) 3 (nI p)) 2 (nI (cl_kd t e p))) 4 (nI q)) 2) = (nI (cl_kd t e p)) from (by (repeat rw [rf_upd_ne (by decide)]); exact rf_upd_eq)) ?_
                refine am_iconstN (pc := 146) (k := 2) C dX8_advance_146 ?_
                refine am_icmp_neN (pc := 147) (tgt := 157) C dX8_advance_147 (by decide) (by omega) (by omega) (fun q145 => ?_) (fun q145 => ?_)
                · skip
                  refine am_aload_n (pc := 157) C dX8_advance_157 rfl ?_
                  refine am_getR (pc := 158) (j := 2) C dX8_advance_158 f8_9 bn_1 sh_1 (rf_1_0 hR) ?_
                  refine am_aload_n (pc := 161) C dX8_advance_161 rfl ?_
                  refine am_getI (pc := 162) C dX8_advance_162 f8_29 bn_1 sh_1 ?_
                  refine am_top (show ((upd (upd (upd (h 1) 3 (nI p)) 2 (nI (cl_kd t e p))) 4 (nI q)) 3) = (nI p) from (by (repeat rw [rf_upd_ne (by decide)]); exact rf_upd_eq)) ?_
                  refine am_callSNi (Y := mX11_pick) (pc := 165) (st := [.ref 1]) (As := [.ref 2, .int (nI p)]) (x := (cl_pk (h 2) p)) (h2 := (am_row h 1 (upd (upd (upd (h 1) 3 (nI p)) 2 (nI (cl_kd t e p))) 4 (nI q)))) C dX8_advance_165 k8_32 v_X11_pick rfl rfl (by decide) (Nat.zero_le _) (Nat.zero_le _) (Nat.le_of_ble_eq_true rfl) (c_X11_pick2 (h := (am_row h 1 (upd (upd (upd (h 1) 3 (nI p)) 2 (nI (cl_kd t e p))) 4 (nI q)))) p (show p < 2147483648 from by omega)) ?_
                  refine am_putI (pc := 168) C dX8_advance_168 f8_47 bn_1 sh_1 rfl rfl ?_
                  refine am_hp (show am_up (am_row h 1 (upd (upd (upd (h 1) 3 (nI p)) 2 (nI (cl_kd t e p))) 4 (nI q))) 1 5 (cl_pk (h 2) p) = am_row (am_row h 1 (upd (upd (upd (h 1) 3 (nI p)) 2 (nI (cl_kd t e p))) 4 (nI q))) 1 (upd (upd (upd (upd (h 1) 3 (nI p)) 2 (nI (cl_kd t e p))) 4 (nI q)) 5 (cl_pk (h 2) p)) from am_up_rw _ _ _ _) ?_
                  refine am_hp (show am_row (am_row h 1 (upd (upd (upd (h 1) 3 (nI p)) 2 (nI (cl_kd t e p))) 4 (nI q))) 1 (upd (upd (upd (upd (h 1) 3 (nI p)) 2 (nI (cl_kd t e p))) 4 (nI q)) 5 (cl_pk (h 2) p)) = (am_row h 1 (upd (upd (upd (upd (h 1) 3 (nI p)) 2 (nI (cl_kd t e p))) 4 (nI q)) 5 (cl_pk (h 2) p))) from am_row_s0) ?_
                  exact am_vretvr T dX8_advance_171 rfl (Nat.le_refl _) (Nat.le_refl _) rfl ⟨cl_tk_mk hB hQ hby he4 (by omega) he (cl_vl_0 q145), (fun i9 h9 => by rw [am_row_ne _ _ _ (by omega)])⟩
                · skip
                  refine am_aload_n (pc := 150) C dX8_advance_150 rfl ?_
                  refine am_callVi (Y := mX8_numberRead) (pc := 151) (st := [.ref 1]) (As := []) (x := (cl_nm t p q)) (h2 := (am_row h 1 (upd (upd (upd (h 1) 3 (nI p)) 2 (nI (cl_kd t e p))) 4 (nI q)))) C dX8_advance_151 k8_43 v_X8_numberRead rfl rfl bn_1 sh_1 ⟨by decide, rfl⟩ (by decide) (Nat.zero_le _) (Nat.zero_le _) (Nat.le_of_ble_eq_true rfl) (c_X8_numberRead (h := (am_row h 1 (upd (upd (upd (h 1) 3 (nI p)) 2 (nI (cl_kd t e p))) 4 (nI q)))) hR t e (show cl_by (h 2) t e from hby) (show e ≤ 400 from he4) (show (upd (upd (upd (h 1) 3 (nI p)) 2 (nI (cl_kd t e p))) 4 (nI q)) 1 = nI e from (by (repeat rw [rf_upd_ne (by decide)]); exact he)) p q (show (upd (upd (upd (h 1) 3 (nI p)) 2 (nI (cl_kd t e p))) 4 (nI q)) 3 = nI p from (by (repeat rw [rf_upd_ne (by decide)]); exact rf_upd_eq)) (show (upd (upd (upd (h 1) 3 (nI p)) 2 (nI (cl_kd t e p))) 4 (nI q)) 4 = nI q from (by (repeat rw [rf_upd_ne (by decide)]); exact rf_upd_eq)) (show p ≤ q from hqp) (show q ≤ e from (by omega)) (show ∀ k, p ≤ k → k < q → rf_at t e k 48 57 = true from (by rw [hQ]; exact cl_sp_all q145))) ?_
                  refine am_goto (pc := 154) (tgt := 168) C dX8_advance_154 (by decide) ?_
                  refine am_putI (pc := 168) C dX8_advance_168 f8_47 bn_1 sh_1 rfl rfl ?_
                  refine am_hp (show am_up (am_row h 1 (upd (upd (upd (h 1) 3 (nI p)) 2 (nI (cl_kd t e p))) 4 (nI q))) 1 5 (cl_nm t p q) = am_row (am_row h 1 (upd (upd (upd (h 1) 3 (nI p)) 2 (nI (cl_kd t e p))) 4 (nI q))) 1 (upd (upd (upd (upd (h 1) 3 (nI p)) 2 (nI (cl_kd t e p))) 4 (nI q)) 5 (cl_nm t p q)) from am_up_rw _ _ _ _) ?_
                  refine am_hp (show am_row (am_row h 1 (upd (upd (upd (h 1) 3 (nI p)) 2 (nI (cl_kd t e p))) 4 (nI q))) 1 (upd (upd (upd (upd (h 1) 3 (nI p)) 2 (nI (cl_kd t e p))) 4 (nI q)) 5 (cl_nm t p q)) = (am_row h 1 (upd (upd (upd (upd (h 1) 3 (nI p)) 2 (nI (cl_kd t e p))) 4 (nI q)) 5 (cl_nm t p q))) from am_row_s0) ?_
                  exact am_vretvr T dX8_advance_171 rfl (Nat.le_refl _) (Nat.le_refl _) rfl ⟨cl_tk_mk hB hQ hby he4 (by omega) he (cl_vl_2 q145 hQ), (fun i9 h9 => by rw [am_row_ne _ _ _ (by omega)])⟩
              · skip
                refine am_aload_n (pc := 102) C dX8_advance_102 rfl ?_
                refine am_getI (pc := 103) C dX8_advance_103 f8_23 bn_1 sh_1 ?_
                refine am_top (show ((upd (upd (upd (h 1) 3 (nI p)) 2 (nI (cl_kd t e p))) 4 (nI q)) 4) = (nI q) from rf_upd_eq) ?_
                refine am_aload_n (pc := 106) C dX8_advance_106 rfl ?_
                refine am_getI (pc := 107) C dX8_advance_107 f8_15 bn_1 sh_1 ?_
                refine am_top (show ((upd (upd (upd (h 1) 3 (nI p)) 2 (nI (cl_kd t e p))) 4 (nI q)) 1) = (nI e) from (by (repeat rw [rf_upd_ne (by decide)]); exact he)) ?_
                refine am_icmp_geN (pc := 110) (tgt := 141) C dX8_advance_110 (by decide) (by omega) (by omega) (fun q108 => ?_) (fun q108 => ?_)
                · skip
                  exact absurd q108 (by omega)
                · skip
                  refine am_aload_n (pc := 113) C dX8_advance_113 rfl ?_
                  refine am_aload_n (pc := 114) C dX8_advance_114 rfl ?_
                  refine am_getI (pc := 115) C dX8_advance_115 f8_23 bn_1 sh_1 ?_
                  refine am_top (show ((upd (upd (upd (h 1) 3 (nI p)) 2 (nI (cl_kd t e p))) 4 (nI q)) 4) = (nI q) from rf_upd_eq) ?_
                  refine am_callVi (Y := mX8_kindAt) (pc := 118) (st := []) (As := [.int (nI q)]) (x := (nI (cl_kd t e q))) (h2 := (am_row h 1 (upd (upd (upd (h 1) 3 (nI p)) 2 (nI (cl_kd t e p))) 4 (nI q)))) C dX8_advance_118 k8_36 v_X8_kindAt rfl rfl bn_1 sh_1 ⟨by decide, rfl⟩ (by decide) (Nat.zero_le _) (Nat.zero_le _) (Nat.le_of_ble_eq_true rfl) (c_X8_kindAt (h := (am_row h 1 (upd (upd (upd (h 1) 3 (nI p)) 2 (nI (cl_kd t e p))) 4 (nI q)))) hR q t e (show cl_by (h 2) t e from hby) (show e ≤ 400 from he4) (show (upd (upd (upd (h 1) 3 (nI p)) 2 (nI (cl_kd t e p))) 4 (nI q)) 1 = nI e from (by (repeat rw [rf_upd_ne (by decide)]); exact he)) (show q < 2147483648 from (by omega))) ?_
                  refine am_aload_n (pc := 121) C dX8_advance_121 rfl ?_
                  refine am_getI (pc := 122) C dX8_advance_122 f8_40 bn_1 sh_1 ?_
                  refine am_top (show ((upd (upd (upd (h 1) 3 (nI p)) 2 (nI (cl_kd t e p))) 4 (nI q)) 2) = (nI (cl_kd t e p)) from (by (repeat rw [rf_upd_ne (by decide)]); exact rf_upd_eq)) ?_
                  refine am_icmp_neN (pc := 125) (tgt := 141) C dX8_advance_125 (by decide) (by omega) (by omega) (fun q123 => ?_) (fun q123 => ?_)
                  · skip
                    have hQ : q = cl_sp t e p := (cl_rk_x q123).symm.trans hrk
                    refine am_aload_n (pc := 141) C dX8_advance_141 rfl ?_
                    refine am_aload_n (pc := 142) C dX8_advance_142 rfl ?_
                    refine am_getI (pc := 143) C dX8_advance_143 f8_40 bn_1 sh_1 ?_
                    refine am_top (show ((upd (upd (upd (h 1) 3 (nI p)) 2 (nI (cl_kd t e p))) 4 (nI q)) 2) = (nI (cl_kd t e p)) from (by (repeat rw [rf_upd_ne (by decide)]); exact rf_upd_eq)) ?_
                    refine am_iconstN (pc := 146) (k := 2) C dX8_advance_146 ?_
                    refine am_icmp_neN (pc := 147) (tgt := 157) C dX8_advance_147 (by decide) (by omega) (by omega) (fun q145 => ?_) (fun q145 => ?_)
                    · skip
                      refine am_aload_n (pc := 157) C dX8_advance_157 rfl ?_
                      refine am_getR (pc := 158) (j := 2) C dX8_advance_158 f8_9 bn_1 sh_1 (rf_1_0 hR) ?_
                      refine am_aload_n (pc := 161) C dX8_advance_161 rfl ?_
                      refine am_getI (pc := 162) C dX8_advance_162 f8_29 bn_1 sh_1 ?_
                      refine am_top (show ((upd (upd (upd (h 1) 3 (nI p)) 2 (nI (cl_kd t e p))) 4 (nI q)) 3) = (nI p) from (by (repeat rw [rf_upd_ne (by decide)]); exact rf_upd_eq)) ?_
                      refine am_callSNi (Y := mX11_pick) (pc := 165) (st := [.ref 1]) (As := [.ref 2, .int (nI p)]) (x := (cl_pk (h 2) p)) (h2 := (am_row h 1 (upd (upd (upd (h 1) 3 (nI p)) 2 (nI (cl_kd t e p))) 4 (nI q)))) C dX8_advance_165 k8_32 v_X11_pick rfl rfl (by decide) (Nat.zero_le _) (Nat.zero_le _) (Nat.le_of_ble_eq_true rfl) (c_X11_pick2 (h := (am_row h 1 (upd (upd (upd (h 1) 3 (nI p)) 2 (nI (cl_kd t e p))) 4 (nI q)))) p (show p < 2147483648 from by omega)) ?_
                      refine am_putI (pc := 168) C dX8_advance_168 f8_47 bn_1 sh_1 rfl rfl ?_
                      refine am_hp (show am_up (am_row h 1 (upd (upd (upd (h 1) 3 (nI p)) 2 (nI (cl_kd t e p))) 4 (nI q))) 1 5 (cl_pk (h 2) p) = am_row (am_row h 1 (upd (upd (upd (h 1) 3 (nI p)) 2 (nI (cl_kd t e p))) 4 (nI q))) 1 (upd (upd (upd (upd (h 1) 3 (nI p)) 2 (nI (cl_kd t e p))) 4 (nI q)) 5 (cl_pk (h 2) p)) from am_up_rw _ _ _ _) ?_
                      refine am_hp (show am_row (am_row h 1 (upd (upd (upd (h 1) 3 (nI p)) 2 (nI (cl_kd t e p))) 4 (nI q))) 1 (upd (upd (upd (upd (h 1) 3 (nI p)) 2 (nI (cl_kd t e p))) 4 (nI q)) 5 (cl_pk (h 2) p)) = (am_row h 1 (upd (upd (upd (upd (h 1) 3 (nI p)) 2 (nI (cl_kd t e p))) 4 (nI q)) 5 (cl_pk (h 2) p))) from am_row_s0) ?_
                      exact am_vretvr T dX8_advance_171 rfl (Nat.le_refl _) (Nat.le_refl _) rfl ⟨cl_tk_mk hB hQ hby he4 (by omega) he (cl_vl_0 q145), (fun i9 h9 => by rw [am_row_ne _ _ _ (by omega)])⟩
                    · skip
                      refine am_aload_n (pc := 150) C dX8_advance_150 rfl ?_
                      refine am_callVi (Y := mX8_numberRead) (pc := 151) (st := [.ref 1]) (As := []) (x := (cl_nm t p q)) (h2 := (am_row h 1 (upd (upd (upd (h 1) 3 (nI p)) 2 (nI (cl_kd t e p))) 4 (nI q)))) C dX8_advance_151 k8_43 v_X8_numberRead rfl rfl bn_1 sh_1 ⟨by decide, rfl⟩ (by decide) (Nat.zero_le _) (Nat.zero_le _) (Nat.le_of_ble_eq_true rfl) (c_X8_numberRead (h := (am_row h 1 (upd (upd (upd (h 1) 3 (nI p)) 2 (nI (cl_kd t e p))) 4 (nI q)))) hR t e (show cl_by (h 2) t e from hby) (show e ≤ 400 from he4) (show (upd (upd (upd (h 1) 3 (nI p)) 2 (nI (cl_kd t e p))) 4 (nI q)) 1 = nI e from (by (repeat rw [rf_upd_ne (by decide)]); exact he)) p q (show (upd (upd (upd (h 1) 3 (nI p)) 2 (nI (cl_kd t e p))) 4 (nI q)) 3 = nI p from (by (repeat rw [rf_upd_ne (by decide)]); exact rf_upd_eq)) (show (upd (upd (upd (h 1) 3 (nI p)) 2 (nI (cl_kd t e p))) 4 (nI q)) 4 = nI q from (by (repeat rw [rf_upd_ne (by decide)]); exact rf_upd_eq)) (show p ≤ q from hqp) (show q ≤ e from (by omega)) (show ∀ k, p ≤ k → k < q → rf_at t e k 48 57 = true from (by rw [hQ]; exact cl_sp_all q145))) ?_
                      refine am_goto (pc := 154) (tgt := 168) C dX8_advance_154 (by decide) ?_
                      refine am_putI (pc := 168) C dX8_advance_168 f8_47 bn_1 sh_1 rfl rfl ?_
                      refine am_hp (show am_up (am_row h 1 (upd (upd (upd (h 1) 3 (nI p)) 2 (nI (cl_kd t e p))) 4 (nI q))) 1 5 (cl_nm t p q) = am_row (am_row h 1 (upd (upd (upd (h 1) 3 (nI p)) 2 (nI (cl_kd t e p))) 4 (nI q))) 1 (upd (upd (upd (upd (h 1) 3 (nI p)) 2 (nI (cl_kd t e p))) 4 (nI q)) 5 (cl_nm t p q)) from am_up_rw _ _ _ _) ?_
                      refine am_hp (show am_row (am_row h 1 (upd (upd (upd (h 1) 3 (nI p)) 2 (nI (cl_kd t e p))) 4 (nI q))) 1 (upd (upd (upd (upd (h 1) 3 (nI p)) 2 (nI (cl_kd t e p))) 4 (nI q)) 5 (cl_nm t p q)) = (am_row h 1 (upd (upd (upd (upd (h 1) 3 (nI p)) 2 (nI (cl_kd t e p))) 4 (nI q)) 5 (cl_nm t p q))) from am_row_s0) ?_
                      exact am_vretvr T dX8_advance_171 rfl (Nat.le_refl _) (Nat.le_refl _) rfl ⟨cl_tk_mk hB hQ hby he4 (by omega) he (cl_vl_2 q145 hQ), (fun i9 h9 => by rw [am_row_ne _ _ _ (by omega)])⟩
                  · skip
                    refine am_aload_n (pc := 128) C dX8_advance_128 rfl ?_
                    refine am_dup (pc := 129) C dX8_advance_129 rfl ?_
                    refine am_getI (pc := 130) C dX8_advance_130 f8_23 bn_1 sh_1 ?_
                    refine am_top (show ((upd (upd (upd (h 1) 3 (nI p)) 2 (nI (cl_kd t e p))) 4 (nI q)) 4) = (nI q) from rf_upd_eq) ?_
                    refine am_iconstN (pc := 133) (k := 1) C dX8_advance_133 ?_
                    refine am_iaddN (pc := 134) C dX8_advance_134 ?_
                    refine am_putI (pc := 135) C dX8_advance_135 f8_23 bn_1 sh_1 rfl rfl ?_
                    refine am_hp (show am_up (am_row h 1 (upd (upd (upd (h 1) 3 (nI p)) 2 (nI (cl_kd t e p))) 4 (nI q))) 1 4 (nI (q + 1)) = am_row (am_row h 1 (upd (upd (upd (h 1) 3 (nI p)) 2 (nI (cl_kd t e p))) 4 (nI q))) 1 (upd (upd (upd (upd (h 1) 3 (nI p)) 2 (nI (cl_kd t e p))) 4 (nI q)) 4 (nI (q + 1))) from am_up_rw _ _ _ _) ?_
                    refine am_hp (show am_row (am_row h 1 (upd (upd (upd (h 1) 3 (nI p)) 2 (nI (cl_kd t e p))) 4 (nI q))) 1 (upd (upd (upd (upd (h 1) 3 (nI p)) 2 (nI (cl_kd t e p))) 4 (nI q)) 4 (nI (q + 1))) = (am_row h 1 (upd (upd (upd (upd (h 1) 3 (nI p)) 2 (nI (cl_kd t e p))) 4 (nI q)) 4 (nI (q + 1)))) from am_row_s0) ?_
                    refine am_goto (pc := 138) (tgt := 94) C dX8_advance_138 (by decide) ?_
                    refine am_hp (show (am_row h 1 (upd (upd (upd (upd (h 1) 3 (nI p)) 2 (nI (cl_kd t e p))) 4 (nI q)) 4 (nI (q + 1)))) = (am_row h 1 (upd (upd (upd (h 1) 3 (nI p)) 2 (nI (cl_kd t e p))) 4 (nI (q + 1)))) from (by rw [rf_upd_upd])) ?_
                    exact ih92 (q + 1) (by omega) (by omega) ((cl_rk_s (by omega) q97 q123).trans hrk)
          refine am_hp (show (am_row h 1 (upd (upd (upd (h 1) 3 (nI p)) 2 (nI (cl_kd t e p))) 4 (nI p))) = (am_row h 1 (upd (upd (upd (h 1) 3 (nI p)) 2 (nI (cl_kd t e p))) 4 (nI (cl_s0 t e p)))) from (by rw [cl_s0, if_pos (by omega)])) ?_
          exact L92 (e - cl_s0 t e p) (cl_s0 t e p) (by have := cl_s0_le (t := t) (b := p) (e := e) (by omega); omega) cl_s0_ge (cl_rk_0 (by omega))
      · skip
        exact absurd q16 (by omega)
    | succ j8 ih8 =>
      intro p hpj hrun
      refine am_aload_n (pc := 8) C dX8_advance_8 rfl ?_
      refine am_getI (pc := 9) C dX8_advance_9 f8_29 bn_1 sh_1 ?_
      refine am_top (show ((upd (h 1) 3 (nI p)) 3) = (nI p) from (by (repeat rw [rf_upd_ne (by decide)]); exact rf_upd_eq)) ?_
      refine am_aload_n (pc := 12) C dX8_advance_12 rfl ?_
      refine am_getI (pc := 13) C dX8_advance_13 f8_15 bn_1 sh_1 ?_
      refine am_top (show ((upd (h 1) 3 (nI p)) 1) = (nI e) from (by (repeat rw [rf_upd_ne (by decide)]); exact he)) ?_
      refine am_icmp_geN (pc := 16) (tgt := 58) C dX8_advance_16 (by decide) (by omega) (by omega) (fun q16 => ?_) (fun q16 => ?_)
      · skip
        exact absurd q16 (by omega)
      · skip
        refine am_aload_n (pc := 19) C dX8_advance_19 rfl ?_
        refine am_getI (pc := 20) C dX8_advance_20 f8_29 bn_1 sh_1 ?_
        refine am_top (show ((upd (h 1) 3 (nI p)) 3) = (nI p) from (by (repeat rw [rf_upd_ne (by decide)]); exact rf_upd_eq)) ?_
        refine am_sipush (pc := 23) (v := nI 400) C dX8_advance_23 (by decide) ?_
        refine am_icmp_geN (pc := 26) (tgt := 58) C dX8_advance_26 (by decide) (by omega) (by omega) (fun q26 => ?_) (fun q26 => ?_)
        · skip
          exact absurd q26 (by omega)
        · skip
          refine am_aload_n (pc := 29) C dX8_advance_29 rfl ?_
          refine am_getR (pc := 30) (j := 2) C dX8_advance_30 f8_9 bn_1 sh_1 (rf_1_0 hR) ?_
          refine am_aload_n (pc := 33) C dX8_advance_33 rfl ?_
          refine am_getI (pc := 34) C dX8_advance_34 f8_29 bn_1 sh_1 ?_
          refine am_top (show ((upd (h 1) 3 (nI p)) 3) = (nI p) from (by (repeat rw [rf_upd_ne (by decide)]); exact rf_upd_eq)) ?_
          refine am_callSNi (Y := mX11_pick) (pc := 37) (st := []) (As := [.ref 2, .int (nI p)]) (x := ((h 2) p)) (h2 := (am_row h 1 (upd (h 1) 3 (nI p)))) C dX8_advance_37 k8_32 v_X11_pick rfl rfl (by decide) (Nat.zero_le _) (Nat.zero_le _) (Nat.le_of_ble_eq_true rfl) (c_X11_pick 2 p 400 bn_2 sh_2 (show p < 400 from by omega) (by decide)) ?_
          refine am_bipush (pc := 40) (v := nI 32) C dX8_advance_40 (by decide) ?_
          refine am_icmp_ne (pc := 42) (tgt := 58) C dX8_advance_42 (by decide) (fun q40 => ?_) (fun q40 => ?_)
          · skip
            have hB : rf_sb t e s = p := hrun.symm.trans (rf_run_f (cl_sp_f hby q40))
            refine am_aload_n (pc := 58) C dX8_advance_58 rfl ?_
            refine am_aload_n (pc := 59) C dX8_advance_59 rfl ?_
            refine am_aload_n (pc := 60) C dX8_advance_60 rfl ?_
            refine am_getI (pc := 61) C dX8_advance_61 f8_29 bn_1 sh_1 ?_
            refine am_top (show ((upd (h 1) 3 (nI p)) 3) = (nI p) from (by (repeat rw [rf_upd_ne (by decide)]); exact rf_upd_eq)) ?_
            refine am_callVi (Y := mX8_kindAt) (pc := 64) (st := [.ref 1]) (As := [.int (nI p)]) (x := (nI (cl_kd t e p))) (h2 := (am_row h 1 (upd (h 1) 3 (nI p)))) C dX8_advance_64 k8_36 v_X8_kindAt rfl rfl bn_1 sh_1 ⟨by decide, rfl⟩ (by decide) (Nat.zero_le _) (Nat.zero_le _) (Nat.le_of_ble_eq_true rfl) (c_X8_kindAt (h := (am_row h 1 (upd (h 1) 3 (nI p)))) hR p t e (show cl_by (h 2) t e from hby) (show e ≤ 400 from he4) (show (upd (h 1) 3 (nI p)) 1 = nI e from (by (repeat rw [rf_upd_ne (by decide)]); exact he)) (show p < 2147483648 from (by omega))) ?_
            have hkd4 : cl_kd t e p < 4 := cl_kd_lt
            refine am_putI (pc := 67) C dX8_advance_67 f8_40 bn_1 sh_1 rfl rfl ?_
            refine am_hp (show am_up (am_row h 1 (upd (h 1) 3 (nI p))) 1 2 (nI (cl_kd t e p)) = am_row (am_row h 1 (upd (h 1) 3 (nI p))) 1 (upd (upd (h 1) 3 (nI p)) 2 (nI (cl_kd t e p))) from am_up_rw _ _ _ _) ?_
            refine am_hp (show am_row (am_row h 1 (upd (h 1) 3 (nI p))) 1 (upd (upd (h 1) 3 (nI p)) 2 (nI (cl_kd t e p))) = (am_row h 1 (upd (upd (h 1) 3 (nI p)) 2 (nI (cl_kd t e p)))) from am_row_s0) ?_
            refine am_aload_n (pc := 70) C dX8_advance_70 rfl ?_
            refine am_aload_n (pc := 71) C dX8_advance_71 rfl ?_
            refine am_getI (pc := 72) C dX8_advance_72 f8_40 bn_1 sh_1 ?_
            refine am_top (show ((upd (upd (h 1) 3 (nI p)) 2 (nI (cl_kd t e p))) 2) = (nI (cl_kd t e p)) from (by (repeat rw [rf_upd_ne (by decide)]); exact rf_upd_eq)) ?_
            refine am_if_neN (pc := 75) (tgt := 85) C dX8_advance_75 (by decide) (by omega) (fun q73 => ?_) (fun q73 => ?_)
            · skip
              refine am_aload_n (pc := 85) C dX8_advance_85 rfl ?_
              refine am_getI (pc := 86) C dX8_advance_86 f8_29 bn_1 sh_1 ?_
              refine am_top (show ((upd (upd (h 1) 3 (nI p)) 2 (nI (cl_kd t e p))) 3) = (nI p) from (by (repeat rw [rf_upd_ne (by decide)]); exact rf_upd_eq)) ?_
              refine am_iconstN (pc := 89) (k := 1) C dX8_advance_89 ?_
              refine am_iaddN (pc := 90) C dX8_advance_90 ?_
              refine am_putI (pc := 91) C dX8_advance_91 f8_23 bn_1 sh_1 rfl rfl ?_
              refine am_hp (show am_up (am_row h 1 (upd (upd (h 1) 3 (nI p)) 2 (nI (cl_kd t e p)))) 1 4 (nI (p + 1)) = am_row (am_row h 1 (upd (upd (h 1) 3 (nI p)) 2 (nI (cl_kd t e p)))) 1 (upd (upd (upd (h 1) 3 (nI p)) 2 (nI (cl_kd t e p))) 4 (nI (p + 1))) from am_up_rw _ _ _ _) ?_
              refine am_hp (show am_row (am_row h 1 (upd (upd (h 1) 3 (nI p)) 2 (nI (cl_kd t e p)))) 1 (upd (upd (upd (h 1) 3 (nI p)) 2 (nI (cl_kd t e p))) 4 (nI (p + 1))) = (am_row h 1 (upd (upd (upd (h 1) 3 (nI p)) 2 (nI (cl_kd t e p))) 4 (nI (p + 1)))) from am_row_s0) ?_
              have L92 : ∀ (j92 : Nat) (q : Nat), (hqj : q + j92 = e) → (hqp : p ≤ q) → (hrk : cl_rk t e (cl_kd t e p) q = cl_sp t e p) → am_G X (am_VV ad) (0, 0) 94 [(0, .ref 1)] [] r (am_row h 1 (upd (upd (upd (h 1) 3 (nI p)) 2 (nI (cl_kd t e p))) 4 (nI q))) := by
                intro j92
                induction j92 with
                | zero =>
                  intro q hqj hqp hrk
                  have hkd4 : cl_kd t e p < 4 := cl_kd_lt
                  have hQ : q = cl_sp t e p := (cl_rk_e (by omega)).symm.trans hrk
                  refine am_aload_n (pc := 94) C dX8_advance_94 rfl ?_
                  refine am_getI (pc := 95) C dX8_advance_95 f8_40 bn_1 sh_1 ?_
                  refine am_top (show ((upd (upd (upd (h 1) 3 (nI p)) 2 (nI (cl_kd t e p))) 4 (nI q)) 2) = (nI (cl_kd t e p)) from (by (repeat rw [rf_upd_ne (by decide)]); exact rf_upd_eq)) ?_
                  refine am_iconstN (pc := 98) (k := 3) C dX8_advance_98 ?_
                  refine am_icmp_eqN (pc := 99) (tgt := 141) C dX8_advance_99 (by decide) (by omega) (by omega) (fun q97 => ?_) (fun q97 => ?_)
                  · skip
                    have hQ : q = cl_sp t e p := (cl_rk_3 q97).symm.trans hrk
                    refine am_aload_n (pc := 141) C dX8_advance_141 rfl ?_
                    refine am_aload_n (pc := 142) C dX8_advance_142 rfl ?_
                    refine am_getI (pc := 143) C dX8_advance_143 f8_40 bn_1 sh_1 ?_
                    refine am_top (show ((upd (upd (upd (h 1) 3 (nI p)) 2 (nI (cl_kd t e p))) 4 (nI q)) 2) = (nI (cl_kd t e p)) from (by (repeat rw [rf_upd_ne (by decide)]); exact rf_upd_eq)) ?_
                    refine am_iconstN (pc := 146) (k := 2) C dX8_advance_146 ?_
                    refine am_icmp_neN (pc := 147) (tgt := 157) C dX8_advance_147 (by decide) (by omega) (by omega) (fun q145 => ?_) (fun q145 => ?_)
                    · skip
                      refine am_aload_n (pc := 157) C dX8_advance_157 rfl ?_
                      refine am_getR (pc := 158) (j := 2) C dX8_advance_158 f8_9 bn_1 sh_1 (rf_1_0 hR) ?_
                      refine am_aload_n (pc := 161) C dX8_advance_161 rfl ?_
                      refine am_getI (pc := 162) C dX8_advance_162 f8_29 bn_1 sh_1 ?_
                      refine am_top (show ((upd (upd (upd (h 1) 3 (nI p)) 2 (nI (cl_kd t e p))) 4 (nI q)) 3) = (nI p) from (by (repeat rw [rf_upd_ne (by decide)]); exact rf_upd_eq)) ?_
                      refine am_callSNi (Y := mX11_pick) (pc := 165) (st := [.ref 1]) (As := [.ref 2, .int (nI p)]) (x := (cl_pk (h 2) p)) (h2 := (am_row h 1 (upd (upd (upd (h 1) 3 (nI p)) 2 (nI (cl_kd t e p))) 4 (nI q)))) C dX8_advance_165 k8_32 v_X11_pick rfl rfl (by decide) (Nat.zero_le _) (Nat.zero_le _) (Nat.le_of_ble_eq_true rfl) (c_X11_pick2 (h := (am_row h 1 (upd (upd (upd (h 1) 3 (nI p)) 2 (nI (cl_kd t e p))) 4 (nI q)))) p (show p < 2147483648 from by omega)) ?_
                      refine am_putI (pc := 168) C dX8_advance_168 f8_47 bn_1 sh_1 rfl rfl ?_
                      refine am_hp (show am_up (am_row h 1 (upd (upd (upd (h 1) 3 (nI p)) 2 (nI (cl_kd t e p))) 4 (nI q))) 1 5 (cl_pk (h 2) p) = am_row (am_row h 1 (upd (upd (upd (h 1) 3 (nI p)) 2 (nI (cl_kd t e p))) 4 (nI q))) 1 (upd (upd (upd (upd (h 1) 3 (nI p)) 2 (nI (cl_kd t e p))) 4 (nI q)) 5 (cl_pk (h 2) p)) from am_up_rw _ _ _ _) ?_
                      refine am_hp (show am_row (am_row h 1 (upd (upd (upd (h 1) 3 (nI p)) 2 (nI (cl_kd t e p))) 4 (nI q))) 1 (upd (upd (upd (upd (h 1) 3 (nI p)) 2 (nI (cl_kd t e p))) 4 (nI q)) 5 (cl_pk (h 2) p)) = (am_row h 1 (upd (upd (upd (upd (h 1) 3 (nI p)) 2 (nI (cl_kd t e p))) 4 (nI q)) 5 (cl_pk (h 2) p))) from am_row_s0) ?_
                      exact am_vretvr T dX8_advance_171 rfl (Nat.le_refl _) (Nat.le_refl _) rfl ⟨cl_tk_mk hB hQ hby he4 (by omega) he (cl_vl_0 q145), (fun i9 h9 => by rw [am_row_ne _ _ _ (by omega)])⟩
                    · skip
                      refine am_aload_n (pc := 150) C dX8_advance_150 rfl ?_
                      refine am_callVi (Y := mX8_numberRead) (pc := 151) (st := [.ref 1]) (As := []) (x := (cl_nm t p q)) (h2 := (am_row h 1 (upd (upd (upd (h 1) 3 (nI p)) 2 (nI (cl_kd t e p))) 4 (nI q)))) C dX8_advance_151 k8_43 v_X8_numberRead rfl rfl bn_1 sh_1 ⟨by decide, rfl⟩ (by decide) (Nat.zero_le _) (Nat.zero_le _) (Nat.le_of_ble_eq_true rfl) (c_X8_numberRead (h := (am_row h 1 (upd (upd (upd (h 1) 3 (nI p)) 2 (nI (cl_kd t e p))) 4 (nI q)))) hR t e (show cl_by (h 2) t e from hby) (show e ≤ 400 from he4) (show (upd (upd (upd (h 1) 3 (nI p)) 2 (nI (cl_kd t e p))) 4 (nI q)) 1 = nI e from (by (repeat rw [rf_upd_ne (by decide)]); exact he)) p q (show (upd (upd (upd (h 1) 3 (nI p)) 2 (nI (cl_kd t e p))) 4 (nI q)) 3 = nI p from (by (repeat rw [rf_upd_ne (by decide)]); exact rf_upd_eq)) (show (upd (upd (upd (h 1) 3 (nI p)) 2 (nI (cl_kd t e p))) 4 (nI q)) 4 = nI q from (by (repeat rw [rf_upd_ne (by decide)]); exact rf_upd_eq)) (show p ≤ q from hqp) (show q ≤ e from (by omega)) (show ∀ k, p ≤ k → k < q → rf_at t e k 48 57 = true from (by rw [hQ]; exact cl_sp_all q145))) ?_
                      refine am_goto (pc := 154) (tgt := 168) C dX8_advance_154 (by decide) ?_
                      refine am_putI (pc := 168) C dX8_advance_168 f8_47 bn_1 sh_1 rfl rfl ?_
                      refine am_hp (show am_up (am_row h 1 (upd (upd (upd (h 1) 3 (nI p)) 2 (nI (cl_kd t e p))) 4 (nI q))) 1 5 (cl_nm t p q) = am_row (am_row h 1 (upd (upd (upd (h 1) 3 (nI p)) 2 (nI (cl_kd t e p))) 4 (nI q))) 1 (upd (upd (upd (upd (h 1) 3 (nI p)) 2 (nI (cl_kd t e p))) 4 (nI q)) 5 (cl_nm t p q)) from am_up_rw _ _ _ _) ?_
                      refine am_hp (show am_row (am_row h 1 (upd (upd (upd (h 1) 3 (nI p)) 2 (nI (cl_kd t e p))) 4 (nI q))) 1 (upd (upd (upd (upd (h 1) 3 (nI p)) 2 (nI (cl_kd t e p))) 4 (nI q)) 5 (cl_nm t p q)) = (am_row h 1 (upd (upd (upd (upd (h 1) 3 (nI p)) 2 (nI (cl_kd t e p))) 4 (nI q)) 5 (cl_nm t p q))) from am_row_s0) ?_
                      exact am_vretvr T dX8_advance_171 rfl (Nat.le_refl _) (Nat.le_refl _) rfl ⟨cl_tk_mk hB hQ hby he4 (by omega) he (cl_vl_2 q145 hQ), (fun i9 h9 => by rw [am_row_ne _ _ _ (by omega)])⟩
                  · skip
                    refine am_aload_n (pc := 102) C dX8_advance_102 rfl ?_
                    refine am_getI (pc := 103) C dX8_advance_103 f8_23 bn_1 sh_1 ?_
                    refine am_top (show ((upd (upd (upd (h 1) 3 (nI p)) 2 (nI (cl_kd t e p))) 4 (nI q)) 4) = (nI q) from rf_upd_eq) ?_
                    refine am_aload_n (pc := 106) C dX8_advance_106 rfl ?_
                    refine am_getI (pc := 107) C dX8_advance_107 f8_15 bn_1 sh_1 ?_
                    refine am_top (show ((upd (upd (upd (h 1) 3 (nI p)) 2 (nI (cl_kd t e p))) 4 (nI q)) 1) = (nI e) from (by (repeat rw [rf_upd_ne (by decide)]); exact he)) ?_
                    refine am_icmp_geN (pc := 110) (tgt := 141) C dX8_advance_110 (by decide) (by omega) (by omega) (fun q108 => ?_) (fun q108 => ?_)
                    · skip
                      refine am_aload_n (pc := 141) C dX8_advance_141 rfl ?_
                      refine am_aload_n (pc := 142) C dX8_advance_142 rfl ?_
                      refine am_getI (pc := 143) C dX8_advance_143 f8_40 bn_1 sh_1 ?_
                      refine am_top (show ((upd (upd (upd (h 1) 3 (nI p)) 2 (nI (cl_kd t e p))) 4 (nI q)) 2) = (nI (cl_kd t e p)) from (by (repeat rw [rf_upd_ne (by decide)]); exact rf_upd_eq)) ?_
                      refine am_iconstN (pc := 146) (k := 2) C dX8_advance_146 ?_
                      refine am_icmp_neN (pc := 147) (tgt := 157) C dX8_advance_147 (by decide) (by omega) (by omega) (fun q145 => ?_) (fun q145 => ?_)
                      · skip
                        refine am_aload_n (pc := 157) C dX8_advance_157 rfl ?_
                        refine am_getR (pc := 158) (j := 2) C dX8_advance_158 f8_9 bn_1 sh_1 (rf_1_0 hR) ?_
                        refine am_aload_n (pc := 161) C dX8_advance_161 rfl ?_
                        refine am_getI (pc := 162) C dX8_advance_162 f8_29 bn_1 sh_1 ?_
                        refine am_top (show ((upd (upd (upd (h 1) 3 (nI p)) 2 (nI (cl_kd t e p))) 4 (nI q)) 3) = (nI p) from (by (repeat rw [rf_upd_ne (by decide)]); exact rf_upd_eq)) ?_
                        refine am_callSNi (Y := mX11_pick) (pc := 165) (st := [.ref 1]) (As := [.ref 2, .int (nI p)]) (x := (cl_pk (h 2) p)) (h2 := (am_row h 1 (upd (upd (upd (h 1) 3 (nI p)) 2 (nI (cl_kd t e p))) 4 (nI q)))) C dX8_advance_165 k8_32 v_X11_pick rfl rfl (by decide) (Nat.zero_le _) (Nat.zero_le _) (Nat.le_of_ble_eq_true rfl) (c_X11_pick2 (h := (am_row h 1 (upd (upd (upd (h 1) 3 (nI p)) 2 (nI (cl_kd t e p))) 4 (nI q)))) p (show p < 2147483648 from by omega)) ?_
                        refine am_putI (pc := 168) C dX8_advance_168 f8_47 bn_1 sh_1 rfl rfl ?_
                        refine am_hp (show am_up (am_row h 1 (upd (upd (upd (h 1) 3 (nI p)) 2 (nI (cl_kd t e p))) 4 (nI q))) 1 5 (cl_pk (h 2) p) = am_row (am_row h 1 (upd (upd (upd (h 1) 3 (nI p)) 2 (nI (cl_kd t e p))) 4 (nI q))) 1 (upd (upd (upd (upd (h 1) 3 (nI p)) 2 (nI (cl_kd t e p))) 4 (nI q)) 5 (cl_pk (h 2) p)) from am_up_rw _ _ _ _) ?_
                        refine am_hp (show am_row (am_row h 1 (upd (upd (upd (h 1) 3 (nI p)) 2 (nI (cl_kd t e p))) 4 (nI q))) 1 (upd (upd (upd (upd (h 1) 3 (nI p)) 2 (nI (cl_kd t e p))) 4 (nI q)) 5 (cl_pk (h 2) p)) = (am_row h 1 (upd (upd (upd (upd (h 1) 3 (nI p)) 2 (nI (cl_kd t e p))) 4 (nI q)) 5 (cl_pk (h 2) p))) from am_row_s0) ?_
                        exact am_vretvr T dX8_advance_171 rfl (Nat.le_refl _) (Nat.le_refl _) rfl ⟨cl_tk_mk hB hQ hby he4 (by omega) he (cl_vl_0 q145), (fun i9 h9 => by rw [am_row_ne _ _ _ (by omega)])⟩
                      · skip
                        refine am_aload_n (pc := 150) C dX8_advance_150 rfl ?_
                        refine am_callVi (Y := mX8_numberRead) (pc := 151) (st := [.ref 1]) (As := []) (x := (cl_nm t p q)) (h2 := (am_row h 1 (upd (upd (upd (h 1) 3 (nI p)) 2 (nI (cl_kd t e p))) 4 (nI q)))) C dX8_advance_151 k8_43 v_X8_numberRead rfl rfl bn_1 sh_1 ⟨by decide, rfl⟩ (by decide) (Nat.zero_le _) (Nat.zero_le _) (Nat.le_of_ble_eq_true rfl) (c_X8_numberRead (h := (am_row h 1 (upd (upd (upd (h 1) 3 (nI p)) 2 (nI (cl_kd t e p))) 4 (nI q)))) hR t e (show cl_by (h 2) t e from hby) (show e ≤ 400 from he4) (show (upd (upd (upd (h 1) 3 (nI p)) 2 (nI (cl_kd t e p))) 4 (nI q)) 1 = nI e from (by (repeat rw [rf_upd_ne (by decide)]); exact he)) p q (show (upd (upd (upd (h 1) 3 (nI p)) 2 (nI (cl_kd t e p))) 4 (nI q)) 3 = nI p from (by (repeat rw [rf_upd_ne (by decide)]); exact rf_upd_eq)) (show (upd (upd (upd (h 1) 3 (nI p)) 2 (nI (cl_kd t e p))) 4 (nI q)) 4 = nI q from (by (repeat rw [rf_upd_ne (by decide)]); exact rf_upd_eq)) (show p ≤ q from hqp) (show q ≤ e from (by omega)) (show ∀ k, p ≤ k → k < q → rf_at t e k 48 57 = true from (by rw [hQ]; exact cl_sp_all q145))) ?_
                        refine am_goto (pc := 154) (tgt := 168) C dX8_advance_154 (by decide) ?_
                        refine am_putI (pc := 168) C dX8_advance_168 f8_47 bn_1 sh_1 rfl rfl ?_
                        refine am_hp (show am_up (am_row h 1 (upd (upd (upd (h 1) 3 (nI p)) 2 (nI (cl_kd t e p))) 4 (nI q))) 1 5 (cl_nm t p q) = am_row (am_row h 1 (upd (upd (upd (h 1) 3 (nI p)) 2 (nI (cl_kd t e p))) 4 (nI q))) 1 (upd (upd (upd (upd (h 1) 3 (nI p)) 2 (nI (cl_kd t e p))) 4 (nI q)) 5 (cl_nm t p q)) from am_up_rw _ _ _ _) ?_
                        refine am_hp (show am_row (am_row h 1 (upd (upd (upd (h 1) 3 (nI p)) 2 (nI (cl_kd t e p))) 4 (nI q))) 1 (upd (upd (upd (upd (h 1) 3 (nI p)) 2 (nI (cl_kd t e p))) 4 (nI q)) 5 (cl_nm t p q)) = (am_row h 1 (upd (upd (upd (upd (h 1) 3 (nI p)) 2 (nI (cl_kd t e p))) 4 (nI q)) 5 (cl_nm t p q))) from am_row_s0) ?_
                        exact am_vretvr T dX8_advance_171 rfl (Nat.le_refl _) (Nat.le_refl _) rfl ⟨cl_tk_mk hB hQ hby he4 (by omega) he (cl_vl_2 q145 hQ), (fun i9 h9 => by rw [am_row_ne _ _ _ (by omega)])⟩
                    · skip
                      exact absurd q108 (by omega)
                | succ j92 ih92 =>
                  intro q hqj hqp hrk
                  have hkd4 : cl_kd t e p < 4 := cl_kd_lt
                  have hkq4 : cl_kd t e q < 4 := cl_kd_lt
                  refine am_aload_n (pc := 94) C dX8_advance_94 rfl ?_
                  refine am_getI (pc := 95) C dX8_advance_95 f8_40 bn_1 sh_1 ?_
                  refine am_top (show ((upd (upd (upd (h 1) 3 (nI p)) 2 (nI (cl_kd t e p))) 4 (nI q)) 2) = (nI (cl_kd t e p)) from (by (repeat rw [rf_upd_ne (by decide)]); exact rf_upd_eq)) ?_
                  refine am_iconstN (pc := 98) (k := 3) C dX8_advance_98 ?_
                  refine am_icmp_eqN (pc := 99) (tgt := 141) C dX8_advance_99 (by decide) (by omega) (by omega) (fun q97 => ?_) (fun q97 => ?_)
                  · skip
                    have hQ : q = cl_sp t e p := (cl_rk_3 q97).symm.trans hrk
                    refine am_aload_n (pc := 141) C dX8_advance_141 rfl ?_
                    refine am_aload_n (pc := 142) C dX8_advance_142 rfl ?_
                    refine am_getI (pc := 143) C dX8_advance_143 f8_40 bn_1 sh_1 ?_
                    refine am_top (show ((upd (upd (upd (h 1) 3 (nI p)) 2 (nI (cl_kd t e p))) 4 (nI q)) 2) = (nI (cl_kd t e p)) from (by (repeat rw [rf_upd_ne (by decide)]); exact rf_upd_eq)) ?_
                    refine am_iconstN (pc := 146) (k := 2) C dX8_advance_146 ?_
                    refine am_icmp_neN (pc := 147) (tgt := 157) C dX8_advance_147 (by decide) (by omega) (by omega) (fun q145 => ?_) (fun q145 => ?_)
                    · skip
                      refine am_aload_n (pc := 157) C dX8_advance_157 rfl ?_
                      refine am_getR (pc := 158) (j := 2) C dX8_advance_158 f8_9 bn_1 sh_1 (rf_1_0 hR) ?_
                      refine am_aload_n (pc := 161) C dX8_advance_161 rfl ?_
                      refine am_getI (pc := 162) C dX8_advance_162 f8_29 bn_1 sh_1 ?_
                      refine am_top (show ((upd (upd (upd (h 1) 3 (nI p)) 2 (nI (cl_kd t e p))) 4 (nI q)) 3) = (nI p) from (by (repeat rw [rf_upd_ne (by decide)]); exact rf_upd_eq)) ?_
                      refine am_callSNi (Y := mX11_pick) (pc := 165) (st := [.ref 1]) (As := [.ref 2, .int (nI p)]) (x := (cl_pk (h 2) p)) (h2 := (am_row h 1 (upd (upd (upd (h 1) 3 (nI p)) 2 (nI (cl_kd t e p))) 4 (nI q)))) C dX8_advance_165 k8_32 v_X11_pick rfl rfl (by decide) (Nat.zero_le _) (Nat.zero_le _) (Nat.le_of_ble_eq_true rfl) (c_X11_pick2 (h := (am_row h 1 (upd (upd (upd (h 1) 3 (nI p)) 2 (nI (cl_kd t e p))) 4 (nI q)))) p (show p < 2147483648 from by omega)) ?_
                      refine am_putI (pc := 168) C dX8_advance_168 f8_47 bn_1 sh_1 rfl rfl ?_
                      refine am_hp (show am_up (am_row h 1 (upd (upd (upd (h 1) 3 (nI p)) 2 (nI (cl_kd t e p))) 4 (nI q))) 1 5 (cl_pk (h 2) p) = am_row (am_row h 1 (upd (upd (upd (h 1) 3 (nI p)) 2 (nI (cl_kd t e p))) 4 (nI q))) 1 (upd (upd (upd (upd (h 1) 3 (nI p)) 2 (nI (cl_kd t e p))) 4 (nI q)) 5 (cl_pk (h 2) p)) from am_up_rw _ _ _ _) ?_
                      refine am_hp (show am_row (am_row h 1 (upd (upd (upd (h 1) 3 (nI p)) 2 (nI (cl_kd t e p))) 4 (nI q))) 1 (upd (upd (upd (upd (h 1) 3 (nI p)) 2 (nI (cl_kd t e p))) 4 (nI q)) 5 (cl_pk (h 2) p)) = (am_row h 1 (upd (upd (upd (upd (h 1) 3 (nI p)) 2 (nI (cl_kd t e p))) 4 (nI q)) 5 (cl_pk (h 2) p))) from am_row_s0) ?_
                      exact am_vretvr T dX8_advance_171 rfl (Nat.le_refl _) (Nat.le_refl _) rfl ⟨cl_tk_mk hB hQ hby he4 (by omega) he (cl_vl_0 q145), (fun i9 h9 => by rw [am_row_ne _ _ _ (by omega)])⟩
                    · skip
                      refine am_aload_n (pc := 150) C dX8_advance_150 rfl ?_
                      refine am_callVi (Y := mX8_numberRead) (pc := 151) (st := [.ref 1]) (As := []) (x := (cl_nm t p q)) (h2 := (am_row h 1 (upd (upd (upd (h 1) 3 (nI p)) 2 (nI (cl_kd t e p))) 4 (nI q)))) C dX8_advance_151 k8_43 v_X8_numberRead rfl rfl bn_1 sh_1 ⟨by decide, rfl⟩ (by decide) (Nat.zero_le _) (Nat.zero_le _) (Nat.le_of_ble_eq_true rfl) (c_X8_numberRead (h := (am_row h 1 (upd (upd (upd (h 1) 3 (nI p)) 2 (nI (cl_kd t e p))) 4 (nI q)))) hR t e (show cl_by (h 2) t e from hby) (show e ≤ 400 from he4) (show (upd (upd (upd (h 1) 3 (nI p)) 2 (nI (cl_kd t e p))) 4 (nI q)) 1 = nI e from (by (repeat rw [rf_upd_ne (by decide)]); exact he)) p q (show (upd (upd (upd (h 1) 3 (nI p)) 2 (nI (cl_kd t e p))) 4 (nI q)) 3 = nI p from (by (repeat rw [rf_upd_ne (by decide)]); exact rf_upd_eq)) (show (upd (upd (upd (h 1) 3 (nI p)) 2 (nI (cl_kd t e p))) 4 (nI q)) 4 = nI q from (by (repeat rw [rf_upd_ne (by decide)]); exact rf_upd_eq)) (show p ≤ q from hqp) (show q ≤ e from (by omega)) (show ∀ k, p ≤ k → k < q → rf_at t e k 48 57 = true from (by rw [hQ]; exact cl_sp_all q145))) ?_
                      refine am_goto (pc := 154) (tgt := 168) C dX8_advance_154 (by decide) ?_
                      refine am_putI (pc := 168) C dX8_advance_168 f8_47 bn_1 sh_1 rfl rfl ?_
                      refine am_hp (show am_up (am_row h 1 (upd (upd (upd (h 1) 3 (nI p)) 2 (nI (cl_kd t e p))) 4 (nI q))) 1 5 (cl_nm t p q) = am_row (am_row h 1 (upd (upd (upd (h 1) 3 (nI p)) 2 (nI (cl_kd t e p))) 4 (nI q))) 1 (upd (upd (upd (upd (h 1) 3 (nI p)) 2 (nI (cl_kd t e p))) 4 (nI q)) 5 (cl_nm t p q)) from am_up_rw _ _ _ _) ?_
                      refine am_hp (show am_row (am_row h 1 (upd (upd (upd (h 1) 3 (nI p)) 2 (nI (cl_kd t e p))) 4 (nI q))) 1 (upd (upd (upd (upd (h 1) 3 (nI p)) 2 (nI (cl_kd t e p))) 4 (nI q)) 5 (cl_nm t p q)) = (am_row h 1 (upd (upd (upd (upd (h 1) 3 (nI p)) 2 (nI (cl_kd t e p))) 4 (nI q)) 5 (cl_nm t p q))) from am_row_s0) ?_
                      exact am_vretvr T dX8_advance_171 rfl (Nat.le_refl _) (Nat.le_refl _) rfl ⟨cl_tk_mk hB hQ hby he4 (by omega) he (cl_vl_2 q145 hQ), (fun i9 h9 => by rw [am_row_ne _ _ _ (by omega)])⟩
                  · skip
                    refine am_aload_n (pc := 102) C dX8_advance_102 rfl ?_
                    refine am_getI (pc := 103) C dX8_advance_103 f8_23 bn_1 sh_1 ?_
                    refine am_top (show ((upd (upd (upd (h 1) 3 (nI p)) 2 (nI (cl_kd t e p))) 4 (nI q)) 4) = (nI q) from rf_upd_eq) ?_
                    refine am_aload_n (pc := 106) C dX8_advance_106 rfl ?_
                    refine am_getI (pc := 107) C dX8_advance_107 f8_15 bn_1 sh_1 ?_
                    refine am_top (show ((upd (upd (upd (h 1) 3 (nI p)) 2 (nI (cl_kd t e p))) 4 (nI q)) 1) = (nI e) from (by (repeat rw [rf_upd_ne (by decide)]); exact he)) ?_
                    refine am_icmp_geN (pc := 110) (tgt := 141) C dX8_advance_110 (by decide) (by omega) (by omega) (fun q108 => ?_) (fun q108 => ?_)
                    · skip
                      exact absurd q108 (by omega)
                    · skip
                      refine am_aload_n (pc := 113) C dX8_advance_113 rfl ?_
                      refine am_aload_n (pc := 114) C dX8_advance_114 rfl ?_
                      refine am_getI (pc := 115) C dX8_advance_115 f8_23 bn_1 sh_1 ?_
                      refine am_top (show ((upd (upd (upd (h 1) 3 (nI p)) 2 (nI (cl_kd t e p))) 4 (nI q)) 4) = (nI q) from rf_upd_eq) ?_
                      refine am_callVi (Y := mX8_kindAt) (pc := 118) (st := []) (As := [.int (nI q)]) (x := (nI (cl_kd t e q))) (h2 := (am_row h 1 (upd (upd (upd (h 1) 3 (nI p)) 2 (nI (cl_kd t e p))) 4 (nI q)))) C dX8_advance_118 k8_36 v_X8_kindAt rfl rfl bn_1 sh_1 ⟨by decide, rfl⟩ (by decide) (Nat.zero_le _) (Nat.zero_le _) (Nat.le_of_ble_eq_true rfl) (c_X8_kindAt (h := (am_row h 1 (upd (upd (upd (h 1) 3 (nI p)) 2 (nI (cl_kd t e p))) 4 (nI q)))) hR q t e (show cl_by (h 2) t e from hby) (show e ≤ 400 from he4) (show (upd (upd (upd (h 1) 3 (nI p)) 2 (nI (cl_kd t e p))) 4 (nI q)) 1 = nI e from (by (repeat rw [rf_upd_ne (by decide)]); exact he)) (show q < 2147483648 from (by omega))) ?_
                      refine am_aload_n (pc := 121) C dX8_advance_121 rfl ?_
                      refine am_getI (pc := 122) C dX8_advance_122 f8_40 bn_1 sh_1 ?_
                      refine am_top (show ((upd (upd (upd (h 1) 3 (nI p)) 2 (nI (cl_kd t e p))) 4 (nI q)) 2) = (nI (cl_kd t e p)) from (by (repeat rw [rf_upd_ne (by decide)]); exact rf_upd_eq)) ?_
                      refine am_icmp_neN (pc := 125) (tgt := 141) C dX8_advance_125 (by decide) (by omega) (by omega) (fun q123 => ?_) (fun q123 => ?_)
                      · skip
                        have hQ : q = cl_sp t e p := (cl_rk_x q123).symm.trans hrk
                        refine am_aload_n (pc := 141) C dX8_advance_141 rfl ?_
                        refine am_aload_n (pc := 142) C dX8_advance_142 rfl ?_
                        refine am_getI (pc := 143) C dX8_advance_143 f8_40 bn_1 sh_1 ?_
                        refine am_top (show ((upd (upd (upd (h 1) 3 (nI p)) 2 (nI (cl_kd t e p))) 4 (nI q)) 2) = (nI (cl_kd t e p)) from (by (repeat rw [rf_upd_ne (by decide)]); exact rf_upd_eq)) ?_
                        refine am_iconstN (pc := 146) (k := 2) C dX8_advance_146 ?_
                        refine am_icmp_neN (pc := 147) (tgt := 157) C dX8_advance_147 (by decide) (by omega) (by omega) (fun q145 => ?_) (fun q145 => ?_)
                        · skip
                          refine am_aload_n (pc := 157) C dX8_advance_157 rfl ?_
                          refine am_getR (pc := 158) (j := 2) C dX8_advance_158 f8_9 bn_1 sh_1 (rf_1_0 hR) ?_
                          refine am_aload_n (pc := 161) C dX8_advance_161 rfl ?_
                          refine am_getI (pc := 162) C dX8_advance_162 f8_29 bn_1 sh_1 ?_
                          refine am_top (show ((upd (upd (upd (h 1) 3 (nI p)) 2 (nI (cl_kd t e p))) 4 (nI q)) 3) = (nI p) from (by (repeat rw [rf_upd_ne (by decide)]); exact rf_upd_eq)) ?_
                          refine am_callSNi (Y := mX11_pick) (pc := 165) (st := [.ref 1]) (As := [.ref 2, .int (nI p)]) (x := (cl_pk (h 2) p)) (h2 := (am_row h 1 (upd (upd (upd (h 1) 3 (nI p)) 2 (nI (cl_kd t e p))) 4 (nI q)))) C dX8_advance_165 k8_32 v_X11_pick rfl rfl (by decide) (Nat.zero_le _) (Nat.zero_le _) (Nat.le_of_ble_eq_true rfl) (c_X11_pick2 (h := (am_row h 1 (upd (upd (upd (h 1) 3 (nI p)) 2 (nI (cl_kd t e p))) 4 (nI q)))) p (show p < 2147483648 from by omega)) ?_
                          refine am_putI (pc := 168) C dX8_advance_168 f8_47 bn_1 sh_1 rfl rfl ?_
                          refine am_hp (show am_up (am_row h 1 (upd (upd (upd (h 1) 3 (nI p)) 2 (nI (cl_kd t e p))) 4 (nI q))) 1 5 (cl_pk (h 2) p) = am_row (am_row h 1 (upd (upd (upd (h 1) 3 (nI p)) 2 (nI (cl_kd t e p))) 4 (nI q))) 1 (upd (upd (upd (upd (h 1) 3 (nI p)) 2 (nI (cl_kd t e p))) 4 (nI q)) 5 (cl_pk (h 2) p)) from am_up_rw _ _ _ _) ?_
                          refine am_hp (show am_row (am_row h 1 (upd (upd (upd (h 1) 3 (nI p)) 2 (nI (cl_kd t e p))) 4 (nI q))) 1 (upd (upd (upd (upd (h 1) 3 (nI p)) 2 (nI (cl_kd t e p))) 4 (nI q)) 5 (cl_pk (h 2) p)) = (am_row h 1 (upd (upd (upd (upd (h 1) 3 (nI p)) 2 (nI (cl_kd t e p))) 4 (nI q)) 5 (cl_pk (h 2) p))) from am_row_s0) ?_
                          exact am_vretvr T dX8_advance_171 rfl (Nat.le_refl _) (Nat.le_refl _) rfl ⟨cl_tk_mk hB hQ hby he4 (by omega) he (cl_vl_0 q145), (fun i9 h9 => by rw [am_row_ne _ _ _ (by omega)])⟩
                        · skip
                          refine am_aload_n (pc := 150) C dX8_advance_150 rfl ?_
                          refine am_callVi (Y := mX8_numberRead) (pc := 151) (st := [.ref 1]) (As := []) (x := (cl_nm t p q)) (h2 := (am_row h 1 (upd (upd (upd (h 1) 3 (nI p)) 2 (nI (cl_kd t e p))) 4 (nI q)))) C dX8_advance_151 k8_43 v_X8_numberRead rfl rfl bn_1 sh_1 ⟨by decide, rfl⟩ (by decide) (Nat.zero_le _) (Nat.zero_le _) (Nat.le_of_ble_eq_true rfl) (c_X8_numberRead (h := (am_row h 1 (upd (upd (upd (h 1) 3 (nI p)) 2 (nI (cl_kd t e p))) 4 (nI q)))) hR t e (show cl_by (h 2) t e from hby) (show e ≤ 400 from he4) (show (upd (upd (upd (h 1) 3 (nI p)) 2 (nI (cl_kd t e p))) 4 (nI q)) 1 = nI e from (by (repeat rw [rf_upd_ne (by decide)]); exact he)) p q (show (upd (upd (upd (h 1) 3 (nI p)) 2 (nI (cl_kd t e p))) 4 (nI q)) 3 = nI p from (by (repeat rw [rf_upd_ne (by decide)]); exact rf_upd_eq)) (show (upd (upd (upd (h 1) 3 (nI p)) 2 (nI (cl_kd t e p))) 4 (nI q)) 4 = nI q from (by (repeat rw [rf_upd_ne (by decide)]); exact rf_upd_eq)) (show p ≤ q from hqp) (show q ≤ e from (by omega)) (show ∀ k, p ≤ k → k < q → rf_at t e k 48 57 = true from (by rw [hQ]; exact cl_sp_all q145))) ?_
                          refine am_goto (pc := 154) (tgt := 168) C dX8_advance_154 (by decide) ?_
                          refine am_putI (pc := 168) C dX8_advance_168 f8_47 bn_1 sh_1 rfl rfl ?_
                          refine am_hp (show am_up (am_row h 1 (upd (upd (upd (h 1) 3 (nI p)) 2 (nI (cl_kd t e p))) 4 (nI q))) 1 5 (cl_nm t p q) = am_row (am_row h 1 (upd (upd (upd (h 1) 3 (nI p)) 2 (nI (cl_kd t e p))) 4 (nI q))) 1 (upd (upd (upd (upd (h 1) 3 (nI p)) 2 (nI (cl_kd t e p))) 4 (nI q)) 5 (cl_nm t p q)) from am_up_rw _ _ _ _) ?_
                          refine am_hp (show am_row (am_row h 1 (upd (upd (upd (h 1) 3 (nI p)) 2 (nI (cl_kd t e p))) 4 (nI q))) 1 (upd (upd (upd (upd (h 1) 3 (nI p)) 2 (nI (cl_kd t e p))) 4 (nI q)) 5 (cl_nm t p q)) = (am_row h 1 (upd (upd (upd (upd (h 1) 3 (nI p)) 2 (nI (cl_kd t e p))) 4 (nI q)) 5 (cl_nm t p q))) from am_row_s0) ?_
                          exact am_vretvr T dX8_advance_171 rfl (Nat.le_refl _) (Nat.le_refl _) rfl ⟨cl_tk_mk hB hQ hby he4 (by omega) he (cl_vl_2 q145 hQ), (fun i9 h9 => by rw [am_row_ne _ _ _ (by omega)])⟩
                      · skip
                        refine am_aload_n (pc := 128) C dX8_advance_128 rfl ?_
                        refine am_dup (pc := 129) C dX8_advance_129 rfl ?_
                        refine am_getI (pc := 130) C dX8_advance_130 f8_23 bn_1 sh_1 ?_
                        refine am_top (show ((upd (upd (upd (h 1) 3 (nI p)) 2 (nI (cl_kd t e p))) 4 (nI q)) 4) = (nI q) from rf_upd_eq) ?_
                        refine am_iconstN (pc := 133) (k := 1) C dX8_advance_133 ?_
                        refine am_iaddN (pc := 134) C dX8_advance_134 ?_
                        refine am_putI (pc := 135) C dX8_advance_135 f8_23 bn_1 sh_1 rfl rfl ?_
                        refine am_hp (show am_up (am_row h 1 (upd (upd (upd (h 1) 3 (nI p)) 2 (nI (cl_kd t e p))) 4 (nI q))) 1 4 (nI (q + 1)) = am_row (am_row h 1 (upd (upd (upd (h 1) 3 (nI p)) 2 (nI (cl_kd t e p))) 4 (nI q))) 1 (upd (upd (upd (upd (h 1) 3 (nI p)) 2 (nI (cl_kd t e p))) 4 (nI q)) 4 (nI (q + 1))) from am_up_rw _ _ _ _) ?_
                        refine am_hp (show am_row (am_row h 1 (upd (upd (upd (h 1) 3 (nI p)) 2 (nI (cl_kd t e p))) 4 (nI q))) 1 (upd (upd (upd (upd (h 1) 3 (nI p)) 2 (nI (cl_kd t e p))) 4 (nI q)) 4 (nI (q + 1))) = (am_row h 1 (upd (upd (upd (upd (h 1) 3 (nI p)) 2 (nI (cl_kd t e p))) 4 (nI q)) 4 (nI (q + 1)))) from am_row_s0) ?_
                        refine am_goto (pc := 138) (tgt := 94) C dX8_advance_138 (by decide) ?_
                        refine am_hp (show (am_row h 1 (upd (upd (upd (upd (h 1) 3 (nI p)) 2 (nI (cl_kd t e p))) 4 (nI q)) 4 (nI (q + 1)))) = (am_row h 1 (upd (upd (upd (h 1) 3 (nI p)) 2 (nI (cl_kd t e p))) 4 (nI (q + 1)))) from (by rw [rf_upd_upd])) ?_
                        exact ih92 (q + 1) (by omega) (by omega) ((cl_rk_s (by omega) q97 q123).trans hrk)
              refine am_hp (show (am_row h 1 (upd (upd (upd (h 1) 3 (nI p)) 2 (nI (cl_kd t e p))) 4 (nI (p + 1)))) = (am_row h 1 (upd (upd (upd (h 1) 3 (nI p)) 2 (nI (cl_kd t e p))) 4 (nI (cl_s0 t e p)))) from (by rw [cl_s0, if_neg (by omega)])) ?_
              exact L92 (e - cl_s0 t e p) (cl_s0 t e p) (by have := cl_s0_le (t := t) (b := p) (e := e) (by omega); omega) cl_s0_ge (cl_rk_0 (by omega))
            · skip
              refine am_aload_n (pc := 78) C dX8_advance_78 rfl ?_
              refine am_getI (pc := 79) C dX8_advance_79 f8_29 bn_1 sh_1 ?_
              refine am_top (show ((upd (upd (h 1) 3 (nI p)) 2 (nI (cl_kd t e p))) 3) = (nI p) from (by (repeat rw [rf_upd_ne (by decide)]); exact rf_upd_eq)) ?_
              refine am_goto (pc := 82) (tgt := 91) C dX8_advance_82 (by decide) ?_
              refine am_putI (pc := 91) C dX8_advance_91 f8_23 bn_1 sh_1 rfl rfl ?_
              refine am_hp (show am_up (am_row h 1 (upd (upd (h 1) 3 (nI p)) 2 (nI (cl_kd t e p)))) 1 4 (nI p) = am_row (am_row h 1 (upd (upd (h 1) 3 (nI p)) 2 (nI (cl_kd t e p)))) 1 (upd (upd (upd (h 1) 3 (nI p)) 2 (nI (cl_kd t e p))) 4 (nI p)) from am_up_rw _ _ _ _) ?_
              refine am_hp (show am_row (am_row h 1 (upd (upd (h 1) 3 (nI p)) 2 (nI (cl_kd t e p)))) 1 (upd (upd (upd (h 1) 3 (nI p)) 2 (nI (cl_kd t e p))) 4 (nI p)) = (am_row h 1 (upd (upd (upd (h 1) 3 (nI p)) 2 (nI (cl_kd t e p))) 4 (nI p))) from am_row_s0) ?_
              have L92 : ∀ (j92 : Nat) (q : Nat), (hqj : q + j92 = e) → (hqp : p ≤ q) → (hrk : cl_rk t e (cl_kd t e p) q = cl_sp t e p) → am_G X (am_VV ad) (0, 0) 94 [(0, .ref 1)] [] r (am_row h 1 (upd (upd (upd (h 1) 3 (nI p)) 2 (nI (cl_kd t e p))) 4 (nI q))) := by
                intro j92
                induction j92 with
                | zero =>
                  intro q hqj hqp hrk
                  have hkd4 : cl_kd t e p < 4 := cl_kd_lt
                  have hQ : q = cl_sp t e p := (cl_rk_e (by omega)).symm.trans hrk
                  refine am_aload_n (pc := 94) C dX8_advance_94 rfl ?_
                  refine am_getI (pc := 95) C dX8_advance_95 f8_40 bn_1 sh_1 ?_
                  refine am_top (show ((upd (upd (upd (h 1) 3 (nI p)) 2 (nI (cl_kd t e p))) 4 (nI q)) 2) = (nI (cl_kd t e p)) from (by (repeat rw [rf_upd_ne (by decide)]); exact rf_upd_eq)) ?_
                  refine am_iconstN (pc := 98) (k := 3) C dX8_advance_98 ?_
                  refine am_icmp_eqN (pc := 99) (tgt := 141) C dX8_advance_99 (by decide) (by omega) (by omega) (fun q97 => ?_) (fun q97 => ?_)
                  · skip
                    have hQ : q = cl_sp t e p := (cl_rk_3 q97).symm.trans hrk
                    refine am_aload_n (pc := 141) C dX8_advance_141 rfl ?_
                    refine am_aload_n (pc := 142) C dX8_advance_142 rfl ?_
                    refine am_getI (pc := 143) C dX8_advance_143 f8_40 bn_1 sh_1 ?_
                    refine am_top (show ((upd (upd (upd (h 1) 3 (nI p)) 2 (nI (cl_kd t e p))) 4 (nI q)) 2) = (nI (cl_kd t e p)) from (by (repeat rw [rf_upd_ne (by decide)]); exact rf_upd_eq)) ?_
                    refine am_iconstN (pc := 146) (k := 2) C dX8_advance_146 ?_
                    refine am_icmp_neN (pc := 147) (tgt := 157) C dX8_advance_147 (by decide) (by omega) (by omega) (fun q145 => ?_) (fun q145 => ?_)
                    · skip
                      refine am_aload_n (pc := 157) C dX8_advance_157 rfl ?_
                      refine am_getR (pc := 158) (j := 2) C dX8_advance_158 f8_9 bn_1 sh_1 (rf_1_0 hR) ?_
                      refine am_aload_n (pc := 161) C dX8_advance_161 rfl ?_
                      refine am_getI (pc := 162) C dX8_advance_162 f8_29 bn_1 sh_1 ?_
                      refine am_top (show ((upd (upd (upd (h 1) 3 (nI p)) 2 (nI (cl_kd t e p))) 4 (nI q)) 3) = (nI p) from (by (repeat rw [rf_upd_ne (by decide)]); exact rf_upd_eq)) ?_
                      refine am_callSNi (Y := mX11_pick) (pc := 165) (st := [.ref 1]) (As := [.ref 2, .int (nI p)]) (x := (cl_pk (h 2) p)) (h2 := (am_row h 1 (upd (upd (upd (h 1) 3 (nI p)) 2 (nI (cl_kd t e p))) 4 (nI q)))) C dX8_advance_165 k8_32 v_X11_pick rfl rfl (by decide) (Nat.zero_le _) (Nat.zero_le _) (Nat.le_of_ble_eq_true rfl) (c_X11_pick2 (h := (am_row h 1 (upd (upd (upd (h 1) 3 (nI p)) 2 (nI (cl_kd t e p))) 4 (nI q)))) p (show p < 2147483648 from by omega)) ?_
                      refine am_putI (pc := 168) C dX8_advance_168 f8_47 bn_1 sh_1 rfl rfl ?_
                      refine am_hp (show am_up (am_row h 1 (upd (upd (upd (h 1) 3 (nI p)) 2 (nI (cl_kd t e p))) 4 (nI q))) 1 5 (cl_pk (h 2) p) = am_row (am_row h 1 (upd (upd (upd (h 1) 3 (nI p)) 2 (nI (cl_kd t e p))) 4 (nI q))) 1 (upd (upd (upd (upd (h 1) 3 (nI p)) 2 (nI (cl_kd t e p))) 4 (nI q)) 5 (cl_pk (h 2) p)) from am_up_rw _ _ _ _) ?_
                      refine am_hp (show am_row (am_row h 1 (upd (upd (upd (h 1) 3 (nI p)) 2 (nI (cl_kd t e p))) 4 (nI q))) 1 (upd (upd (upd (upd (h 1) 3 (nI p)) 2 (nI (cl_kd t e p))) 4 (nI q)) 5 (cl_pk (h 2) p)) = (am_row h 1 (upd (upd (upd (upd (h 1) 3 (nI p)) 2 (nI (cl_kd t e p))) 4 (nI q)) 5 (cl_pk (h 2) p))) from am_row_s0) ?_
                      exact am_vretvr T dX8_advance_171 rfl (Nat.le_refl _) (Nat.le_refl _) rfl ⟨cl_tk_mk hB hQ hby he4 (by omega) he (cl_vl_0 q145), (fun i9 h9 => by rw [am_row_ne _ _ _ (by omega)])⟩
                    · skip
                      refine am_aload_n (pc := 150) C dX8_advance_150 rfl ?_
                      refine am_callVi (Y := mX8_numberRead) (pc := 151) (st := [.ref 1]) (As := []) (x := (cl_nm t p q)) (h2 := (am_row h 1 (upd (upd (upd (h 1) 3 (nI p)) 2 (nI (cl_kd t e p))) 4 (nI q)))) C dX8_advance_151 k8_43 v_X8_numberRead rfl rfl bn_1 sh_1 ⟨by decide, rfl⟩ (by decide) (Nat.zero_le _) (Nat.zero_le _) (Nat.le_of_ble_eq_true rfl) (c_X8_numberRead (h := (am_row h 1 (upd (upd (upd (h 1) 3 (nI p)) 2 (nI (cl_kd t e p))) 4 (nI q)))) hR t e (show cl_by (h 2) t e from hby) (show e ≤ 400 from he4) (show (upd (upd (upd (h 1) 3 (nI p)) 2 (nI (cl_kd t e p))) 4 (nI q)) 1 = nI e from (by (repeat rw [rf_upd_ne (by decide)]); exact he)) p q (show (upd (upd (upd (h 1) 3 (nI p)) 2 (nI (cl_kd t e p))) 4 (nI q)) 3 = nI p from (by (repeat rw [rf_upd_ne (by decide)]); exact rf_upd_eq)) (show (upd (upd (upd (h 1) 3 (nI p)) 2 (nI (cl_kd t e p))) 4 (nI q)) 4 = nI q from (by (repeat rw [rf_upd_ne (by decide)]); exact rf_upd_eq)) (show p ≤ q from hqp) (show q ≤ e from (by omega)) (show ∀ k, p ≤ k → k < q → rf_at t e k 48 57 = true from (by rw [hQ]; exact cl_sp_all q145))) ?_
                      refine am_goto (pc := 154) (tgt := 168) C dX8_advance_154 (by decide) ?_
                      refine am_putI (pc := 168) C dX8_advance_168 f8_47 bn_1 sh_1 rfl rfl ?_
                      refine am_hp (show am_up (am_row h 1 (upd (upd (upd (h 1) 3 (nI p)) 2 (nI (cl_kd t e p))) 4 (nI q))) 1 5 (cl_nm t p q) = am_row (am_row h 1 (upd (upd (upd (h 1) 3 (nI p)) 2 (nI (cl_kd t e p))) 4 (nI q))) 1 (upd (upd (upd (upd (h 1) 3 (nI p)) 2 (nI (cl_kd t e p))) 4 (nI q)) 5 (cl_nm t p q)) from am_up_rw _ _ _ _) ?_
                      refine am_hp (show am_row (am_row h 1 (upd (upd (upd (h 1) 3 (nI p)) 2 (nI (cl_kd t e p))) 4 (nI q))) 1 (upd (upd (upd (upd (h 1) 3 (nI p)) 2 (nI (cl_kd t e p))) 4 (nI q)) 5 (cl_nm t p q)) = (am_row h 1 (upd (upd (upd (upd (h 1) 3 (nI p)) 2 (nI (cl_kd t e p))) 4 (nI q)) 5 (cl_nm t p q))) from am_row_s0) ?_
                      exact am_vretvr T dX8_advance_171 rfl (Nat.le_refl _) (Nat.le_refl _) rfl ⟨cl_tk_mk hB hQ hby he4 (by omega) he (cl_vl_2 q145 hQ), (fun i9 h9 => by rw [am_row_ne _ _ _ (by omega)])⟩
                  · skip
                    refine am_aload_n (pc := 102) C dX8_advance_102 rfl ?_
                    refine am_getI (pc := 103) C dX8_advance_103 f8_23 bn_1 sh_1 ?_
                    refine am_top (show ((upd (upd (upd (h 1) 3 (nI p)) 2 (nI (cl_kd t e p))) 4 (nI q)) 4) = (nI q) from rf_upd_eq) ?_
                    refine am_aload_n (pc := 106) C dX8_advance_106 rfl ?_
                    refine am_getI (pc := 107) C dX8_advance_107 f8_15 bn_1 sh_1 ?_
                    refine am_top (show ((upd (upd (upd (h 1) 3 (nI p)) 2 (nI (cl_kd t e p))) 4 (nI q)) 1) = (nI e) from (by (repeat rw [rf_upd_ne (by decide)]); exact he)) ?_
                    refine am_icmp_geN (pc := 110) (tgt := 141) C dX8_advance_110 (by decide) (by omega) (by omega) (fun q108 => ?_) (fun q108 => ?_)
                    · skip
                      refine am_aload_n (pc := 141) C dX8_advance_141 rfl ?_
                      refine am_aload_n (pc := 142) C dX8_advance_142 rfl ?_
                      refine am_getI (pc := 143) C dX8_advance_143 f8_40 bn_1 sh_1 ?_
                      refine am_top (show ((upd (upd (upd (h 1) 3 (nI p)) 2 (nI (cl_kd t e p))) 4 (nI q)) 2) = (nI (cl_kd t e p)) from (by (repeat rw [rf_upd_ne (by decide)]); exact rf_upd_eq)) ?_
                      refine am_iconstN (pc := 146) (k := 2) C dX8_advance_146 ?_
                      refine am_icmp_neN (pc := 147) (tgt := 157) C dX8_advance_147 (by decide) (by omega) (by omega) (fun q145 => ?_) (fun q145 => ?_)
                      · skip
                        refine am_aload_n (pc := 157) C dX8_advance_157 rfl ?_
                        refine am_getR (pc := 158) (j := 2) C dX8_advance_158 f8_9 bn_1 sh_1 (rf_1_0 hR) ?_
                        refine am_aload_n (pc := 161) C dX8_advance_161 rfl ?_
                        refine am_getI (pc := 162) C dX8_advance_162 f8_29 bn_1 sh_1 ?_
                        refine am_top (show ((upd (upd (upd (h 1) 3 (nI p)) 2 (nI (cl_kd t e p))) 4 (nI q)) 3) = (nI p) from (by (repeat rw [rf_upd_ne (by decide)]); exact rf_upd_eq)) ?_
                        refine am_callSNi (Y := mX11_pick) (pc := 165) (st := [.ref 1]) (As := [.ref 2, .int (nI p)]) (x := (cl_pk (h 2) p)) (h2 := (am_row h 1 (upd (upd (upd (h 1) 3 (nI p)) 2 (nI (cl_kd t e p))) 4 (nI q)))) C dX8_advance_165 k8_32 v_X11_pick rfl rfl (by decide) (Nat.zero_le _) (Nat.zero_le _) (Nat.le_of_ble_eq_true rfl) (c_X11_pick2 (h := (am_row h 1 (upd (upd (upd (h 1) 3 (nI p)) 2 (nI (cl_kd t e p))) 4 (nI q)))) p (show p < 2147483648 from by omega)) ?_
                        refine am_putI (pc := 168) C dX8_advance_168 f8_47 bn_1 sh_1 rfl rfl ?_
                        refine am_hp (show am_up (am_row h 1 (upd (upd (upd (h 1) 3 (nI p)) 2 (nI (cl_kd t e p))) 4 (nI q))) 1 5 (cl_pk (h 2) p) = am_row (am_row h 1 (upd (upd (upd (h 1) 3 (nI p)) 2 (nI (cl_kd t e p))) 4 (nI q))) 1 (upd (upd (upd (upd (h 1) 3 (nI p)) 2 (nI (cl_kd t e p))) 4 (nI q)) 5 (cl_pk (h 2) p)) from am_up_rw _ _ _ _) ?_
                        refine am_hp (show am_row (am_row h 1 (upd (upd (upd (h 1) 3 (nI p)) 2 (nI (cl_kd t e p))) 4 (nI q))) 1 (upd (upd (upd (upd (h 1) 3 (nI p)) 2 (nI (cl_kd t e p))) 4 (nI q)) 5 (cl_pk (h 2) p)) = (am_row h 1 (upd (upd (upd (upd (h 1) 3 (nI p)) 2 (nI (cl_kd t e p))) 4 (nI q)) 5 (cl_pk (h 2) p))) from am_row_s0) ?_
                        exact am_vretvr T dX8_advance_171 rfl (Nat.le_refl _) (Nat.le_refl _) rfl ⟨cl_tk_mk hB hQ hby he4 (by omega) he (cl_vl_0 q145), (fun i9 h9 => by rw [am_row_ne _ _ _ (by omega)])⟩
                      · skip
                        refine am_aload_n (pc := 150) C dX8_advance_150 rfl ?_
                        refine am_callVi (Y := mX8_numberRead) (pc := 151) (st := [.ref 1]) (As := []) (x := (cl_nm t p q)) (h2 := (am_row h 1 (upd (upd (upd (h 1) 3 (nI p)) 2 (nI (cl_kd t e p))) 4 (nI q)))) C dX8_advance_151 k8_43 v_X8_numberRead rfl rfl bn_1 sh_1 ⟨by decide, rfl⟩ (by decide) (Nat.zero_le _) (Nat.zero_le _) (Nat.le_of_ble_eq_true rfl) (c_X8_numberRead (h := (am_row h 1 (upd (upd (upd (h 1) 3 (nI p)) 2 (nI (cl_kd t e p))) 4 (nI q)))) hR t e (show cl_by (h 2) t e from hby) (show e ≤ 400 from he4) (show (upd (upd (upd (h 1) 3 (nI p)) 2 (nI (cl_kd t e p))) 4 (nI q)) 1 = nI e from (by (repeat rw [rf_upd_ne (by decide)]); exact he)) p q (show (upd (upd (upd (h 1) 3 (nI p)) 2 (nI (cl_kd t e p))) 4 (nI q)) 3 = nI p from (by (repeat rw [rf_upd_ne (by decide)]); exact rf_upd_eq)) (show (upd (upd (upd (h 1) 3 (nI p)) 2 (nI (cl_kd t e p))) 4 (nI q)) 4 = nI q from (by (repeat rw [rf_upd_ne (by decide)]); exact rf_upd_eq)) (show p ≤ q from hqp) (show q ≤ e from (by omega)) (show ∀ k, p ≤ k → k < q → rf_at t e k 48 57 = true from (by rw [hQ]; exact cl_sp_all q145))) ?_
                        refine am_goto (pc := 154) (tgt := 168) C dX8_advance_154 (by decide) ?_
                        refine am_putI (pc := 168) C dX8_advance_168 f8_47 bn_1 sh_1 rfl rfl ?_
                        refine am_hp (show am_up (am_row h 1 (upd (upd (upd (h 1) 3 (nI p)) 2 (nI (cl_kd t e p))) 4 (nI q))) 1 5 (cl_nm t p q) = am_row (am_row h 1 (upd (upd (upd (h 1) 3 (nI p)) 2 (nI (cl_kd t e p))) 4 (nI q))) 1 (upd (upd (upd (upd (h 1) 3 (nI p)) 2 (nI (cl_kd t e p))) 4 (nI q)) 5 (cl_nm t p q)) from am_up_rw _ _ _ _) ?_
                        refine am_hp (show am_row (am_row h 1 (upd (upd (upd (h 1) 3 (nI p)) 2 (nI (cl_kd t e p))) 4 (nI q))) 1 (upd (upd (upd (upd (h 1) 3 (nI p)) 2 (nI (cl_kd t e p))) 4 (nI q)) 5 (cl_nm t p q)) = (am_row h 1 (upd (upd (upd (upd (h 1) 3 (nI p)) 2 (nI (cl_kd t e p))) 4 (nI q)) 5 (cl_nm t p q))) from am_row_s0) ?_
                        exact am_vretvr T dX8_advance_171 rfl (Nat.le_refl _) (Nat.le_refl _) rfl ⟨cl_tk_mk hB hQ hby he4 (by omega) he (cl_vl_2 q145 hQ), (fun i9 h9 => by rw [am_row_ne _ _ _ (by omega)])⟩
                    · skip
                      exact absurd q108 (by omega)
                | succ j92 ih92 =>
                  intro q hqj hqp hrk
                  have hkd4 : cl_kd t e p < 4 := cl_kd_lt
                  have hkq4 : cl_kd t e q < 4 := cl_kd_lt
                  refine am_aload_n (pc := 94) C dX8_advance_94 rfl ?_
                  refine am_getI (pc := 95) C dX8_advance_95 f8_40 bn_1 sh_1 ?_
                  refine am_top (show ((upd (upd (upd (h 1) 3 (nI p)) 2 (nI (cl_kd t e p))) 4 (nI q)) 2) = (nI (cl_kd t e p)) from (by (repeat rw [rf_upd_ne (by decide)]); exact rf_upd_eq)) ?_
                  refine am_iconstN (pc := 98) (k := 3) C dX8_advance_98 ?_
                  refine am_icmp_eqN (pc := 99) (tgt := 141) C dX8_advance_99 (by decide) (by omega) (by omega) (fun q97 => ?_) (fun q97 => ?_)
                  · skip
                    have hQ : q = cl_sp t e p := (cl_rk_3 q97).symm.trans hrk
                    refine am_aload_n (pc := 141) C dX8_advance_141 rfl ?_
                    refine am_aload_n (pc := 142) C dX8_advance_142 rfl ?_
                    refine am_getI (pc := 143) C dX8_advance_143 f8_40 bn_1 sh_1 ?_
                    refine am_top (show ((upd (upd (upd (h 1) 3 (nI p)) 2 (nI (cl_kd t e p))) 4 (nI q)) 2) = (nI (cl_kd t e p)) from (by (repeat rw [rf_upd_ne (by decide)]); exact rf_upd_eq)) ?_
                    refine am_iconstN (pc := 146) (k := 2) C dX8_advance_146 ?_
                    refine am_icmp_neN (pc := 147) (tgt := 157) C dX8_advance_147 (by decide) (by omega) (by omega) (fun q145 => ?_) (fun q145 => ?_)
                    · skip
                      refine am_aload_n (pc := 157) C dX8_advance_157 rfl ?_
                      refine am_getR (pc := 158) (j := 2) C dX8_advance_158 f8_9 bn_1 sh_1 (rf_1_0 hR) ?_
                      refine am_aload_n (pc := 161) C dX8_advance_161 rfl ?_
                      refine am_getI (pc := 162) C dX8_advance_162 f8_29 bn_1 sh_1 ?_
                      refine am_top (show ((upd (upd (upd (h 1) 3 (nI p)) 2 (nI (cl_kd t e p))) 4 (nI q)) 3) = (nI p) from (by (repeat rw [rf_upd_ne (by decide)]); exact rf_upd_eq)) ?_
                      refine am_callSNi (Y := mX11_pick) (pc := 165) (st := [.ref 1]) (As := [.ref 2, .int (nI p)]) (x := (cl_pk (h 2) p)) (h2 := (am_row h 1 (upd (upd (upd (h 1) 3 (nI p)) 2 (nI (cl_kd t e p))) 4 (nI q)))) C dX8_advance_165 k8_32 v_X11_pick rfl rfl (by decide) (Nat.zero_le _) (Nat.zero_le _) (Nat.le_of_ble_eq_true rfl) (c_X11_pick2 (h := (am_row h 1 (upd (upd (upd (h 1) 3 (nI p)) 2 (nI (cl_kd t e p))) 4 (nI q)))) p (show p < 2147483648 from by omega)) ?_
                      refine am_putI (pc := 168) C dX8_advance_168 f8_47 bn_1 sh_1 rfl rfl ?_
                      refine am_hp (show am_up (am_row h 1 (upd (upd (upd (h 1) 3 (nI p)) 2 (nI (cl_kd t e p))) 4 (nI q))) 1 5 (cl_pk (h 2) p) = am_row (am_row h 1 (upd (upd (upd (h 1) 3 (nI p)) 2 (nI (cl_kd t e p))) 4 (nI q))) 1 (upd (upd (upd (upd (h 1) 3 (nI p)) 2 (nI (cl_kd t e p))) 4 (nI q)) 5 (cl_pk (h 2) p)) from am_up_rw _ _ _ _) ?_
                      refine am_hp (show am_row (am_row h 1 (upd (upd (upd (h 1) 3 (nI p)) 2 (nI (cl_kd t e p))) 4 (nI q))) 1 (upd (upd (upd (upd (h 1) 3 (nI p)) 2 (nI (cl_kd t e p))) 4 (nI q)) 5 (cl_pk (h 2) p)) = (am_row h 1 (upd (upd (upd (upd (h 1) 3 (nI p)) 2 (nI (cl_kd t e p))) 4 (nI q)) 5 (cl_pk (h 2) p))) from am_row_s0) ?_
                      exact am_vretvr T dX8_advance_171 rfl (Nat.le_refl _) (Nat.le_refl _) rfl ⟨cl_tk_mk hB hQ hby he4 (by omega) he (cl_vl_0 q145), (fun i9 h9 => by rw [am_row_ne _ _ _ (by omega)])⟩
                    · skip
                      refine am_aload_n (pc := 150) C dX8_advance_150 rfl ?_
                      refine am_callVi (Y := mX8_numberRead) (pc := 151) (st := [.ref 1]) (As := []) (x := (cl_nm t p q)) (h2 := (am_row h 1 (upd (upd (upd (h 1) 3 (nI p)) 2 (nI (cl_kd t e p))) 4 (nI q)))) C dX8_advance_151 k8_43 v_X8_numberRead rfl rfl bn_1 sh_1 ⟨by decide, rfl⟩ (by decide) (Nat.zero_le _) (Nat.zero_le _) (Nat.le_of_ble_eq_true rfl) (c_X8_numberRead (h := (am_row h 1 (upd (upd (upd (h 1) 3 (nI p)) 2 (nI (cl_kd t e p))) 4 (nI q)))) hR t e (show cl_by (h 2) t e from hby) (show e ≤ 400 from he4) (show (upd (upd (upd (h 1) 3 (nI p)) 2 (nI (cl_kd t e p))) 4 (nI q)) 1 = nI e from (by (repeat rw [rf_upd_ne (by decide)]); exact he)) p q (show (upd (upd (upd (h 1) 3 (nI p)) 2 (nI (cl_kd t e p))) 4 (nI q)) 3 = nI p from (by (repeat rw [rf_upd_ne (by decide)]); exact rf_upd_eq)) (show (upd (upd (upd (h 1) 3 (nI p)) 2 (nI (cl_kd t e p))) 4 (nI q)) 4 = nI q from (by (repeat rw [rf_upd_ne (by decide)]); exact rf_upd_eq)) (show p ≤ q from hqp) (show q ≤ e from (by omega)) (show ∀ k, p ≤ k → k < q → rf_at t e k 48 57 = true from (by rw [hQ]; exact cl_sp_all q145))) ?_
                      refine am_goto (pc := 154) (tgt := 168) C dX8_advance_154 (by decide) ?_
                      refine am_putI (pc := 168) C dX8_advance_168 f8_47 bn_1 sh_1 rfl rfl ?_
                      refine am_hp (show am_up (am_row h 1 (upd (upd (upd (h 1) 3 (nI p)) 2 (nI (cl_kd t e p))) 4 (nI q))) 1 5 (cl_nm t p q) = am_row (am_row h 1 (upd (upd (upd (h 1) 3 (nI p)) 2 (nI (cl_kd t e p))) 4 (nI q))) 1 (upd (upd (upd (upd (h 1) 3 (nI p)) 2 (nI (cl_kd t e p))) 4 (nI q)) 5 (cl_nm t p q)) from am_up_rw _ _ _ _) ?_
                      refine am_hp (show am_row (am_row h 1 (upd (upd (upd (h 1) 3 (nI p)) 2 (nI (cl_kd t e p))) 4 (nI q))) 1 (upd (upd (upd (upd (h 1) 3 (nI p)) 2 (nI (cl_kd t e p))) 4 (nI q)) 5 (cl_nm t p q)) = (am_row h 1 (upd (upd (upd (upd (h 1) 3 (nI p)) 2 (nI (cl_kd t e p))) 4 (nI q)) 5 (cl_nm t p q))) from am_row_s0) ?_
                      exact am_vretvr T dX8_advance_171 rfl (Nat.le_refl _) (Nat.le_refl _) rfl ⟨cl_tk_mk hB hQ hby he4 (by omega) he (cl_vl_2 q145 hQ), (fun i9 h9 => by rw [am_row_ne _ _ _ (by omega)])⟩
                  · skip
                    refine am_aload_n (pc := 102) C dX8_advance_102 rfl ?_
                    refine am_getI (pc := 103) C dX8_advance_103 f8_23 bn_1 sh_1 ?_
                    refine am_top (show ((upd (upd (upd (h 1) 3 (nI p)) 2 (nI (cl_kd t e p))) 4 (nI q)) 4) = (nI q) from rf_upd_eq) ?_
                    refine am_aload_n (pc := 106) C dX8_advance_106 rfl ?_
                    refine am_getI (pc := 107) C dX8_advance_107 f8_15 bn_1 sh_1 ?_
                    refine am_top (show ((upd (upd (upd (h 1) 3 (nI p)) 2 (nI (cl_kd t e p))) 4 (nI q)) 1) = (nI e) from (by (repeat rw [rf_upd_ne (by decide)]); exact he)) ?_
                    refine am_icmp_geN (pc := 110) (tgt := 141) C dX8_advance_110 (by decide) (by omega) (by omega) (fun q108 => ?_) (fun q108 => ?_)
                    · skip
                      exact absurd q108 (by omega)
                    · skip
                      refine am_aload_n (pc := 113) C dX8_advance_113 rfl ?_
                      refine am_aload_n (pc := 114) C dX8_advance_114 rfl ?_
                      refine am_getI (pc := 115) C dX8_advance_115 f8_23 bn_1 sh_1 ?_
                      refine am_top (show ((upd (upd (upd (h 1) 3 (nI p)) 2 (nI (cl_kd t e p))) 4 (nI q)) 4) = (nI q) from rf_upd_eq) ?_
                      refine am_callVi (Y := mX8_kindAt) (pc := 118) (st := []) (As := [.int (nI q)]) (x := (nI (cl_kd t e q))) (h2 := (am_row h 1 (upd (upd (upd (h 1) 3 (nI p)) 2 (nI (cl_kd t e p))) 4 (nI q)))) C dX8_advance_118 k8_36 v_X8_kindAt rfl rfl bn_1 sh_1 ⟨by decide, rfl⟩ (by decide) (Nat.zero_le _) (Nat.zero_le _) (Nat.le_of_ble_eq_true rfl) (c_X8_kindAt (h := (am_row h 1 (upd (upd (upd (h 1) 3 (nI p)) 2 (nI (cl_kd t e p))) 4 (nI q)))) hR q t e (show cl_by (h 2) t e from hby) (show e ≤ 400 from he4) (show (upd (upd (upd (h 1) 3 (nI p)) 2 (nI (cl_kd t e p))) 4 (nI q)) 1 = nI e from (by (repeat rw [rf_upd_ne (by decide)]); exact he)) (show q < 2147483648 from (by omega))) ?_
                      refine am_aload_n (pc := 121) C dX8_advance_121 rfl ?_
                      refine am_getI (pc := 122) C dX8_advance_122 f8_40 bn_1 sh_1 ?_
                      refine am_top (show ((upd (upd (upd (h 1) 3 (nI p)) 2 (nI (cl_kd t e p))) 4 (nI q)) 2) = (nI (cl_kd t e p)) from (by (repeat rw [rf_upd_ne (by decide)]); exact rf_upd_eq)) ?_
                      refine am_icmp_neN (pc := 125) (tgt := 141) C dX8_advance_125 (by decide) (by omega) (by omega) (fun q123 => ?_) (fun q123 => ?_)
                      · skip
                        have hQ : q = cl_sp t e p := (cl_rk_x q123).symm.trans hrk
                        refine am_aload_n (pc := 141) C dX8_advance_141 rfl ?_
                        refine am_aload_n (pc := 142) C dX8_advance_142 rfl ?_
                        refine am_getI (pc := 143) C dX8_advance_143 f8_40 bn_1 sh_1 ?_
                        refine am_top (show ((upd (upd (upd (h 1) 3 (nI p)) 2 (nI (cl_kd t e p))) 4 (nI q)) 2) = (nI (cl_kd t e p)) from (by (repeat rw [rf_upd_ne (by decide)]); exact rf_upd_eq)) ?_
                        refine am_iconstN (pc := 146) (k := 2) C dX8_advance_146 ?_
                        refine am_icmp_neN (pc := 147) (tgt := 157) C dX8_advance_147 (by decide) (by omega) (by omega) (fun q145 => ?_) (fun q145 => ?_)
                        · skip
                          refine am_aload_n (pc := 157) C dX8_advance_157 rfl ?_
                          refine am_getR (pc := 158) (j := 2) C dX8_advance_158 f8_9 bn_1 sh_1 (rf_1_0 hR) ?_
                          refine am_aload_n (pc := 161) C dX8_advance_161 rfl ?_
                          refine am_getI (pc := 162) C dX8_advance_162 f8_29 bn_1 sh_1 ?_
                          refine am_top (show ((upd (upd (upd (h 1) 3 (nI p)) 2 (nI (cl_kd t e p))) 4 (nI q)) 3) = (nI p) from (by (repeat rw [rf_upd_ne (by decide)]); exact rf_upd_eq)) ?_
                          refine am_callSNi (Y := mX11_pick) (pc := 165) (st := [.ref 1]) (As := [.ref 2, .int (nI p)]) (x := (cl_pk (h 2) p)) (h2 := (am_row h 1 (upd (upd (upd (h 1) 3 (nI p)) 2 (nI (cl_kd t e p))) 4 (nI q)))) C dX8_advance_165 k8_32 v_X11_pick rfl rfl (by decide) (Nat.zero_le _) (Nat.zero_le _) (Nat.le_of_ble_eq_true rfl) (c_X11_pick2 (h := (am_row h 1 (upd (upd (upd (h 1) 3 (nI p)) 2 (nI (cl_kd t e p))) 4 (nI q)))) p (show p < 2147483648 from by omega)) ?_
                          refine am_putI (pc := 168) C dX8_advance_168 f8_47 bn_1 sh_1 rfl rfl ?_
                          refine am_hp (show am_up (am_row h 1 (upd (upd (upd (h 1) 3 (nI p)) 2 (nI (cl_kd t e p))) 4 (nI q))) 1 5 (cl_pk (h 2) p) = am_row (am_row h 1 (upd (upd (upd (h 1) 3 (nI p)) 2 (nI (cl_kd t e p))) 4 (nI q))) 1 (upd (upd (upd (upd (h 1) 3 (nI p)) 2 (nI (cl_kd t e p))) 4 (nI q)) 5 (cl_pk (h 2) p)) from am_up_rw _ _ _ _) ?_
                          refine am_hp (show am_row (am_row h 1 (upd (upd (upd (h 1) 3 (nI p)) 2 (nI (cl_kd t e p))) 4 (nI q))) 1 (upd (upd (upd (upd (h 1) 3 (nI p)) 2 (nI (cl_kd t e p))) 4 (nI q)) 5 (cl_pk (h 2) p)) = (am_row h 1 (upd (upd (upd (upd (h 1) 3 (nI p)) 2 (nI (cl_kd t e p))) 4 (nI q)) 5 (cl_pk (h 2) p))) from am_row_s0) ?_
                          exact am_vretvr T dX8_advance_171 rfl (Nat.le_refl _) (Nat.le_refl _) rfl ⟨cl_tk_mk hB hQ hby he4 (by omega) he (cl_vl_0 q145), (fun i9 h9 => by rw [am_row_ne _ _ _ (by omega)])⟩
                        · skip
                          refine am_aload_n (pc := 150) C dX8_advance_150 rfl ?_
                          refine am_callVi (Y := mX8_numberRead) (pc := 151) (st := [.ref 1]) (As := []) (x := (cl_nm t p q)) (h2 := (am_row h 1 (upd (upd (upd (h 1) 3 (nI p)) 2 (nI (cl_kd t e p))) 4 (nI q)))) C dX8_advance_151 k8_43 v_X8_numberRead rfl rfl bn_1 sh_1 ⟨by decide, rfl⟩ (by decide) (Nat.zero_le _) (Nat.zero_le _) (Nat.le_of_ble_eq_true rfl) (c_X8_numberRead (h := (am_row h 1 (upd (upd (upd (h 1) 3 (nI p)) 2 (nI (cl_kd t e p))) 4 (nI q)))) hR t e (show cl_by (h 2) t e from hby) (show e ≤ 400 from he4) (show (upd (upd (upd (h 1) 3 (nI p)) 2 (nI (cl_kd t e p))) 4 (nI q)) 1 = nI e from (by (repeat rw [rf_upd_ne (by decide)]); exact he)) p q (show (upd (upd (upd (h 1) 3 (nI p)) 2 (nI (cl_kd t e p))) 4 (nI q)) 3 = nI p from (by (repeat rw [rf_upd_ne (by decide)]); exact rf_upd_eq)) (show (upd (upd (upd (h 1) 3 (nI p)) 2 (nI (cl_kd t e p))) 4 (nI q)) 4 = nI q from (by (repeat rw [rf_upd_ne (by decide)]); exact rf_upd_eq)) (show p ≤ q from hqp) (show q ≤ e from (by omega)) (show ∀ k, p ≤ k → k < q → rf_at t e k 48 57 = true from (by rw [hQ]; exact cl_sp_all q145))) ?_
                          refine am_goto (pc := 154) (tgt := 168) C dX8_advance_154 (by decide) ?_
                          refine am_putI (pc := 168) C dX8_advance_168 f8_47 bn_1 sh_1 rfl rfl ?_
                          refine am_hp (show am_up (am_row h 1 (upd (upd (upd (h 1) 3 (nI p)) 2 (nI (cl_kd t e p))) 4 (nI q))) 1 5 (cl_nm t p q) = am_row (am_row h 1 (upd (upd (upd (h 1) 3 (nI p)) 2 (nI (cl_kd t e p))) 4 (nI q))) 1 (upd (upd (upd (upd (h 1) 3 (nI p)) 2 (nI (cl_kd t e p))) 4 (nI q)) 5 (cl_nm t p q)) from am_up_rw _ _ _ _) ?_
                          refine am_hp (show am_row (am_row h 1 (upd (upd (upd (h 1) 3 (nI p)) 2 (nI (cl_kd t e p))) 4 (nI q))) 1 (upd (upd (upd (upd (h 1) 3 (nI p)) 2 (nI (cl_kd t e p))) 4 (nI q)) 5 (cl_nm t p q)) = (am_row h 1 (upd (upd (upd (upd (h 1) 3 (nI p)) 2 (nI (cl_kd t e p))) 4 (nI q)) 5 (cl_nm t p q))) from am_row_s0) ?_
                          exact am_vretvr T dX8_advance_171 rfl (Nat.le_refl _) (Nat.le_refl _) rfl ⟨cl_tk_mk hB hQ hby he4 (by omega) he (cl_vl_2 q145 hQ), (fun i9 h9 => by rw [am_row_ne _ _ _ (by omega)])⟩
                      · skip
                        refine am_aload_n (pc := 128) C dX8_advance_128 rfl ?_
                        refine am_dup (pc := 129) C dX8_advance_129 rfl ?_
                        refine am_getI (pc := 130) C dX8_advance_130 f8_23 bn_1 sh_1 ?_
                        refine am_top (show ((upd (upd (upd (h 1) 3 (nI p)) 2 (nI (cl_kd t e p))) 4 (nI q)) 4) = (nI q) from rf_upd_eq) ?_
                        refine am_iconstN (pc := 133) (k := 1) C dX8_advance_133 ?_
                        refine am_iaddN (pc := 134) C dX8_advance_134 ?_
                        refine am_putI (pc := 135) C dX8_advance_135 f8_23 bn_1 sh_1 rfl rfl ?_
                        refine am_hp (show am_up (am_row h 1 (upd (upd (upd (h 1) 3 (nI p)) 2 (nI (cl_kd t e p))) 4 (nI q))) 1 4 (nI (q + 1)) = am_row (am_row h 1 (upd (upd (upd (h 1) 3 (nI p)) 2 (nI (cl_kd t e p))) 4 (nI q))) 1 (upd (upd (upd (upd (h 1) 3 (nI p)) 2 (nI (cl_kd t e p))) 4 (nI q)) 4 (nI (q + 1))) from am_up_rw _ _ _ _) ?_
                        refine am_hp (show am_row (am_row h 1 (upd (upd (upd (h 1) 3 (nI p)) 2 (nI (cl_kd t e p))) 4 (nI q))) 1 (upd (upd (upd (upd (h 1) 3 (nI p)) 2 (nI (cl_kd t e p))) 4 (nI q)) 4 (nI (q + 1))) = (am_row h 1 (upd (upd (upd (upd (h 1) 3 (nI p)) 2 (nI (cl_kd t e p))) 4 (nI q)) 4 (nI (q + 1)))) from am_row_s0) ?_
                        refine am_goto (pc := 138) (tgt := 94) C dX8_advance_138 (by decide) ?_
                        refine am_hp (show (am_row h 1 (upd (upd (upd (upd (h 1) 3 (nI p)) 2 (nI (cl_kd t e p))) 4 (nI q)) 4 (nI (q + 1)))) = (am_row h 1 (upd (upd (upd (h 1) 3 (nI p)) 2 (nI (cl_kd t e p))) 4 (nI (q + 1)))) from (by rw [rf_upd_upd])) ?_
                        exact ih92 (q + 1) (by omega) (by omega) ((cl_rk_s (by omega) q97 q123).trans hrk)
              refine am_hp (show (am_row h 1 (upd (upd (upd (h 1) 3 (nI p)) 2 (nI (cl_kd t e p))) 4 (nI p))) = (am_row h 1 (upd (upd (upd (h 1) 3 (nI p)) 2 (nI (cl_kd t e p))) 4 (nI (cl_s0 t e p)))) from (by rw [cl_s0, if_pos (by omega)])) ?_
              exact L92 (e - cl_s0 t e p) (cl_s0 t e p) (by have := cl_s0_le (t := t) (b := p) (e := e) (by omega); omega) cl_s0_ge (cl_rk_0 (by omega))
          · skip
            refine am_aload_n (pc := 45) C dX8_advance_45 rfl ?_
            refine am_dup (pc := 46) C dX8_advance_46 rfl ?_
            refine am_getI (pc := 47) C dX8_advance_47 f8_29 bn_1 sh_1 ?_
            refine am_top (show ((upd (h 1) 3 (nI p)) 3) = (nI p) from (by (repeat rw [rf_upd_ne (by decide)]); exact rf_upd_eq)) ?_
            refine am_iconstN (pc := 50) (k := 1) C dX8_advance_50 ?_
            refine am_iaddN (pc := 51) C dX8_advance_51 ?_
            refine am_putI (pc := 52) C dX8_advance_52 f8_29 bn_1 sh_1 rfl rfl ?_
            refine am_hp (show am_up (am_row h 1 (upd (h 1) 3 (nI p))) 1 3 (nI (p + 1)) = am_row (am_row h 1 (upd (h 1) 3 (nI p))) 1 (upd (upd (h 1) 3 (nI p)) 3 (nI (p + 1))) from am_up_rw _ _ _ _) ?_
            refine am_hp (show am_row (am_row h 1 (upd (h 1) 3 (nI p))) 1 (upd (upd (h 1) 3 (nI p)) 3 (nI (p + 1))) = (am_row h 1 (upd (upd (h 1) 3 (nI p)) 3 (nI (p + 1)))) from am_row_s0) ?_
            refine am_goto (pc := 55) (tgt := 8) C dX8_advance_55 (by decide) ?_
            refine am_hp (show (am_row h 1 (upd (upd (h 1) 3 (nI p)) 3 (nI (p + 1)))) = (am_row h 1 (upd (h 1) 3 (nI (p + 1)))) from (by rw [rf_upd_upd])) ?_
            exact ih8 (p + 1) (by omega) (by rw [← rf_run_t (cl_sp_t hby (by omega) q40)]; exact hrun)
  exact L8 (e - s) s (by omega) rfl

set_option maxHeartbeats 400000 in
set_option maxRecDepth 100000 in
theorem c_X8_open {ad : Nat → Nat} {r : am_R} (hR : am_rs r) {h : am_H}  (t : rf_W) (e : Nat) (hby : cl_by (h 2) t e) (he4 : e ≤ 400) (he : (h 1) 1 = nI e)  : am_CM mX8_open 3 0 0 [.ref 1] (am_VV ad) r h (am_pr none r (fun c9 => cl_tp (c9) t e (rf_sb t e 0) ∧ cl_fr (h) c9 1 1)) := by
  refine am_CM.of (by decide +kernel) (Nat.le_of_ble_eq_true rfl) (fun X C T => ?_)
  show am_G X (am_VV ad) (0, 0) 0 [(0, .ref 1)] [] r h
  refine am_aload_n (pc := 0) C dX8_open_0 rfl ?_
  refine am_iconstN (pc := 1) (k := 0) C dX8_open_1 ?_
  refine am_putI (pc := 2) C dX8_open_2 f8_23 bn_1 sh_1 rfl rfl ?_
  refine am_hp (show am_up h 1 4 (nI 0) = am_row h 1 (upd (h 1) 4 (nI 0)) from am_up_rw _ _ _ _) ?_
  refine am_aload_n (pc := 5) C dX8_open_5 rfl ?_
  refine am_callVvr (Y := mX8_advance) (pc := 6) (st := []) (As := []) (PP := fun c9 => cl_tp (c9) t e (rf_sb t e 0) ∧ cl_fr ((am_row h 1 (upd (h 1) 4 (nI 0)))) c9 1 1) C dX8_open_6 k8_26 v_X8_advance rfl rfl bn_1 sh_1 ⟨by decide, rfl⟩ (by decide) (Nat.zero_le _) (Nat.zero_le _) (Nat.le_of_ble_eq_true rfl) (c_X8_advance (h := (am_row h 1 (upd (h 1) 4 (nI 0)))) hR t e (show cl_by (h 2) t e from hby) (show e ≤ 400 from he4) (show (upd (h 1) 4 (nI 0)) 1 = nI e from (by (repeat rw [rf_upd_ne (by decide)]); exact he)) 0 (show (upd (h 1) 4 (nI 0)) 4 = nI 0 from rf_upd_eq) (show 0 ≤ e from (by omega))) (fun g6_0 hg6_0 => ?_)
  obtain ⟨K6, F6⟩ := hg6_0
  exact am_vretvr T dX8_open_9 rfl (Nat.le_refl _) (Nat.le_refl _) rfl ⟨K6, (fun i h9 => (F6 i h9).trans (am_row_ne _ _ _ (by omega)))⟩

set_option maxHeartbeats 400000 in
set_option maxRecDepth 100000 in
theorem c_X8_says {ad : Nat → Nat} {r : am_R} (hR : am_rs r) {h : am_H} (k : Nat) (t : rf_W) (e : Nat) (b : Nat) (K : cl_tp (h) t e b) (hk : k < am_TX.length) (hk0 : 0 < am_len k)  : am_CM mX8_says 7 0 0 [.ref 1, .ref (am_SB + k)] (am_VV ad) r h (am_po (some (.int (am_b (rf_word t b (rf_run t e 97 122 b) k)))) r h) := by
  refine am_CM.of (by decide +kernel) (Nat.le_of_ble_eq_true rfl) (fun X C T => ?_)
  show am_G X (am_VV ad) (0, 0) 0 [(0, .ref 1), (1, .ref (am_SB + k))] [] r h
  obtain ⟨hby, he4, hbe, he, hkd, hb, hs, hv⟩ := K
  have hkd4 : cl_kd t e b < 4 := cl_kd_lt
  have hsp : b ≤ cl_sp t e b ∧ cl_sp t e b ≤ e := cl_sp_le hbe
  have hl9 := am_len_lt hk
  refine am_aload_n (pc := 0) C dX8_says_0 rfl ?_
  refine am_getI (pc := 1) C dX8_says_1 f8_40 bn_1 sh_1 ?_
  refine am_top (show ((h 1) 2) = (nI (cl_kd t e b)) from hkd) ?_
  refine am_iconstN (pc := 4) (k := 1) C dX8_says_4 ?_
  refine am_icmp_neN (pc := 5) (tgt := 24) C dX8_says_5 (by decide) (by omega) (by omega) (fun q5 => ?_) (fun q5 => ?_)
  · skip
    refine am_iconstN (pc := 24) (k := 0) C dX8_says_24 ?_
    exact am_iretb T dX8_says_25 rfl (Nat.le_refl _) (Nat.le_refl _) (by rw [cl_word_1 hk0 q5]; rfl) rfl rfl
  · skip
    refine am_aload_n (pc := 8) C dX8_says_8 rfl ?_
    refine am_getI (pc := 9) C dX8_says_9 f8_23 bn_1 sh_1 ?_
    refine am_top (show ((h 1) 4) = (nI (cl_sp t e b)) from hs) ?_
    refine am_aload_n (pc := 12) C dX8_says_12 rfl ?_
    refine am_getI (pc := 13) C dX8_says_13 f8_29 bn_1 sh_1 ?_
    refine am_top (show ((h 1) 3) = (nI b) from hb) ?_
    refine am_isubN (pc := 16) C dX8_says_16 (by omega) ?_
    refine am_aload_n (pc := 17) C dX8_says_17 rfl ?_
    refine am_callVsi (Y := mJ0_length_8abf5) (pc := 18) (st := [.int (nI ((cl_sp t e b) - b))]) (As := []) (x := (nI (am_len k))) hk C dX8_says_18 k8_50 v_J0_length_8abf5 rfl rfl rfl (by decide) (Nat.zero_le _) (Nat.zero_le _) (Nat.le_of_ble_eq_true rfl) (c_J0_length hk) ?_
    refine am_icmp_eqN (pc := 21) (tgt := 26) C dX8_says_21 (by decide) (by omega) (by omega) (fun q21 => ?_) (fun q21 => ?_)
    · skip
      have hk1 : cl_kd t e b = 1 := q5
      have hsr : cl_sp t e b = rf_run t e 97 122 b := cl_sp_1 q5
      refine am_iconstN (pc := 26) (k := 0) C dX8_says_26 ?_
      refine am_istore_n (pc := 27) (ls' := [(0, .ref 1), (1, .ref (am_SB + k)), (2, .int (nI 0))]) C dX8_says_27 (by decide) rfl ?_
      have L28 : ∀ (j28 i28 : Nat), i28 + j28 = am_len k → (hw : rf_wn t b k i28 = true) → am_G X (am_VV ad) (0, 0) 28 [(0, .ref 1), (1, .ref (am_SB + k)), (2, .int (nI i28))] [] r h := by
        intro j28
        induction j28 with
        | zero =>
          intro i28 hi28 hw
          obtain rfl : i28 = am_len k := by omega
          refine am_iload_n (pc := 28) C dX8_says_28 rfl ?_
          refine am_aload_n (pc := 29) C dX8_says_29 rfl ?_
          refine am_callVsi (Y := mJ0_length_8abf5) (pc := 30) (st := [.int (nI (am_len k))]) (As := []) (x := (nI (am_len k))) hk C dX8_says_30 k8_50 v_J0_length_8abf5 rfl rfl rfl (by decide) (Nat.zero_le _) (Nat.zero_le _) (Nat.le_of_ble_eq_true rfl) (c_J0_length hk) ?_
          refine am_icmp_geN (pc := 33) (tgt := 77) C dX8_says_33 (by decide) (by omega) (by omega) (fun q33 => ?_) (fun q33 => ?_)
          · skip
            refine am_iconstN (pc := 77) (k := 1) C dX8_says_77 ?_
            exact am_iretb T dX8_says_78 rfl (Nat.le_refl _) (Nat.le_refl _) (by rw [rf_word, hw, ← hsr, decide_eq_true q21]; rfl) rfl rfl
          · skip
            exact absurd q33 (by omega)
        | succ j28 ih28 =>
          intro i28 hi28 hw
          have hl28 : i28 < am_len k := by omega
          refine am_iload_n (pc := 28) C dX8_says_28 rfl ?_
          refine am_aload_n (pc := 29) C dX8_says_29 rfl ?_
          refine am_callVsi (Y := mJ0_length_8abf5) (pc := 30) (st := [.int (nI i28)]) (As := []) (x := (nI (am_len k))) hk C dX8_says_30 k8_50 v_J0_length_8abf5 rfl rfl rfl (by decide) (Nat.zero_le _) (Nat.zero_le _) (Nat.le_of_ble_eq_true rfl) (c_J0_length hk) ?_
          refine am_icmp_geN (pc := 33) (tgt := 77) C dX8_says_33 (by decide) (by omega) (by omega) (fun q33 => ?_) (fun q33 => ?_)
          · skip
            exact absurd q33 (by omega)
          · skip
            refine am_aload_n (pc := 36) C dX8_says_36 rfl ?_
            refine am_getI (pc := 37) C dX8_says_37 f8_29 bn_1 sh_1 ?_
            refine am_top (show ((h 1) 3) = (nI b) from hb) ?_
            refine am_iload_n (pc := 40) C dX8_says_40 rfl ?_
            refine am_iaddN (pc := 41) C dX8_says_41 ?_
            refine am_sipush (pc := 42) (v := nI 400) C dX8_says_42 (by decide) ?_
            refine am_icmp_geN (pc := 45) (tgt := 77) C dX8_says_45 (by decide) (by omega) (by omega) (fun q45 => ?_) (fun q45 => ?_)
            · skip
              exact absurd q45 (by omega)
            · skip
              refine am_aload_n (pc := 48) C dX8_says_48 rfl ?_
              refine am_getR (pc := 49) (j := 2) C dX8_says_49 f8_9 bn_1 sh_1 (rf_1_0 hR) ?_
              refine am_aload_n (pc := 52) C dX8_says_52 rfl ?_
              refine am_getI (pc := 53) C dX8_says_53 f8_29 bn_1 sh_1 ?_
              refine am_top (show ((h 1) 3) = (nI b) from hb) ?_
              refine am_iload_n (pc := 56) C dX8_says_56 rfl ?_
              refine am_iaddN (pc := 57) C dX8_says_57 ?_
              refine am_callSNi (Y := mX11_pick) (pc := 58) (st := []) (As := [.ref 2, .int (nI (b + i28))]) (x := ((h 2) (b + i28))) (h2 := h) C dX8_says_58 k8_32 v_X11_pick rfl rfl (by decide) (Nat.zero_le _) (Nat.zero_le _) (Nat.le_of_ble_eq_true rfl) (c_X11_pick 2 (b + i28) 400 bn_2 sh_2 (show b + i28 < 400 from by omega) (by decide)) ?_
              refine am_aload_n (pc := 61) C dX8_says_61 rfl ?_
              refine am_iload_n (pc := 62) C dX8_says_62 rfl ?_
              refine am_callVsi (Y := mJ0_charAt_5068e) (pc := 63) (st := [.int ((h 2) (b + i28))]) (As := [.int (nI i28)]) (x := (am_chr k i28)) hk C dX8_says_63 k8_55 v_J0_charAt_5068e rfl rfl rfl (by decide) (Nat.zero_le _) (Nat.zero_le _) (Nat.le_of_ble_eq_true rfl) (c_J0_charAt hk (by omega)) ?_
              refine am_icmp_eq (pc := 66) (tgt := 71) C dX8_says_66 (by decide) (fun q64 => ?_) (fun q64 => ?_)
              · skip
                refine am_iincN (pc := 71) (ls' := [(0, .ref 1), (1, .ref (am_SB + k)), (2, .int (nI (i28 + 1)))]) C dX8_says_71 rfl (am_up1 _) (by decide) rfl ?_
                refine am_goto (pc := 74) (tgt := 28) C dX8_says_74 (by decide) ?_
                exact ih28 (i28 + 1) (by omega) (by rw [rf_wn, hw, decide_eq_true ((cl_chr hby hk (by omega) (by omega)).mp q64)]; rfl)
              · skip
                refine am_iconstN (pc := 69) (k := 0) C dX8_says_69 ?_
                exact am_iretb T dX8_says_70 rfl (Nat.le_refl _) (Nat.le_refl _) (by rw [rf_word_f (k := k) (i := i28 + 1) (by omega) (by rw [rf_wn, decide_eq_false (fun z => q64 ((cl_chr hby hk (by omega) (by omega)).mpr z)), Bool.and_false, Bool.and_false])]; rfl) rfl rfl
      exact L28 (am_len k) 0 (by omega) rfl
    · skip
      refine am_iconstN (pc := 24) (k := 0) C dX8_says_24 ?_
      exact am_iretb T dX8_says_25 rfl (Nat.le_refl _) (Nat.le_refl _) (by rw [cl_word_2 q5 q21]; rfl) rfl rfl

set_option maxHeartbeats 400000 in
set_option maxRecDepth 100000 in
theorem c_X8_isSign {ad : Nat → Nat} {r : am_R} (hR : am_rs r) {h : am_H} (c : Nat) (t : rf_W) (e : Nat) (b : Nat) (K : cl_tp (h) t e b) (hc : cl_sg c)  : am_CM mX8_isSign 0 0 0 [.ref 1, .int (nI c)] (am_VV ad) r h (am_po (some (.int (am_b (rf_at t e b c c)))) r h) := by
  refine am_CM.of (by decide +kernel) (Nat.le_of_ble_eq_true rfl) (fun X C T => ?_)
  show am_G X (am_VV ad) (0, 0) 0 [(0, .ref 1), (1, .int (nI c))] [] r h
  obtain ⟨hby, he4, hbe, he, hkd, hb, hs, hv⟩ := K
  have hkd4 : cl_kd t e b < 4 := cl_kd_lt
  have hsp : b ≤ cl_sp t e b ∧ cl_sp t e b ≤ e := cl_sp_le hbe
  have hc8 : c < 128 := hc.1
  refine am_aload_n (pc := 0) C dX8_isSign_0 rfl ?_
  refine am_getI (pc := 1) C dX8_isSign_1 f8_40 bn_1 sh_1 ?_
  refine am_top (show ((h 1) 2) = (nI (cl_kd t e b)) from hkd) ?_
  refine am_iconstN (pc := 4) (k := 3) C dX8_isSign_4 ?_
  refine am_icmp_neN (pc := 5) (tgt := 20) C dX8_isSign_5 (by decide) (by omega) (by omega) (fun q5 => ?_) (fun q5 => ?_)
  · skip
    refine am_iconstN (pc := 20) (k := 0) C dX8_isSign_20 ?_
    exact am_iretb T dX8_isSign_21 rfl (Nat.le_refl _) (Nat.le_refl _) (by rw [cl_isg_0 hc q5]; rfl) rfl rfl
  · skip
    refine am_aload_n (pc := 8) C dX8_isSign_8 rfl ?_
    refine am_getI (pc := 9) C dX8_isSign_9 f8_47 bn_1 sh_1 ?_
    refine am_top (show ((h 1) 5) = (cl_vl (h 2) t e b) from hv) ?_
    refine am_iload_n (pc := 12) C dX8_isSign_12 rfl ?_
    refine am_icmp_ne (pc := 13) (tgt := 20) C dX8_isSign_13 (by decide) (fun q13 => ?_) (fun q13 => ?_)
    · skip
      refine am_iconstN (pc := 20) (k := 0) C dX8_isSign_20 ?_
      exact am_iretb T dX8_isSign_21 rfl (Nat.le_refl _) (Nat.le_refl _) (by rw [cl_isg_1 hby he4 hc q5 q13]; rfl) rfl rfl
    · skip
      refine am_iconstN (pc := 16) (k := 1) C dX8_isSign_16 ?_
      refine am_goto (pc := 17) (tgt := 21) C dX8_isSign_17 (by decide) ?_
      exact am_iretb T dX8_isSign_21 rfl (Nat.le_refl _) (Nat.le_refl _) (by rw [cl_isg_2 hby he4 hc q5 q13]; rfl) rfl rfl

set_option maxHeartbeats 400000 in
set_option maxRecDepth 100000 in
theorem c_X8_takeSign {ad : Nat → Nat} {r : am_R} (hR : am_rs r) {h : am_H} (sg : Nat) (t : rf_W) (e : Nat) (b : Nat) (K : cl_tp (h) t e b) (hc : cl_sg sg)  : am_CM mX8_takeSign 3 0 0 [.ref 1, .int (nI sg)] (am_VV ad) r h (am_pr (some (.int (am_b (rf_at t e b sg sg)))) r (fun c9 => (rf_at t e b sg sg = true → cl_tp (c9) t e (rf_sb t e (b + 1))) ∧ (rf_at t e b sg sg = false → c9 = (h)) ∧ cl_fr (h) c9 1 1)) := by
  refine am_CM.of (by decide +kernel) (Nat.le_of_ble_eq_true rfl) (fun X C T => ?_)
  show am_G X (am_VV ad) (0, 0) 0 [(0, .ref 1), (1, .int (nI sg))] [] r h
  obtain ⟨hby, he4, hbe, he, hkd, hb, hs, hv⟩ := id K
  have hkd4 : cl_kd t e b < 4 := cl_kd_lt
  have hsp : b ≤ cl_sp t e b ∧ cl_sp t e b ≤ e := cl_sp_le hbe
  refine am_aload_n (pc := 0) C dX8_takeSign_0 rfl ?_
  refine am_iload_n (pc := 1) C dX8_takeSign_1 rfl ?_
  refine am_callVi (Y := mX8_isSign) (pc := 2) (st := []) (As := [.int (nI sg)]) (x := (am_b (rf_at t e b sg sg))) (h2 := h) C dX8_takeSign_2 k8_59 v_X8_isSign rfl rfl bn_1 sh_1 ⟨by decide, rfl⟩ (by decide) (Nat.zero_le _) (Nat.zero_le _) (Nat.le_of_ble_eq_true rfl) (c_X8_isSign (h := h) hR sg t e b (show cl_tp (h) t e b from K) (show cl_sg sg from hc)) ?_
  refine am_if_neB (pc := 5) (tgt := 10) C dX8_takeSign_5 (by decide) (fun q5 => ?_) (fun q5 => ?_)
  · skip
    refine am_aload_n (pc := 10) C dX8_takeSign_10 rfl ?_
    refine am_callVvr (Y := mX8_advance) (pc := 11) (st := []) (As := []) (PP := fun c9 => cl_tp (c9) t e (rf_sb t e (cl_sp t e b)) ∧ cl_fr (h) c9 1 1) C dX8_takeSign_11 k8_26 v_X8_advance rfl rfl bn_1 sh_1 ⟨by decide, rfl⟩ (by decide) (Nat.zero_le _) (Nat.zero_le _) (Nat.le_of_ble_eq_true rfl) (c_X8_advance (h := h) hR t e (show cl_by (h 2) t e from hby) (show e ≤ 400 from he4) (show (h 1) 1 = nI e from he) (cl_sp t e b) (show (h 1) 4 = nI (cl_sp t e b) from hs) (show (cl_sp t e b) ≤ e from hsp.2)) (fun g11_0 hg11_0 => ?_)
    obtain ⟨K11, F11⟩ := hg11_0
    refine am_iconstN (pc := 14) (k := 1) C dX8_takeSign_14 ?_
    exact am_iretbr T dX8_takeSign_15 rfl (Nat.le_refl _) (Nat.le_refl _) (by rw [q5]; rfl) rfl ⟨fun _ => (by rw [cl_sp_3 hc q5] at K11; exact K11), fun z => absurd (q5.symm.trans z) (fun y => Bool.false_ne_true y.symm), (fun i h9 => F11 i h9)⟩
  · skip
    refine am_iconstN (pc := 8) (k := 0) C dX8_takeSign_8 ?_
    exact am_iretbr T dX8_takeSign_9 rfl (Nat.le_refl _) (Nat.le_refl _) (by rw [q5]; rfl) rfl ⟨fun z => absurd (q5.symm.trans z) Bool.false_ne_true, fun _ => rfl, (fun _ _ => rfl)⟩

set_option maxHeartbeats 400000 in
set_option maxRecDepth 100000 in
theorem c_X8_isNumber {ad : Nat → Nat} {r : am_R} (hR : am_rs r) {h : am_H} (lo : Nat) (hi : Int32) (t : rf_W) (e : Nat) (b : Nat) (K : cl_tp (h) t e b) (hlo : lo < 1000)  : am_CM mX8_isNumber 0 0 0 [.ref 1, .int (nI lo), .int hi] (am_VV ad) r h (am_po (some (.int (am_b (decide (rf_num t b (rf_run t e 48 57 b) lo hi ≠ 0))))) r h) := by
  refine am_CM.of (by decide +kernel) (Nat.le_of_ble_eq_true rfl) (fun X C T => ?_)
  show am_G X (am_VV ad) (0, 0) 0 [(0, .ref 1), (1, .int (nI lo)), (2, .int hi)] [] r h
  obtain ⟨hby, he4, hbe, he, hkd, hb, hs, hv⟩ := K
  have hkd4 : cl_kd t e b < 4 := cl_kd_lt
  have hsp : b ≤ cl_sp t e b ∧ cl_sp t e b ≤ e := cl_sp_le hbe
  refine am_aload_n (pc := 0) C dX8_isNumber_0 rfl ?_
  refine am_getI (pc := 1) C dX8_isNumber_1 f8_40 bn_1 sh_1 ?_
  refine am_top (show ((h 1) 2) = (nI (cl_kd t e b)) from hkd) ?_
  refine am_iconstN (pc := 4) (k := 2) C dX8_isNumber_4 ?_
  refine am_icmp_neN (pc := 5) (tgt := 28) C dX8_isNumber_5 (by decide) (by omega) (by omega) (fun q5 => ?_) (fun q5 => ?_)
  · skip
    refine am_iconstN (pc := 28) (k := 0) C dX8_isNumber_28 ?_
    exact am_iretb T dX8_isNumber_29 rfl (Nat.le_refl _) (Nat.le_refl _) (by rw [cl_isn_0 q5]; rfl) rfl rfl
  · skip
    refine am_aload_n (pc := 8) C dX8_isNumber_8 rfl ?_
    refine am_getI (pc := 9) C dX8_isNumber_9 f8_47 bn_1 sh_1 ?_
    refine am_top (show ((h 1) 5) = (cl_vl (h 2) t e b) from hv) ?_
    refine am_iload_n (pc := 12) C dX8_isNumber_12 rfl ?_
    refine am_icmp_lt (pc := 13) (tgt := 28) C dX8_isNumber_13 (by decide) (fun q13 => ?_) (fun q13 => ?_)
    · skip
      refine am_iconstN (pc := 28) (k := 0) C dX8_isNumber_28 ?_
      exact am_iretb T dX8_isNumber_29 rfl (Nat.le_refl _) (Nat.le_refl _) (by rw [cl_isn_1 hby hbe q5 (Or.inl q13) (by omega)]; rfl) rfl rfl
    · skip
      refine am_aload_n (pc := 16) C dX8_isNumber_16 rfl ?_
      refine am_getI (pc := 17) C dX8_isNumber_17 f8_47 bn_1 sh_1 ?_
      refine am_top (show ((h 1) 5) = (cl_vl (h 2) t e b) from hv) ?_
      refine am_iload_n (pc := 20) C dX8_isNumber_20 rfl ?_
      refine am_icmp_gt (pc := 21) (tgt := 28) C dX8_isNumber_21 (by decide) (fun q21 => ?_) (fun q21 => ?_)
      · skip
        refine am_iconstN (pc := 28) (k := 0) C dX8_isNumber_28 ?_
        exact am_iretb T dX8_isNumber_29 rfl (Nat.le_refl _) (Nat.le_refl _) (by rw [cl_isn_1 hby hbe q5 (Or.inr q21) (by omega)]; rfl) rfl rfl
      · skip
        refine am_iconstN (pc := 24) (k := 1) C dX8_isNumber_24 ?_
        refine am_goto (pc := 25) (tgt := 29) C dX8_isNumber_25 (by decide) ?_
        exact am_iretb T dX8_isNumber_29 rfl (Nat.le_refl _) (Nat.le_refl _) (by rw [(cl_isn_2 hby hbe (by omega) q5 q13 q21).1]; rfl) rfl rfl

