/-! WHAT a war's lines do: t the tape, o the machine's own fields, w the world -/
section SPEC9
theorem am_hA {f : am_H} {i j : Nat} {g : Nat → Int32} (hij : j ≠ i) : am_row (am_row f i g) j (f j) = am_row f i g := by
  have h := am_row_id (am_row f i g) j
  rw [am_row_ne f i g hij] at h
  exact h
theorem am_hC {f : am_H} {i j : Nat} {g : Nat → Int32} (_hij : j ≠ i) : am_row (am_row f i (f i)) j g = am_row f j g := by rw [am_row_id]
theorem am_hB (f : am_H) (i j : Nat) : am_row (am_row f i (f i)) j (f j) = f := by rw [am_row_id, am_row_id]
def rf_uses (o : rf_W) : rf_W := upd (upd (upd (upd o 0 (nI 0)) 11 (o 9)) 9 (nI 0)) 10 (nI 0)
def rf_rM (t o w : rf_W) : Nat := rf_rNum t o 0 (nI (rf_M w) - nI 1)
def rf_rS (t o w : rf_W) : Nat := rf_rNum t o 0 (nI (rf_S w) - nI 1)
def rf_bit (m : Nat) : Int32 := nI 1 <<< (nI m &&& 31)
def rf_ms (t w : rf_W) : Nat → Int32 → rf_W → Int32 × rf_W
  | 0, _, o => (-1, o)
  | f + 1, x, o => if rf_rM t o w = 0 then (-1, rf_oNum t o) else
    bif rf_rFig t (rf_oNum t o) then rf_ms t w f (x ||| rf_bit (rf_rM t o w - 1)) (rf_oBl t (rf_oNum t o))
    else (x ||| rf_bit (rf_rM t o w - 1), rf_oBl t (rf_oNum t o))
termination_by f _ _ => f
def rf_mt (t o w : rf_W) : Int32 × rf_W := rf_ms t w 402 (nI 0) o
def rf_ems (o : rf_W) : Nat := rf_nat (o 16)
def rf_oEm (o : rf_W) : rf_W := upd o 16 (nI (rf_ems o + 1))
def rf_wEm (o w : rf_W) (a b : Int32) : rf_W := upd (upd w (1629 + 2 * rf_ems o) a) (1629 + 2 * rf_ems o + 1) b
def rf_addM (w : rf_W) (v x : Int32) : rf_W := upd (upd (upd (upd w (13 + 3 * rf_M w) v) (13 + 3 * rf_M w + 1) x) (13 + 3 * rf_M w + 2) (nI 0)) 0 (nI (rf_M w + 1))
def rf_needs (t o w : rf_W) : Int32 × rf_W := bif rf_rPas t o 1 then rf_mt t (rf_oPas t o 1) w else (nI 0, rf_oPas t o 1)
def rf_lnM (t o w : rf_W) : Bool × rf_W × rf_W :=
  if rf_M w = 16 then (false, o, w) else
  if rf_rNum t o 1 (nI 99) = 0 then (false, rf_oNum t o, w) else
  if (rf_needs t (rf_oNum t o) w).1 < 0 then (false, (rf_needs t (rf_oNum t o) w).2, w) else
  (true, (rf_needs t (rf_oNum t o) w).2, rf_addM w (nI (rf_rNum t o 1 (nI 99) - 1)) (rf_needs t (rf_oNum t o) w).1)
def rf_zs (w : rf_W) (s : Nat) : Nat → rf_W
  | 0 => w
  | n + 1 => upd (rf_zs w s n) (61 + 23 * s + n) (nI 0)
def rf_way (t : rf_W) (s : Nat) : Nat → Nat → rf_W → rf_W → Bool × rf_W × rf_W
  | 0, _, o, w => (false, o, w)
  | f + 1, n, o, w => if rf_rNum t o 0 (nI 7) = 0 ∨ n = 6 then (false, rf_oNum t o, w) else
    bif rf_rFig t (rf_oNum t o) then rf_way t s f (n + 1) (rf_oBl t (rf_oNum t o)) (upd w (61 + 23 * s + (3 + n)) (nI (rf_rNum t o 0 (nI 7) - 1)))
    else (true, rf_oBl t (rf_oNum t o), upd (upd (upd w (61 + 23 * s + (3 + n)) (nI (rf_rNum t o 0 (nI 7) - 1))) (61 + 23 * s + 2) (nI (n + 1))) 1 (nI (s + 1)))
termination_by f _ _ _ => f
def rf_lnS (t o w : rf_W) : Bool × rf_W × rf_W :=
  if rf_S w = 10 then (false, o, w) else
  if rf_rNum t o 0 (nI 1) = 0 then (false, rf_oNum t o, rf_zs w (rf_S w) 23) else
  rf_way t (rf_S w) 7 0 (rf_oNum t o) (upd (rf_zs w (rf_S w) 23) (61 + 23 * rf_S w + 0) (nI (rf_rNum t o 0 (nI 1) - 1)))
def rf_kns (t : rf_W) (s : Nat) : Nat → rf_W → rf_W → Bool × rf_W × rf_W
  | 0, o, w => (false, o, w)
  | f + 1, o, w => if rf_rM t o w = 0 ∨ am_bt (rf_known w s) (rf_rM t o w - 1) = true ∨ rf_kn w s = 12 then (false, rf_oNum t o, w) else
    bif rf_rFig t (rf_oNum t o) then rf_kns t s f (rf_oBl t (rf_oNum t o)) (rf_app w s (rf_rM t o w - 1))
    else (true, rf_oBl t (rf_oNum t o), rf_app w s (rf_rM t o w - 1))
termination_by f _ _ => f
def rf_lnK (t o w : rf_W) : Bool × rf_W × rf_W :=
  if rf_rS t o w = 0 then (false, rf_oNum t o, w) else rf_kns t (rf_rS t o w - 1) 402 (rf_oNum t o) w
def rf_lnB (t o w : rf_W) : Bool × rf_W × rf_W :=
  if rf_rS t o w = 0 then (false, rf_oNum t o, w) else
  if (rf_mt t (rf_oNum t o) w).1 < 0 then (false, (rf_mt t (rf_oNum t o) w).2, w) else
  (true, (rf_mt t (rf_oNum t o) w).2, upd w (61 + 23 * (rf_rS t o w - 1) + 22) (rf_of w (rf_rS t o w - 1) 22 ||| (rf_mt t (rf_oNum t o) w).1))
def rf_lnO (t o w : rf_W) : Bool × rf_W × rf_W :=
  if rf_O w = 10 then (false, o, w) else
  if rf_rS t o w = 0 then (false, rf_oNum t o, w) else
  if (rf_mt t (rf_oNum t o) w).1 < 0 then (false, (rf_mt t (rf_oNum t o) w).2, w) else
  (true, (rf_mt t (rf_oNum t o) w).2, upd (upd (upd w (291 + 2 * rf_O w) (nI (rf_rS t o w - 1))) (291 + 2 * rf_O w + 1) (rf_mt t (rf_oNum t o) w).1) 2 (nI (rf_O w + 1)))
def rf_lnP (t o w : rf_W) : Bool × rf_W × rf_W :=
  if rf_rNum t o 0 (nI 1) = 0 then (false, rf_oNum t o, w) else
  if (rf_mt t (rf_oNum t o) w).1 < 0 then (false, (rf_mt t (rf_oNum t o) w).2, w) else
  (true, (rf_mt t (rf_oNum t o) w).2, upd w (11 + (rf_rNum t o 0 (nI 1) - 1)) (w (11 + (rf_rNum t o 0 (nI 1) - 1)) ||| (rf_mt t (rf_oNum t o) w).1))
def rf_clash (w : rf_W) (a b : Nat) : rf_W := upd (upd w (13 + 3 * a + 2) (w (13 + 3 * a + 2) ||| rf_bit b)) (13 + 3 * b + 2) (upd w (13 + 3 * a + 2) (w (13 + 3 * a + 2) ||| rf_bit b) (13 + 3 * b + 2) ||| rf_bit a)
def rf_lnC (t o w : rf_W) : Bool × rf_W × rf_W :=
  if rf_rM t o w = 0 then (false, rf_oNum t o, w) else
  if rf_rM t (rf_oNum t o) w = 0 ∨ rf_rM t o w = rf_rM t (rf_oNum t o) w then (false, rf_oNum t (rf_oNum t o), w) else
  (true, rf_oNum t (rf_oNum t o), rf_clash w (rf_rM t o w - 1) (rf_rM t (rf_oNum t o) w - 1))
def rf_lnW (t o w : rf_W) : Bool × rf_W × rf_W :=
  bif rf_isW t o 0 then rf_lnM t o w else bif rf_isW t o 2 then rf_lnS t o w else bif rf_isW t o 3 then rf_lnK t o w else
  bif rf_isW t o 4 then rf_lnB t o w else bif rf_isW t o 5 then rf_lnO t o w else bif rf_isW t o 6 then rf_lnP t o w else
  bif rf_isW t o 7 then rf_lnC t o w else (false, o, w)
theorem rf_needs_t {t o w : rf_W} (h : rf_rPas t o 1 = true) : rf_needs t o w = rf_mt t (rf_oPas t o 1) w := by rw [rf_needs, h]; rfl
theorem rf_needs_f {t o w : rf_W} (h : rf_rPas t o 1 = false) : rf_needs t o w = (nI 0, rf_oPas t o 1) := by rw [rf_needs, h]; rfl
theorem rf_S_app {w : rf_W} {s m : Nat} : rf_S (rf_app w s m) = rf_S w := by rw [rf_S, rf_app, rf_upd_ne (by omega), rf_upd_ne (by omega)]; rfl
theorem rf_num_b {t o : rf_W} {low : Nat} {high : Int32} : rf_rNum t o low high ≤ 1000 := by
  have hv : rf_nv t (rf_SB t o) (rf_SD t o - rf_SB t o) < 1000 := rf_sd_1000
  rw [rf_rNum, rf_num]
  split <;> omega
theorem rf_rM_le {t o w : rf_W} (hM : rf_M w < 17) : rf_rM t o w ≤ rf_M w := by
  by_cases h : rf_rM t o w = 0
  · omega
  · exact rf_num_lt (by omega) h
theorem rf_rS_le {t o w : rf_W} (hM : rf_S w < 11) : rf_rS t o w ≤ rf_S w := by
  by_cases h : rf_rS t o w = 0
  · omega
  · exact rf_num_lt (by omega) h
theorem rf_Tm_ms {t w : rf_W} : ∀ f x o, rf_To o → rf_b o ≤ rf_p o → rf_Tm o (rf_ms t w f x o).2
  | 0, _, o, h, hb => by rw [rf_ms]; exact rf_Tm.rfl' h hb
  | f + 1, x, o, h, hb => by
    have h1 := rf_Tm_num (t := t) h
    have h2 := h1.tr (rf_Tm_bl (t := t) h1.1)
    rw [rf_ms]
    split
    · exact h1
    · cases rf_rFig t (rf_oNum t o) with
      | true => exact h2.tr (rf_Tm_ms f _ _ h2.1 h2.2.2.2)
      | false => exact h2
theorem rf_Tm_mt {t o w : rf_W} (h : rf_To o) (hb : rf_b o ≤ rf_p o) : rf_Tm o (rf_mt t o w).2 := rf_Tm_ms _ _ _ h hb
theorem rf_Tm_needs {t o w : rf_W} (h : rf_To o) : rf_Tm o (rf_needs t o w).2 := by
  have h1 := rf_Tm_pas (t := t) (k := 1) h
  rw [rf_needs]
  cases rf_rPas t o 1 with
  | true => exact h1.tr (rf_Tm_mt h1.1 h1.2.2.2)
  | false => exact h1
theorem rf_zs_out {w : rf_W} {s a : Nat} : ∀ n, (a < 61 + 23 * s ∨ 61 + 23 * s + n ≤ a) → rf_zs w s n a = w a
  | 0, _ => rfl
  | n + 1, h => by rw [rf_zs, rf_upd_ne (by omega), rf_zs_out n (by omega)]
theorem rf_Cn_congr {w w' : rf_W} (h : ∀ a, a < 3 → w' a = w a) (hC : rf_Cn w) : rf_Cn w' := by
  unfold rf_Cn
  rw [h 0 (by decide), h 1 (by decide), h 2 (by decide)]
  exact hC
end SPEC9
