/-! the tape fed, what is remembered, images -/
section SPEC14
def rf_end (o : rf_W) (n : Int32) : Bool × rf_W := if n < 0 then (false, upd o 0 (nI 0)) else if n ≤ o 9 then (true, upd (upd o 0 (nI 0)) 9 n) else (false, upd o 0 (nI 0))
def rf_back (o w img : rf_W) : Bool × rf_W × rf_W := if o 6 = 0 then (false, upd o 0 (nI 0), w) else (true, upd (upd o 0 (nI 0)) 7 (nI 0), rf_cp w img 0 0 1580)
def rf_rmd (o : rf_W) : Nat := rf_nat (o 7)
def rf_undo (o w a : rf_W) : Bool × rf_W × rf_W := if rf_rmd o = 0 then (false, upd o 0 (nI 0), w) else (true, upd (upd o 0 (nI 0)) 7 (nI (rf_rmd o - 1)), rf_cp w a 0 (731 * (rf_rmd o - 1)) 731)
def rf_remO (o : rf_W) : rf_W := if rf_rmd o = 12 then o else upd o 7 (nI (rf_rmd o + 1))
def rf_remA (o w a : rf_W) : rf_W := if rf_rmd o = 12 then rf_cp (rf_cp a a 0 731 8041) w 8041 0 731 else rf_cp a w (731 * rf_rmd o) 0 731
def rf_fv (f : rf_W) (a b c d e : Int32) : rf_W := upd (upd (upd (upd (upd f 0 a) 1 b) 2 c) 3 d) 4 e
def rf_fb (f : rf_W) (i : Nat) : Int32 := vp_nar .byte (f (i / 4) >>> (nI (24 - 8 * (i % 4)) &&& 31)).toInt8.toInt32
def rf_fd (t : rf_W) (n : Nat) (f : rf_W) : Nat → rf_W
  | 0 => t
  | i + 1 => upd (rf_fd t n f i) (n + i) (rf_fb f i)
def rf_feed (o t f : rf_W) (a b c d e : Int32) : Int32 × rf_W × rf_W × rf_W :=
  if rf_nat (o 9) + 20 ≤ 400 then (nI (rf_nat (o 9) + 20), upd (upd o 0 (nI 0)) 9 (nI (rf_nat (o 9) + 20)), rf_fv f a b c d e, rf_fd t (rf_nat (o 9)) (rf_fv f a b c d e) 20)
  else (-1, upd o 0 (nI 0), f, t)
theorem am_row_h (h : am_H) (a b c : Nat) : am_row (am_row (am_row h a (h a)) b (h b)) c (h c) = h := by rw [am_row_id, am_row_id, am_row_id]
end SPEC14
