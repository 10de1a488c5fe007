/-! more of what is reckoned, for the class -/
theorem up_up (f : Nat → Int) (k : Nat) (a b : Int) : va_up (va_up f k a) k b = va_up f k b := by
  funext j
  simp only [va_up]
  split <;> rfl
theorem up_comm (f : Nat → Int) {k j : Nat} (a b : Int) (h : k ≠ j) : va_up (va_up f k a) j b = va_up (va_up f j b) k a := by
  funext i
  simp only [va_up]
  by_cases e : i = j
  · subst e; rw [if_pos rfl, if_neg (by omega), if_pos rfl]
  · rw [if_neg e, if_neg e]
theorem f_price_up (up dn : Int) (dv : Nat → Int) (t : Nat) (fr : Int) (d k : Nat) : f_price up dn dv t fr d 0 + (k : Int) * (10 * (up + dn)) = f_price up dn dv t fr d k := by
  simp only [f_price, f_pb]
  have e1 : (k : Int) * (10 * (up + dn)) = 10 * up * k + 10 * dn * k := by
    rw [Int.mul_add, Int.mul_add, Int.mul_comm (k : Int) (10 * up), Int.mul_comm (k : Int) (10 * dn)]
  rw [e1, Int.mul_sub, Int.mul_sub]
  simp
  omega
theorem f_price_dn (up dn : Int) (dv : Nat → Int) (t : Nat) (fr : Int) (d : Nat) : f_price up dn dv t fr (d + 1) 0 = f_price up dn dv t fr d 0 - (10 * dn + dv (t + 1 + d)) := by
  simp only [f_price, f_pb, f_dsum]
  have e1 : 10 * dn * (((d + 1 : Nat) : Int) - ((0 : Nat) : Int)) = 10 * dn * ((d : Int) - ((0 : Nat) : Int)) + 10 * dn := by
    rw [show (((d + 1 : Nat) : Int) - ((0 : Nat) : Int)) = ((d : Int) - ((0 : Nat) : Int)) + 1 by omega, Int.mul_add, Int.mul_one]
  rw [e1]
  omega
theorem f_price_00 (up dn : Int) (dv : Nat → Int) (t : Nat) (fr : Int) : f_price up dn dv t fr 0 0 = fr := by
  simp [f_price, f_pb, f_dsum]
theorem f_ow_max (He : Nat → Int) (c h : Nat) : f_ow He c (h + 1) = f_ow He c h + max 0 (-He (7 * c + h)) := by
  simp only [f_ow]
  split <;> omega
