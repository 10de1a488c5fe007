section CC21
variable {p : Program} {l : Launch} {e : Env} {R : Room} {s : State} {m : MethodId} {args : Array Value} {below : List Frame} {meth : Method} {c : Code} {D : va_G} {cl : List vw_C} {A : Nat → Prop} {nL cells slots : Nat} {Q : State → Prop} {cc : ByteArray} {pc : Nat} {rest : List Value} {lv : List (Nat × Value)} {ws X E : va_W} {own : String} {Ts : List Cond} {tys : List (ClassId × FieldType)} {EV : (Nat → Prop) → State → Heap → Prop} {b L : Nat} {xs : Nat → Int32}
theorem iI_of (x : Int32) : iI x.toInt = x := Int32.ofInt_toInt x
theorem iR_of (x : Int32) : iR x.toInt := ⟨by have := Int32.le_toInt x; omega, by have := Int32.toInt_lt x; omega⟩
theorem jj_slen (C0 : jj_C p s m args meth c D cl A nL cc own Ts tys EV) (hX : va_X b L xs s s.heap) (hbl : b < s.heap.size) (hbA : ¬ A b) (hL : L ≤ 2560) (hdg : decode cc pc = .ok (.arraylength, 1)) (kk : jj_W p l e R s m args below meth c D cl A nL cells slots Q (pc + 1) lv (.int (iI (L : Int)) :: rest) ws) : jj_W p l e R s m args below meth c D cl A nL cells slots Q (pc) lv (.ref b :: rest) ws := by
  intro H locs ls hP hD hS hl
  have e1 : Int32.ofNat L = iI (L : Int) := Int32.toInt_inj.mp (by rw [iI_toInt ⟨by omega, by omega⟩, Int32.toInt_ofNat_of_lt (by omega)])
  refine va_slen C0.1 C0.2.1 hX hbl hbA hS hdg ?_
  rw [e1]
  exact kk H locs ls hP hD hS hl
theorem jj_sald (C0 : jj_C p s m args meth c D cl A nL cc own Ts tys EV) (hX : va_X b L xs s s.heap) (hbl : b < s.heap.size) (hbA : ¬ A b) (hL : L ≤ 2560) {k : Nat} {z : Int} (hk : (k : Int) = z) (hkL : k < L) (hdg : decode cc pc = .ok (.iaload, 1)) (kk : jj_W p l e R s m args below meth c D cl A nL cells slots Q (pc + 1) lv (.int (iI (xs k).toInt) :: rest) ws) : jj_W p l e R s m args below meth c D cl A nL cells slots Q (pc) lv (.int (iI z) :: .ref b :: rest) ws := by
  intro H locs ls hP hD hS hl
  have e := kk H locs ls hP hD hS hl
  rw [iI_of] at e
  refine va_sld C0.1 C0.2.1 hX hbl hbA hS (iI_in hk hkL (by omega)) hdg ?_
  rw [iI_nat hk (by omega)]
  exact e
/-- the call that a script's int names -/
def f_op (a : Int) : Int := (iI a &&& iI 31).toInt
theorem f_op_bd (a : Int) : 0 ≤ f_op a ∧ f_op a ≤ 31 := by
  unfold f_op
  have h : (iI a &&& iI 31).toBitVec.toNat ≤ 31 := by
    rw [Int32.toBitVec_and, BitVec.toNat_and]
    exact Nat.le_trans Nat.and_le_right (by decide)
  have h2 : (iI a &&& iI 31).toInt = ((iI a &&& iI 31).toBitVec.toNat : Int) := by
    show (iI a &&& iI 31).toBitVec.toInt = _
    exact BitVec.toInt_eq_toNat_of_lt (by omega)
  omega
theorem jj_iand31 (C0 : jj_C p s m args meth c D cl A nL cc own Ts tys EV) {a : Int} (hdg : decode cc pc = .ok (.iand, 1)) (kk : jj_W p l e R s m args below meth c D cl A nL cells slots Q (pc + 1) lv (.int (iI (f_op a)) :: rest) ws) : jj_W p l e R s m args below meth c D cl A nL cells slots Q (pc) lv (.int (iI 31) :: .int (iI a) :: rest) ws := by
  intro H locs ls hP hD hS hl
  have e := kk H locs ls hP hD hS hl
  unfold f_op at e
  rw [iI_of] at e
  exact lv_iand C0.1 C0.2.1 hdg e
end CC21
