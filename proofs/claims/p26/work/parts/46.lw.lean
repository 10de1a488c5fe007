section P1a
variable {p : Program} {l : Launch} {e : Env} {R : Room} {s : State} {m : MethodId} {args : Array Value} {below : List Frame} {meth : Method} {c : Code} {D : va_G} {cl : List vw_C} {A : Nat → Prop} {nL cells slots : Nat} {Q : State → Prop} {cc : ByteArray} {pc : Nat} {rest : List Value} {lv : List (Nat × Value)} {ws X E : va_W} {own : String} {Ts : List Cond} {tys : List (ClassId × FieldType)} {EV : (Nat → Prop) → State → Heap → Prop}
/-- another name for an int, within its range -/
def f_wr (z : Int) : Int := (iI z).toInt
theorem iI_wr (z : Int) : iI z = iI (f_wr z) := (iI_of (iI z)).symm
theorem f_wr_R (z : Int) : iR (f_wr z) := iR_of (iI z)
def f_sr (z k : Int) : Int := (iI z >>> (iI k &&& 31)).toInt
theorem f_sr_R (z k : Int) : iR (f_sr z k) := iR_of _
def f_an (z k : Int) : Int := (iI z &&& iI k).toInt
theorem f_an_R (z k : Int) : iR (f_an z k) := iR_of _
def f_us (z : Int) : Int := (((iI z).toUInt32 >>> ((iI 1).toUInt32 &&& Int32.toUInt32 31)).toInt32).toInt
theorem f_us_bd (z : Int) : 0 ≤ f_us z ∧ f_us z ≤ 2147483647 := by
  have hn : ((iI 1).toUInt32 &&& Int32.toUInt32 31).toNat = 1 := by decide
  have e2 : (((iI z).toUInt32 >>> ((iI 1).toUInt32 &&& Int32.toUInt32 31)).toInt32).toBitVec.toNat = (iI z).toBitVec.toNat / 2 ^ 1 := by
    simp only [UInt32.toBitVec_toInt32, UInt32.toBitVec_shiftRight, Int32.toBitVec_toUInt32]
    have hn2 : ((iI 1).toBitVec.toNat &&& 31) % 32 = 1 := by decide
    simp [BitVec.toNat_ushiftRight, Nat.shiftRight_eq_div_pow, hn2]
  have hb := (iI z).toBitVec.isLt
  have e3 : f_us z = (((iI z).toBitVec.toNat / 2 ^ 1 : Nat) : Int) := by
    have : f_us z = (((iI z).toUInt32 >>> ((iI 1).toUInt32 &&& Int32.toUInt32 31)).toInt32).toBitVec.toInt := rfl
    rw [this, BitVec.toInt_eq_toNat_cond, e2, if_pos (by omega)]
  omega
def f_lo (v k : Int) : Int := f_us v % k
theorem f_lo_bd (v : Int) {k : Int} (h : 1 ≤ k) : 0 ≤ f_lo v k ∧ f_lo v k < k := by
  unfold f_lo
  exact ⟨Int.emod_nonneg _ (by omega), Int.emod_lt_of_pos _ (by omega)⟩
theorem iI_ne0 {b : Int} (h : 0 < b) (hb : iR b) : ¬ iI b = 0 := fun q => by
  have h1 := (iI_eq0 hb).mp q
  omega
theorem iI_div {a b : Int} (ha : 0 ≤ a) (hra : iR a) (hb : 0 < b) (hrb : iR b) : iI a / iI b = iI (a / b) := by
  rw [← Int32.toInt_inj, Int32.toInt_div_of_ne_right _ _ (fun q => by
    have h1 := (iI_eq hrb (show iR (-1) by omega)).mp q
    omega), iI_toInt hra, iI_toInt hrb, Int.tdiv_eq_ediv_of_nonneg ha]
  have h1 : 0 ≤ a / b := Int.ediv_nonneg ha (by omega)
  have h2 : a / b ≤ a := Int.ediv_le_self b ha
  rw [iI_toInt ⟨by omega, by omega⟩]
theorem iI_mod {a b : Int} (ha : 0 ≤ a) (hra : iR a) (hb : 0 < b) (hrb : iR b) : iI a - iI a / iI b * iI b = iI (a % b) := by
  rw [iI_div ha hra hb hrb, iI_mul, iI_sub]
  have h1 := Int.emod_add_mul_ediv a b
  have h2 : a / b * b = b * (a / b) := Int.mul_comm _ _
  congr 1
  omega
theorem iI_shrN : ∀ w, w < 128 → ∀ d, d < 7 → iI ((w : Nat) : Int) >>> (iI ((d : Nat) : Int) &&& 31) = iI ((w / 2 ^ d : Nat) : Int) := by decide +kernel
theorem iI_and1 : ∀ w, w < 128 → iI ((w : Nat) : Int) &&& iI 1 = iI ((w % 2 : Nat) : Int) := by decide +kernel
theorem iI_shlN : ∀ d, d < 7 → iI 1 <<< (iI ((d : Nat) : Int) &&& 31) = iI ((2 ^ d : Nat) : Int) := by decide +kernel
theorem iI_orb : ∀ w, w < 128 → ∀ d, d < 7 → iI ((w : Nat) : Int) ||| iI ((2 ^ d : Nat) : Int) = iI ((w + (1 - w / 2 ^ d % 2) * 2 ^ d : Nat) : Int) := by decide +kernel
theorem iI_andb : ∀ w, w < 128 → ∀ d, d < 7 → iI ((w : Nat) : Int) &&& (iI ((2 ^ d : Nat) : Int) ^^^ iI (-1)) = iI ((w - w / 2 ^ d % 2 * 2 ^ d : Nat) : Int) := by decide +kernel
theorem iI_am {a o : Int} (ha : 0 ≤ a ∧ a ≤ 1) (ho : 0 ≤ o ∧ o ≤ 1) : iI (a + 2 * o) &&& iI 1 = iI a := by
  rcases (by omega : a = 0 ∨ a = 1) with rfl | rfl <;> rcases (by omega : o = 0 ∨ o = 1) with rfl | rfl <;> decide
theorem iI_ao {a o : Int} (ha : 0 ≤ a ∧ a ≤ 1) (ho : o = 0) : iI (a + 2 * o) ||| iI 2 = iI (a + 2 * 1) := by
  subst ho
  rcases (by omega : a = 0 ∨ a = 1) with rfl | rfl <;> decide
theorem lI_nat {x : Int} (h0 : 0 ≤ x) (h : lR x) : ((lI x).toBitVec.toNat : Int) = x := by
  have e : (lI x).toBitVec.toInt = x := lI_toInt h
  have hb := (lI x).toBitVec.isLt
  rw [BitVec.toInt_eq_toNat_cond] at e
  split at e <;> omega
theorem lI_and31 {x : Int} (h0 : 0 ≤ x) (h : lR x) : lI x &&& lI 2147483647 = lI (x % 2147483648) := by
  have e1 := lI_nat h0 h
  have e2 : (lI x &&& lI 2147483647).toBitVec.toNat = (lI x).toBitVec.toNat % 2147483648 := by
    rw [Int64.toBitVec_and, BitVec.toNat_and, show (lI 2147483647).toBitVec.toNat = 2 ^ 31 - 1 by decide, Nat.and_two_pow_sub_one_eq_mod]
  apply Int64.toInt_inj.mp
  rw [lI_toInt ⟨by omega, by omega⟩]
  show (lI x &&& lI 2147483647).toBitVec.toInt = _
  rw [BitVec.toInt_eq_toNat_cond, e2, if_pos (by omega)]
  omega
theorem lI_shr16 {x : Int} (h0 : 0 ≤ x) (h : lR x) : lI x >>> ((iI 16).toInt64 &&& 63) = lI (x / 65536) := by
  apply Int64.toInt_inj.mp
  rw [lI_toInt ⟨by omega, by omega⟩]
  have hn : ((((iI 16).toInt64 &&& 63 : Int64)).toBitVec.smod 64).toNat = 16 := by decide
  have e : (lI x >>> ((iI 16).toInt64 &&& 63)).toInt = ((lI x).toBitVec.sshiftRight' (((iI 16).toInt64 &&& 63 : Int64).toBitVec.smod 64)).toInt := rfl
  rw [e, BitVec.toInt_sshiftRight', hn, Int.shiftRight_eq_div_pow]
  have e3 : (lI x).toBitVec.toInt = x := lI_toInt h
  rw [e3]
  rfl
theorem jj_ishrX (C0 : jj_C p s m args meth c D cl A nL cc own Ts tys EV) {z k : Int} (hdg : decode cc pc = .ok (.ishr, 1)) (kk : jj_W p l e R s m args below meth c D cl A nL cells slots Q (pc + 1) lv (.int (iI (f_sr z k)) :: rest) ws) : jj_W p l e R s m args below meth c D cl A nL cells slots Q (pc) lv (.int (iI k) :: .int (iI z) :: rest) ws :=
  fun H locs ls hP hD hS hl => lv_ishr C0.1 C0.2.1 hdg (by have e := kk H locs ls hP hD hS hl; unfold f_sr at e; rw [iI_of] at e; exact e)
theorem jj_iandX (C0 : jj_C p s m args meth c D cl A nL cc own Ts tys EV) {z k : Int} (hdg : decode cc pc = .ok (.iand, 1)) (kk : jj_W p l e R s m args below meth c D cl A nL cells slots Q (pc + 1) lv (.int (iI (f_an z k)) :: rest) ws) : jj_W p l e R s m args below meth c D cl A nL cells slots Q (pc) lv (.int (iI k) :: .int (iI z) :: rest) ws :=
  fun H locs ls hP hD hS hl => lv_iand C0.1 C0.2.1 hdg (by have e := kk H locs ls hP hD hS hl; unfold f_an at e; rw [iI_of] at e; exact e)
theorem jj_iushr1 (C0 : jj_C p s m args meth c D cl A nL cc own Ts tys EV) {z : Int} (hdg : decode cc pc = .ok (.iushr, 1)) (kk : jj_W p l e R s m args below meth c D cl A nL cells slots Q (pc + 1) lv (.int (iI (f_us z)) :: rest) ws) : jj_W p l e R s m args below meth c D cl A nL cells slots Q (pc) lv (.int (iI 1) :: .int (iI z) :: rest) ws :=
  fun H locs ls hP hD hS hl => lv_iushr C0.1 C0.2.1 hdg rfl (by have e := kk H locs ls hP hD hS hl; unfold f_us at e; rw [iI_of] at e; exact e)
theorem jj_irem (C0 : jj_C p s m args meth c D cl A nL cc own Ts tys EV) {a b : Int} (ha : 0 ≤ a) (hra : iR a) (hb : 0 < b) (hrb : iR b) (hdg : decode cc pc = .ok (.irem, 1)) (kk : jj_W p l e R s m args below meth c D cl A nL cells slots Q (pc + 1) lv (.int (iI (a % b)) :: rest) ws) : jj_W p l e R s m args below meth c D cl A nL cells slots Q (pc) lv (.int (iI b) :: .int (iI a) :: rest) ws :=
  fun H locs ls hP hD hS hl => lv_irem C0.1 C0.2.1 hdg (iI_ne0 hb hrb) (by rw [iI_mod ha hra hb hrb]; exact kk H locs ls hP hD hS hl)
theorem jj_ishrN (C0 : jj_C p s m args meth c D cl A nL cc own Ts tys EV) {w d : Nat} (hw9 : w < 128) (hd9 : d < 7) (hdg : decode cc pc = .ok (.ishr, 1)) (kk : jj_W p l e R s m args below meth c D cl A nL cells slots Q (pc + 1) lv (.int (iI ((w / 2 ^ d : Nat) : Int)) :: rest) ws) : jj_W p l e R s m args below meth c D cl A nL cells slots Q (pc) lv (.int (iI (d : Int)) :: .int (iI (w : Int)) :: rest) ws :=
  fun H locs ls hP hD hS hl => lv_ishr C0.1 C0.2.1 hdg (by rw [iI_shrN w hw9 d hd9]; exact kk H locs ls hP hD hS hl)
theorem jj_iandN1 (C0 : jj_C p s m args meth c D cl A nL cc own Ts tys EV) {w : Nat} (hw9 : w < 128) (hdg : decode cc pc = .ok (.iand, 1)) (kk : jj_W p l e R s m args below meth c D cl A nL cells slots Q (pc + 1) lv (.int (iI ((w % 2 : Nat) : Int)) :: rest) ws) : jj_W p l e R s m args below meth c D cl A nL cells slots Q (pc) lv (.int (iI 1) :: .int (iI (w : Int)) :: rest) ws :=
  fun H locs ls hP hD hS hl => lv_iand C0.1 C0.2.1 hdg (by rw [iI_and1 w hw9]; exact kk H locs ls hP hD hS hl)
theorem jj_ishlN (C0 : jj_C p s m args meth c D cl A nL cc own Ts tys EV) {d : Nat} (hd9 : d < 7) (hdg : decode cc pc = .ok (.ishl, 1)) (kk : jj_W p l e R s m args below meth c D cl A nL cells slots Q (pc + 1) lv (.int (iI ((2 ^ d : Nat) : Int)) :: rest) ws) : jj_W p l e R s m args below meth c D cl A nL cells slots Q (pc) lv (.int (iI (d : Int)) :: .int (iI 1) :: rest) ws :=
  fun H locs ls hP hD hS hl => lv_ishl C0.1 C0.2.1 hdg (by rw [iI_shlN d hd9]; exact kk H locs ls hP hD hS hl)
theorem jj_iandA (C0 : jj_C p s m args meth c D cl A nL cc own Ts tys EV) {a o : Int} (ha : 0 ≤ a ∧ a ≤ 1) (ho : 0 ≤ o ∧ o ≤ 1) (hdg : decode cc pc = .ok (.iand, 1)) (kk : jj_W p l e R s m args below meth c D cl A nL cells slots Q (pc + 1) lv (.int (iI a) :: rest) ws) : jj_W p l e R s m args below meth c D cl A nL cells slots Q (pc) lv (.int (iI 1) :: .int (iI (a + 2 * o)) :: rest) ws :=
  fun H locs ls hP hD hS hl => lv_iand C0.1 C0.2.1 hdg (by rw [iI_am ha ho]; exact kk H locs ls hP hD hS hl)
theorem jj_iorA (C0 : jj_C p s m args meth c D cl A nL cc own Ts tys EV) {a o : Int} (ha : 0 ≤ a ∧ a ≤ 1) (ho : o = 0) (hdg : decode cc pc = .ok (.ior, 1)) (kk : jj_W p l e R s m args below meth c D cl A nL cells slots Q (pc + 1) lv (.int (iI (a + 2 * 1)) :: rest) ws) : jj_W p l e R s m args below meth c D cl A nL cells slots Q (pc) lv (.int (iI 2) :: .int (iI (a + 2 * o)) :: rest) ws :=
  fun H locs ls hP hD hS hl => lv_ior C0.1 C0.2.1 hdg (by rw [iI_ao ha ho]; exact kk H locs ls hP hD hS hl)
theorem jj_iorB (C0 : jj_C p s m args meth c D cl A nL cc own Ts tys EV) {w d : Nat} (hw9 : w < 128) (hd9 : d < 7) (hdg : decode cc pc = .ok (.ior, 1)) (kk : jj_W p l e R s m args below meth c D cl A nL cells slots Q (pc + 1) lv (.int (iI ((w + (1 - w / 2 ^ d % 2) * 2 ^ d : Nat) : Int)) :: rest) ws) : jj_W p l e R s m args below meth c D cl A nL cells slots Q (pc) lv (.int (iI ((2 ^ d : Nat) : Int)) :: .int (iI (w : Int)) :: rest) ws :=
  fun H locs ls hP hD hS hl => lv_ior C0.1 C0.2.1 hdg (by rw [iI_orb w hw9 d hd9]; exact kk H locs ls hP hD hS hl)
theorem jj_nandB (C0 : jj_C p s m args meth c D cl A nL cc own Ts tys EV) {w d : Nat} (hw9 : w < 128) (hd9 : d < 7) (d0 : decode cc pc = .ok (.iconst (-1), 1)) (d1 : decode cc (pc + 1) = .ok (.ixor, 1)) (d2 : decode cc (pc + 2) = .ok (.iand, 1)) (kk : jj_W p l e R s m args below meth c D cl A nL cells slots Q (pc + 3) lv (.int (iI ((w - w / 2 ^ d % 2 * 2 ^ d : Nat) : Int)) :: rest) ws) : jj_W p l e R s m args below meth c D cl A nL cells slots Q (pc) lv (.int (iI ((2 ^ d : Nat) : Int)) :: .int (iI (w : Int)) :: rest) ws :=
  fun H locs ls hP hD hS hl => lv_iconst C0.1 C0.2.1 d0 rfl (lv_ixor C0.1 C0.2.1 d1 (lv_iand C0.1 C0.2.1 d2 (by have e : iI (w : Int) &&& (iI ((2 ^ d : Nat) : Int) ^^^ Int32.ofInt (-1)) = _ := iI_andb w hw9 d hd9; rw [e]; exact kk H locs ls hP hD hS hl)))
theorem jj_land31 (C0 : jj_C p s m args meth c D cl A nL cc own Ts tys EV) {x : Int} (h0 : 0 ≤ x) (h : lR x) (hdg : decode cc pc = .ok (.land, 1)) (kk : jj_W p l e R s m args below meth c D cl A nL cells slots Q (pc + 1) lv (.long (lI (x % 2147483648)) :: rest) ws) : jj_W p l e R s m args below meth c D cl A nL cells slots Q (pc) lv (.long (lI 2147483647) :: .long (lI x) :: rest) ws :=
  fun H locs ls hP hD hS hl => lv_land C0.1 C0.2.1 hdg (by rw [lI_and31 h0 h]; exact kk H locs ls hP hD hS hl)
theorem jj_lshr16 (C0 : jj_C p s m args meth c D cl A nL cc own Ts tys EV) {x : Int} (h0 : 0 ≤ x) (h : lR x) (hdg : decode cc pc = .ok (.lshr, 1)) (kk : jj_W p l e R s m args below meth c D cl A nL cells slots Q (pc + 1) lv (.long (lI (x / 65536)) :: rest) ws) : jj_W p l e R s m args below meth c D cl A nL cells slots Q (pc) lv (.int (iI 16) :: .long (lI x) :: rest) ws :=
  fun H locs ls hP hD hS hl => lv_lshr C0.1 C0.2.1 hdg (lI_shr16 h0 h) (kk H locs ls hP hD hS hl)
theorem jj_wd {cells' slots' : Nat} {st : List Value} (h1 : cells ≤ cells') (h2 : slots ≤ slots') (kk : jj_W p l e R s m args below meth c D cl A nL cells' slots' Q (pc) lv (st) ws) : jj_W p l e R s m args below meth c D cl A nL cells slots Q (pc) lv (st) ws :=
  fun H locs ls hP hD hS hl => W.widen h1 h2 (kk H locs ls hP hD hS hl)
end P1a
/-- a loop that makes objects -/
theorem jj_indC {p : Program} {l : Launch} {e : Env} {R : Room} {s : State} {m : MethodId} {args : Array Value} {below : List Frame} {meth : Method} {c : Code} {D : va_G} {cl : List vw_C} {A : Nat → Prop} {nL : Nat} {Q : State → Prop} {pc : Nat} {X : Type} (meas : X → Nat) (cf sf : X → Nat) (lvf : X → List (Nat × Value)) (stf : X → List Value) (wsf : X → va_W) (I : X → Prop)
    (step : ∀ x, I x → (∀ y, I y → meas y < meas x → jj_W p l e R s m args below meth c D cl A nL (cf y) (sf y) Q pc (lvf y) (stf y) (wsf y)) → jj_W p l e R s m args below meth c D cl A nL (cf x) (sf x) Q pc (lvf x) (stf x) (wsf x)) (x0 : X) (h0 : I x0) : jj_W p l e R s m args below meth c D cl A nL (cf x0) (sf x0) Q pc (lvf x0) (stf x0) (wsf x0) := by
  have key : ∀ n x, meas x < n → I x → jj_W p l e R s m args below meth c D cl A nL (cf x) (sf x) Q pc (lvf x) (stf x) (wsf x) := by
    intro n
    induction n with
    | zero => intro x h; exact absurd h (Nat.not_lt_zero _)
    | succ n ih => intro x h hI; exact step x hI (fun y hy hm => ih y (by omega) hy)
  exact key _ x0 (Nat.lt_succ_self _) h0
section P1b
variable {p : Program} {l : Launch} {e : Env} {R : Room} {s : State} {m : MethodId} {args : Array Value} {below : List Frame} {meth : Method} {c : Code} {D : va_G} {cl : List vw_C} {A : Nat → Prop} {nL cells slots : Nat} {Q : State → Prop} {cc : ByteArray} {pc : Nat} {rest : List Value} {lv : List (Nat × Value)} {ws X E : va_W} {own : String} {Ts : List Cond} {tys : List (ClassId × FieldType)} {EV : (Nat → Prop) → State → Heap → Prop}
theorem jj_callSWl (C0 : jj_C p s m args meth c D cl A nL cc own Ts tys EV) {hh : List (Nat × Nat × Nat × Nat)} {y : MethodName} {bytes : ByteArray} {maxL n index cells' slots' : Nat} {ret : Option FieldType} {wsl : List Cond} {rm : Room} {As st : List Value} {S : Type} {val : S → Int} {post : S → Prop} {ws' : S → va_W} (hM : jj_Ml EV D cl tys l y wsl rm As ws val post ws') (cw : vx_CSW R s args own index y bytes maxL ret hh wsl rm rm.cells rm.slots n) (hst : st = As.reverse ++ rest) (hn : As.length = n) (hroom : (rest.map fun v => v.category).sum ≤ 8) (hf : cells + rm.cells ≤ R.cells ∧ slots + rm.slots ≤ R.slots) (hcs1 : cells + rm.cells = cells') (hcs2 : slots + rm.slots = slots') (hdg : decode cc pc = .ok (.invokestatic index, 3)) (kk : ∀ u : S, post u → jj_W p l e R s m args below meth c D cl A nL cells' slots' Q (pc + 3) lv (.long (lI (val u)) :: rest) (ws' u)) : jj_W p l e R s m args below meth c D cl A nL (cells) (slots) Q (pc) lv (st) ws := by
  intro H locs ls hP hD hS hl
  obtain ⟨hF, hB0⟩ := jj_pre C0 hP hD hS
  exact va_calll (vx_runSW (As := As) (rest := rest) ⟨C0.1, C0.2.1, C0.2.2.1, C0.2.2.2.1, C0.2.2.2.2.1⟩ (hM H.size) cw ⟨jj_blind _ C0.2.2.2.2.2.2.2.2.1, fun U hU hW => ⟨rfl, hB0 U hU hW⟩⟩ rfl hn hl.1 hst (lv_room hroom) hdg hf) hS (fun q _ h => hF q h) hF (fun r u t H1 locs1 ht hvm hw hB hz hk hS1 => by
    obtain ⟨rfl, hp⟩ := hw
    obtain ⟨hP1, hK1, hD1⟩ := hB
    rw [ht] at hP1
    subst hcs1 hcs2
    exact kk u hp H1 locs1 ls hP1 (hD1.weaken (fun k q _ h => hF q.1 h)) hS1 hl)
end P1b
/-! the law's own rows: its contracts, lots, notices, quotes, numbers, dividends, money -/
def f_lk (K St Ex Am Ov : Nat → Int) : Nat → Int := fun j => if j < 6 then K j else if j < 12 then St (j - 6) else if j < 18 then Ex (j - 12) else Am (j - 18) + 2 * Ov (j - 18)
def f_lh (He : Nat → Int) : Nat → Int := fun j => if j % 10 < 7 then He (7 * (j / 10) + j % 10) else 0
def f_ln (Co : Nat → Int) : Nat → Int := fun c => Co (7 * c) + 2 * Co (7 * c + 1) + 4 * Co (7 * c + 2) + 8 * Co (7 * c + 3) + 16 * Co (7 * c + 4) + 32 * Co (7 * c + 5) + 64 * Co (7 * c + 6)
def f_lq (Bi As BL AL : Nat → Int) : Nat → Int := fun j => if j < 6 then Bi j else if j < 12 then As (j - 6) else if j < 18 then BL (j - 12) else AL (j - 18)
def f_lg (td : Nat) (pr up dn mo sh co : Int) (n : Nat) : Nat → Int := fun j => if j = 0 then (td : Int) else if j = 1 then pr else if j = 2 then up else if j = 3 then dn else if j = 4 then mo else if j = 5 then sh else if j = 6 then co else if j = 7 then (n : Int) else 0
def f_lm (Ca : Nat → Int) (sd : Int) (Cz : Nat → Int) : Nat → Int := fun j => if j < 7 then Ca j else if j = 7 then sd else Cz (j - 8)
section P1c
variable {K St Ex Am Ov Bi As BL AL He Co Ca Cz : Nat → Int} {td n : Nat} {pr up dn mo sh co sd : Int} {c i : Nat} {v : Int}
theorem f_lk_K (hc : c < 6) : f_lk K St Ex Am Ov c = K c := by
  unfold f_lk
  rw [if_pos hc]
theorem f_lk_St (hc : c < 6) : f_lk K St Ex Am Ov (6 + c) = St c := by
  unfold f_lk
  rw [if_neg (by omega), if_pos (by omega), Nat.add_sub_cancel_left]
theorem f_lk_Ex (hc : c < 6) : f_lk K St Ex Am Ov (12 + c) = Ex c := by
  unfold f_lk
  rw [if_neg (by omega), if_neg (by omega), if_pos (by omega), Nat.add_sub_cancel_left]
theorem f_lk_A  : f_lk K St Ex Am Ov (18 + c) = Am c + 2 * Ov c := by
  unfold f_lk
  rw [if_neg (by omega), if_neg (by omega), if_neg (by omega), Nat.add_sub_cancel_left]
theorem f_lq_Bi (hc : c < 6) : f_lq Bi As BL AL c = Bi c := by
  unfold f_lq
  rw [if_pos hc]
theorem f_lq_As (hc : c < 6) : f_lq Bi As BL AL (6 + c) = As c := by
  unfold f_lq
  rw [if_neg (by omega), if_pos (by omega), Nat.add_sub_cancel_left]
theorem f_lq_BL (hc : c < 6) : f_lq Bi As BL AL (12 + c) = BL c := by
  unfold f_lq
  rw [if_neg (by omega), if_neg (by omega), if_pos (by omega), Nat.add_sub_cancel_left]
theorem f_lq_AL  : f_lq Bi As BL AL (18 + c) = AL c := by
  unfold f_lq
  rw [if_neg (by omega), if_neg (by omega), if_neg (by omega), Nat.add_sub_cancel_left]
theorem f_lq_w {k : Nat} (hk : k < 4) (hc : c < 6) : f_lq Bi As BL AL (6 * k + c) = if (k : Int) = 0 then Bi c else if (k : Int) = 1 then As c else if (k : Int) = 2 then BL c else AL c := by
  rcases (by omega : k = 0 ∨ k = 1 ∨ k = 2 ∨ k = 3) with rfl | rfl | rfl | rfl
  · rw [if_pos (by omega), show 6 * 0 + c = c by omega]; exact f_lq_Bi hc
  · rw [if_neg (by omega), if_pos (by omega)]; exact f_lq_As hc
  · rw [if_neg (by omega), if_neg (by omega), if_pos (by omega)]; exact f_lq_BL hc
  · rw [if_neg (by omega), if_neg (by omega), if_neg (by omega)]; exact f_lq_AL
theorem f_lh_at (hi : i < 7) : f_lh He (10 * c + i) = He (7 * c + i) := by
  unfold f_lh
  rw [if_pos (by omega), show (10 * c + i) / 10 = c by omega, show (10 * c + i) % 10 = i by omega]
theorem f_lh_up (hi : i < 7) : va_up (f_lh He) (10 * c + i) v = f_lh (va_up He (7 * c + i) v) := by
  funext j
  simp only [va_up, f_lh]
  by_cases e : j = 10 * c + i
  · subst e
    rw [if_pos rfl, if_pos (by omega), if_pos (by omega)]
  · rw [if_neg e]
    by_cases g : j % 10 < 7
    · rw [if_pos g, if_pos g, if_neg (by omega)]
    · rw [if_neg g, if_neg g]
theorem f_lm_Ca (hi : i < 7) : f_lm Ca sd Cz i = Ca i := by unfold f_lm; rw [if_pos hi]
theorem f_lm_sd : f_lm Ca sd Cz 7 = sd := rfl
theorem f_lm_Cz : f_lm Ca sd Cz (8 + i) = Cz i := by unfold f_lm; rw [if_neg (by omega), if_neg (by omega), Nat.add_sub_cancel_left]
theorem f_ln_bd (hCo : ∀ j, 0 ≤ Co j ∧ Co j ≤ 1) : 0 ≤ f_ln Co c ∧ f_ln Co c < 128 := by
  have h0 := hCo (7 * c)
  have h1 := hCo (7 * c + 1)
  have h2 := hCo (7 * c + 2)
  have h3 := hCo (7 * c + 3)
  have h4 := hCo (7 * c + 4)
  have h5 := hCo (7 * c + 5)
  have h6 := hCo (7 * c + 6)
  unfold f_ln
  omega
theorem f_ln_bit (hCo : ∀ j, 0 ≤ Co j ∧ Co j ≤ 1) (hi : i < 7) : (((f_ln Co c).toNat / 2 ^ i % 2 : Nat) : Int) = Co (7 * c + i) := by
  have h0 := hCo (7 * c)
  have h1 := hCo (7 * c + 1)
  have h2 := hCo (7 * c + 2)
  have h3 := hCo (7 * c + 3)
  have h4 := hCo (7 * c + 4)
  have h5 := hCo (7 * c + 5)
  have h6 := hCo (7 * c + 6)
  unfold f_ln
  rcases (by omega : i = 0 ∨ i = 1 ∨ i = 2 ∨ i = 3 ∨ i = 4 ∨ i = 5 ∨ i = 6) with rfl | rfl | rfl | rfl | rfl | rfl | rfl
  · show _ = Co (7 * c); omega
  all_goals omega
theorem f_ln_up (hCo : ∀ j, 0 ≤ Co j ∧ Co j ≤ 1) (hi : i < 7) : va_up (f_ln Co) c (f_ln Co c + (v - Co (7 * c + i)) * 2 ^ i) = f_ln (va_up Co (7 * c + i) v) := by
  funext j
  simp only [va_up, f_ln]
  by_cases e : j = c
  · subst e
    rw [if_pos rfl]
    rcases (by omega : i = 0 ∨ i = 1 ∨ i = 2 ∨ i = 3 ∨ i = 4 ∨ i = 5 ∨ i = 6) with rfl | rfl | rfl | rfl | rfl | rfl | rfl <;> simp <;> omega
  · rw [if_neg e]
    rw [if_neg (show ¬ 7 * j = 7 * c + i by omega), if_neg (show ¬ 7 * j + 1 = 7 * c + i by omega), if_neg (show ¬ 7 * j + 2 = 7 * c + i by omega), if_neg (show ¬ 7 * j + 3 = 7 * c + i by omega), if_neg (show ¬ 7 * j + 4 = 7 * c + i by omega), if_neg (show ¬ 7 * j + 5 = 7 * c + i by omega), if_neg (show ¬ 7 * j + 6 = 7 * c + i by omega)]
theorem f_lk_upK (hc : c < 6) : va_up (f_lk K St Ex Am Ov) c v = f_lk (va_up K c v) St Ex Am Ov := (funext fun j => by simp only [va_up, f_lk]; (repeat' split) <;> first | rfl | omega | (congr 1; omega))
theorem f_lk_upSt (hc : c < 6) : va_up (f_lk K St Ex Am Ov) (6 + c) v = f_lk K (va_up St c v) Ex Am Ov := (funext fun j => by simp only [va_up, f_lk]; (repeat' split) <;> first | rfl | omega | (congr 1; omega))
theorem f_lk_upEx (hc : c < 6) : va_up (f_lk K St Ex Am Ov) (12 + c) v = f_lk K St (va_up Ex c v) Am Ov := (funext fun j => by simp only [va_up, f_lk]; (repeat' split) <;> first | rfl | omega | (congr 1; omega))
theorem f_lk_upAm (ho : Ov c = 0) : va_up (f_lk K St Ex Am Ov) (18 + c) v = f_lk K St Ex (va_up Am c v) Ov := funext fun j => by
  simp only [va_up, f_lk]
  by_cases e : j = 18 + c
  · subst e
    rw [if_pos rfl, if_neg (by omega), if_neg (by omega), if_neg (by omega), if_pos (by omega), show 18 + c - 18 = c by omega, ho]
    omega
  · rw [if_neg e]
    (repeat' split) <;> first | rfl | omega
theorem f_lk_upOv : va_up (f_lk K St Ex Am Ov) (18 + c) (Am c + 2 * v) = f_lk K St Ex Am (va_up Ov c v) := funext fun j => by
  simp only [va_up, f_lk]
  by_cases e : j = 18 + c
  · subst e
    rw [if_pos rfl, if_neg (by omega), if_neg (by omega), if_neg (by omega), if_pos (by omega), show 18 + c - 18 = c by omega]
  · rw [if_neg e]
    (repeat' split) <;> first | rfl | omega
theorem f_lq_upBi (hc : c < 6) : va_up (f_lq Bi As BL AL) c v = f_lq (va_up Bi c v) As BL AL := (funext fun j => by simp only [va_up, f_lq]; (repeat' split) <;> first | rfl | omega | (congr 1; omega))
theorem f_lq_upAs (hc : c < 6) : va_up (f_lq Bi As BL AL) (6 + c) v = f_lq Bi (va_up As c v) BL AL := (funext fun j => by simp only [va_up, f_lq]; (repeat' split) <;> first | rfl | omega | (congr 1; omega))
theorem f_lq_upBL (hc : c < 6) : va_up (f_lq Bi As BL AL) (12 + c) v = f_lq Bi As (va_up BL c v) AL := (funext fun j => by simp only [va_up, f_lq]; (repeat' split) <;> first | rfl | omega | (congr 1; omega))
theorem f_lq_upAL  : va_up (f_lq Bi As BL AL) (18 + c) v = f_lq Bi As BL (va_up AL c v) := (funext fun j => by simp only [va_up, f_lq]; (repeat' split) <;> first | rfl | omega | (congr 1; omega))
theorem f_lg_uptd : va_up (f_lg td pr up dn mo sh co n) 0 ((i : Nat) : Int) = f_lg i pr up dn mo sh co n := (funext fun j => by simp only [va_up, f_lg]; (repeat' split) <;> first | rfl | omega | (congr 1; omega))
theorem f_lg_uppr : va_up (f_lg td pr up dn mo sh co n) 1 v = f_lg td v up dn mo sh co n := (funext fun j => by simp only [va_up, f_lg]; (repeat' split) <;> first | rfl | omega | (congr 1; omega))
theorem f_lg_upup : va_up (f_lg td pr up dn mo sh co n) 2 v = f_lg td pr v dn mo sh co n := (funext fun j => by simp only [va_up, f_lg]; (repeat' split) <;> first | rfl | omega | (congr 1; omega))
theorem f_lg_updn : va_up (f_lg td pr up dn mo sh co n) 3 v = f_lg td pr up v mo sh co n := (funext fun j => by simp only [va_up, f_lg]; (repeat' split) <;> first | rfl | omega | (congr 1; omega))
theorem f_lg_upmo : va_up (f_lg td pr up dn mo sh co n) 4 v = f_lg td pr up dn v sh co n := (funext fun j => by simp only [va_up, f_lg]; (repeat' split) <;> first | rfl | omega | (congr 1; omega))
theorem f_lg_upsh : va_up (f_lg td pr up dn mo sh co n) 5 v = f_lg td pr up dn mo v co n := (funext fun j => by simp only [va_up, f_lg]; (repeat' split) <;> first | rfl | omega | (congr 1; omega))
theorem f_lg_upco : va_up (f_lg td pr up dn mo sh co n) 6 v = f_lg td pr up dn mo sh v n := (funext fun j => by simp only [va_up, f_lg]; (repeat' split) <;> first | rfl | omega | (congr 1; omega))
theorem f_lg_upn : va_up (f_lg td pr up dn mo sh co n) 7 ((i : Nat) : Int) = f_lg td pr up dn mo sh co i := (funext fun j => by simp only [va_up, f_lg]; (repeat' split) <;> first | rfl | omega | (congr 1; omega))
theorem f_lm_upCa (hi : i < 7) : va_up (f_lm Ca sd Cz) i v = f_lm (va_up Ca i v) sd Cz := (funext fun j => by simp only [va_up, f_lm]; (repeat' split) <;> first | rfl | omega | (congr 1; omega))
theorem f_lm_upsd : va_up (f_lm Ca sd Cz) 7 v = f_lm Ca v Cz := (funext fun j => by simp only [va_up, f_lm]; (repeat' split) <;> first | rfl | omega | (congr 1; omega))
theorem f_lm_upCz : va_up (f_lm Ca sd Cz) (8 + i) v = f_lm Ca sd (va_up Cz i v) := (funext fun j => by simp only [va_up, f_lm]; (repeat' split) <;> first | rfl | omega | (congr 1; omega))
end P1c
def wL (ka : Nat → Nat) (cI cJ : ClassId) (td : Nat) (pr up dn mo sh co : Int) (n : Nat) (K St Ex Am Ov Bi As BL AL He Co dv Ca : Nat → Int) (sd : Int) (Cz : Nat → Int) : va_W := [(ka 0, .inl (cI, 24, .inl (iA (f_lk K St Ex Am Ov)))), (ka 1, .inl (cI, 60, .inl (iA (f_lh He)))), (ka 2, .inl (cI, 6, .inl (iA (f_ln Co)))), (ka 3, .inl (cI, 24, .inl (iA (f_lq Bi As BL AL)))), (ka 4, .inl (cI, 8, .inl (iA (f_lg td pr up dn mo sh co n)))), (ka 5, .inl (cI, 60, .inl (iA dv))), (ka 6, .inl (cJ, 14, .inr (.inl (lA (f_lm Ca sd Cz)))))]
section P1d
variable {ka : Nat → Nat} {cI cJ : ClassId} {td : Nat} {pr up dn mo sh co : Int} {n : Nat} {K St Ex Am Ov Bi As BL AL He Co dv Ca : Nat → Int} {sd : Int} {Cz : Nat → Int} {EE : va_W} {c i : Nat} {v : Int}
theorem wL_K (hc : c < 6) : (wL ka cI cJ td pr up dn mo sh co n K St Ex Am Ov Bi As BL AL He Co dv Ca sd Cz ++ EE).set 0 (ka 0, .inl (cI, 24, .inl (iA (va_up (f_lk K St Ex Am Ov) c v)))) = wL ka cI cJ td pr up dn mo sh co n (va_up K c v) St Ex Am Ov Bi As BL AL He Co dv Ca sd Cz ++ EE := by
  rw [f_lk_upK hc]
  rfl
theorem wL_St (hc : c < 6) : (wL ka cI cJ td pr up dn mo sh co n K St Ex Am Ov Bi As BL AL He Co dv Ca sd Cz ++ EE).set 0 (ka 0, .inl (cI, 24, .inl (iA (va_up (f_lk K St Ex Am Ov) (6 + c) v)))) = wL ka cI cJ td pr up dn mo sh co n K (va_up St c v) Ex Am Ov Bi As BL AL He Co dv Ca sd Cz ++ EE := by
  rw [f_lk_upSt hc]
  rfl
theorem wL_Ex (hc : c < 6) : (wL ka cI cJ td pr up dn mo sh co n K St Ex Am Ov Bi As BL AL He Co dv Ca sd Cz ++ EE).set 0 (ka 0, .inl (cI, 24, .inl (iA (va_up (f_lk K St Ex Am Ov) (12 + c) v)))) = wL ka cI cJ td pr up dn mo sh co n K St (va_up Ex c v) Am Ov Bi As BL AL He Co dv Ca sd Cz ++ EE := by
  rw [f_lk_upEx hc]
  rfl
theorem wL_Am (ho : Ov c = 0) : (wL ka cI cJ td pr up dn mo sh co n K St Ex Am Ov Bi As BL AL He Co dv Ca sd Cz ++ EE).set 0 (ka 0, .inl (cI, 24, .inl (iA (va_up (f_lk K St Ex Am Ov) (18 + c) v)))) = wL ka cI cJ td pr up dn mo sh co n K St Ex (va_up Am c v) Ov Bi As BL AL He Co dv Ca sd Cz ++ EE := by
  rw [f_lk_upAm ho]
  rfl
theorem wL_Ov  : (wL ka cI cJ td pr up dn mo sh co n K St Ex Am Ov Bi As BL AL He Co dv Ca sd Cz ++ EE).set 0 (ka 0, .inl (cI, 24, .inl (iA (va_up (f_lk K St Ex Am Ov) (18 + c) (Am c + 2 * v))))) = wL ka cI cJ td pr up dn mo sh co n K St Ex Am (va_up Ov c v) Bi As BL AL He Co dv Ca sd Cz ++ EE := by
  rw [f_lk_upOv]
  rfl
theorem wL_He (hi : i < 7) : (wL ka cI cJ td pr up dn mo sh co n K St Ex Am Ov Bi As BL AL He Co dv Ca sd Cz ++ EE).set 1 (ka 1, .inl (cI, 60, .inl (iA (va_up (f_lh He) (10 * c + i) v)))) = wL ka cI cJ td pr up dn mo sh co n K St Ex Am Ov Bi As BL AL (va_up He (7 * c + i) v) Co dv Ca sd Cz ++ EE := by
  rw [f_lh_up hi]
  rfl
theorem wL_Co (hCo : ∀ j, 0 ≤ Co j ∧ Co j ≤ 1) (hi : i < 7) : (wL ka cI cJ td pr up dn mo sh co n K St Ex Am Ov Bi As BL AL He Co dv Ca sd Cz ++ EE).set 2 (ka 2, .inl (cI, 6, .inl (iA (va_up (f_ln Co) c (f_ln Co c + (v - Co (7 * c + i)) * 2 ^ i))))) = wL ka cI cJ td pr up dn mo sh co n K St Ex Am Ov Bi As BL AL He (va_up Co (7 * c + i) v) dv Ca sd Cz ++ EE := by
  rw [f_ln_up hCo hi]
  rfl
theorem wL_Bi (hc : c < 6) : (wL ka cI cJ td pr up dn mo sh co n K St Ex Am Ov Bi As BL AL He Co dv Ca sd Cz ++ EE).set 3 (ka 3, .inl (cI, 24, .inl (iA (va_up (f_lq Bi As BL AL) c v)))) = wL ka cI cJ td pr up dn mo sh co n K St Ex Am Ov (va_up Bi c v) As BL AL He Co dv Ca sd Cz ++ EE := by
  rw [f_lq_upBi hc]
  rfl
theorem wL_As (hc : c < 6) : (wL ka cI cJ td pr up dn mo sh co n K St Ex Am Ov Bi As BL AL He Co dv Ca sd Cz ++ EE).set 3 (ka 3, .inl (cI, 24, .inl (iA (va_up (f_lq Bi As BL AL) (6 + c) v)))) = wL ka cI cJ td pr up dn mo sh co n K St Ex Am Ov Bi (va_up As c v) BL AL He Co dv Ca sd Cz ++ EE := by
  rw [f_lq_upAs hc]
  rfl
theorem wL_BL (hc : c < 6) : (wL ka cI cJ td pr up dn mo sh co n K St Ex Am Ov Bi As BL AL He Co dv Ca sd Cz ++ EE).set 3 (ka 3, .inl (cI, 24, .inl (iA (va_up (f_lq Bi As BL AL) (12 + c) v)))) = wL ka cI cJ td pr up dn mo sh co n K St Ex Am Ov Bi As (va_up BL c v) AL He Co dv Ca sd Cz ++ EE := by
  rw [f_lq_upBL hc]
  rfl
theorem wL_AL  : (wL ka cI cJ td pr up dn mo sh co n K St Ex Am Ov Bi As BL AL He Co dv Ca sd Cz ++ EE).set 3 (ka 3, .inl (cI, 24, .inl (iA (va_up (f_lq Bi As BL AL) (18 + c) v)))) = wL ka cI cJ td pr up dn mo sh co n K St Ex Am Ov Bi As BL (va_up AL c v) He Co dv Ca sd Cz ++ EE := by
  rw [f_lq_upAL]
  rfl
theorem wL_td  : (wL ka cI cJ td pr up dn mo sh co n K St Ex Am Ov Bi As BL AL He Co dv Ca sd Cz ++ EE).set 4 (ka 4, .inl (cI, 8, .inl (iA (va_up (f_lg td pr up dn mo sh co n) 0 ((i : Nat) : Int))))) = wL ka cI cJ i pr up dn mo sh co n K St Ex Am Ov Bi As BL AL He Co dv Ca sd Cz ++ EE := by
  rw [f_lg_uptd]
  rfl
theorem wL_pr  : (wL ka cI cJ td pr up dn mo sh co n K St Ex Am Ov Bi As BL AL He Co dv Ca sd Cz ++ EE).set 4 (ka 4, .inl (cI, 8, .inl (iA (va_up (f_lg td pr up dn mo sh co n) 1 v)))) = wL ka cI cJ td v up dn mo sh co n K St Ex Am Ov Bi As BL AL He Co dv Ca sd Cz ++ EE := by
  rw [f_lg_uppr]
  rfl
theorem wL_up  : (wL ka cI cJ td pr up dn mo sh co n K St Ex Am Ov Bi As BL AL He Co dv Ca sd Cz ++ EE).set 4 (ka 4, .inl (cI, 8, .inl (iA (va_up (f_lg td pr up dn mo sh co n) 2 v)))) = wL ka cI cJ td pr v dn mo sh co n K St Ex Am Ov Bi As BL AL He Co dv Ca sd Cz ++ EE := by
  rw [f_lg_upup]
  rfl
theorem wL_dn  : (wL ka cI cJ td pr up dn mo sh co n K St Ex Am Ov Bi As BL AL He Co dv Ca sd Cz ++ EE).set 4 (ka 4, .inl (cI, 8, .inl (iA (va_up (f_lg td pr up dn mo sh co n) 3 v)))) = wL ka cI cJ td pr up v mo sh co n K St Ex Am Ov Bi As BL AL He Co dv Ca sd Cz ++ EE := by
  rw [f_lg_updn]
  rfl
theorem wL_mo  : (wL ka cI cJ td pr up dn mo sh co n K St Ex Am Ov Bi As BL AL He Co dv Ca sd Cz ++ EE).set 4 (ka 4, .inl (cI, 8, .inl (iA (va_up (f_lg td pr up dn mo sh co n) 4 v)))) = wL ka cI cJ td pr up dn v sh co n K St Ex Am Ov Bi As BL AL He Co dv Ca sd Cz ++ EE := by
  rw [f_lg_upmo]
  rfl
theorem wL_sh  : (wL ka cI cJ td pr up dn mo sh co n K St Ex Am Ov Bi As BL AL He Co dv Ca sd Cz ++ EE).set 4 (ka 4, .inl (cI, 8, .inl (iA (va_up (f_lg td pr up dn mo sh co n) 5 v)))) = wL ka cI cJ td pr up dn mo v co n K St Ex Am Ov Bi As BL AL He Co dv Ca sd Cz ++ EE := by
  rw [f_lg_upsh]
  rfl
theorem wL_co  : (wL ka cI cJ td pr up dn mo sh co n K St Ex Am Ov Bi As BL AL He Co dv Ca sd Cz ++ EE).set 4 (ka 4, .inl (cI, 8, .inl (iA (va_up (f_lg td pr up dn mo sh co n) 6 v)))) = wL ka cI cJ td pr up dn mo sh v n K St Ex Am Ov Bi As BL AL He Co dv Ca sd Cz ++ EE := by
  rw [f_lg_upco]
  rfl
theorem wL_n  : (wL ka cI cJ td pr up dn mo sh co n K St Ex Am Ov Bi As BL AL He Co dv Ca sd Cz ++ EE).set 4 (ka 4, .inl (cI, 8, .inl (iA (va_up (f_lg td pr up dn mo sh co n) 7 ((i : Nat) : Int))))) = wL ka cI cJ td pr up dn mo sh co i K St Ex Am Ov Bi As BL AL He Co dv Ca sd Cz ++ EE := by
  rw [f_lg_upn]
  rfl
theorem wL_Ca (hi : i < 7) : (wL ka cI cJ td pr up dn mo sh co n K St Ex Am Ov Bi As BL AL He Co dv Ca sd Cz ++ EE).set 6 (ka 6, .inl (cJ, 14, .inr (.inl (lA (va_up (f_lm Ca sd Cz) i v))))) = wL ka cI cJ td pr up dn mo sh co n K St Ex Am Ov Bi As BL AL He Co dv (va_up Ca i v) sd Cz ++ EE := by
  rw [f_lm_upCa hi]
  rfl
theorem wL_sd  : (wL ka cI cJ td pr up dn mo sh co n K St Ex Am Ov Bi As BL AL He Co dv Ca sd Cz ++ EE).set 6 (ka 6, .inl (cJ, 14, .inr (.inl (lA (va_up (f_lm Ca sd Cz) 7 v))))) = wL ka cI cJ td pr up dn mo sh co n K St Ex Am Ov Bi As BL AL He Co dv Ca v Cz ++ EE := by
  rw [f_lm_upsd]
  rfl
theorem wL_Cz  : (wL ka cI cJ td pr up dn mo sh co n K St Ex Am Ov Bi As BL AL He Co dv Ca sd Cz ++ EE).set 6 (ka 6, .inl (cJ, 14, .inr (.inl (lA (va_up (f_lm Ca sd Cz) (8 + i) v))))) = wL ka cI cJ td pr up dn mo sh co n K St Ex Am Ov Bi As BL AL He Co dv Ca sd (va_up Cz i v) ++ EE := by
  rw [f_lm_upCz]
  rfl
theorem wL_dv {z : Int} : (wL ka cI cJ td pr up dn mo sh co n K St Ex Am Ov Bi As BL AL He Co dv Ca sd Cz ++ EE).set 5 (ka 5, .inl (cI, 60, .inl (iA (va_up dv i z)))) = wL ka cI cJ td pr up dn mo sh co n K St Ex Am Ov Bi As BL AL He Co (va_up dv i z) Ca sd Cz ++ EE := rfl
end P1d
section P1e
variable {p : Program} {l : Launch} {e : Env} {R : Room} {s : State} {m : MethodId} {args : Array Value} {below : List Frame} {meth : Method} {c : Code} {D : va_G} {cl : List vw_C} {A : Nat → Prop} {nL cells slots : Nat} {Q : State → Prop} {cc : ByteArray} {pc : Nat} {rest : List Value} {lv : List (Nat × Value)} {ws X E : va_W} {own : String} {Ts : List Cond} {tys : List (ClassId × FieldType)} {EV : (Nat → Prop) → State → Heap → Prop} {HH LL GG : va_W} {st : List Value}
theorem jj_toLw (kk : jj_W p l e R s m args below meth c D cl A nL cells slots Q pc lv st (LL ++ (HH ++ GG))) : jj_W p l e R s m args below meth c D cl A nL cells slots Q pc lv st (HH ++ (GG ++ LL)) := by
  refine jj_perm ?_ kk
  rw [← List.append_assoc]
  exact List.perm_append_comm
theorem jj_toHw (kk : jj_W p l e R s m args below meth c D cl A nL cells slots Q pc lv st (HH ++ (GG ++ LL))) : jj_W p l e R s m args below meth c D cl A nL cells slots Q pc lv st (LL ++ (HH ++ GG)) := by
  refine jj_perm ?_ kk
  rw [← List.append_assoc HH]
  exact List.perm_append_comm
end P1e
theorem f_ED_app {cA : Nat → Nat} {n ed : Nat} {cO : ClassId} {EE M : va_W} (h : f_ED cA n ed cO EE) : f_ED cA n ed cO (EE ++ M) := by
  obtain ⟨q, cap, fe, h1, h2⟩ := h
  refine ⟨q, cap, fe, ?_, h2⟩
  have hq : q < EE.length := by
    rcases Nat.lt_or_ge q EE.length with g | g
    · exact g
    · rw [List.getElem?_eq_none g] at h1; cases h1
  rw [List.getElem?_append_left hq]
  exact h1
/-- all that the law asks of the launch, and its script -/
def EVS (es mi : Nat) (sa : Nat → Nat) (b L : Nat) (xs : Nat → Int32) (A : Nat → Prop) (U : State) (H : Heap) : Prop := EVW es mi sa A U H ∧ va_X b L xs U H ∧ ¬ A b
theorem hEVS (es mi : Nat) (sa : Nat → Nat) (b L : Nat) (xs : Nat → Int32) : jj_EV (EVS es mi sa b L xs) := ⟨fun A U H H1 h hq => ⟨(hEVW es mi sa).1 A U H H1 h.1 hq, h.2.1.kept (by
    obtain ⟨scr, g1, -⟩ := h.2.1
    exact hq b (by
      rcases Nat.lt_or_ge b H.size with g | g
      · exact g
      · rw [Array.getElem?_eq_none g] at g1; cases g1) h.2.2), h.2.2⟩, fun A B U H h hq => ⟨(hEVW es mi sa).2.1 A B U H h.1 hq, h.2.1, fun q => h.2.2 (hq b q)⟩, fun A s U H hW h => ⟨(hEVW es mi sa).2.2.1 A s U H hW h.1, h.2.1.moved hW.alike, h.2.2⟩, fun A u U H hv h => ⟨(hEVW es mi sa).2.2.2 A u U H hv h.1, h.2.1.moved (by rw [hv]; exact Vm.Alike.refl U.vm), h.2.2⟩⟩
theorem EVS_h {es mi : Nat} {sa : Nat → Nat} {b L : Nat} {xs : Nat → Int32} {A : Nat → Prop} {U : State} {H : Heap} (h : EVS es mi sa b L xs A U H) : EVh A U H := EVW_h h.1
