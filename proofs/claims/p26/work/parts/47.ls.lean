/-- how many of the first d ways are up -/
def f_pop (w : Nat) : Nat → Nat
  | 0 => 0
  | d + 1 => f_pop w d + w / 2 ^ d % 2
theorem f_pop_le (w : Nat) : ∀ d, f_pop w d ≤ d
  | 0 => Nat.le_refl _
  | d + 1 => by
    have := f_pop_le w d
    simp only [f_pop]
    omega
theorem f_pop_2 : ∀ d, d < 5 → ∀ j, j < 2 ^ d → f_pop (j + 2 ^ d) (d + 1) = f_pop j d + 1 ∧ f_pop j (d + 1) = f_pop j d := by decide +kernel
theorem f_p2 {d : Nat} (h : d ≤ 5) : 2 ^ d ≤ 32 ∧ 1 ≤ 2 ^ d := by
  have h1 : ∀ q, q < 6 → 2 ^ q ≤ 32 ∧ 1 ≤ 2 ^ q := by decide
  exact h1 d (by omega)
theorem f_den5 {up dn : Int} {t : Nat} {ex : Int} (hup : 1 ≤ up ∧ up ≤ 10) (hdn : 1 ≤ dn ∧ dn ≤ 10) (hex : ex ≤ (t : Int) + 5) : f_den up dn t ex ≤ 3200000 := by
  have h1 : ∀ q : Fin 6, (20 : Int) ^ (q : Nat) ≤ 3200000 := by decide
  have h2 := (f_pw (w := up + dn) (by omega) (ex - (t : Int)).toNat).2
  have h3 := h1 ⟨(ex - (t : Int)).toNat, by omega⟩
  unfold f_den
  exact Int.le_trans h2 h3
theorem f_mk_eq {v w : Int} (hw : 0 < w) : 1000 * v / w = f_mk v w := by
  unfold f_mk
  have h1 := Int.emod_add_mul_ediv v w
  have h2 : 1000 * v = v % w * 1000 + v / w * 1000 * w := by
    rw [show v / w * 1000 * w = 1000 * (w * (v / w)) by rw [Int.mul_assoc, Int.mul_comm (v / w), Int.mul_assoc]]
    omega
  rw [h2, Int.add_mul_ediv_right _ _ (by omega)]
  omega
theorem f_V_1 {up dn : Int} {dv : Nat → Int} {t : Nat} {ki st am fr : Int} {r d k : Nat} {x y z : Int} (hx : x = up * f_V up dn dv t ki st am fr r (d + 1) k) (hy : y = dn * f_V up dn dv t ki st am fr r (d + 1) (k + 1)) (hz : (am = 0 ∧ z = x + y) ∨ (am ≠ 0 ∧ ((x + y ≤ (up + dn) ^ (r + 1) * f_pays ki st (f_price up dn dv t fr d k) ∧ z = (up + dn) ^ (r + 1) * f_pays ki st (f_price up dn dv t fr d k)) ∨ ((up + dn) ^ (r + 1) * f_pays ki st (f_price up dn dv t fr d k) ≤ x + y ∧ z = x + y)))) : z = f_V up dn dv t ki st am fr (r + 1) d k := by
  simp only [f_V]
  rw [← hx, ← hy, Int.mul_comm (f_pays _ _ _)]
  generalize (up + dn) ^ (r + 1) * f_pays ki st (f_price up dn dv t fr d k) = q at *
  rcases hz with ⟨a, b⟩ | ⟨a, b⟩
  · rw [if_pos a]; omega
  · rw [if_neg a]; omega
section P2
variable {l : Launch} {dC : Nat → ClassId} {dI : Nat → Nat → Nat} {cI cJ cZ cO : ClassId} {EE ws : va_W} {ka : Nat → Nat} {td : Nat} {pr up dn mo sh co : Int} {n : Nat} {K St Ex Am Ov Bi As BL AL He Co dv Ca : Nat → Int} {sd : Int} {Cz : Nat → Int} {EV : (Nat → Prop) → State → Heap → Prop} {es mi b L : Nat} {sa : Nat → Nat} {xs : Nat → Int32}
theorem jj_topw {p : Program} {e : Env} {R : Room} {s : State} {m : MethodId} {args : Array Value} {below : List Frame} {meth : Method} {c : Code} {D : va_G} {cl : List vw_C} {A : Nat → Prop} {nL cells slots : Nat} {Q : State → Prop} {pc : Nat} {lv : List (Nat × Value)} {rest : List Value} {a b : Int} (h : iI a = iI b) (kk : jj_W p l e R s m args below meth c D cl A nL cells slots Q pc lv (.int (iI b) :: rest) ws) : jj_W p l e R s m args below meth c D cl A nL cells slots Q pc lv (.int (iI a) :: rest) ws := by
  rw [h]; exact kk
theorem jj_dropx {p : Program} {e : Env} {R : Room} {s : State} {m : MethodId} {args : Array Value} {below : List Frame} {meth : Method} {c : Code} {D : va_G} {cl : List vw_C} {A : Nat → Prop} {nL cells slots : Nat} {Q : State → Prop} {pc : Nat} {lv : List (Nat × Value)} {st : List Value} {x : Nat × va_E} (kk : jj_W p l e R s m args below meth c D cl A nL cells slots Q pc lv st (wL ka cI cJ td pr up dn mo sh co n K St Ex Am Ov Bi As BL AL He Co dv Ca sd Cz ++ EE)) : jj_W p l e R s m args below meth c D cl A nL cells slots Q pc lv st (wL ka cI cJ td pr up dn mo sh co n K St Ex Am Ov Bi As BL AL He Co dv Ca sd Cz ++ (x :: EE)) := by
  refine jj_ws (ws' := (wL ka cI cJ td pr up dn mo sh co n K St Ex Am Ov Bi As BL AL He Co dv Ca sd Cz ++ [x]) ++ EE) (by rw [List.append_assoc]; rfl) ?_
  exact jj_part (Y := wL ka cI cJ td pr up dn mo sh co n K St Ex Am Ov Bi As BL AL He Co dv Ca sd Cz) [0, 1, 2, 3, 4, 5, 6] rfl rfl kk
set_option maxHeartbeats 4000000 in
set_option maxRecDepth 100000 in
theorem cc_L_cell  {k : Nat} (hk : k ≤ 1000) (hL : L ≤ 2560) : jj_Mi (EVS es mi sa b L xs) (dC, dI) vwCl [(cI, .int), (cJ, .long), (cZ, .boolean), (cO, .object "java/lang/Object")] l yL_cell (Cond.code yL_cell cL_cell 2 (some .int) :: lw_U) ({ frames := 0, cells := 0, slots := 0, locals := 0 } : Room) [.ref b, .int (iI (k : Int))] (ws) (S := Int) (fun u => u) (fun u => iR u) (fun u => ws) := by
  refine jj_start (cc := cL_cell) (nL := 2) (ret := (some .int)) (lv := [(0, .ref b), (1, .int (iI (k : Int)))]) (fun A => jj_Qi _ _ _ _ _ _ A) (hEVS es mi sa b L xs) (by decide) rfl (Nat.le_of_ble_eq_true rfl) rfl ?_
  intro p9 e9 s9 m9 a9 b9 me9 c9 A9 C1 hr hin
  have C0 : jj_C p9 s9 m9 a9 me9 c9 (dC, dI) vwCl A9 2 cL_cell "StrikehallLaw" lw_U _ (EVS es mi sa b L xs) := jj_toU C1
  have hw := C0.2.2.2.2.1
  have hEV := hEVS es mi sa b L xs
  have hS9 := C0.2.2.2.2.2.2.2.1
  have hbl : b < s9.heap.size := by
    obtain ⟨scr, g1, -⟩ := hS9.2.1
    rcases Nat.lt_or_ge b s9.heap.size with g | g
    · exact g
    · rw [Array.getElem?_eq_none g] at g1; cases g1
  refine jj_iload_n C0 1 rfl dL_cell_0 ?_
  refine jj_aload_n C0 0 rfl dL_cell_1 ?_
  refine jj_slen C0 hS9.2.1 hbl hS9.2.2 hL dL_cell_2 ?_
  refine jj_icmp_ge C0 (by omega) (by omega) dL_cell_3 (tgt := 12) (by decide) (fun c_1 => ?_) (fun c_1 => ?_)
  · refine jj_ldc C0 (z := 1205587457) (by decide) (hw _ hU_166) dL_cell_12 ?_
    refine jj_iload_n C0 1 rfl dL_cell_14 ?_
    refine jj_bipush C0 dL_cell_15 (by decide) ?_
    refine jj_iadd C0 dL_cell_17 ?_
    refine jj_imul C0 dL_cell_18 ?_
    refine jj_topw (b := (f_wr (1205587457 * ((k : Int) + 11)))) (iI_wr _) ?_
    exact jj_iret C0 hr (f_wr (1205587457 * ((k : Int) + 11))) (by exact f_wr_R _) (rfl) (rfl) (by show 0 ≤ 0; omega) (by show 0 ≤ 0; omega) dL_cell_19
  · refine jj_aload_n C0 0 rfl dL_cell_6 ?_
    refine jj_iload_n C0 1 rfl dL_cell_7 ?_
    refine jj_sald C0 hS9.2.1 hbl hS9.2.2 hL (k := k) rfl (by omega) dL_cell_8 ?_
    refine jj_goto C0 (tgt := 19) dL_cell_9 (by decide) ?_
    refine jj_topw (b := (f_wr ((xs k).toInt))) (iI_wr _) ?_
    exact jj_iret C0 hr (f_wr ((xs k).toInt)) (by exact f_wr_R _) (rfl) (rfl) (by show 0 ≤ 0; omega) (by show 0 ≤ 0; omega) dL_cell_19
set_option maxHeartbeats 4000000 in
set_option maxRecDepth 100000 in
theorem cc_L_low (hEV : jj_EV EV) {v m : Int} (hm : 1 ≤ m ∧ m ≤ 2147483647) : jj_Mi EV (dC, dI) vwCl [(cI, .int), (cJ, .long), (cZ, .boolean), (cO, .object "java/lang/Object")] l yL_low (Cond.code yL_low cL_low 2 (some .int) :: lw_U) ({ frames := 0, cells := 0, slots := 0, locals := 0 } : Room) [.int (iI v), .int (iI m)] (ws) (S := Unit) (fun _ => (f_lo v m)) (fun _ => True) (fun _ => ws) := by
  refine jj_start (cc := cL_low) (nL := 2) (ret := (some .int)) (lv := [(0, .int (iI v)), (1, .int (iI m))]) (fun A => jj_Qi _ _ _ _ _ _ A) hEV (by decide) rfl (Nat.le_of_ble_eq_true rfl) rfl ?_
  intro p9 e9 s9 m9 a9 b9 me9 c9 A9 C1 hr hin
  have C0 : jj_C p9 s9 m9 a9 me9 c9 (dC, dI) vwCl A9 2 cL_low "StrikehallLaw" lw_U _ EV := jj_toU C1
  have hw := C0.2.2.2.2.1
  have hu9 := f_us_bd v
  refine jj_iload_n C0 0 rfl dL_low_0 ?_
  refine jj_iconst C0 dL_low_1 ?_
  refine jj_iushr1 C0 dL_low_2 ?_
  refine jj_iload_n C0 1 rfl dL_low_3 ?_
  refine jj_irem C0 (by omega) (by omega) (by omega) (by omega) dL_low_4 ?_
  exact jj_iret C0 hr () (trivial) (rfl) (rfl) (by show 0 ≤ 0; omega) (by show 0 ≤ 0; omega) dL_low_5
set_option maxHeartbeats 4000000 in
set_option maxRecDepth 100000 in
theorem cc_L_pays (hEV : jj_EV EV) {c : Nat} {z : Int} (hz : -1000000000 ≤ z ∧ z ≤ 1000000000) (hc6 : c < 6) (hK : ∀ j, 0 ≤ K j ∧ K j ≤ 1) (hSt : ∀ j, 0 ≤ St j ∧ St j ≤ 20000) : jj_Ml EV (dC, dI) vwCl [(cI, .int), (cJ, .long), (cZ, .boolean), (cO, .object "java/lang/Object")] l yL_pays (Cond.code yL_pays cL_pays 6 (some .long) :: lw_U) ({ frames := 0, cells := 0, slots := 0, locals := 0 } : Room) [.int (iI (c : Int)), .long (lI z), .ref (ka 0)] (wL ka cI cJ td pr up dn mo sh co n K St Ex Am Ov Bi As BL AL He Co dv Ca sd Cz ++ EE) (S := Unit) (fun _ => (f_pays (K c) (St c) z)) (fun _ => True) (fun _ => wL ka cI cJ td pr up dn mo sh co n K St Ex Am Ov Bi As BL AL He Co dv Ca sd Cz ++ EE) := by
  refine jj_start (cc := cL_pays) (nL := 6) (ret := (some .long)) (lv := [(0, .int (iI (c : Int))), (1, .long (lI z)), (3, .ref (ka 0))]) (fun A => jj_Ql _ _ _ _ _ _ A) hEV (by decide) rfl (Nat.le_of_ble_eq_true rfl) rfl ?_
  intro p9 e9 s9 m9 a9 b9 me9 c9 A9 C1 hr hin
  have C0 : jj_C p9 s9 m9 a9 me9 c9 (dC, dI) vwCl A9 6 cL_pays "StrikehallLaw" lw_U _ EV := jj_toU C1
  have hw := C0.2.2.2.2.1
  have hb1 := hSt c
  have hb2 := hK c
  refine jj_aload_n C0 2 rfl dL_pays_0 ?_
  refine jj_iload_n C0 0 rfl dL_pays_1 ?_
  refine jj_iald C0 (q0 := 0) (t0 := 0) (f := (f_lk K St Ex Am Ov)) (rfl) rfl (k := c) (by omega) (by omega) (by decide) dL_pays_2 ?_
  refine jj_topi (b := (K c)) (f_lk_K (by omega)) ?_
  refine jj_if_ne C0 (by omega) dL_pays_3 (tgt := 18) (by decide) (fun c_1 => ?_) (fun c_1 => ?_)
  · refine jj_aload_n C0 2 rfl dL_pays_18 ?_
    refine jj_bipush C0 dL_pays_19 (by decide) ?_
    refine jj_iload_n C0 0 rfl dL_pays_21 ?_
    refine jj_iadd C0 dL_pays_22 ?_
    refine jj_iald C0 (q0 := 0) (t0 := 0) (f := (f_lk K St Ex Am Ov)) (rfl) rfl (k := (6 + c)) (by omega) (by omega) (by decide) dL_pays_23 ?_
    refine jj_topi (b := (St c)) (f_lk_St (by omega)) ?_
    refine jj_i2l C0 (by omega) dL_pays_24 ?_
    refine jj_lload_n C0 1 rfl dL_pays_25 ?_
    refine jj_lsub C0 dL_pays_26 ?_
    refine jj_lstore C0 (lv' := [(4, .long (lI ((St c) - z))), (0, .int (iI (c : Int))), (1, .long (lI z)), (3, .ref (ka 0))]) (by decide) rfl dL_pays_27 ?_
    refine jj_lload C0 0 rfl dL_pays_29 ?_
    refine jj_lconst C0 (z := 0) (by decide) dL_pays_31 ?_
    refine jj_lcmp_ge C0 (by omega) (by omega) dL_pays_32 dL_pays_33 (tgt := 40) (by decide) (fun c_2 => ?_) (fun c_2 => ?_)
    · refine jj_lload C0 0 rfl dL_pays_40 ?_
      exact jj_lret C0 hr () (trivial) (by unfold f_pays; first | (rw [if_pos (by omega)]; omega) | (rw [if_neg (by omega)]; omega)) (rfl) (by show 0 ≤ 0; omega) (by show 0 ≤ 0; omega) dL_pays_42
    · refine jj_lconst C0 (z := 0) (by decide) dL_pays_36 ?_
      refine jj_goto C0 (tgt := 42) dL_pays_37 (by decide) ?_
      exact jj_lret C0 hr () (trivial) (by unfold f_pays; first | (rw [if_pos (by omega)]; omega) | (rw [if_neg (by omega)]; omega)) (rfl) (by show 0 ≤ 0; omega) (by show 0 ≤ 0; omega) dL_pays_42
  · refine jj_lload_n C0 1 rfl dL_pays_6 ?_
    refine jj_aload_n C0 2 rfl dL_pays_7 ?_
    refine jj_bipush C0 dL_pays_8 (by decide) ?_
    refine jj_iload_n C0 0 rfl dL_pays_10 ?_
    refine jj_iadd C0 dL_pays_11 ?_
    refine jj_iald C0 (q0 := 0) (t0 := 0) (f := (f_lk K St Ex Am Ov)) (rfl) rfl (k := (6 + c)) (by omega) (by omega) (by decide) dL_pays_12 ?_
    refine jj_topi (b := (St c)) (f_lk_St (by omega)) ?_
    refine jj_i2l C0 (by omega) dL_pays_13 ?_
    refine jj_lsub C0 dL_pays_14 ?_
    refine jj_goto C0 (tgt := 27) dL_pays_15 (by decide) ?_
    refine jj_lstore C0 (lv' := [(4, .long (lI (z - (St c)))), (0, .int (iI (c : Int))), (1, .long (lI z)), (3, .ref (ka 0))]) (by decide) rfl dL_pays_27 ?_
    refine jj_lload C0 0 rfl dL_pays_29 ?_
    refine jj_lconst C0 (z := 0) (by decide) dL_pays_31 ?_
    refine jj_lcmp_ge C0 (by omega) (by omega) dL_pays_32 dL_pays_33 (tgt := 40) (by decide) (fun c_3 => ?_) (fun c_3 => ?_)
    · refine jj_lload C0 0 rfl dL_pays_40 ?_
      exact jj_lret C0 hr () (trivial) (by unfold f_pays; first | (rw [if_pos (by omega)]; omega) | (rw [if_neg (by omega)]; omega)) (rfl) (by show 0 ≤ 0; omega) (by show 0 ≤ 0; omega) dL_pays_42
    · refine jj_lconst C0 (z := 0) (by decide) dL_pays_36 ?_
      refine jj_goto C0 (tgt := 42) dL_pays_37 (by decide) ?_
      exact jj_lret C0 hr () (trivial) (by unfold f_pays; first | (rw [if_pos (by omega)]; omega) | (rw [if_neg (by omega)]; omega)) (rfl) (by show 0 ≤ 0; omega) (by show 0 ≤ 0; omega) dL_pays_42
set_option maxHeartbeats 4000000 in
set_option maxRecDepth 100000 in
theorem cc_L_at (hEV : jj_EV EV) {fr : Int} {w j : Nat} (hw32 : w < 32) (hj : j ≤ 5) (htj : td + j ≤ 58) (hfr : -30000 ≤ fr ∧ fr ≤ 30000) (hup : 1 ≤ up ∧ up ≤ 10) (hdn : 1 ≤ dn ∧ dn ≤ 10) (hdv : ∀ j, 0 ≤ dv j ∧ dv j ≤ 1000) : jj_Ml EV (dC, dI) vwCl [(cI, .int), (cJ, .long), (cZ, .boolean), (cO, .object "java/lang/Object")] l yL_at (Cond.code yL_at cL_at 8 (some .long) :: lw_U) ({ frames := 0, cells := 0, slots := 0, locals := 0 } : Room) [.int (iI fr), .int (iI (w : Int)), .int (iI (j : Int)), .ref (ka 4), .ref (ka 5)] (wL ka cI cJ td pr up dn mo sh co n K St Ex Am Ov Bi As BL AL He Co dv Ca sd Cz ++ EE) (S := Unit) (fun _ => (f_price up dn dv td fr j (f_pop w j))) (fun _ => True) (fun _ => wL ka cI cJ td pr up dn mo sh co n K St Ex Am Ov Bi As BL AL He Co dv Ca sd Cz ++ EE) := by
  refine jj_start (cc := cL_at) (nL := 8) (ret := (some .long)) (lv := [(0, .int (iI fr)), (1, .int (iI (w : Int))), (2, .int (iI (j : Int))), (3, .ref (ka 4)), (4, .ref (ka 5))]) (fun A => jj_Ql _ _ _ _ _ _ A) hEV (by decide) rfl (Nat.le_of_ble_eq_true rfl) rfl ?_
  intro p9 e9 s9 m9 a9 b9 me9 c9 A9 C1 hr hin
  have C0 : jj_C p9 s9 m9 a9 me9 c9 (dC, dI) vwCl A9 8 cL_at "StrikehallLaw" lw_U _ EV := jj_toU C1
  have hw := C0.2.2.2.2.1
  refine jj_iload_n C0 0 rfl dL_at_0 ?_
  refine jj_i2l C0 (by omega) dL_at_1 ?_
  refine jj_topl (b := (f_price up dn dv td fr 0 (f_pop w 0))) (by simp only [f_pop]; exact (f_price_00 _ _ _ _ _).symm) ?_
  refine jj_lstore C0 (lv' := [(5, .long (lI (f_price up dn dv td fr 0 (f_pop w 0)))), (0, .int (iI fr)), (1, .int (iI (w : Int))), (2, .int (iI (j : Int))), (3, .ref (ka 4)), (4, .ref (ka 5))]) (by decide) rfl dL_at_2 ?_
  refine jj_iconst C0 dL_at_4 ?_
  refine jj_istore C0 (lv' := [(7, .int (iI 0)), (5, .long (lI (f_price up dn dv td fr 0 (f_pop w 0)))), (0, .int (iI fr)), (1, .int (iI (w : Int))), (2, .int (iI (j : Int))), (3, .ref (ka 4)), (4, .ref (ka 5))]) (by decide) rfl dL_at_5 ?_
  refine jj_ind (X := Nat) (fun q9 => match q9 with | i => (j + 1 - i : Nat)) (fun q9 => match q9 with | i => [(7, .int (iI (i : Int))), (5, .long (lI (f_price up dn dv td fr i (f_pop w i)))), (0, .int (iI fr)), (1, .int (iI (w : Int))), (2, .int (iI (j : Int))), (3, .ref (ka 4)), (4, .ref (ka 5))]) (fun q9 => match q9 with | i => []) (fun q9 => match q9 with | i => wL ka cI cJ td pr up dn mo sh co n K St Ex Am Ov Bi As BL AL He Co dv Ca sd Cz ++ EE) (fun q9 => match q9 with | i => i ≤ j) ?_ 0 (Nat.zero_le _)
  intro q9 hq9 ih7
  obtain ⟨i, rfl⟩ : ∃ z, z = q9 := ⟨_, rfl⟩
  have hi : i ≤ j := hq9
  show jj_W _ _ _ _ _ _ _ _ _ _ _ _ _ _ _ _ _ 7 [(7, .int (iI (i : Int))), (5, .long (lI (f_price up dn dv td fr i (f_pop w i)))), (0, .int (iI fr)), (1, .int (iI (w : Int))), (2, .int (iI (j : Int))), (3, .ref (ka 4)), (4, .ref (ka 5))] [] (wL ka cI cJ td pr up dn mo sh co n K St Ex Am Ov Bi As BL AL He Co dv Ca sd Cz ++ EE)
  refine jj_iload C0 0 rfl dL_at_7 ?_
  refine jj_iload_n C0 4 rfl dL_at_9 ?_
  refine jj_icmp_ge C0 (by omega) (by omega) dL_at_10 (tgt := 62) (by decide) (fun c_1 => ?_) (fun c_1 => ?_)
  · refine jj_lload C0 1 rfl dL_at_62 ?_
    exact jj_lret C0 hr () (trivial) (by rw [show i = j by omega]) (rfl) (by show 0 ≤ 0; omega) (by show 0 ≤ 0; omega) dL_at_64
  · refine jj_lload C0 1 rfl dL_at_13 ?_
    refine jj_iload_n C0 3 rfl dL_at_15 ?_
    refine jj_iload C0 0 rfl dL_at_16 ?_
    refine jj_ishrN C0 (w := w) (d := i) (by omega) (by omega) dL_at_18 ?_
    refine jj_iconst C0 dL_at_19 ?_
    refine jj_iandN1 C0 (w := (w / 2 ^ i)) (by have := Nat.div_le_self w (2 ^ i); omega) dL_at_20 ?_
    refine jj_iconst C0 dL_at_21 ?_
    refine jj_icmp_ne C0 (by omega) (by omega) dL_at_22 (tgt := 34) (by decide) (fun c_2 => ?_) (fun c_2 => ?_)
    · refine jj_bipush C0 dL_at_34 (by decide) ?_
      refine jj_aload_n C0 5 rfl dL_at_36 ?_
      refine jj_iconst C0 dL_at_37 ?_
      refine jj_iald C0 (q0 := 4) (t0 := 0) (f := (f_lg td pr up dn mo sh co n)) (rfl) rfl (k := 3) (by omega) (by omega) (by decide) dL_at_38 ?_
      refine jj_topi (b := dn) (rfl) ?_
      refine jj_imul C0 dL_at_39 ?_
      refine jj_aload C0 6 rfl dL_at_40 ?_
      refine jj_aload_n C0 5 rfl dL_at_42 ?_
      refine jj_iconst C0 dL_at_43 ?_
      refine jj_iald C0 (q0 := 4) (t0 := 0) (f := (f_lg td pr up dn mo sh co n)) (rfl) rfl (k := 0) (by omega) (by omega) (by decide) dL_at_44 ?_
      refine jj_topi (b := (td : Int)) (rfl) ?_
      refine jj_iload C0 0 rfl dL_at_45 ?_
      refine jj_iadd C0 dL_at_47 ?_
      refine jj_iconst C0 dL_at_48 ?_
      refine jj_iadd C0 dL_at_49 ?_
      refine jj_iald C0 (q0 := 5) (t0 := 0) (f := dv) (rfl) rfl (k := ((td + i) + 1)) (by omega) (by omega) (by decide) dL_at_50 ?_
      have hd9 := hdv ((td + i) + 1)
      refine jj_isub C0 dL_at_51 ?_
      refine jj_i2l C0 (by omega) dL_at_52 ?_
      refine jj_ladd C0 dL_at_53 ?_
      refine jj_topl (b := (f_price up dn dv td fr (i + 1) (f_pop w (i + 1)))) (by first | (rw [show f_pop w (i + 1) = f_pop w i + 1 by simp only [f_pop]; omega, ← f_pr_up, show td + i + 1 = td + 1 + i by omega]; omega) | (rw [show f_pop w (i + 1) = f_pop w i by simp only [f_pop]; omega, ← f_pr_dn, show td + i + 1 = td + 1 + i by omega]; omega)) ?_
      refine jj_lstore C0 (lv' := [(5, .long (lI (f_price up dn dv td fr (i + 1) (f_pop w (i + 1))))), (7, .int (iI (i : Int))), (0, .int (iI fr)), (1, .int (iI (w : Int))), (2, .int (iI (j : Int))), (3, .ref (ka 4)), (4, .ref (ka 5))]) (by decide) rfl dL_at_54 ?_
      refine jj_iinc C0 (z := ((i + 1 : Nat) : Int)) (lv' := [(7, .int (iI ((i + 1 : Nat) : Int))), (5, .long (lI (f_price up dn dv td fr (i + 1) (f_pop w (i + 1))))), (0, .int (iI fr)), (1, .int (iI (w : Int))), (2, .int (iI (j : Int))), (3, .ref (ka 4)), (4, .ref (ka 5))]) 1 rfl (by omega) (by decide) rfl dL_at_56 ?_
      refine jj_goto C0 (tgt := 7) dL_at_59 (by decide) ?_
      exact ih7 (i + 1) (by omega) (by dsimp only; omega)
    · refine jj_bipush C0 dL_at_25 (by decide) ?_
      refine jj_aload_n C0 5 rfl dL_at_27 ?_
      refine jj_iconst C0 dL_at_28 ?_
      refine jj_iald C0 (q0 := 4) (t0 := 0) (f := (f_lg td pr up dn mo sh co n)) (rfl) rfl (k := 2) (by omega) (by omega) (by decide) dL_at_29 ?_
      refine jj_topi (b := up) (rfl) ?_
      refine jj_imul C0 dL_at_30 ?_
      refine jj_goto C0 (tgt := 40) dL_at_31 (by decide) ?_
      refine jj_aload C0 6 rfl dL_at_40 ?_
      refine jj_aload_n C0 5 rfl dL_at_42 ?_
      refine jj_iconst C0 dL_at_43 ?_
      refine jj_iald C0 (q0 := 4) (t0 := 0) (f := (f_lg td pr up dn mo sh co n)) (rfl) rfl (k := 0) (by omega) (by omega) (by decide) dL_at_44 ?_
      refine jj_topi (b := (td : Int)) (rfl) ?_
      refine jj_iload C0 0 rfl dL_at_45 ?_
      refine jj_iadd C0 dL_at_47 ?_
      refine jj_iconst C0 dL_at_48 ?_
      refine jj_iadd C0 dL_at_49 ?_
      refine jj_iald C0 (q0 := 5) (t0 := 0) (f := dv) (rfl) rfl (k := ((td + i) + 1)) (by omega) (by omega) (by decide) dL_at_50 ?_
      have hd9 := hdv ((td + i) + 1)
      refine jj_isub C0 dL_at_51 ?_
      refine jj_i2l C0 (by omega) dL_at_52 ?_
      refine jj_ladd C0 dL_at_53 ?_
      refine jj_topl (b := (f_price up dn dv td fr (i + 1) (f_pop w (i + 1)))) (by first | (rw [show f_pop w (i + 1) = f_pop w i + 1 by simp only [f_pop]; omega, ← f_pr_up, show td + i + 1 = td + 1 + i by omega]; omega) | (rw [show f_pop w (i + 1) = f_pop w i by simp only [f_pop]; omega, ← f_pr_dn, show td + i + 1 = td + 1 + i by omega]; omega)) ?_
      refine jj_lstore C0 (lv' := [(5, .long (lI (f_price up dn dv td fr (i + 1) (f_pop w (i + 1))))), (7, .int (iI (i : Int))), (0, .int (iI fr)), (1, .int (iI (w : Int))), (2, .int (iI (j : Int))), (3, .ref (ka 4)), (4, .ref (ka 5))]) (by decide) rfl dL_at_54 ?_
      refine jj_iinc C0 (z := ((i + 1 : Nat) : Int)) (lv' := [(7, .int (iI ((i + 1 : Nat) : Int))), (5, .long (lI (f_price up dn dv td fr (i + 1) (f_pop w (i + 1))))), (0, .int (iI fr)), (1, .int (iI (w : Int))), (2, .int (iI (j : Int))), (3, .ref (ka 4)), (4, .ref (ka 5))]) 1 rfl (by omega) (by decide) rfl dL_at_56 ?_
      refine jj_goto C0 (tgt := 7) dL_at_59 (by decide) ?_
      exact ih7 (i + 1) (by omega) (by dsimp only; omega)
set_option maxHeartbeats 4000000 in
set_option maxRecDepth 100000 in
theorem cc_L_below (hEV : jj_EV EV) {c : Nat} (hc6 : c < 6) (hovc : (Ov c = 1 ∧ Ex c < (td : Int)) ∨ (Ov c = 0 ∧ (td : Int) ≤ Ex c ∧ Ex c ≤ (td : Int) + 5)) (hup : 1 ≤ up ∧ up ≤ 10) (hdn : 1 ≤ dn ∧ dn ≤ 10) (hAm : ∀ j, 0 ≤ Am j ∧ Am j ≤ 1) (hOv : ∀ j, 0 ≤ Ov j ∧ Ov j ≤ 1) (hEx : ∀ j, 0 ≤ Ex j ∧ Ex j ≤ 200) (htd5 : td ≤ 46) : jj_Ml EV (dC, dI) vwCl [(cI, .int), (cJ, .long), (cZ, .boolean), (cO, .object "java/lang/Object")] l yL_below (Cond.code yL_below cL_below 6 (some .long) :: lw_U) ({ frames := 0, cells := 0, slots := 0, locals := 0 } : Room) [.int (iI (c : Int)), .ref (ka 0), .ref (ka 4)] (wL ka cI cJ td pr up dn mo sh co n K St Ex Am Ov Bi As BL AL He Co dv Ca sd Cz ++ EE) (S := Unit) (fun _ => (f_den up dn td (Ex c))) (fun _ => True) (fun _ => wL ka cI cJ td pr up dn mo sh co n K St Ex Am Ov Bi As BL AL He Co dv Ca sd Cz ++ EE) := by
  refine jj_start (cc := cL_below) (nL := 6) (ret := (some .long)) (lv := [(0, .int (iI (c : Int))), (1, .ref (ka 0)), (2, .ref (ka 4))]) (fun A => jj_Ql _ _ _ _ _ _ A) hEV (by decide) rfl (Nat.le_of_ble_eq_true rfl) rfl ?_
  intro p9 e9 s9 m9 a9 b9 me9 c9 A9 C1 hr hin
  have C0 : jj_C p9 s9 m9 a9 me9 c9 (dC, dI) vwCl A9 6 cL_below "StrikehallLaw" lw_U _ EV := jj_toU C1
  have hw := C0.2.2.2.2.1
  have hb1 := hAm c
  have hb2 := hOv c
  have hb3 := hEx c
  refine jj_lconst C0 (z := 1) (by decide) dL_below_0 ?_
  refine jj_topl (b := ((up + dn) ^ 0)) ((Int.pow_zero _).symm) ?_
  refine jj_lstore_n C0 (i := 3) rfl (lv' := [(3, .long (lI ((up + dn) ^ 0))), (0, .int (iI (c : Int))), (1, .ref (ka 0)), (2, .ref (ka 4))]) (by decide) rfl dL_below_1 ?_
  refine jj_aload_n C0 3 rfl dL_below_2 ?_
  refine jj_iconst C0 dL_below_3 ?_
  refine jj_iald C0 (q0 := 4) (t0 := 0) (f := (f_lg td pr up dn mo sh co n)) (rfl) rfl (k := 0) (by omega) (by omega) (by decide) dL_below_4 ?_
  refine jj_topi (b := (td : Int)) (rfl) ?_
  refine jj_topi (b := ((td + 0 : Nat) : Int)) (by omega) ?_
  refine jj_istore C0 (lv' := [(5, .int (iI ((td + 0 : Nat) : Int))), (3, .long (lI ((up + dn) ^ 0))), (0, .int (iI (c : Int))), (1, .ref (ka 0)), (2, .ref (ka 4))]) (by decide) rfl dL_below_5 ?_
  refine jj_ind (X := Nat) (fun q9 => match q9 with | i => ((Ex c - (td : Int)).toNat + 1 - i : Nat)) (fun q9 => match q9 with | i => [(5, .int (iI ((td + i : Nat) : Int))), (3, .long (lI ((up + dn) ^ i))), (0, .int (iI (c : Int))), (1, .ref (ka 0)), (2, .ref (ka 4))]) (fun q9 => match q9 with | i => []) (fun q9 => match q9 with | i => wL ka cI cJ td pr up dn mo sh co n K St Ex Am Ov Bi As BL AL He Co dv Ca sd Cz ++ EE) (fun q9 => match q9 with | i => (i : Int) ≤ Ex c - (td : Int) ∨ i = 0) ?_ 0 (Or.inr rfl)
  intro q9 hq9 ih7
  obtain ⟨i, rfl⟩ : ∃ z, z = q9 := ⟨_, rfl⟩
  have hi : (i : Int) ≤ Ex c - (td : Int) ∨ i = 0 := hq9
  show jj_W _ _ _ _ _ _ _ _ _ _ _ _ _ _ _ _ _ 7 [(5, .int (iI ((td + i : Nat) : Int))), (3, .long (lI ((up + dn) ^ i))), (0, .int (iI (c : Int))), (1, .ref (ka 0)), (2, .ref (ka 4))] [] (wL ka cI cJ td pr up dn mo sh co n K St Ex Am Ov Bi As BL AL He Co dv Ca sd Cz ++ EE)
  refine jj_iload C0 0 rfl dL_below_7 ?_
  refine jj_aload_n C0 3 rfl dL_below_9 ?_
  refine jj_bipush C0 dL_below_10 (by decide) ?_
  refine jj_iload_n C0 2 rfl dL_below_12 ?_
  refine jj_iadd C0 dL_below_13 ?_
  refine jj_iald C0 (q0 := 0) (t0 := 0) (f := (f_lk K St Ex Am Ov)) (rfl) rfl (k := (12 + c)) (by omega) (by omega) (by decide) dL_below_14 ?_
  refine jj_topi (b := (Ex c)) (f_lk_Ex (by omega)) ?_
  refine jj_icmp_ge C0 (by omega) (by omega) dL_below_15 (tgt := 45) (by decide) (fun c_1 => ?_) (fun c_1 => ?_)
  · refine jj_lload_n C0 1 rfl dL_below_45 ?_
    exact jj_lret C0 hr () (trivial) (by unfold f_den; rw [show (Ex c - (td : Int)).toNat = i by omega]) (rfl) (by show 0 ≤ 0; omega) (by show 0 ≤ 0; omega) dL_below_46
  · refine jj_aload_n C0 3 rfl dL_below_18 ?_
    refine jj_bipush C0 dL_below_19 (by decide) ?_
    refine jj_iload_n C0 2 rfl dL_below_21 ?_
    refine jj_iadd C0 dL_below_22 ?_
    refine jj_iald C0 (q0 := 0) (t0 := 0) (f := (f_lk K St Ex Am Ov)) (rfl) rfl (k := (18 + c)) (by omega) (by omega) (by decide) dL_below_23 ?_
    refine jj_topi (b := (Am c + 2 * Ov c)) (f_lk_A) ?_
    refine jj_iconst C0 dL_below_24 ?_
    refine jj_icmp_ge C0 (by omega) (by omega) dL_below_25 (tgt := 45) (by decide) (fun c_2 => ?_) (fun c_2 => ?_)
    · refine jj_lload_n C0 1 rfl dL_below_45 ?_
      exact jj_lret C0 hr () (trivial) (by unfold f_den; rw [show (Ex c - (td : Int)).toNat = i by omega]) (rfl) (by show 0 ≤ 0; omega) (by show 0 ≤ 0; omega) dL_below_46
    · refine jj_lload_n C0 1 rfl dL_below_28 ?_
      refine jj_aload_n C0 4 rfl dL_below_29 ?_
      refine jj_iconst C0 dL_below_30 ?_
      refine jj_iald C0 (q0 := 4) (t0 := 0) (f := (f_lg td pr up dn mo sh co n)) (rfl) rfl (k := 2) (by omega) (by omega) (by decide) dL_below_31 ?_
      refine jj_topi (b := up) (rfl) ?_
      refine jj_aload_n C0 4 rfl dL_below_32 ?_
      refine jj_iconst C0 dL_below_33 ?_
      refine jj_iald C0 (q0 := 4) (t0 := 0) (f := (f_lg td pr up dn mo sh co n)) (rfl) rfl (k := 3) (by omega) (by omega) (by decide) dL_below_34 ?_
      refine jj_topi (b := dn) (rfl) ?_
      refine jj_iadd C0 dL_below_35 ?_
      refine jj_i2l C0 (by omega) dL_below_36 ?_
      refine jj_lmul C0 dL_below_37 ?_
      refine jj_topl (b := ((up + dn) ^ (i + 1))) ((Int.pow_succ _ _).symm) ?_
      refine jj_lstore_n C0 (i := 3) rfl (lv' := [(3, .long (lI ((up + dn) ^ (i + 1)))), (5, .int (iI ((td + i : Nat) : Int))), (0, .int (iI (c : Int))), (1, .ref (ka 0)), (2, .ref (ka 4))]) (by decide) rfl dL_below_38 ?_
      refine jj_iinc C0 (z := ((td + (i + 1) : Nat) : Int)) (lv' := [(5, .int (iI ((td + (i + 1) : Nat) : Int))), (3, .long (lI ((up + dn) ^ (i + 1)))), (0, .int (iI (c : Int))), (1, .ref (ka 0)), (2, .ref (ka 4))]) 1 rfl (by omega) (by decide) rfl dL_below_39 ?_
      refine jj_goto C0 (tgt := 7) dL_below_42 (by decide) ?_
      exact ih7 (i + 1) (Or.inl (by omega)) (by dsimp only; omega)
set_option maxHeartbeats 4000000 in
set_option maxRecDepth 100000 in
theorem cc_L_above (hEV : jj_EV EV) {c : Nat} {fr : Int} (hc6 : c < 6) (hovc : (Ov c = 1 ∧ Ex c < (td : Int)) ∨ (Ov c = 0 ∧ (td : Int) ≤ Ex c ∧ Ex c ≤ (td : Int) + 5)) (htd5 : td ≤ 46) (hfr : -30000 ≤ fr ∧ fr ≤ 30000) (hup : 1 ≤ up ∧ up ≤ 10) (hdn : 1 ≤ dn ∧ dn ≤ 10) (hdv : ∀ j, 0 ≤ dv j ∧ dv j ≤ 1000) (hK : ∀ j, 0 ≤ K j ∧ K j ≤ 1) (hSt : ∀ j, 0 ≤ St j ∧ St j ≤ 20000) (hEx : ∀ j, 0 ≤ Ex j ∧ Ex j ≤ 200) (hAm : ∀ j, 0 ≤ Am j ∧ Am j ≤ 1) (hOv : ∀ j, 0 ≤ Ov j ∧ Ov j ≤ 1) : jj_Ml EV (dC, dI) vwCl [(cI, .int), (cJ, .long), (cZ, .boolean), (cO, .object "java/lang/Object")] l yL_above (Cond.code yL_above cL_above 15 (some .long) :: lw_U) ({ frames := 1, cells := 1, slots := 32, locals := 27 } : Room) [.int (iI (c : Int)), .int (iI fr), .ref (ka 0), .ref (ka 4), .ref (ka 5)] (wL ka cI cJ td pr up dn mo sh co n K St Ex Am Ov Bi As BL AL He Co dv Ca sd Cz ++ EE) (S := Unit) (fun _ => (f_num up dn dv td (K c) (St c) (Ex c) (Am c) fr)) (fun _ => True) (fun _ => wL ka cI cJ td pr up dn mo sh co n K St Ex Am Ov Bi As BL AL He Co dv Ca sd Cz ++ EE) := by
  refine jj_start (cc := cL_above) (nL := 15) (ret := (some .long)) (lv := [(0, .int (iI (c : Int))), (1, .int (iI fr)), (2, .ref (ka 0)), (3, .ref (ka 4)), (4, .ref (ka 5))]) (fun A => jj_Ql _ _ _ _ _ _ A) hEV (by decide) rfl (Nat.le_of_ble_eq_true rfl) rfl ?_
  intro p9 e9 s9 m9 a9 b9 me9 c9 A9 C1 hr hin
  have C0 : jj_C p9 s9 m9 a9 me9 c9 (dC, dI) vwCl A9 15 cL_above "StrikehallLaw" lw_U _ EV := jj_toU C1
  have hw := C0.2.2.2.2.1
  obtain ⟨N, hNe⟩ : ∃ N : Nat, N = (Ex c - (td : Int)).toNat := ⟨_, rfl⟩
  have hb1 := hAm c
  have hb2 := hOv c
  refine jj_aload_n C0 2 rfl dL_above_0 ?_
  refine jj_bipush C0 dL_above_1 (by decide) ?_
  refine jj_iload_n C0 0 rfl dL_above_3 ?_
  refine jj_iadd C0 dL_above_4 ?_
  refine jj_iald C0 (q0 := 0) (t0 := 0) (f := (f_lk K St Ex Am Ov)) (rfl) rfl (k := (12 + c)) (by omega) (by omega) (by decide) dL_above_5 ?_
  refine jj_topi (b := (Ex c)) (f_lk_Ex (by omega)) ?_
  refine jj_aload_n C0 3 rfl dL_above_6 ?_
  refine jj_iconst C0 dL_above_7 ?_
  refine jj_iald C0 (q0 := 4) (t0 := 0) (f := (f_lg td pr up dn mo sh co n)) (rfl) rfl (k := 0) (by omega) (by omega) (by decide) dL_above_8 ?_
  refine jj_topi (b := (td : Int)) (rfl) ?_
  refine jj_isub C0 dL_above_9 ?_
  refine jj_istore C0 (lv' := [(5, .int (iI ((Ex c) - (td : Int)))), (0, .int (iI (c : Int))), (1, .int (iI fr)), (2, .ref (ka 0)), (3, .ref (ka 4)), (4, .ref (ka 5))]) (by decide) rfl dL_above_10 ?_
  refine jj_aload_n C0 3 rfl dL_above_12 ?_
  refine jj_bipush C0 dL_above_13 (by decide) ?_
  refine jj_iload_n C0 1 rfl dL_above_15 ?_
  refine jj_iadd C0 dL_above_16 ?_
  refine jj_iald C0 (q0 := 0) (t0 := 0) (f := (f_lk K St Ex Am Ov)) (rfl) rfl (k := (18 + c)) (by omega) (by omega) (by decide) dL_above_17 ?_
  refine jj_topi (b := (Am c + 2 * Ov c)) (f_lk_A) ?_
  refine jj_iconst C0 dL_above_18 ?_
  refine jj_icmp_le C0 (by omega) (by omega) dL_above_19 (tgt := 24) (by decide) (fun c_1 => ?_) (fun c_1 => ?_)
  · have hov1 : Ov c = 0 := by omega
    have hNN : (N : Int) = Ex c - (td : Int) := by omega
    have hN5 : N ≤ 5 := by omega
    have h2N := f_p2 hN5
    refine jj_lve (lv' := [(5, .int (iI (N : Int))), (0, .int (iI (c : Int))), (1, .int (iI fr)), (2, .ref (ka 0)), (3, .ref (ka 4)), (4, .ref (ka 5))]) (by rw [show (Ex c - (td : Int)) = (N : Int) by omega]) ?_
    refine jj_bipush C0 dL_above_24 (by decide) ?_
    refine jj_newJ C0 (N := 32) (t0 := 1) (by decide) (by decide) rfl (hw _ hU_100) (by show 0 + 1 ≤ 1; omega) (by show 0 + 32 ≤ 32; omega) dL_above_26 ?_
    intro q
    refine jj_ws (ws' := wL ka cI cJ td pr up dn mo sh co n K St Ex Am Ov Bi As BL AL He Co dv Ca sd Cz ++ ((q, .inl (cJ, 32, .inr (.inl (lA (fun _ => 0))))) :: EE)) (by rw [List.append_assoc]; rfl) ?_
    refine jj_astore C0 (lv' := [(6, .ref q), (5, .int (iI (N : Int))), (0, .int (iI (c : Int))), (1, .int (iI fr)), (2, .ref (ka 0)), (3, .ref (ka 4)), (4, .ref (ka 5))]) (by decide) rfl dL_above_28 ?_
    refine jj_iconst C0 dL_above_30 ?_
    refine jj_istore C0 (lv' := [(7, .int (iI 0)), (6, .ref q), (5, .int (iI (N : Int))), (0, .int (iI (c : Int))), (1, .int (iI fr)), (2, .ref (ka 0)), (3, .ref (ka 4)), (4, .ref (ka 5))]) (by decide) rfl dL_above_31 ?_
    refine jj_ind (X := Nat × (Nat → Int)) (fun q9 => match q9 with | ⟨w, F⟩ => (32 - w : Nat)) (fun q9 => match q9 with | ⟨w, F⟩ => [(7, .int (iI (w : Int))), (6, .ref q), (5, .int (iI (N : Int))), (0, .int (iI (c : Int))), (1, .int (iI fr)), (2, .ref (ka 0)), (3, .ref (ka 4)), (4, .ref (ka 5))]) (fun q9 => match q9 with | ⟨w, F⟩ => []) (fun q9 => match q9 with | ⟨w, F⟩ => wL ka cI cJ td pr up dn mo sh co n K St Ex Am Ov Bi As BL AL He Co dv Ca sd Cz ++ ((q, .inl (cJ, 32, .inr (.inl (lA F)))) :: EE)) (fun q9 => match q9 with | ⟨w, F⟩ => w ≤ 2 ^ N ∧ ∀ j, j < w → F j = (f_V up dn dv td (K c) (St c) (Am c) fr 0 N (f_pop j N))) ?_ (0, fun _ => 0) ⟨Nat.zero_le _, fun j hj => absurd hj (Nat.not_lt_zero j)⟩
    intro q9 hq9 ih33
    obtain ⟨w, F⟩ := q9
    obtain ⟨hw1, hF⟩ : w ≤ 2 ^ N ∧ ∀ j, j < w → F j = (f_V up dn dv td (K c) (St c) (Am c) fr 0 N (f_pop j N)) := hq9
    have hpl := f_pop_le w N
    show jj_W _ _ _ _ _ _ _ _ _ _ _ _ _ _ _ _ _ 33 [(7, .int (iI (w : Int))), (6, .ref q), (5, .int (iI (N : Int))), (0, .int (iI (c : Int))), (1, .int (iI fr)), (2, .ref (ka 0)), (3, .ref (ka 4)), (4, .ref (ka 5))] [] (wL ka cI cJ td pr up dn mo sh co n K St Ex Am Ov Bi As BL AL He Co dv Ca sd Cz ++ ((q, .inl (cJ, 32, .inr (.inl (lA F)))) :: EE))
    refine jj_iload C0 0 rfl dL_above_33 ?_
    refine jj_iconst C0 dL_above_35 ?_
    refine jj_iload C0 2 rfl dL_above_36 ?_
    refine jj_ishlN C0 (d := N) (by omega) dL_above_38 ?_
    refine jj_icmp_ge C0 (by omega) (by omega) dL_above_39 (tgt := 69) (by decide) (fun c_2 => ?_) (fun c_2 => ?_)
    · refine jj_lconst C0 (z := 1) (by decide) dL_above_69 ?_
      refine jj_topl (b := ((up + dn) ^ 0)) ((Int.pow_zero _).symm) ?_
      refine jj_lstore C0 (lv' := [(7, .long (lI ((up + dn) ^ 0))), (6, .ref q), (5, .int (iI (N : Int))), (0, .int (iI (c : Int))), (1, .int (iI fr)), (2, .ref (ka 0)), (3, .ref (ka 4)), (4, .ref (ka 5))]) (by decide) rfl dL_above_70 ?_
      have hF0 : ∀ j, j < 2 ^ N → F j = (f_V up dn dv td (K c) (St c) (Am c) fr 0 N (f_pop j N)) := fun j hj => hF j (by omega)
      refine jj_iload C0 2 rfl dL_above_72 ?_
      refine jj_iconst C0 dL_above_74 ?_
      refine jj_isub C0 dL_above_75 ?_
      refine jj_topi (b := ((N : Int) - ((0 : Nat) : Int) - 1)) (by omega) ?_
      refine jj_istore C0 (lv' := [(9, .int (iI ((N : Int) - ((0 : Nat) : Int) - 1))), (7, .long (lI ((up + dn) ^ 0))), (6, .ref q), (5, .int (iI (N : Int))), (0, .int (iI (c : Int))), (1, .int (iI fr)), (2, .ref (ka 0)), (3, .ref (ka 4)), (4, .ref (ka 5))]) (by decide) rfl dL_above_76 ?_
      refine jj_ind (X := Nat × (Nat → Int)) (fun q9 => match q9 with | ⟨r, G⟩ => (N + 1 - r : Nat)) (fun q9 => match q9 with | ⟨r, G⟩ => [(9, .int (iI ((N : Int) - (r : Int) - 1))), (7, .long (lI ((up + dn) ^ r))), (6, .ref q), (5, .int (iI (N : Int))), (0, .int (iI (c : Int))), (1, .int (iI fr)), (2, .ref (ka 0)), (3, .ref (ka 4)), (4, .ref (ka 5))]) (fun q9 => match q9 with | ⟨r, G⟩ => []) (fun q9 => match q9 with | ⟨r, G⟩ => wL ka cI cJ td pr up dn mo sh co n K St Ex Am Ov Bi As BL AL He Co dv Ca sd Cz ++ ((q, .inl (cJ, 32, .inr (.inl (lA G)))) :: EE)) (fun q9 => match q9 with | ⟨r, G⟩ => r ≤ N ∧ ∀ j, j < 2 ^ (N - r) → G j = (f_V up dn dv td (K c) (St c) (Am c) fr r (N - r) (f_pop j (N - r)))) ?_ (0, F) ⟨Nat.zero_le _, hF0⟩
      intro q9 hq9 ih78
      obtain ⟨r, G⟩ := q9
      obtain ⟨hr1, hG⟩ : r ≤ N ∧ ∀ j, j < 2 ^ (N - r) → G j = (f_V up dn dv td (K c) (St c) (Am c) fr r (N - r) (f_pop j (N - r))) := hq9
      show jj_W _ _ _ _ _ _ _ _ _ _ _ _ _ _ _ _ _ 78 [(9, .int (iI ((N : Int) - (r : Int) - 1))), (7, .long (lI ((up + dn) ^ r))), (6, .ref q), (5, .int (iI (N : Int))), (0, .int (iI (c : Int))), (1, .int (iI fr)), (2, .ref (ka 0)), (3, .ref (ka 4)), (4, .ref (ka 5))] [] (wL ka cI cJ td pr up dn mo sh co n K St Ex Am Ov Bi As BL AL He Co dv Ca sd Cz ++ ((q, .inl (cJ, 32, .inr (.inl (lA G)))) :: EE))
      refine jj_iload C0 0 rfl dL_above_78 ?_
      refine jj_if_lt C0 (by omega) dL_above_80 (tgt := 205) (by decide) (fun c_3 => ?_) (fun c_3 => ?_)
      · have h00 : G 0 = (f_V up dn dv td (K c) (St c) (Am c) fr N 0 0) := by have h9 := hG 0 (f_p2 (by omega)).2; rw [show N - r = 0 by omega] at h9; rw [h9, show r = N by omega]; rfl
        refine jj_aload C0 2 rfl dL_above_205 ?_
        refine jj_iconst C0 dL_above_207 ?_
        refine jj_lald C0 (q0 := 7) (t0 := 1) (f := G) (rfl) rfl (k := 0) (by omega) (by omega) (by decide) dL_above_208 ?_
        refine jj_dropx ?_
        exact jj_lret C0 hr () (trivial) (by unfold f_num; rw [if_neg (by omega), ← hNe]; exact h00) (rfl) (by show (0 + 1) ≤ 1; omega) (by show (0 + 32) ≤ 32; omega) dL_above_209
      · obtain ⟨D, hD⟩ : ∃ D : Nat, N = D + r + 1 := ⟨N - r - 1, by omega⟩
        have hD2 := f_p2 (d := D) (by omega)
        have hGD : ∀ j, j < 2 ^ (D + 1) → G j = (f_V up dn dv td (K c) (St c) (Am c) fr r (D + 1) (f_pop j (D + 1))) := fun j hj => by rw [show D + 1 = N - r by omega] at hj ⊢; exact hG j hj
        have hD3 := f_p2 (d := D + 1) (by omega)
        have hDD : 2 ^ (D + 1) = 2 * 2 ^ D := by rw [Nat.pow_succ, Nat.mul_comm]
        refine jj_lve (lv' := [(9, .int (iI (D : Int))), (7, .long (lI ((up + dn) ^ r))), (6, .ref q), (5, .int (iI (N : Int))), (0, .int (iI (c : Int))), (1, .int (iI fr)), (2, .ref (ka 0)), (3, .ref (ka 4)), (4, .ref (ka 5))]) (by rw [show ((N : Int) - (r : Int) - 1) = (D : Int) by omega]) ?_
        refine jj_lload C0 1 rfl dL_above_83 ?_
        refine jj_aload_n C0 7 rfl dL_above_85 ?_
        refine jj_iconst C0 dL_above_86 ?_
        refine jj_iald C0 (q0 := 4) (t0 := 0) (f := (f_lg td pr up dn mo sh co n)) (rfl) rfl (k := 2) (by omega) (by omega) (by decide) dL_above_87 ?_
        refine jj_topi (b := up) (rfl) ?_
        refine jj_aload_n C0 7 rfl dL_above_88 ?_
        refine jj_iconst C0 dL_above_89 ?_
        refine jj_iald C0 (q0 := 4) (t0 := 0) (f := (f_lg td pr up dn mo sh co n)) (rfl) rfl (k := 3) (by omega) (by omega) (by decide) dL_above_90 ?_
        refine jj_topi (b := dn) (rfl) ?_
        refine jj_iadd C0 dL_above_91 ?_
        refine jj_i2l C0 (by omega) dL_above_92 ?_
        refine jj_lmul C0 dL_above_93 ?_
        refine jj_topl (b := ((up + dn) ^ (r + 1))) ((Int.pow_succ _ _).symm) ?_
        refine jj_lstore C0 (lv' := [(7, .long (lI ((up + dn) ^ (r + 1)))), (9, .int (iI (D : Int))), (6, .ref q), (5, .int (iI (N : Int))), (0, .int (iI (c : Int))), (1, .int (iI fr)), (2, .ref (ka 0)), (3, .ref (ka 4)), (4, .ref (ka 5))]) (by decide) rfl dL_above_94 ?_
        refine jj_iconst C0 dL_above_96 ?_
        refine jj_istore C0 (lv' := [(10, .int (iI 0)), (7, .long (lI ((up + dn) ^ (r + 1)))), (9, .int (iI (D : Int))), (6, .ref q), (5, .int (iI (N : Int))), (0, .int (iI (c : Int))), (1, .int (iI fr)), (2, .ref (ka 0)), (3, .ref (ka 4)), (4, .ref (ka 5))]) (by decide) rfl dL_above_97 ?_
        refine jj_ind (X := Nat × (Nat → Int)) (fun q9 => match q9 with | ⟨w2, G2⟩ => (32 - w2 : Nat)) (fun q9 => match q9 with | ⟨w2, G2⟩ => [(10, .int (iI (w2 : Int))), (7, .long (lI ((up + dn) ^ (r + 1)))), (9, .int (iI (D : Int))), (6, .ref q), (5, .int (iI (N : Int))), (0, .int (iI (c : Int))), (1, .int (iI fr)), (2, .ref (ka 0)), (3, .ref (ka 4)), (4, .ref (ka 5))]) (fun q9 => match q9 with | ⟨w2, G2⟩ => []) (fun q9 => match q9 with | ⟨w2, G2⟩ => wL ka cI cJ td pr up dn mo sh co n K St Ex Am Ov Bi As BL AL He Co dv Ca sd Cz ++ ((q, .inl (cJ, 32, .inr (.inl (lA G2)))) :: EE)) (fun q9 => match q9 with | ⟨w2, G2⟩ => w2 ≤ 2 ^ D ∧ (∀ j, j < w2 → G2 j = (f_V up dn dv td (K c) (St c) (Am c) fr (r + 1) D (f_pop j D))) ∧ ∀ j, w2 ≤ j → j < 2 ^ (D + 1) → G2 j = (f_V up dn dv td (K c) (St c) (Am c) fr r (D + 1) (f_pop j (D + 1)))) ?_ (0, G) ⟨Nat.zero_le _, fun j hj => absurd hj (Nat.not_lt_zero j), fun j _ hj => hGD j hj⟩
        intro q9 hq9 ih99
        obtain ⟨w2, G2⟩ := q9
        obtain ⟨hw2, hG2, hG3⟩ : w2 ≤ 2 ^ D ∧ (∀ j, j < w2 → G2 j = (f_V up dn dv td (K c) (St c) (Am c) fr (r + 1) D (f_pop j D))) ∧ ∀ j, w2 ≤ j → j < 2 ^ (D + 1) → G2 j = (f_V up dn dv td (K c) (St c) (Am c) fr r (D + 1) (f_pop j (D + 1))) := hq9
        have hpl2 := f_pop_le w2 D
        show jj_W _ _ _ _ _ _ _ _ _ _ _ _ _ _ _ _ _ 99 [(10, .int (iI (w2 : Int))), (7, .long (lI ((up + dn) ^ (r + 1)))), (9, .int (iI (D : Int))), (6, .ref q), (5, .int (iI (N : Int))), (0, .int (iI (c : Int))), (1, .int (iI fr)), (2, .ref (ka 0)), (3, .ref (ka 4)), (4, .ref (ka 5))] [] (wL ka cI cJ td pr up dn mo sh co n K St Ex Am Ov Bi As BL AL He Co dv Ca sd Cz ++ ((q, .inl (cJ, 32, .inr (.inl (lA G2)))) :: EE))
        refine jj_iload C0 0 rfl dL_above_99 ?_
        refine jj_iconst C0 dL_above_101 ?_
        refine jj_iload C0 2 rfl dL_above_102 ?_
        refine jj_ishlN C0 (d := D) (by omega) dL_above_104 ?_
        refine jj_icmp_ge C0 (by omega) (by omega) dL_above_105 (tgt := 199) (by decide) (fun c_4 => ?_) (fun c_4 => ?_)
        · refine jj_iinc C0 (z := ((N : Int) - ((r + 1 : Nat) : Int) - 1)) (lv' := [(9, .int (iI ((N : Int) - ((r + 1 : Nat) : Int) - 1))), (10, .int (iI (w2 : Int))), (7, .long (lI ((up + dn) ^ (r + 1)))), (6, .ref q), (5, .int (iI (N : Int))), (0, .int (iI (c : Int))), (1, .int (iI fr)), (2, .ref (ka 0)), (3, .ref (ka 4)), (4, .ref (ka 5))]) 2 rfl (by omega) (by decide) rfl dL_above_199 ?_
          refine jj_goto C0 (tgt := 78) dL_above_202 (by decide) ?_
          refine jj_lv [0, 2, 3, 4, 5, 6, 7, 8, 9] rfl ?_
          exact ih78 (r + 1, G2) ⟨by omega, fun j hj => by rw [show N - (r + 1) = D by omega] at hj ⊢; exact hG2 j (by omega)⟩ (by dsimp only; omega)
        · have hpp := f_pop_2 D (by omega) w2 (by omega)
          have hga : G2 w2 = (f_V up dn dv td (K c) (St c) (Am c) fr r (D + 1) (f_pop w2 D)) := by rw [hG3 w2 (Nat.le_refl _) (by omega), hpp.2]
          have hgb : G2 (w2 + 2 ^ D) = (f_V up dn dv td (K c) (St c) (Am c) fr r (D + 1) (f_pop w2 D + 1)) := by rw [hG3 (w2 + 2 ^ D) (by omega) (by omega), hpp.1]
          have hgo := f_go_lR (t := td) (ki := K c) (am := Am c) hup hdn hdv (hSt c) hfr (r := r) (d := D) (k := f_pop w2 D) (by omega) hpl2
          have hmc : (up + dn) ^ (r + 1) * f_pays (K c) (St c) (f_price up dn dv td fr D (f_pop w2 D)) = f_pays (K c) (St c) (f_price up dn dv td fr D (f_pop w2 D)) * (up + dn) ^ (r + 1) := Int.mul_comm _ _
          refine jj_aload_n C0 8 rfl dL_above_108 ?_
          refine jj_iconst C0 dL_above_109 ?_
          refine jj_iald C0 (q0 := 4) (t0 := 0) (f := (f_lg td pr up dn mo sh co n)) (rfl) rfl (k := 2) (by omega) (by omega) (by decide) dL_above_110 ?_
          refine jj_topi (b := up) (rfl) ?_
          refine jj_i2l C0 (by omega) dL_above_111 ?_
          refine jj_aload C0 3 rfl dL_above_112 ?_
          refine jj_iload C0 0 rfl dL_above_114 ?_
          refine jj_lald C0 (q0 := 7) (t0 := 1) (f := G2) (rfl) rfl (k := w2) (by omega) (by omega) (by decide) dL_above_116 ?_
          refine jj_topl (b := (f_V up dn dv td (K c) (St c) (Am c) fr r (D + 1) (f_pop w2 D))) (hga) ?_
          refine jj_lmul C0 dL_above_117 ?_
          refine jj_aload_n C0 8 rfl dL_above_118 ?_
          refine jj_iconst C0 dL_above_119 ?_
          refine jj_iald C0 (q0 := 4) (t0 := 0) (f := (f_lg td pr up dn mo sh co n)) (rfl) rfl (k := 3) (by omega) (by omega) (by decide) dL_above_120 ?_
          refine jj_topi (b := dn) (rfl) ?_
          refine jj_i2l C0 (by omega) dL_above_121 ?_
          refine jj_aload C0 3 rfl dL_above_122 ?_
          refine jj_iload C0 0 rfl dL_above_124 ?_
          refine jj_iconst C0 dL_above_126 ?_
          refine jj_iload C0 2 rfl dL_above_127 ?_
          refine jj_ishlN C0 (d := D) (by omega) dL_above_129 ?_
          refine jj_iadd C0 dL_above_130 ?_
          refine jj_lald C0 (q0 := 7) (t0 := 1) (f := G2) (rfl) rfl (k := (w2 + (2 ^ D))) (by omega) (by omega) (by decide) dL_above_131 ?_
          refine jj_topl (b := (f_V up dn dv td (K c) (St c) (Am c) fr r (D + 1) (f_pop w2 D + 1))) (hgb) ?_
          refine jj_lmul C0 dL_above_132 ?_
          refine jj_ladd C0 dL_above_133 ?_
          refine jj_lstore C0 (lv' := [(11, .long (lI ((up * (f_V up dn dv td (K c) (St c) (Am c) fr r (D + 1) (f_pop w2 D))) + (dn * (f_V up dn dv td (K c) (St c) (Am c) fr r (D + 1) (f_pop w2 D + 1)))))), (10, .int (iI (w2 : Int))), (7, .long (lI ((up + dn) ^ (r + 1)))), (9, .int (iI (D : Int))), (6, .ref q), (5, .int (iI (N : Int))), (0, .int (iI (c : Int))), (1, .int (iI fr)), (2, .ref (ka 0)), (3, .ref (ka 4)), (4, .ref (ka 5))]) (by decide) rfl dL_above_134 ?_
          refine jj_aload_n C0 8 rfl dL_above_136 ?_
          refine jj_bipush C0 dL_above_137 (by decide) ?_
          refine jj_iload_n C0 6 rfl dL_above_139 ?_
          refine jj_iadd C0 dL_above_140 ?_
          refine jj_iald C0 (q0 := 0) (t0 := 0) (f := (f_lk K St Ex Am Ov)) (rfl) rfl (k := (18 + c)) (by omega) (by omega) (by decide) dL_above_141 ?_
          refine jj_topi (b := (Am c + 2 * Ov c)) (f_lk_A) ?_
          refine jj_iconst C0 dL_above_142 ?_
          refine jj_iandA C0 (hAm _) (hOv _) dL_above_143 ?_
          refine jj_iconst C0 dL_above_144 ?_
          refine jj_icmp_ne C0 (by omega) (by omega) dL_above_145 (tgt := 170) (by decide) (fun c_5 => ?_) (fun c_5 => ?_)
          · refine jj_lconst C0 (z := 0) (by decide) dL_above_170 ?_
            refine jj_lstore C0 (lv' := [(13, .long (lI 0)), (11, .long (lI ((up * (f_V up dn dv td (K c) (St c) (Am c) fr r (D + 1) (f_pop w2 D))) + (dn * (f_V up dn dv td (K c) (St c) (Am c) fr r (D + 1) (f_pop w2 D + 1)))))), (10, .int (iI (w2 : Int))), (7, .long (lI ((up + dn) ^ (r + 1)))), (9, .int (iI (D : Int))), (6, .ref q), (5, .int (iI (N : Int))), (0, .int (iI (c : Int))), (1, .int (iI fr)), (2, .ref (ka 0)), (3, .ref (ka 4)), (4, .ref (ka 5))]) (by decide) rfl dL_above_171 ?_
            refine jj_aload C0 5 rfl dL_above_173 ?_
            refine jj_iload C0 2 rfl dL_above_175 ?_
            refine jj_lload C0 0 rfl dL_above_177 ?_
            refine jj_lload C0 1 rfl dL_above_179 ?_
            refine jj_lcmp_le C0 (by omega) (by omega) dL_above_181 dL_above_182 (tgt := 190) (by decide) (fun c_6 => ?_) (fun c_6 => ?_)
            · refine jj_lload C0 1 rfl dL_above_190 ?_
              refine jj_topl (b := (f_V up dn dv td (K c) (St c) (Am c) fr (r + 1) D (f_pop w2 D))) (f_V_1 rfl rfl (by omega)) ?_
              refine jj_last C0 (q0 := 7) (t0 := 1) (f := G2) (rfl) rfl (k := w2) (by omega) (by omega) (by decide) (ws' := wL ka cI cJ td pr up dn mo sh co n K St Ex Am Ov Bi As BL AL He Co dv Ca sd Cz ++ ((q, .inl (cJ, 32, .inr (.inl (lA (va_up G2 w2 (f_V up dn dv td (K c) (St c) (Am c) fr (r + 1) D (f_pop w2 D))))))) :: EE)) (rfl) dL_above_192 ?_
              refine jj_iinc C0 (z := ((w2 + 1 : Nat) : Int)) (lv' := [(10, .int (iI ((w2 + 1 : Nat) : Int))), (13, .long (lI 0)), (11, .long (lI ((up * (f_V up dn dv td (K c) (St c) (Am c) fr r (D + 1) (f_pop w2 D))) + (dn * (f_V up dn dv td (K c) (St c) (Am c) fr r (D + 1) (f_pop w2 D + 1)))))), (7, .long (lI ((up + dn) ^ (r + 1)))), (9, .int (iI (D : Int))), (6, .ref q), (5, .int (iI (N : Int))), (0, .int (iI (c : Int))), (1, .int (iI fr)), (2, .ref (ka 0)), (3, .ref (ka 4)), (4, .ref (ka 5))]) 2 rfl (by omega) (by decide) rfl dL_above_193 ?_
              refine jj_goto C0 (tgt := 99) dL_above_196 (by decide) ?_
              refine jj_lv [0, 3, 4, 5, 6, 7, 8, 9, 10, 11] rfl ?_
              exact ih99 (w2 + 1, (va_up G2 w2 (f_V up dn dv td (K c) (St c) (Am c) fr (r + 1) D (f_pop w2 D)))) ⟨by omega, up_lt hG2 rfl, fun j hj hk => by rw [va_up_ne _ _ (by omega)]; exact hG3 j (by omega) hk⟩ (by dsimp only; omega)
            · refine jj_lload C0 0 rfl dL_above_185 ?_
              refine jj_goto C0 (tgt := 192) dL_above_187 (by decide) ?_
              refine jj_topl (b := (f_V up dn dv td (K c) (St c) (Am c) fr (r + 1) D (f_pop w2 D))) (f_V_1 rfl rfl (by omega)) ?_
              refine jj_last C0 (q0 := 7) (t0 := 1) (f := G2) (rfl) rfl (k := w2) (by omega) (by omega) (by decide) (ws' := wL ka cI cJ td pr up dn mo sh co n K St Ex Am Ov Bi As BL AL He Co dv Ca sd Cz ++ ((q, .inl (cJ, 32, .inr (.inl (lA (va_up G2 w2 (f_V up dn dv td (K c) (St c) (Am c) fr (r + 1) D (f_pop w2 D))))))) :: EE)) (rfl) dL_above_192 ?_
              refine jj_iinc C0 (z := ((w2 + 1 : Nat) : Int)) (lv' := [(10, .int (iI ((w2 + 1 : Nat) : Int))), (13, .long (lI 0)), (11, .long (lI ((up * (f_V up dn dv td (K c) (St c) (Am c) fr r (D + 1) (f_pop w2 D))) + (dn * (f_V up dn dv td (K c) (St c) (Am c) fr r (D + 1) (f_pop w2 D + 1)))))), (7, .long (lI ((up + dn) ^ (r + 1)))), (9, .int (iI (D : Int))), (6, .ref q), (5, .int (iI (N : Int))), (0, .int (iI (c : Int))), (1, .int (iI fr)), (2, .ref (ka 0)), (3, .ref (ka 4)), (4, .ref (ka 5))]) 2 rfl (by omega) (by decide) rfl dL_above_193 ?_
              refine jj_goto C0 (tgt := 99) dL_above_196 (by decide) ?_
              refine jj_lv [0, 3, 4, 5, 6, 7, 8, 9, 10, 11] rfl ?_
              exact ih99 (w2 + 1, (va_up G2 w2 (f_V up dn dv td (K c) (St c) (Am c) fr (r + 1) D (f_pop w2 D)))) ⟨by omega, up_lt hG2 rfl, fun j hj hk => by rw [va_up_ne _ _ (by omega)]; exact hG3 j (by omega) hk⟩ (by dsimp only; omega)
          · refine jj_lload C0 2 rfl dL_above_148 ?_
            refine jj_iload_n C0 6 rfl dL_above_150 ?_
            refine jj_iload_n C0 7 rfl dL_above_151 ?_
            refine jj_iload C0 1 rfl dL_above_152 ?_
            refine jj_iload C0 3 rfl dL_above_154 ?_
            refine jj_aload_n C0 9 rfl dL_above_156 ?_
            refine jj_aload C0 10 rfl dL_above_157 ?_
            refine jj_callSl C0 (cells' := (0 + 1)) (slots' := (0 + 32)) (cc_L_at hEV (fr := fr) (w := w2) (j := D) (by omega) (by omega) (by omega) (by first | exact hfr | omega) (by first | exact hup | omega) (by first | exact hdn | omega) (by first | exact hdv | omega)) (cwS 5 hw (lw_gS hU_716 hU_717 hU_42 hU_718) rfl rfl rfl (by decide +kernel) ⟨Nat.le_of_ble_eq_true rfl, Nat.le_of_ble_eq_true rfl⟩) rfl rfl (Nat.le_of_ble_eq_true rfl) ⟨by show (0 + 1) + 0 ≤ 1; omega, by show (0 + 32) + 0 ≤ 32; omega⟩ rfl rfl dL_above_159 ?_
            intro _ hu
            show jj_W _ _ _ _ _ _ _ _ _ _ _ _ _ _ _ _ _ 162 _ [.long (lI (f_price up dn dv td fr D (f_pop w2 D))), .int (iI (c : Int)), .long (lI ((up + dn) ^ (r + 1)))] (wL ka cI cJ td pr up dn mo sh co n K St Ex Am Ov Bi As BL AL He Co dv Ca sd Cz ++ ((q, .inl (cJ, 32, .inr (.inl (lA G2)))) :: EE))
            refine jj_aload_n C0 8 rfl dL_above_162 ?_
            have hpb2 := f_price_bd (t := td) (j := D) (k := f_pop w2 D) hup hdn hdv hfr (by omega) hpl2
            refine jj_callSl C0 (cells' := (0 + 1)) (slots' := (0 + 32)) (cc_L_pays hEV (c := c) (z := (f_price up dn dv td fr D (f_pop w2 D))) (by omega) (by first | exact hc6 | omega) (by first | exact hK | omega) (by first | exact hSt | omega)) (cwS 3 hw (lw_gS hU_706 hU_707 hU_42 hU_708) rfl rfl rfl (by decide +kernel) ⟨Nat.le_of_ble_eq_true rfl, Nat.le_of_ble_eq_true rfl⟩) rfl rfl (Nat.le_of_ble_eq_true rfl) ⟨by show (0 + 1) + 0 ≤ 1; omega, by show (0 + 32) + 0 ≤ 32; omega⟩ rfl rfl dL_above_163 ?_
            intro _ hu
            show jj_W _ _ _ _ _ _ _ _ _ _ _ _ _ _ _ _ _ 166 _ [.long (lI (f_pays (K c) (St c) (f_price up dn dv td fr D (f_pop w2 D)))), .long (lI ((up + dn) ^ (r + 1)))] (wL ka cI cJ td pr up dn mo sh co n K St Ex Am Ov Bi As BL AL He Co dv Ca sd Cz ++ ((q, .inl (cJ, 32, .inr (.inl (lA G2)))) :: EE))
            refine jj_lmul C0 dL_above_166 ?_
            refine jj_goto C0 (tgt := 171) dL_above_167 (by decide) ?_
            refine jj_lstore C0 (lv' := [(13, .long (lI (((up + dn) ^ (r + 1)) * (f_pays (K c) (St c) (f_price up dn dv td fr D (f_pop w2 D)))))), (11, .long (lI ((up * (f_V up dn dv td (K c) (St c) (Am c) fr r (D + 1) (f_pop w2 D))) + (dn * (f_V up dn dv td (K c) (St c) (Am c) fr r (D + 1) (f_pop w2 D + 1)))))), (10, .int (iI (w2 : Int))), (7, .long (lI ((up + dn) ^ (r + 1)))), (9, .int (iI (D : Int))), (6, .ref q), (5, .int (iI (N : Int))), (0, .int (iI (c : Int))), (1, .int (iI fr)), (2, .ref (ka 0)), (3, .ref (ka 4)), (4, .ref (ka 5))]) (by decide) rfl dL_above_171 ?_
            refine jj_aload C0 5 rfl dL_above_173 ?_
            refine jj_iload C0 2 rfl dL_above_175 ?_
            refine jj_lload C0 0 rfl dL_above_177 ?_
            refine jj_lload C0 1 rfl dL_above_179 ?_
            refine jj_lcmp_le C0 (by omega) (by omega) dL_above_181 dL_above_182 (tgt := 190) (by decide) (fun c_7 => ?_) (fun c_7 => ?_)
            · refine jj_lload C0 1 rfl dL_above_190 ?_
              refine jj_topl (b := (f_V up dn dv td (K c) (St c) (Am c) fr (r + 1) D (f_pop w2 D))) (f_V_1 rfl rfl (by omega)) ?_
              refine jj_last C0 (q0 := 7) (t0 := 1) (f := G2) (rfl) rfl (k := w2) (by omega) (by omega) (by decide) (ws' := wL ka cI cJ td pr up dn mo sh co n K St Ex Am Ov Bi As BL AL He Co dv Ca sd Cz ++ ((q, .inl (cJ, 32, .inr (.inl (lA (va_up G2 w2 (f_V up dn dv td (K c) (St c) (Am c) fr (r + 1) D (f_pop w2 D))))))) :: EE)) (rfl) dL_above_192 ?_
              refine jj_iinc C0 (z := ((w2 + 1 : Nat) : Int)) (lv' := [(10, .int (iI ((w2 + 1 : Nat) : Int))), (13, .long (lI (((up + dn) ^ (r + 1)) * (f_pays (K c) (St c) (f_price up dn dv td fr D (f_pop w2 D)))))), (11, .long (lI ((up * (f_V up dn dv td (K c) (St c) (Am c) fr r (D + 1) (f_pop w2 D))) + (dn * (f_V up dn dv td (K c) (St c) (Am c) fr r (D + 1) (f_pop w2 D + 1)))))), (7, .long (lI ((up + dn) ^ (r + 1)))), (9, .int (iI (D : Int))), (6, .ref q), (5, .int (iI (N : Int))), (0, .int (iI (c : Int))), (1, .int (iI fr)), (2, .ref (ka 0)), (3, .ref (ka 4)), (4, .ref (ka 5))]) 2 rfl (by omega) (by decide) rfl dL_above_193 ?_
              refine jj_goto C0 (tgt := 99) dL_above_196 (by decide) ?_
              refine jj_lv [0, 3, 4, 5, 6, 7, 8, 9, 10, 11] rfl ?_
              exact ih99 (w2 + 1, (va_up G2 w2 (f_V up dn dv td (K c) (St c) (Am c) fr (r + 1) D (f_pop w2 D)))) ⟨by omega, up_lt hG2 rfl, fun j hj hk => by rw [va_up_ne _ _ (by omega)]; exact hG3 j (by omega) hk⟩ (by dsimp only; omega)
            · refine jj_lload C0 0 rfl dL_above_185 ?_
              refine jj_goto C0 (tgt := 192) dL_above_187 (by decide) ?_
              refine jj_topl (b := (f_V up dn dv td (K c) (St c) (Am c) fr (r + 1) D (f_pop w2 D))) (f_V_1 rfl rfl (by omega)) ?_
              refine jj_last C0 (q0 := 7) (t0 := 1) (f := G2) (rfl) rfl (k := w2) (by omega) (by omega) (by decide) (ws' := wL ka cI cJ td pr up dn mo sh co n K St Ex Am Ov Bi As BL AL He Co dv Ca sd Cz ++ ((q, .inl (cJ, 32, .inr (.inl (lA (va_up G2 w2 (f_V up dn dv td (K c) (St c) (Am c) fr (r + 1) D (f_pop w2 D))))))) :: EE)) (rfl) dL_above_192 ?_
              refine jj_iinc C0 (z := ((w2 + 1 : Nat) : Int)) (lv' := [(10, .int (iI ((w2 + 1 : Nat) : Int))), (13, .long (lI (((up + dn) ^ (r + 1)) * (f_pays (K c) (St c) (f_price up dn dv td fr D (f_pop w2 D)))))), (11, .long (lI ((up * (f_V up dn dv td (K c) (St c) (Am c) fr r (D + 1) (f_pop w2 D))) + (dn * (f_V up dn dv td (K c) (St c) (Am c) fr r (D + 1) (f_pop w2 D + 1)))))), (7, .long (lI ((up + dn) ^ (r + 1)))), (9, .int (iI (D : Int))), (6, .ref q), (5, .int (iI (N : Int))), (0, .int (iI (c : Int))), (1, .int (iI fr)), (2, .ref (ka 0)), (3, .ref (ka 4)), (4, .ref (ka 5))]) 2 rfl (by omega) (by decide) rfl dL_above_193 ?_
              refine jj_goto C0 (tgt := 99) dL_above_196 (by decide) ?_
              refine jj_lv [0, 3, 4, 5, 6, 7, 8, 9, 10, 11] rfl ?_
              exact ih99 (w2 + 1, (va_up G2 w2 (f_V up dn dv td (K c) (St c) (Am c) fr (r + 1) D (f_pop w2 D)))) ⟨by omega, up_lt hG2 rfl, fun j hj hk => by rw [va_up_ne _ _ (by omega)]; exact hG3 j (by omega) hk⟩ (by dsimp only; omega)
    · refine jj_aload C0 1 rfl dL_above_42 ?_
      refine jj_iload C0 0 rfl dL_above_44 ?_
      refine jj_iload_n C0 3 rfl dL_above_46 ?_
      refine jj_iload_n C0 4 rfl dL_above_47 ?_
      refine jj_iload C0 0 rfl dL_above_48 ?_
      refine jj_iload C0 2 rfl dL_above_50 ?_
      refine jj_aload_n C0 6 rfl dL_above_52 ?_
      refine jj_aload C0 7 rfl dL_above_53 ?_
      refine jj_callSl C0 (cells' := (0 + 1)) (slots' := (0 + 32)) (cc_L_at hEV (fr := fr) (w := w) (j := N) (by omega) (by omega) (by omega) (by first | exact hfr | omega) (by first | exact hup | omega) (by first | exact hdn | omega) (by first | exact hdv | omega)) (cwS 5 hw (lw_gS hU_716 hU_717 hU_42 hU_718) rfl rfl rfl (by decide +kernel) ⟨Nat.le_of_ble_eq_true rfl, Nat.le_of_ble_eq_true rfl⟩) rfl rfl (Nat.le_of_ble_eq_true rfl) ⟨by show (0 + 1) + 0 ≤ 1; omega, by show (0 + 32) + 0 ≤ 32; omega⟩ rfl rfl dL_above_55 ?_
      intro _ hu
      show jj_W _ _ _ _ _ _ _ _ _ _ _ _ _ _ _ _ _ 58 _ [.long (lI (f_price up dn dv td fr N (f_pop w N))), .int (iI (c : Int)), .int (iI (w : Int)), .ref q] (wL ka cI cJ td pr up dn mo sh co n K St Ex Am Ov Bi As BL AL He Co dv Ca sd Cz ++ ((q, .inl (cJ, 32, .inr (.inl (lA F)))) :: EE))
      refine jj_aload_n C0 5 rfl dL_above_58 ?_
      have hpb := f_price_bd (t := td) (j := N) (k := f_pop w N) hup hdn hdv hfr (by omega) hpl
      refine jj_callSl C0 (cells' := (0 + 1)) (slots' := (0 + 32)) (cc_L_pays hEV (c := c) (z := (f_price up dn dv td fr N (f_pop w N))) (by omega) (by first | exact hc6 | omega) (by first | exact hK | omega) (by first | exact hSt | omega)) (cwS 3 hw (lw_gS hU_706 hU_707 hU_42 hU_708) rfl rfl rfl (by decide +kernel) ⟨Nat.le_of_ble_eq_true rfl, Nat.le_of_ble_eq_true rfl⟩) rfl rfl (Nat.le_of_ble_eq_true rfl) ⟨by show (0 + 1) + 0 ≤ 1; omega, by show (0 + 32) + 0 ≤ 32; omega⟩ rfl rfl dL_above_59 ?_
      intro _ hu
      show jj_W _ _ _ _ _ _ _ _ _ _ _ _ _ _ _ _ _ 62 _ [.long (lI (f_pays (K c) (St c) (f_price up dn dv td fr N (f_pop w N)))), .int (iI (w : Int)), .ref q] (wL ka cI cJ td pr up dn mo sh co n K St Ex Am Ov Bi As BL AL He Co dv Ca sd Cz ++ ((q, .inl (cJ, 32, .inr (.inl (lA F)))) :: EE))
      refine jj_last C0 (q0 := 7) (t0 := 1) (f := F) (rfl) rfl (k := w) (by omega) (by omega) (by decide) (ws' := wL ka cI cJ td pr up dn mo sh co n K St Ex Am Ov Bi As BL AL He Co dv Ca sd Cz ++ ((q, .inl (cJ, 32, .inr (.inl (lA (va_up F w (f_pays (K c) (St c) (f_price up dn dv td fr N (f_pop w N)))))))) :: EE)) (rfl) dL_above_62 ?_
      refine jj_iinc C0 (z := ((w + 1 : Nat) : Int)) (lv' := [(7, .int (iI ((w + 1 : Nat) : Int))), (6, .ref q), (5, .int (iI (N : Int))), (0, .int (iI (c : Int))), (1, .int (iI fr)), (2, .ref (ka 0)), (3, .ref (ka 4)), (4, .ref (ka 5))]) 0 rfl (by omega) (by decide) rfl dL_above_63 ?_
      refine jj_goto C0 (tgt := 33) dL_above_66 (by decide) ?_
      exact ih33 (w + 1, (va_up F w (f_pays (K c) (St c) (f_price up dn dv td fr N (f_pop w N))))) ⟨by omega, up_lt hF rfl⟩ (by dsimp only; omega)
  · refine jj_lconst C0 (z := 0) (by decide) dL_above_22 ?_
    exact jj_lret C0 hr () (trivial) (by unfold f_num; rw [if_pos (by omega)]) (rfl) (by show 0 ≤ 1; omega) (by show 0 ≤ 32; omega) dL_above_23
set_option maxHeartbeats 4000000 in
set_option maxRecDepth 100000 in
theorem cc_L_markOf (hEV : jj_EV EV) {c : Nat} {fr : Int} (hc6 : c < 6) (hovc : (Ov c = 1 ∧ Ex c < (td : Int)) ∨ (Ov c = 0 ∧ (td : Int) ≤ Ex c ∧ Ex c ≤ (td : Int) + 5)) (htd5 : td ≤ 46) (hfr : -30000 ≤ fr ∧ fr ≤ 30000) (hup : 1 ≤ up ∧ up ≤ 10) (hdn : 1 ≤ dn ∧ dn ≤ 10) (hdv : ∀ j, 0 ≤ dv j ∧ dv j ≤ 1000) (hK : ∀ j, 0 ≤ K j ∧ K j ≤ 1) (hSt : ∀ j, 0 ≤ St j ∧ St j ≤ 20000) (hEx : ∀ j, 0 ≤ Ex j ∧ Ex j ≤ 200) (hAm : ∀ j, 0 ≤ Am j ∧ Am j ≤ 1) (hOv : ∀ j, 0 ≤ Ov j ∧ Ov j ≤ 1) : jj_Ml EV (dC, dI) vwCl [(cI, .int), (cJ, .long), (cZ, .boolean), (cO, .object "java/lang/Object")] l yL_markOf (Cond.code yL_markOf cL_markOf 5 (some .long) :: lw_U) ({ frames := 2, cells := 1, slots := 32, locals := 61 } : Room) [.int (iI (c : Int)), .int (iI fr), .ref (ka 0), .ref (ka 4), .ref (ka 5)] (wL ka cI cJ td pr up dn mo sh co n K St Ex Am Ov Bi As BL AL He Co dv Ca sd Cz ++ EE) (S := Unit) (fun _ => (f_mark up dn dv td (K c) (St c) (Ex c) (Am c) fr)) (fun _ => True) (fun _ => wL ka cI cJ td pr up dn mo sh co n K St Ex Am Ov Bi As BL AL He Co dv Ca sd Cz ++ EE) := by
  refine jj_start (cc := cL_markOf) (nL := 5) (ret := (some .long)) (lv := [(0, .int (iI (c : Int))), (1, .int (iI fr)), (2, .ref (ka 0)), (3, .ref (ka 4)), (4, .ref (ka 5))]) (fun A => jj_Ql _ _ _ _ _ _ A) hEV (by decide) rfl (Nat.le_of_ble_eq_true rfl) rfl ?_
  intro p9 e9 s9 m9 a9 b9 me9 c9 A9 C1 hr hin
  have C0 : jj_C p9 s9 m9 a9 me9 c9 (dC, dI) vwCl A9 5 cL_markOf "StrikehallLaw" lw_U _ EV := jj_toU C1
  have hw := C0.2.2.2.2.1
  have hnb := f_num_bd (t := td) (ki := K c) (am := Am c) hup hdn hdv (hSt c) hfr (ex := Ex c) (by omega)
  have hdb := f_den5 (t := td) (ex := Ex c) hup hdn (by omega)
  refine jj_ldc2 C0 (z := 1000) (by decide) (hw _ hU_712) dL_markOf_0 ?_
  refine jj_iload_n C0 0 rfl dL_markOf_3 ?_
  refine jj_iload_n C0 1 rfl dL_markOf_4 ?_
  refine jj_aload_n C0 2 rfl dL_markOf_5 ?_
  refine jj_aload_n C0 3 rfl dL_markOf_6 ?_
  refine jj_aload C0 4 rfl dL_markOf_7 ?_
  refine jj_callSl C0 (cells' := (0 + 1)) (slots' := (0 + 32)) (cc_L_above hEV (c := c) (fr := fr) (by first | exact hc6 | omega) (by first | exact hovc | omega) (by first | exact htd5 | omega) (by first | exact hfr | omega) (by first | exact hup | omega) (by first | exact hdn | omega) (by first | exact hdv | omega) (by first | exact hK | omega) (by first | exact hSt | omega) (by first | exact hEx | omega) (by first | exact hAm | omega) (by first | exact hOv | omega)) (cwS 5 hw (lw_gS hU_713 hU_714 hU_42 hU_715) rfl rfl rfl (by decide +kernel) ⟨Nat.le_of_ble_eq_true rfl, Nat.le_of_ble_eq_true rfl⟩) rfl rfl (Nat.le_of_ble_eq_true rfl) ⟨by show 0 + 1 ≤ 1; omega, by show 0 + 32 ≤ 32; omega⟩ rfl rfl dL_markOf_9 ?_
  intro _ hu
  show jj_W _ _ _ _ _ _ _ _ _ _ _ _ _ _ _ _ _ 12 _ [.long (lI (f_num up dn dv td (K c) (St c) (Ex c) (Am c) fr)), .long (lI 1000)] (wL ka cI cJ td pr up dn mo sh co n K St Ex Am Ov Bi As BL AL He Co dv Ca sd Cz ++ EE)
  refine jj_lmul C0 dL_markOf_12 ?_
  refine jj_iload_n C0 0 rfl dL_markOf_13 ?_
  refine jj_aload_n C0 2 rfl dL_markOf_14 ?_
  refine jj_aload_n C0 3 rfl dL_markOf_15 ?_
  refine jj_callSl C0 (cells' := (0 + 1)) (slots' := (0 + 32)) (cc_L_below hEV (c := c) (by first | exact hc6 | omega) (by first | exact hovc | omega) (by first | exact hup | omega) (by first | exact hdn | omega) (by first | exact hAm | omega) (by first | exact hOv | omega) (by first | exact hEx | omega) (by first | exact htd5 | omega)) (cwS 3 hw (lw_gS hU_719 hU_720 hU_42 hU_721) rfl rfl rfl (by decide +kernel) ⟨Nat.le_of_ble_eq_true rfl, Nat.le_of_ble_eq_true rfl⟩) rfl rfl (Nat.le_of_ble_eq_true rfl) ⟨by show (0 + 1) + 0 ≤ 1; omega, by show (0 + 32) + 0 ≤ 32; omega⟩ rfl rfl dL_markOf_16 ?_
  intro _ hu
  show jj_W _ _ _ _ _ _ _ _ _ _ _ _ _ _ _ _ _ 19 _ [.long (lI (f_den up dn td (Ex c))), .long (lI (1000 * (f_num up dn dv td (K c) (St c) (Ex c) (Am c) fr)))] (wL ka cI cJ td pr up dn mo sh co n K St Ex Am Ov Bi As BL AL He Co dv Ca sd Cz ++ EE)
  refine jj_ldiv C0 (by omega) (by omega) (by omega) (by omega) dL_markOf_19 ?_
  exact jj_lret C0 hr () (trivial) (f_mk_eq (by omega)) (rfl) (by show (0 + 1) ≤ 1; omega) (by show (0 + 32) ≤ 32; omega) dL_markOf_20
set_option maxHeartbeats 4000000 in
set_option maxRecDepth 100000 in
theorem cc_L_worth (hEV : jj_EV EV) {fr : Int} (hovw : ∀ c, c < n → He (7 * c + 6) = 0 ∨ (Ov c = 1 ∧ Ex c < (td : Int)) ∨ (Ov c = 0 ∧ (td : Int) ≤ Ex c ∧ Ex c ≤ (td : Int) + 5)) (hn6 : n ≤ 6) (htd5 : td ≤ 46) (hfr : -30000 ≤ fr ∧ fr ≤ 30000) (hup : 1 ≤ up ∧ up ≤ 10) (hdn : 1 ≤ dn ∧ dn ≤ 10) (hdv : ∀ j, 0 ≤ dv j ∧ dv j ≤ 1000) (hK : ∀ j, 0 ≤ K j ∧ K j ≤ 1) (hSt : ∀ j, 0 ≤ St j ∧ St j ≤ 20000) (hEx : ∀ j, 0 ≤ Ex j ∧ Ex j ≤ 200) (hAm : ∀ j, 0 ≤ Am j ∧ Am j ≤ 1) (hOv : ∀ j, 0 ≤ Ov j ∧ Ov j ≤ 1) (hHe : ∀ j, -1000000 ≤ He j ∧ He j ≤ 1000000) (hsh : -100000 ≤ sh ∧ sh ≤ 100000) : jj_Ml EV (dC, dI) vwCl [(cI, .int), (cJ, .long), (cZ, .boolean), (cO, .object "java/lang/Object")] l yL_worth (Cond.code yL_worth cL_worth 9 (some .long) :: lw_U) ({ frames := 3, cells := 6, slots := 192, locals := 85 } : Room) [.int (iI fr), .ref (ka 0), .ref (ka 1), .ref (ka 4), .ref (ka 5), .ref (ka 6)] (wL ka cI cJ td pr up dn mo sh co n K St Ex Am Ov Bi As BL AL He Co dv Ca sd Cz ++ EE) (S := Unit) (fun _ => (f_W up dn dv td n K St Ex Am He Ca sh fr)) (fun _ => True) (fun _ => wL ka cI cJ td pr up dn mo sh co n K St Ex Am Ov Bi As BL AL He Co dv Ca sd Cz ++ EE) := by
  refine jj_start (cc := cL_worth) (nL := 9) (ret := (some .long)) (lv := [(0, .int (iI fr)), (1, .ref (ka 0)), (2, .ref (ka 1)), (3, .ref (ka 4)), (4, .ref (ka 5)), (5, .ref (ka 6))]) (fun A => jj_Ql _ _ _ _ _ _ A) hEV (by decide) rfl (Nat.le_of_ble_eq_true rfl) rfl ?_
  intro p9 e9 s9 m9 a9 b9 me9 c9 A9 C1 hr hin
  have C0 : jj_C p9 s9 m9 a9 me9 c9 (dC, dI) vwCl A9 9 cL_worth "StrikehallLaw" lw_U _ EV := jj_toU C1
  have hw := C0.2.2.2.2.1
  refine jj_aload C0 5 rfl dL_worth_0 ?_
  refine jj_bipush C0 dL_worth_2 (by decide) ?_
  refine jj_lald C0 (q0 := 6) (t0 := 1) (f := (f_lm Ca sd Cz)) (rfl) rfl (k := 6) (by omega) (by omega) (by decide) dL_worth_4 ?_
  refine jj_topl (b := (Ca 6)) (f_lm_Ca (by omega)) ?_
  refine jj_ldc2 C0 (z := 1000) (by decide) (hw _ hU_712) dL_worth_5 ?_
  refine jj_iload_n C0 0 rfl dL_worth_8 ?_
  refine jj_i2l C0 (by omega) dL_worth_9 ?_
  refine jj_lmul C0 dL_worth_10 ?_
  refine jj_aload_n C0 3 rfl dL_worth_11 ?_
  refine jj_iconst C0 dL_worth_12 ?_
  refine jj_iald C0 (q0 := 4) (t0 := 0) (f := (f_lg td pr up dn mo sh co n)) (rfl) rfl (k := 5) (by omega) (by omega) (by decide) dL_worth_13 ?_
  refine jj_topi (b := sh) (rfl) ?_
  refine jj_i2l C0 (by omega) dL_worth_14 ?_
  refine jj_lmul C0 dL_worth_15 ?_
  refine jj_ladd C0 dL_worth_16 ?_
  refine jj_topl (b := (f_worth up dn dv td K St Ex Am (fun c => He (7 * c + 6)) (Ca 6) sh fr 0)) (rfl) ?_
  refine jj_lstore C0 (lv' := [(6, .long (lI (f_worth up dn dv td K St Ex Am (fun c => He (7 * c + 6)) (Ca 6) sh fr 0))), (0, .int (iI fr)), (1, .ref (ka 0)), (2, .ref (ka 1)), (3, .ref (ka 4)), (4, .ref (ka 5)), (5, .ref (ka 6))]) (by decide) rfl dL_worth_17 ?_
  refine jj_iconst C0 dL_worth_19 ?_
  refine jj_istore C0 (lv' := [(8, .int (iI 0)), (6, .long (lI (f_worth up dn dv td K St Ex Am (fun c => He (7 * c + 6)) (Ca 6) sh fr 0))), (0, .int (iI fr)), (1, .ref (ka 0)), (2, .ref (ka 1)), (3, .ref (ka 4)), (4, .ref (ka 5)), (5, .ref (ka 6))]) (by decide) rfl dL_worth_20 ?_
  refine jj_wd (cells' := 0) (slots' := (32 * 0)) (by omega) (by omega) ?_
  refine jj_indC (X := Nat) (fun q9 => match q9 with | i => (n + 1 - i : Nat)) (fun q9 => match q9 with | i => i) (fun q9 => match q9 with | i => (32 * i)) (fun q9 => match q9 with | i => [(8, .int (iI (i : Int))), (6, .long (lI (f_worth up dn dv td K St Ex Am (fun c => He (7 * c + 6)) (Ca 6) sh fr i))), (0, .int (iI fr)), (1, .ref (ka 0)), (2, .ref (ka 1)), (3, .ref (ka 4)), (4, .ref (ka 5)), (5, .ref (ka 6))]) (fun q9 => match q9 with | i => []) (fun q9 => match q9 with | i => wL ka cI cJ td pr up dn mo sh co n K St Ex Am Ov Bi As BL AL He Co dv Ca sd Cz ++ EE) (fun q9 => match q9 with | i => i ≤ n) ?_ 0 (Nat.zero_le _)
  intro q9 hq9 ih22
  obtain ⟨i, rfl⟩ : ∃ z, z = q9 := ⟨_, rfl⟩
  have hi : i ≤ n := hq9
  show jj_W _ _ _ _ _ _ _ _ _ _ _ _ _ _ (i) ((32 * i)) _ 22 [(8, .int (iI (i : Int))), (6, .long (lI (f_worth up dn dv td K St Ex Am (fun c => He (7 * c + 6)) (Ca 6) sh fr i))), (0, .int (iI fr)), (1, .ref (ka 0)), (2, .ref (ka 1)), (3, .ref (ka 4)), (4, .ref (ka 5)), (5, .ref (ka 6))] [] (wL ka cI cJ td pr up dn mo sh co n K St Ex Am Ov Bi As BL AL He Co dv Ca sd Cz ++ EE)
  refine jj_iload C0 0 rfl dL_worth_22 ?_
  refine jj_aload_n C0 5 rfl dL_worth_24 ?_
  refine jj_bipush C0 dL_worth_25 (by decide) ?_
  refine jj_iald C0 (q0 := 4) (t0 := 0) (f := (f_lg td pr up dn mo sh co n)) (rfl) rfl (k := 7) (by omega) (by omega) (by decide) dL_worth_27 ?_
  refine jj_topi (b := (n : Int)) (rfl) ?_
  refine jj_icmp_ge C0 (by omega) (by omega) dL_worth_28 (tgt := 77) (by decide) (fun c_1 => ?_) (fun c_1 => ?_)
  · refine jj_lload C0 1 rfl dL_worth_77 ?_
    exact jj_lret C0 hr () (trivial) (by unfold f_W; rw [show n = i by omega]) (rfl) (by show i ≤ 6; omega) (by show (32 * i) ≤ 192; omega) dL_worth_79
  · refine jj_aload_n C0 4 rfl dL_worth_31 ?_
    refine jj_bipush C0 dL_worth_32 (by decide) ?_
    refine jj_iload C0 0 rfl dL_worth_34 ?_
    refine jj_imul C0 dL_worth_36 ?_
    refine jj_bipush C0 dL_worth_37 (by decide) ?_
    refine jj_iadd C0 dL_worth_39 ?_
    refine jj_iald C0 (q0 := 1) (t0 := 0) (f := (f_lh He)) (rfl) rfl (k := ((10 * i) + 6)) (by omega) (by omega) (by decide) dL_worth_40 ?_
    refine jj_topi (b := (He (7 * i + 6))) (f_lh_at (by omega)) ?_
    have hhb := hHe (7 * i + 6)
    refine jj_if_eq C0 (by omega) dL_worth_41 (tgt := 71) (by decide) (fun c_2 => ?_) (fun c_2 => ?_)
    · refine jj_lve (lv' := [(8, .int (iI (i : Int))), (6, .long (lI (f_worth up dn dv td K St Ex Am (fun c => He (7 * c + 6)) (Ca 6) sh fr (i + 1)))), (0, .int (iI fr)), (1, .ref (ka 0)), (2, .ref (ka 1)), (3, .ref (ka 4)), (4, .ref (ka 5)), (5, .ref (ka 6))]) (by simp only [f_worth]; rw [show He (7 * i + 6) = 0 by omega, Int.zero_mul, Int.add_zero]) ?_
      refine jj_iinc C0 (z := ((i + 1 : Nat) : Int)) (lv' := [(8, .int (iI ((i + 1 : Nat) : Int))), (6, .long (lI (f_worth up dn dv td K St Ex Am (fun c => He (7 * c + 6)) (Ca 6) sh fr (i + 1)))), (0, .int (iI fr)), (1, .ref (ka 0)), (2, .ref (ka 1)), (3, .ref (ka 4)), (4, .ref (ka 5)), (5, .ref (ka 6))]) 0 rfl (by omega) (by decide) rfl dL_worth_71 ?_
      refine jj_goto C0 (tgt := 22) dL_worth_74 (by decide) ?_
      refine jj_wd (cells' := (i + 1)) (slots' := (32 * (i + 1))) (by omega) (by omega) ?_
      exact ih22 (i + 1) (by omega) (by dsimp only; omega)
    · refine jj_lload C0 1 rfl dL_worth_44 ?_
      refine jj_aload_n C0 4 rfl dL_worth_46 ?_
      refine jj_bipush C0 dL_worth_47 (by decide) ?_
      refine jj_iload C0 0 rfl dL_worth_49 ?_
      refine jj_imul C0 dL_worth_51 ?_
      refine jj_bipush C0 dL_worth_52 (by decide) ?_
      refine jj_iadd C0 dL_worth_54 ?_
      refine jj_iald C0 (q0 := 1) (t0 := 0) (f := (f_lh He)) (rfl) rfl (k := ((10 * i) + 6)) (by omega) (by omega) (by decide) dL_worth_55 ?_
      refine jj_topi (b := (He (7 * i + 6))) (f_lh_at (by omega)) ?_
      have hov9 : (Ov i = 1 ∧ Ex i < (td : Int)) ∨ (Ov i = 0 ∧ (td : Int) ≤ Ex i ∧ Ex i ≤ (td : Int) + 5) := (hovw i (by omega)).resolve_left (by omega)
      refine jj_i2l C0 (by omega) dL_worth_56 ?_
      refine jj_iload C0 0 rfl dL_worth_57 ?_
      refine jj_iload_n C0 2 rfl dL_worth_59 ?_
      refine jj_aload_n C0 3 rfl dL_worth_60 ?_
      refine jj_aload_n C0 5 rfl dL_worth_61 ?_
      refine jj_aload C0 6 rfl dL_worth_62 ?_
      refine jj_callSl C0 (cells' := (i + 1)) (slots' := ((32 * i) + 32)) (cc_L_markOf hEV (c := i) (fr := fr) (by omega) hov9 (by first | exact htd5 | omega) (by first | exact hfr | omega) (by first | exact hup | omega) (by first | exact hdn | omega) (by first | exact hdv | omega) (by first | exact hK | omega) (by first | exact hSt | omega) (by first | exact hEx | omega) (by first | exact hAm | omega) (by first | exact hOv | omega)) (cwS 5 hw (lw_gS hU_709 hU_710 hU_42 hU_711) rfl rfl rfl (by decide +kernel) ⟨Nat.le_of_ble_eq_true rfl, Nat.le_of_ble_eq_true rfl⟩) rfl rfl (Nat.le_of_ble_eq_true rfl) ⟨by show i + 1 ≤ 6; omega, by show (32 * i) + 32 ≤ 192; omega⟩ rfl rfl dL_worth_64 ?_
      intro _ hu
      show jj_W _ _ _ _ _ _ _ _ _ _ _ _ _ _ _ _ _ 67 _ [.long (lI (f_mark up dn dv td (K i) (St i) (Ex i) (Am i) fr)), .long (lI (He (7 * i + 6))), .long (lI (f_worth up dn dv td K St Ex Am (fun c => He (7 * c + 6)) (Ca 6) sh fr i))] (wL ka cI cJ td pr up dn mo sh co n K St Ex Am Ov Bi As BL AL He Co dv Ca sd Cz ++ EE)
      refine jj_lmul C0 dL_worth_67 ?_
      refine jj_ladd C0 dL_worth_68 ?_
      refine jj_topl (b := (f_worth up dn dv td K St Ex Am (fun c => He (7 * c + 6)) (Ca 6) sh fr (i + 1))) (rfl) ?_
      refine jj_lstore C0 (lv' := [(6, .long (lI (f_worth up dn dv td K St Ex Am (fun c => He (7 * c + 6)) (Ca 6) sh fr (i + 1)))), (8, .int (iI (i : Int))), (0, .int (iI fr)), (1, .ref (ka 0)), (2, .ref (ka 1)), (3, .ref (ka 4)), (4, .ref (ka 5)), (5, .ref (ka 6))]) (by decide) rfl dL_worth_69 ?_
      refine jj_iinc C0 (z := ((i + 1 : Nat) : Int)) (lv' := [(8, .int (iI ((i + 1 : Nat) : Int))), (6, .long (lI (f_worth up dn dv td K St Ex Am (fun c => He (7 * c + 6)) (Ca 6) sh fr (i + 1)))), (0, .int (iI fr)), (1, .ref (ka 0)), (2, .ref (ka 1)), (3, .ref (ka 4)), (4, .ref (ka 5)), (5, .ref (ka 6))]) 1 rfl (by omega) (by decide) rfl dL_worth_71 ?_
      refine jj_goto C0 (tgt := 22) dL_worth_74 (by decide) ?_
      refine jj_wd (cells' := (i + 1)) (slots' := (32 * (i + 1))) (by omega) (by omega) ?_
      exact ih22 (i + 1) (by omega) (by dsimp only; omega)
end P2
