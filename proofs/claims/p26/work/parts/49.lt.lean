/-- what the law's own calls keep beside: t turns are done -/
def f_JV (t td n : Nat) (pr : Int) (dv : Nat → Int) (sh : Int) (St Ex Bj Aj : Nat → Int) : Prop := n ≤ 6 ∧ td ≤ 46 ∧ (∀ c, c < n → Ex c ≤ (td : Int) + 5) ∧ (∀ c, c < n → -(100 + 202 * (t : Int)) ≤ St c - pr ∧ St c - pr ≤ 100 + 202 * (t : Int)) ∧ (∀ j, dv j ≤ 199) ∧ (∀ c, Bj c ≤ 19990 ∧ Aj c ≤ 19990) ∧ -(100 * (t : Int)) ≤ sh ∧ sh ≤ 100 * (t : Int)
theorem f_g_dvd {a b : Int} (ha : 1 ≤ a) (hb : 0 ≤ b) : f_g a b ∣ a ∧ f_g a b ∣ b := by
  unfold f_g
  constructor
  · have h := Int.natCast_dvd_natCast.mpr (Nat.gcd_dvd_left a.toNat b.toNat)
    rwa [Int.toNat_of_nonneg (show 0 ≤ a by omega)] at h
  · have h := Int.natCast_dvd_natCast.mpr (Nat.gcd_dvd_right a.toNat b.toNat)
    rwa [Int.toNat_of_nonneg hb] at h
/-- a fraction in its least terms -/
theorem f_g_terms {a b : Int} (ha : 1 ≤ a) (hb : 0 ≤ b) : b / f_g a b * a = b * (a / f_g a b) ∧ 1 ≤ a / f_g a b ∧ a / f_g a b ≤ a ∧ a % (a / f_g a b) = 0 := by
  have h0 := f_g_bd (a := a) (b := b) ha
  obtain ⟨⟨x, hx⟩, ⟨y, hy⟩⟩ := f_g_dvd ha hb
  generalize f_g a b = g at *
  have e1 : a / g = x := by rw [hx]; exact Int.mul_ediv_cancel_left _ (by omega)
  have e2 : b / g = y := by rw [hy]; exact Int.mul_ediv_cancel_left _ (by omega)
  have hx1 : 1 ≤ x := by
    rcases (by omega : x < 1 ∨ 1 ≤ x) with q | q
    · have h1 : 0 ≤ g * (-x) := Int.mul_nonneg (by omega) (by omega)
      rw [Int.mul_neg] at h1
      omega
    · exact q
  rw [e1, e2]
  refine ⟨?_, hx1, ?_, ?_⟩
  · rw [hx, hy, Int.mul_left_comm, Int.mul_assoc, Int.mul_left_comm]
  · have h1 : 1 * x ≤ g * x := Int.mul_le_mul_of_nonneg_right h0.1 (by omega)
    omega
  · rw [hx]
    exact Int.mul_emod_left g x
section P4a
variable {p : Program} {l : Launch} {e : Env} {R : Room} {s : State} {m : MethodId} {args : Array Value} {below : List Frame} {meth : Method} {c : Code} {D : va_G} {cl : List vw_C} {A : Nat → Prop} {nL cells slots : Nat} {Q : State → Prop} {cc : ByteArray} {pc : Nat} {rest : List Value} {lv : List (Nat × Value)} {ws X E : va_W} {own : String} {Ts : List Cond} {tys : List (ClassId × FieldType)} {EV : (Nat → Prop) → State → Heap → Prop}
theorem jj_lcmpS (C0 : jj_C p s m args meth c D cl A nL cc own Ts tys EV) {a off : Int} {tgt : Nat} (hdg : decode cc pc = .ok (.lcmp, 1)) (hdg2 : decode cc (pc + 1) = .ok (.ifCond .eq off, 3)) (ht : ((pc + 1 : Nat) : Int) + off = (tgt : Int)) (kk : jj_W p l e R s m args below meth c D cl A nL cells slots Q (tgt) lv (rest) ws) : jj_W p l e R s m args below meth c D cl A nL cells slots Q (pc) lv (.long (lI a) :: .long (lI a) :: rest) ws :=
  fun H locs ls hP hD hS hl => W.lcmp C0.1 C0.2.1 hdg (lv_if_eq C0.1 C0.2.1 hdg2 ht (fun h => kk H locs ls hP hD hS hl) (fun h => by rw [lg_cmp_eq] at h; exact absurd rfl h))
theorem jj_lcmpN (C0 : jj_C p s m args meth c D cl A nL cc own Ts tys EV) {a off : Int} {tgt : Nat} (hdg : decode cc pc = .ok (.lcmp, 1)) (hdg2 : decode cc (pc + 1) = .ok (.ifCond .ne off, 3)) (ht : ((pc + 1 : Nat) : Int) + off = (tgt : Int)) (kk : jj_W p l e R s m args below meth c D cl A nL cells slots Q (pc + 1 + 3) lv (rest) ws) : jj_W p l e R s m args below meth c D cl A nL cells slots Q (pc) lv (.long (lI a) :: .long (lI a) :: rest) ws :=
  fun H locs ls hP hD hS hl => W.lcmp C0.1 C0.2.1 hdg (lv_if_ne C0.1 C0.2.1 hdg2 ht (fun h => by rw [lg_cmp_eq] at h; exact absurd rfl h) (fun h => kk H locs ls hP hD hS hl))
theorem jj_icmpS (C0 : jj_C p s m args meth c D cl A nL cc own Ts tys EV) {a off : Int} {tgt : Nat} (hdg : decode cc pc = .ok (.if_icmp .eq off, 3)) (ht : (pc : Int) + off = (tgt : Int)) (kk : jj_W p l e R s m args below meth c D cl A nL cells slots Q (tgt) lv (rest) ws) : jj_W p l e R s m args below meth c D cl A nL cells slots Q (pc) lv (.int (iI a) :: .int (iI a) :: rest) ws :=
  fun H locs ls hP hD hS hl => lv_icmp_eq C0.1 C0.2.1 hdg ht (fun h => kk H locs ls hP hD hS hl) (fun h => absurd rfl h)
theorem jj_icmpN (C0 : jj_C p s m args meth c D cl A nL cc own Ts tys EV) {a off : Int} {tgt : Nat} (hdg : decode cc pc = .ok (.if_icmp .ne off, 3)) (ht : (pc : Int) + off = (tgt : Int)) (kk : jj_W p l e R s m args below meth c D cl A nL cells slots Q (pc + 3) lv (rest) ws) : jj_W p l e R s m args below meth c D cl A nL cells slots Q (pc) lv (.int (iI a) :: .int (iI a) :: rest) ws :=
  fun H locs ls hP hD hS hl => lv_icmp_ne C0.1 C0.2.1 hdg ht (fun h => absurd rfl h) (fun h => kk H locs ls hP hD hS hl)
theorem lw_gW {own : String} {idx : Nat} {y : MethodName} {w : Cond} (h1 : Cond.methodLink own idx y ∈ lw_U) (h2 : Cond.static y ∈ lw_U) (h4 : Cond.initialized y.cls ∈ lw_U) (h5 : w ∈ lw_U) : GoodIn lw_U (va_wsS own idx y (w :: lw_U)) := lw_gc h1 (lw_gc h2 (lw_gc h4 (lw_gc h5 lw_UU)))
/-- where ways meet, and some have made more than others -/
theorem jj_joinC {pcj cells' slots' : Nat} {st : List Value} {X9 : Type} (lvf : X9 → List (Nat × Value)) (stf : X9 → List Value) (wsf : X9 → va_W) (I : X9 → Prop)
    (h1 : ∀ x, I x → jj_W p l e R s m args below meth c D cl A nL cells' slots' Q pcj (lvf x) (stf x) (wsf x))
    (h2 : (∀ x, I x → jj_W p l e R s m args below meth c D cl A nL cells' slots' Q pcj (lvf x) (stf x) (wsf x)) → jj_W p l e R s m args below meth c D cl A nL cells slots Q pc lv st ws) : jj_W p l e R s m args below meth c D cl A nL cells slots Q pc lv st ws := h2 h1
end P4a
section P4
variable {l : Launch} {dC : Nat → ClassId} {dI : Nat → Nat → Nat} {cI cJ cZ cO : ClassId} {GG : va_W} {ha ka cA hA nA : Nat → Nat} {ed : Nat} {td : Nat} {pr up dn : Int} {dv rw : Nat → Int} {sd mc : Int} {n : Nat} {mo sh co : Int} {Ca Cz K St Ex Am Ov Bi As Bj Aj BL AL He Co Cj : Nat → Int} {es mi b L : Nat} {sa : Nat → Nat} {xs : Nat → Int32}
set_option maxHeartbeats 4000000 in
set_option maxRecDepth 100000 in
theorem cc_L_isTold  {k9 t : Nat} (hl : l.stackTraces = false) (hk9 : k9 ≤ 100) (ht9 : t ≤ 89) (hI : f_IV k9 td n pr up dn dv sd mo sh Ca K St Ex Am Ov Bi As Bj Aj BL AL He Co) (hJ : f_JV (t + 1) td n pr dv sh St Ex Bj Aj) (hED0 : 0 < n → f_ED cA n ed cO GG) : jj_Mi (EVS es mi sa b L xs) (dC, dI) vwCl [(cI, .int), (cJ, .long), (cZ, .boolean), (cO, .object "java/lang/Object")] l yL_isTold (Cond.code yL_isTold cL_isTold 16 (some .boolean) :: lw_U) ({ frames := 7, cells := 18, slots := 576, locals := 162 } : Room) [.ref (ha 0), .int (iI (t : Int)), .ref (ka 0), .ref (ka 1), .ref (ka 3), .ref (ka 4), .ref (ka 5), .ref (ka 6)] (wH ha cA hA nA ed cI cJ cZ td pr up dn dv rw sd mc n mo sh co Ca Cz K St Ex Am Bi As BL AL He Co ++ (GG ++ wL ka cI cJ td pr up dn mo sh co n K St Ex Am Ov Bj Aj BL AL He Cj dv Ca sd Cz)) (S := (Nat → Int)) (fun r8 => 1) (fun r8 => True) (fun r8 => wH ha cA hA nA ed cI cJ cZ td pr up dn dv r8 sd mc n mo sh co Ca Cz K St Ex Am Bi As BL AL He Co ++ (GG ++ wL ka cI cJ td pr up dn mo sh co n K St Ex Am Ov Bj Aj BL AL He Cj dv Ca sd Cz)) := by
  refine jj_start (cc := cL_isTold) (nL := 16) (ret := (some .boolean)) (lv := [(0, .ref (ha 0)), (1, .int (iI (t : Int))), (2, .ref (ka 0)), (3, .ref (ka 1)), (4, .ref (ka 3)), (5, .ref (ka 4)), (6, .ref (ka 5)), (7, .ref (ka 6))]) (fun A => jj_Qi _ _ _ _ _ _ A) (hEVS es mi sa b L xs) (by decide) rfl (Nat.le_of_ble_eq_true rfl) rfl ?_
  intro p9 e9 s9 m9 a9 b9 me9 c9 A9 C1 hr hin
  have C0 : jj_C p9 s9 m9 a9 me9 c9 (dC, dI) vwCl A9 16 cL_isTold "StrikehallLaw" lw_U _ (EVS es mi sa b L xs) := jj_toU C1
  have hw := C0.2.2.2.2.1
  have hE := C0.2.2.2.2.2.2.2.1
  have hEV := hEVS es mi sa b L xs
  have hV := hI
  obtain ⟨⟨htd, hn, hpr, hup, hdn, hdv, hsd, hmo, hsh⟩, ⟨hK, hSt, hEx, hAm, hOv, hovs, hexs, hovn⟩, hQ9, ⟨hHe, hsums, hHz⟩, ⟨hCo, hCz⟩, hCa⟩ := hI
  have hQ := hQ9
  obtain ⟨hBi, hAs, hBj, hAj, hBL, hAL, hQt, hQ0, hQn, hQo⟩ := hQ9
  have hW9 := hJ
  obtain ⟨hn6, htd5, hex5, hSp, hdv9, hBA, hsh9⟩ := hJ
  have hexs1 : ∀ c, c < n → Ex c ≤ (td : Int) + 10 := fun c hc => (hexs c hc).1
  have hHe9 : ∀ j, -999000 ≤ He j ∧ He j ≤ 999000 := fun j => by have := hHe j; omega
  have hHe6 : ∀ j, -1000000 ≤ He j ∧ He j ≤ 1000000 := fun j => by have := hHe j; omega
  have hCa9 : ∀ j, -100000000000000000 ≤ Ca j ∧ Ca j ≤ 100000000000000000 := fun j => by have := hCa j; omega
  have hov5 : ∀ c, c < n → (Ov c = 1 ∧ Ex c < (td : Int)) ∨ (Ov c = 0 ∧ (td : Int) ≤ Ex c ∧ Ex c ≤ (td : Int) + 5) := fun c hc => by have h1 := hovs c hc; have h2 := hex5 c hc; omega
  have hovw : ∀ c, c < n → He (7 * c + 6) = 0 ∨ (Ov c = 1 ∧ Ex c < (td : Int)) ∨ (Ov c = 0 ∧ (td : Int) ≤ Ex c ∧ Ex c ≤ (td : Int) + 5) := fun c hc => Or.inr (hov5 c hc)
  refine jj_iconst C0 dL_isTold_0 ?_
  refine jj_istore C0 (lv' := [(8, .int (iI 0)), (0, .ref (ha 0)), (1, .int (iI (t : Int))), (2, .ref (ka 0)), (3, .ref (ka 1)), (4, .ref (ka 3)), (5, .ref (ka 4)), (6, .ref (ka 5)), (7, .ref (ka 6))]) (by decide) rfl dL_isTold_1 ?_
  refine jj_wd (cells' := (2 * 0)) (slots' := (64 * 0)) (by omega) (by omega) ?_
  refine jj_indC (X := Nat × (Nat → Int)) (fun q9 => match q9 with | ⟨c, r1⟩ => (n + 1 - c : Nat)) (fun q9 => match q9 with | ⟨c, r1⟩ => (2 * c)) (fun q9 => match q9 with | ⟨c, r1⟩ => (64 * c)) (fun q9 => match q9 with | ⟨c, r1⟩ => [(8, .int (iI (c : Int))), (0, .ref (ha 0)), (1, .int (iI (t : Int))), (2, .ref (ka 0)), (3, .ref (ka 1)), (4, .ref (ka 3)), (5, .ref (ka 4)), (6, .ref (ka 5)), (7, .ref (ka 6))]) (fun q9 => match q9 with | ⟨c, r1⟩ => []) (fun q9 => match q9 with | ⟨c, r1⟩ => wH ha cA hA nA ed cI cJ cZ td pr up dn dv r1 sd mc n mo sh co Ca Cz K St Ex Am Bi As BL AL He Co ++ (GG ++ wL ka cI cJ td pr up dn mo sh co n K St Ex Am Ov Bj Aj BL AL He Cj dv Ca sd Cz)) (fun q9 => match q9 with | ⟨c, r1⟩ => c ≤ n) ?_ (0, rw) (Nat.zero_le _)
  intro q9 hq9 ih3
  obtain ⟨c, r1⟩ := q9
  have hc : c ≤ n := hq9
  have hbB := hBi c
  have hbA := hAs c
  have hbC := hBj c
  have hbD := hAj c
  have hbE := hBL c
  have hbF := hAL c
  show jj_W _ _ _ _ _ _ _ _ _ _ _ _ _ _ ((2 * c)) ((64 * c)) _ 3 [(8, .int (iI (c : Int))), (0, .ref (ha 0)), (1, .int (iI (t : Int))), (2, .ref (ka 0)), (3, .ref (ka 1)), (4, .ref (ka 3)), (5, .ref (ka 4)), (6, .ref (ka 5)), (7, .ref (ka 6))] [] (wH ha cA hA nA ed cI cJ cZ td pr up dn dv r1 sd mc n mo sh co Ca Cz K St Ex Am Bi As BL AL He Co ++ (GG ++ wL ka cI cJ td pr up dn mo sh co n K St Ex Am Ov Bj Aj BL AL He Cj dv Ca sd Cz))
  refine jj_iload C0 0 rfl dL_isTold_3 ?_
  refine jj_aload C0 6 rfl dL_isTold_5 ?_
  refine jj_bipush C0 dL_isTold_7 (by decide) ?_
  refine jj_toLw ?_
  refine jj_iald C0 (q0 := 4) (t0 := 0) (f := (f_lg td pr up dn mo sh co n)) (rfl) rfl (k := 7) (by omega) (by omega) (by decide) dL_isTold_9 ?_
  refine jj_topi (b := (n : Int)) (rfl) ?_
  refine jj_icmp_ge C0 (by omega) (by omega) dL_isTold_10 (tgt := 254) (by decide) (fun c_1 => ?_) (fun c_1 => ?_)
  · refine jj_lconst C0 (z := 0) (by decide) dL_isTold_254 ?_
    refine jj_lstore C0 (lv' := [(8, .long (lI 0)), (0, .ref (ha 0)), (1, .int (iI (t : Int))), (2, .ref (ka 0)), (3, .ref (ka 1)), (4, .ref (ka 3)), (5, .ref (ka 4)), (6, .ref (ka 5)), (7, .ref (ka 6))]) (by decide) rfl dL_isTold_255 ?_
    refine jj_iconst C0 dL_isTold_257 ?_
    refine jj_istore C0 (lv' := [(10, .int (iI 0)), (8, .long (lI 0)), (0, .ref (ha 0)), (1, .int (iI (t : Int))), (2, .ref (ka 0)), (3, .ref (ka 1)), (4, .ref (ka 3)), (5, .ref (ka 4)), (6, .ref (ka 5)), (7, .ref (ka 6))]) (by decide) rfl dL_isTold_258 ?_
    refine jj_ind (X := Nat) (fun q9 => match q9 with | i => (8 - i : Nat)) (fun q9 => match q9 with | i => [(10, .int (iI (i : Int))), (8, .long (lI 0)), (0, .ref (ha 0)), (1, .int (iI (t : Int))), (2, .ref (ka 0)), (3, .ref (ka 1)), (4, .ref (ka 3)), (5, .ref (ka 4)), (6, .ref (ka 5)), (7, .ref (ka 6))]) (fun q9 => match q9 with | i => []) (fun q9 => match q9 with | i => wL ka cI cJ td pr up dn mo sh co n K St Ex Am Ov Bj Aj BL AL He Cj dv Ca sd Cz ++ (wH ha cA hA nA ed cI cJ cZ td pr up dn dv r1 sd mc n mo sh co Ca Cz K St Ex Am Bi As BL AL He Co ++ GG)) (fun q9 => match q9 with | i => i ≤ 7) ?_ 0 (Nat.zero_le _)
    intro q9 hq9 ih260
    obtain ⟨i, rfl⟩ : ∃ z, z = q9 := ⟨_, rfl⟩
    have hi7 : i ≤ 7 := hq9
    show jj_W _ _ _ _ _ _ _ _ _ _ _ _ _ _ _ _ _ 260 [(10, .int (iI (i : Int))), (8, .long (lI 0)), (0, .ref (ha 0)), (1, .int (iI (t : Int))), (2, .ref (ka 0)), (3, .ref (ka 1)), (4, .ref (ka 3)), (5, .ref (ka 4)), (6, .ref (ka 5)), (7, .ref (ka 6))] [] (wL ka cI cJ td pr up dn mo sh co n K St Ex Am Ov Bj Aj BL AL He Cj dv Ca sd Cz ++ (wH ha cA hA nA ed cI cJ cZ td pr up dn dv r1 sd mc n mo sh co Ca Cz K St Ex Am Bi As BL AL He Co ++ GG))
    refine jj_iload C0 0 rfl dL_isTold_260 ?_
    refine jj_bipush C0 dL_isTold_262 (by decide) ?_
    refine jj_icmp_ge C0 (by omega) (by omega) dL_isTold_264 (tgt := 340) (by decide) (fun c_2 => ?_) (fun c_2 => ?_)
    · refine jj_lload C0 1 rfl dL_isTold_340 ?_
      refine jj_lconst C0 (z := 0) (by decide) dL_isTold_342 ?_
      refine jj_lcmp_ne C0 (by omega) (by omega) dL_isTold_343 dL_isTold_344 (tgt := 389) (by decide) (fun c_3 => absurd c_3 (by omega)) (fun c_3 => ?_)
      refine jj_aload_n C0 2 rfl dL_isTold_347 ?_
      refine jj_toHw ?_
      refine jj_callVl C0 (cells' := (2 * c)) (slots' := (64 * c)) (jj_weakl (fun A U H h => EVS_h h) (cc_X3_worth   hpr hexs1 hn htd hup hdn hdv hK hSt hEx hAm hHe6 hsh (fun h9 => f_ED_app (hED0 h9)))) (cwV 0 hw (lw_gV hU_779 hU_780 hU_781 hU_43 hU_782) rfl rfl rfl (by decide +kernel) ⟨Nat.le_of_ble_eq_true rfl, Nat.le_of_ble_eq_true rfl⟩) (ci := 4) (q0 := 0) rfl (rfl) rfl rfl (Nat.le_of_ble_eq_true rfl) ⟨by show (2 * c) + 0 ≤ 18; omega, by show (64 * c) + 0 ≤ 576; omega⟩ rfl rfl dL_isTold_348 ?_
      intro r8_4 hu
      show jj_W _ _ _ _ _ _ _ _ _ _ _ _ _ _ _ _ _ 351 _ [.long (lI (f_W up dn dv td n K St Ex Am He Ca sh pr))] (wH ha cA hA nA ed cI cJ cZ td pr up dn dv r8_4 sd mc n mo sh co Ca Cz K St Ex Am Bi As BL AL He Co ++ (GG ++ wL ka cI cJ td pr up dn mo sh co n K St Ex Am Ov Bj Aj BL AL He Cj dv Ca sd Cz))
      refine jj_aload C0 7 rfl dL_isTold_351 ?_
      refine jj_iconst C0 dL_isTold_353 ?_
      refine jj_toLw ?_
      refine jj_iald C0 (q0 := 4) (t0 := 0) (f := (f_lg td pr up dn mo sh co n)) (rfl) rfl (k := 1) (by omega) (by omega) (by decide) dL_isTold_354 ?_
      refine jj_topi (b := pr) (rfl) ?_
      refine jj_aload_n C0 4 rfl dL_isTold_355 ?_
      refine jj_aload_n C0 5 rfl dL_isTold_356 ?_
      refine jj_aload C0 7 rfl dL_isTold_357 ?_
      refine jj_aload C0 8 rfl dL_isTold_359 ?_
      refine jj_aload C0 9 rfl dL_isTold_361 ?_
      refine jj_callSl C0 (cells' := ((2 * c) + 6)) (slots' := ((64 * c) + 192)) (cc_L_worth hEV (fr := pr) hovw hn6 htd5 (by omega) hup hdn hdv hK hSt hEx hAm hOv hHe6 hsh) (cwS 6 hw (lw_gS hU_722 hU_723 hU_42 hU_724) rfl rfl rfl (by decide +kernel) ⟨Nat.le_of_ble_eq_true rfl, Nat.le_of_ble_eq_true rfl⟩) rfl rfl (Nat.le_of_ble_eq_true rfl) ⟨by show (2 * c) + 6 ≤ 18; omega, by show (64 * c) + 192 ≤ 576; omega⟩ rfl rfl dL_isTold_363 ?_
      intro _ hu
      show jj_W _ _ _ _ _ _ _ _ _ _ _ _ _ _ _ _ _ 366 _ [.long (lI (f_W up dn dv td n K St Ex Am He Ca sh pr)), .long (lI (f_W up dn dv td n K St Ex Am He Ca sh pr))] (wL ka cI cJ td pr up dn mo sh co n K St Ex Am Ov Bj Aj BL AL He Cj dv Ca sd Cz ++ (wH ha cA hA nA ed cI cJ cZ td pr up dn dv r8_4 sd mc n mo sh co Ca Cz K St Ex Am Bi As BL AL He Co ++ GG))
      refine jj_lcmpN C0 dL_isTold_366 dL_isTold_367 (tgt := 389) (by decide) ?_
      refine jj_aload_n C0 2 rfl dL_isTold_370 ?_
      refine jj_toHw ?_
      refine jj_callVi C0 (cells' := ((2 * c) + 6)) (slots' := ((64 * c) + 192)) (jj_weaki (fun A U H h => EVS_h h) (cc_X3_fault   hn (fun h9 => f_ED_app (hED0 h9)) hK hSt hEx hAm hBi hAs hBL hAL)) (cwV 0 hw (lw_gV hU_783 hU_784 hU_785 hU_43 hU_786) rfl rfl rfl (by decide +kernel) ⟨Nat.le_of_ble_eq_true rfl, Nat.le_of_ble_eq_true rfl⟩) (ci := 4) (q0 := 0) rfl (rfl) rfl rfl (Nat.le_of_ble_eq_true rfl) ⟨by show ((2 * c) + 6) + 0 ≤ 18; omega, by show ((64 * c) + 192) + 0 ≤ 576; omega⟩ rfl rfl dL_isTold_371 ?_
      intro u_5 hu
      have hu1 : (u_5 = 1 ∧ (∃ a, a < n ∧ ((0 < BL a ∧ 0 < AL a) ∧ As a ≤ Bi a))) ∨ (u_5 = 2 ∧ ¬ (∃ a, a < n ∧ ((0 < BL a ∧ 0 < AL a) ∧ As a ≤ Bi a)) ∧ (∃ a b, a < n ∧ b < n ∧ (((0 < BL a ∧ 0 < AL a) ∧ (0 < BL b ∧ 0 < AL b) ∧ St a < St b ∧ K a = K b ∧ Ex a = Ex b ∧ Am a = Am b) ∧ ((K a = 0 ∧ As a < Bi b) ∨ (K a ≠ 0 ∧ As b < Bi a))))) ∨ (u_5 = 3 ∧ ¬ (∃ a, a < n ∧ ((0 < BL a ∧ 0 < AL a) ∧ As a ≤ Bi a)) ∧ ¬ (∃ a b, a < n ∧ b < n ∧ (((0 < BL a ∧ 0 < AL a) ∧ (0 < BL b ∧ 0 < AL b) ∧ St a < St b ∧ K a = K b ∧ Ex a = Ex b ∧ Am a = Am b) ∧ ((K a = 0 ∧ As a < Bi b) ∨ (K a ≠ 0 ∧ As b < Bi a)))) ∧ (∃ a b, a < n ∧ b < n ∧ ∃ d, d < n ∧ (((0 < BL a ∧ 0 < AL a) ∧ (0 < BL b ∧ 0 < AL b) ∧ St a < St b ∧ K a = K b ∧ Ex a = Ex b ∧ Am a = Am b) ∧ ((0 < BL b ∧ 0 < AL b) ∧ (0 < BL d ∧ 0 < AL d) ∧ St b < St d ∧ K b = K d ∧ Ex b = Ex d ∧ Am b = Am d) ∧ St b - St a = St d - St b ∧ As a + As d < 2 * Bi b))) ∨ (u_5 = 4 ∧ ¬ (∃ a, a < n ∧ ((0 < BL a ∧ 0 < AL a) ∧ As a ≤ Bi a)) ∧ ¬ (∃ a b, a < n ∧ b < n ∧ (((0 < BL a ∧ 0 < AL a) ∧ (0 < BL b ∧ 0 < AL b) ∧ St a < St b ∧ K a = K b ∧ Ex a = Ex b ∧ Am a = Am b) ∧ ((K a = 0 ∧ As a < Bi b) ∨ (K a ≠ 0 ∧ As b < Bi a)))) ∧ ¬ (∃ a b, a < n ∧ b < n ∧ ∃ d, d < n ∧ (((0 < BL a ∧ 0 < AL a) ∧ (0 < BL b ∧ 0 < AL b) ∧ St a < St b ∧ K a = K b ∧ Ex a = Ex b ∧ Am a = Am b) ∧ ((0 < BL b ∧ 0 < AL b) ∧ (0 < BL d ∧ 0 < AL d) ∧ St b < St d ∧ K b = K d ∧ Ex b = Ex d ∧ Am b = Am d) ∧ St b - St a = St d - St b ∧ As a + As d < 2 * Bi b)) ∧ (∃ a b, a < n ∧ b < n ∧ ((0 < BL a ∧ 0 < AL a) ∧ (0 < BL b ∧ 0 < AL b) ∧ Ex a < Ex b ∧ Am a ≠ 0 ∧ Am b ≠ 0 ∧ K a = K b ∧ St a = St b ∧ As b < Bi a))) ∨ (u_5 = 0 ∧ ¬ (∃ a, a < n ∧ ((0 < BL a ∧ 0 < AL a) ∧ As a ≤ Bi a)) ∧ ¬ (∃ a b, a < n ∧ b < n ∧ (((0 < BL a ∧ 0 < AL a) ∧ (0 < BL b ∧ 0 < AL b) ∧ St a < St b ∧ K a = K b ∧ Ex a = Ex b ∧ Am a = Am b) ∧ ((K a = 0 ∧ As a < Bi b) ∨ (K a ≠ 0 ∧ As b < Bi a)))) ∧ ¬ (∃ a b, a < n ∧ b < n ∧ ∃ d, d < n ∧ (((0 < BL a ∧ 0 < AL a) ∧ (0 < BL b ∧ 0 < AL b) ∧ St a < St b ∧ K a = K b ∧ Ex a = Ex b ∧ Am a = Am b) ∧ ((0 < BL b ∧ 0 < AL b) ∧ (0 < BL d ∧ 0 < AL d) ∧ St b < St d ∧ K b = K d ∧ Ex b = Ex d ∧ Am b = Am d) ∧ St b - St a = St d - St b ∧ As a + As d < 2 * Bi b)) ∧ ¬ (∃ a b, a < n ∧ b < n ∧ ((0 < BL a ∧ 0 < AL a) ∧ (0 < BL b ∧ 0 < AL b) ∧ Ex a < Ex b ∧ Am a ≠ 0 ∧ Am b ≠ 0 ∧ K a = K b ∧ St a = St b ∧ As b < Bi a))) := hu
      show jj_W _ _ _ _ _ _ _ _ _ _ _ _ _ _ _ _ _ 374 _ [.int (iI u_5)] (wH ha cA hA nA ed cI cJ cZ td pr up dn dv r8_4 sd mc n mo sh co Ca Cz K St Ex Am Bi As BL AL He Co ++ (GG ++ wL ka cI cJ td pr up dn mo sh co n K St Ex Am Ov Bj Aj BL AL He Cj dv Ca sd Cz))
      refine jj_aload_n C0 4 rfl dL_isTold_374 ?_
      refine jj_aload C0 6 rfl dL_isTold_375 ?_
      refine jj_aload C0 7 rfl dL_isTold_377 ?_
      refine jj_toLw ?_
      refine jj_callSi C0 (cells' := ((2 * c) + 6)) (slots' := ((64 * c) + 192)) (cc_L_faultOf hEV  hn6 hK hSt hEx hAm hOv hBL hAL hBj hAj hQo) (cwS 3 hw (lw_gS hU_725 hU_726 hU_42 hU_727) rfl rfl rfl (by decide +kernel) ⟨Nat.le_of_ble_eq_true rfl, Nat.le_of_ble_eq_true rfl⟩) rfl rfl (Nat.le_of_ble_eq_true rfl) ⟨by show ((2 * c) + 6) + 0 ≤ 18; omega, by show ((64 * c) + 192) + 0 ≤ 576; omega⟩ rfl rfl dL_isTold_379 ?_
      intro u_6 hu
      have hu2 : f_isF (f_F n K St Ex Am Ov Bj Aj BL AL) n u_6 := hu
      show jj_W _ _ _ _ _ _ _ _ _ _ _ _ _ _ _ _ _ 382 _ [.int (iI u_6), .int (iI u_5)] (wL ka cI cJ td pr up dn mo sh co n K St Ex Am Ov Bj Aj BL AL He Cj dv Ca sd Cz ++ (wH ha cA hA nA ed cI cJ cZ td pr up dn dv r8_4 sd mc n mo sh co Ca Cz K St Ex Am Bi As BL AL He Co ++ GG))
      refine jj_topi (b := u_5) ((f_tie (f_qq_of hQ) hK hAm hu2 hu1).symm) ?_
      refine jj_icmpN C0 dL_isTold_382 (tgt := 389) (by decide) ?_
      refine jj_iconst C0 dL_isTold_385 ?_
      refine jj_goto C0 (tgt := 390) dL_isTold_386 (by decide) ?_
      refine jj_toHw ?_
      exact jj_zret C0 hr r8_4 (trivial) (rfl) (Or.inr rfl) (rfl) (by show ((2 * c) + 6) ≤ 18; omega) (by show ((64 * c) + 192) ≤ 576; omega) dL_isTold_390
    · refine jj_aload_n C0 2 rfl dL_isTold_267 ?_
      refine jj_iload C0 0 rfl dL_isTold_268 ?_
      refine jj_bipush C0 dL_isTold_270 (by decide) ?_
      refine jj_icmp_ne C0 (by omega) (by omega) dL_isTold_272 (tgt := 279) (by decide) (fun c_7 => ?_) (fun c_7 => ?_)
      · refine jj_iload C0 0 rfl dL_isTold_279 ?_
        refine jj_toHw ?_
        refine jj_callSWl C0 (cells' := (2 * c)) (slots' := (64 * c)) (jj_weakl (fun A U H h => h.1.1) (cw_L_cash hl (z := (i : Int)) (k := i) (by omega))) (vx_cwSW 2 hw (lw_gW hU_690 hU_691 hU_42 hU_692) rfl rfl rfl (by decide +kernel) ⟨Nat.le_of_ble_eq_true rfl, Nat.le_of_ble_eq_true rfl⟩) rfl rfl (Nat.le_of_ble_eq_true rfl) ⟨by show (2 * c) + 0 ≤ 18; omega, by show (64 * c) + 0 ≤ 576; omega⟩ rfl rfl dL_isTold_281 ?_
        intro _ hu
        show jj_W _ _ _ _ _ _ _ _ _ _ _ _ _ _ _ _ _ 284 _ [.long (lI (Ca i))] (wH ha cA hA nA ed cI cJ cZ td pr up dn dv r1 sd mc n mo sh co Ca Cz K St Ex Am Bi As BL AL He Co ++ (GG ++ wL ka cI cJ td pr up dn mo sh co n K St Ex Am Ov Bj Aj BL AL He Cj dv Ca sd Cz))
        refine jj_aload C0 9 rfl dL_isTold_284 ?_
        refine jj_iload C0 0 rfl dL_isTold_286 ?_
        refine jj_toLw ?_
        refine jj_lald C0 (q0 := 6) (t0 := 1) (f := (f_lm Ca sd Cz)) (rfl) rfl (k := i) (by omega) (by omega) (by decide) dL_isTold_288 ?_
        refine jj_topl (b := (Ca i)) (f_lm_Ca (by omega)) ?_
        refine jj_lcmpS C0 dL_isTold_289 dL_isTold_290 (tgt := 295) (by decide) ?_
        refine jj_lload C0 1 rfl dL_isTold_295 ?_
        refine jj_iload C0 0 rfl dL_isTold_297 ?_
        refine jj_bipush C0 dL_isTold_299 (by decide) ?_
        refine jj_icmp_ge C0 (by omega) (by omega) dL_isTold_301 (tgt := 330) (by decide) (fun c_8 => ?_) (fun c_8 => ?_)
        · refine jj_lconst C0 (z := 0) (by decide) dL_isTold_330 ?_
          refine jj_ladd C0 dL_isTold_331 ?_
          refine jj_topl (b := 0) (rfl) ?_
          refine jj_lstore C0 (lv' := [(8, .long (lI 0)), (10, .int (iI (i : Int))), (0, .ref (ha 0)), (1, .int (iI (t : Int))), (2, .ref (ka 0)), (3, .ref (ka 1)), (4, .ref (ka 3)), (5, .ref (ka 4)), (6, .ref (ka 5)), (7, .ref (ka 6))]) (by decide) rfl dL_isTold_332 ?_
          refine jj_iinc C0 (z := ((i + 1 : Nat) : Int)) (lv' := [(10, .int (iI ((i + 1 : Nat) : Int))), (8, .long (lI 0)), (0, .ref (ha 0)), (1, .int (iI (t : Int))), (2, .ref (ka 0)), (3, .ref (ka 1)), (4, .ref (ka 3)), (5, .ref (ka 4)), (6, .ref (ka 5)), (7, .ref (ka 6))]) 1 rfl (by omega) (by decide) rfl dL_isTold_334 ?_
          refine jj_goto C0 (tgt := 260) dL_isTold_337 (by decide) ?_
          exact ih260 (i + 1) (by omega) (by dsimp only; omega)
        · refine jj_aload_n C0 2 rfl dL_isTold_304 ?_
          refine jj_iload C0 0 rfl dL_isTold_305 ?_
          refine jj_toHw ?_
          refine jj_callSWl C0 (cells' := (2 * c)) (slots' := (64 * c)) (jj_weakl (fun A U H h => h.1.1) (cw_L_cause hl (k := i) (by omega))) (vx_cwSW 2 hw (lw_gW hU_771 hU_772 hU_42 hU_773) rfl rfl rfl (by decide +kernel) ⟨Nat.le_of_ble_eq_true rfl, Nat.le_of_ble_eq_true rfl⟩) rfl rfl (Nat.le_of_ble_eq_true rfl) ⟨by show (2 * c) + 0 ≤ 18; omega, by show (64 * c) + 0 ≤ 576; omega⟩ rfl rfl dL_isTold_307 ?_
          intro _ hu
          show jj_W _ _ _ _ _ _ _ _ _ _ _ _ _ _ _ _ _ 310 _ [.long (lI (Cz i)), .long (lI 0)] (wH ha cA hA nA ed cI cJ cZ td pr up dn dv r1 sd mc n mo sh co Ca Cz K St Ex Am Bi As BL AL He Co ++ (GG ++ wL ka cI cJ td pr up dn mo sh co n K St Ex Am Ov Bj Aj BL AL He Cj dv Ca sd Cz))
          refine jj_aload C0 9 rfl dL_isTold_310 ?_
          refine jj_bipush C0 dL_isTold_312 (by decide) ?_
          refine jj_iload C0 0 rfl dL_isTold_314 ?_
          refine jj_iadd C0 dL_isTold_316 ?_
          refine jj_toLw ?_
          refine jj_lald C0 (q0 := 6) (t0 := 1) (f := (f_lm Ca sd Cz)) (rfl) rfl (k := (8 + i)) (by omega) (by omega) (by decide) dL_isTold_317 ?_
          refine jj_topl (b := (Cz i)) (f_lm_Cz) ?_
          refine jj_lcmpN C0 dL_isTold_318 dL_isTold_319 (tgt := 326) (by decide) ?_
          refine jj_lconst C0 (z := 0) (by decide) dL_isTold_322 ?_
          refine jj_goto C0 (tgt := 331) dL_isTold_323 (by decide) ?_
          refine jj_ladd C0 dL_isTold_331 ?_
          refine jj_topl (b := 0) (rfl) ?_
          refine jj_lstore C0 (lv' := [(8, .long (lI 0)), (10, .int (iI (i : Int))), (0, .ref (ha 0)), (1, .int (iI (t : Int))), (2, .ref (ka 0)), (3, .ref (ka 1)), (4, .ref (ka 3)), (5, .ref (ka 4)), (6, .ref (ka 5)), (7, .ref (ka 6))]) (by decide) rfl dL_isTold_332 ?_
          refine jj_iinc C0 (z := ((i + 1 : Nat) : Int)) (lv' := [(10, .int (iI ((i + 1 : Nat) : Int))), (8, .long (lI 0)), (0, .ref (ha 0)), (1, .int (iI (t : Int))), (2, .ref (ka 0)), (3, .ref (ka 1)), (4, .ref (ka 3)), (5, .ref (ka 4)), (6, .ref (ka 5)), (7, .ref (ka 6))]) 1 rfl (by omega) (by decide) rfl dL_isTold_334 ?_
          refine jj_goto C0 (tgt := 260) dL_isTold_337 (by decide) ?_
          exact ih260 (i + 1) (by omega) (by dsimp only; omega)
      · refine jj_iconst C0 dL_isTold_275 ?_
        refine jj_goto C0 (tgt := 281) dL_isTold_276 (by decide) ?_
        refine jj_toHw ?_
        refine jj_callSWl C0 (cells' := (2 * c)) (slots' := (64 * c)) (jj_weakl (fun A U H h => h.1.1) (cw_L_cash hl (z := (-1)) (k := i) (by omega))) (vx_cwSW 2 hw (lw_gW hU_690 hU_691 hU_42 hU_692) rfl rfl rfl (by decide +kernel) ⟨Nat.le_of_ble_eq_true rfl, Nat.le_of_ble_eq_true rfl⟩) rfl rfl (Nat.le_of_ble_eq_true rfl) ⟨by show (2 * c) + 0 ≤ 18; omega, by show (64 * c) + 0 ≤ 576; omega⟩ rfl rfl dL_isTold_281 ?_
        intro _ hu
        show jj_W _ _ _ _ _ _ _ _ _ _ _ _ _ _ _ _ _ 284 _ [.long (lI (Ca i))] (wH ha cA hA nA ed cI cJ cZ td pr up dn dv r1 sd mc n mo sh co Ca Cz K St Ex Am Bi As BL AL He Co ++ (GG ++ wL ka cI cJ td pr up dn mo sh co n K St Ex Am Ov Bj Aj BL AL He Cj dv Ca sd Cz))
        refine jj_aload C0 9 rfl dL_isTold_284 ?_
        refine jj_iload C0 0 rfl dL_isTold_286 ?_
        refine jj_toLw ?_
        refine jj_lald C0 (q0 := 6) (t0 := 1) (f := (f_lm Ca sd Cz)) (rfl) rfl (k := i) (by omega) (by omega) (by decide) dL_isTold_288 ?_
        refine jj_topl (b := (Ca i)) (f_lm_Ca (by omega)) ?_
        refine jj_lcmpS C0 dL_isTold_289 dL_isTold_290 (tgt := 295) (by decide) ?_
        refine jj_lload C0 1 rfl dL_isTold_295 ?_
        refine jj_iload C0 0 rfl dL_isTold_297 ?_
        refine jj_bipush C0 dL_isTold_299 (by decide) ?_
        refine jj_icmp_ge C0 (by omega) (by omega) dL_isTold_301 (tgt := 330) (by decide) (fun c_9 => ?_) (fun c_9 => ?_)
        · refine jj_lconst C0 (z := 0) (by decide) dL_isTold_330 ?_
          refine jj_ladd C0 dL_isTold_331 ?_
          refine jj_topl (b := 0) (rfl) ?_
          refine jj_lstore C0 (lv' := [(8, .long (lI 0)), (10, .int (iI (i : Int))), (0, .ref (ha 0)), (1, .int (iI (t : Int))), (2, .ref (ka 0)), (3, .ref (ka 1)), (4, .ref (ka 3)), (5, .ref (ka 4)), (6, .ref (ka 5)), (7, .ref (ka 6))]) (by decide) rfl dL_isTold_332 ?_
          refine jj_iinc C0 (z := ((i + 1 : Nat) : Int)) (lv' := [(10, .int (iI ((i + 1 : Nat) : Int))), (8, .long (lI 0)), (0, .ref (ha 0)), (1, .int (iI (t : Int))), (2, .ref (ka 0)), (3, .ref (ka 1)), (4, .ref (ka 3)), (5, .ref (ka 4)), (6, .ref (ka 5)), (7, .ref (ka 6))]) 1 rfl (by omega) (by decide) rfl dL_isTold_334 ?_
          refine jj_goto C0 (tgt := 260) dL_isTold_337 (by decide) ?_
          exact ih260 (i + 1) (by omega) (by dsimp only; omega)
        · refine jj_aload_n C0 2 rfl dL_isTold_304 ?_
          refine jj_iload C0 0 rfl dL_isTold_305 ?_
          refine jj_toHw ?_
          refine jj_callSWl C0 (cells' := (2 * c)) (slots' := (64 * c)) (jj_weakl (fun A U H h => h.1.1) (cw_L_cause hl (k := i) (by omega))) (vx_cwSW 2 hw (lw_gW hU_771 hU_772 hU_42 hU_773) rfl rfl rfl (by decide +kernel) ⟨Nat.le_of_ble_eq_true rfl, Nat.le_of_ble_eq_true rfl⟩) rfl rfl (Nat.le_of_ble_eq_true rfl) ⟨by show (2 * c) + 0 ≤ 18; omega, by show (64 * c) + 0 ≤ 576; omega⟩ rfl rfl dL_isTold_307 ?_
          intro _ hu
          show jj_W _ _ _ _ _ _ _ _ _ _ _ _ _ _ _ _ _ 310 _ [.long (lI (Cz i)), .long (lI 0)] (wH ha cA hA nA ed cI cJ cZ td pr up dn dv r1 sd mc n mo sh co Ca Cz K St Ex Am Bi As BL AL He Co ++ (GG ++ wL ka cI cJ td pr up dn mo sh co n K St Ex Am Ov Bj Aj BL AL He Cj dv Ca sd Cz))
          refine jj_aload C0 9 rfl dL_isTold_310 ?_
          refine jj_bipush C0 dL_isTold_312 (by decide) ?_
          refine jj_iload C0 0 rfl dL_isTold_314 ?_
          refine jj_iadd C0 dL_isTold_316 ?_
          refine jj_toLw ?_
          refine jj_lald C0 (q0 := 6) (t0 := 1) (f := (f_lm Ca sd Cz)) (rfl) rfl (k := (8 + i)) (by omega) (by omega) (by decide) dL_isTold_317 ?_
          refine jj_topl (b := (Cz i)) (f_lm_Cz) ?_
          refine jj_lcmpN C0 dL_isTold_318 dL_isTold_319 (tgt := 326) (by decide) ?_
          refine jj_lconst C0 (z := 0) (by decide) dL_isTold_322 ?_
          refine jj_goto C0 (tgt := 331) dL_isTold_323 (by decide) ?_
          refine jj_ladd C0 dL_isTold_331 ?_
          refine jj_topl (b := 0) (rfl) ?_
          refine jj_lstore C0 (lv' := [(8, .long (lI 0)), (10, .int (iI (i : Int))), (0, .ref (ha 0)), (1, .int (iI (t : Int))), (2, .ref (ka 0)), (3, .ref (ka 1)), (4, .ref (ka 3)), (5, .ref (ka 4)), (6, .ref (ka 5)), (7, .ref (ka 6))]) (by decide) rfl dL_isTold_332 ?_
          refine jj_iinc C0 (z := ((i + 1 : Nat) : Int)) (lv' := [(10, .int (iI ((i + 1 : Nat) : Int))), (8, .long (lI 0)), (0, .ref (ha 0)), (1, .int (iI (t : Int))), (2, .ref (ka 0)), (3, .ref (ka 1)), (4, .ref (ka 3)), (5, .ref (ka 4)), (6, .ref (ka 5)), (7, .ref (ka 6))]) 1 rfl (by omega) (by decide) rfl dL_isTold_334 ?_
          refine jj_goto C0 (tgt := 260) dL_isTold_337 (by decide) ?_
          exact ih260 (i + 1) (by omega) (by dsimp only; omega)
  · have hnb := f_num_bd (t := td) (ki := K c) (am := Am c) (fr := pr) hup hdn hdv (hSt c) (by omega) (ex := Ex c) (hexs1 c (by omega))
    have hte := f_g_terms (a := (f_den up dn td (Ex c))) (b := (f_num up dn dv td (K c) (St c) (Ex c) (Am c) pr)) hnb.2.2.1 hnb.1
    have hmb := f_mark_bd (t := td) (ki := K c) (am := Am c) (fr := pr) hup hdn hdv (hSt c) (by omega) (ex := Ex c) (hexs1 c (by omega))
    refine jj_iload C0 0 rfl dL_isTold_13 ?_
    refine jj_aload C0 6 rfl dL_isTold_15 ?_
    refine jj_iconst C0 dL_isTold_17 ?_
    refine jj_iald C0 (q0 := 4) (t0 := 0) (f := (f_lg td pr up dn mo sh co n)) (rfl) rfl (k := 1) (by omega) (by omega) (by decide) dL_isTold_18 ?_
    refine jj_topi (b := pr) (rfl) ?_
    refine jj_aload_n C0 3 rfl dL_isTold_19 ?_
    refine jj_aload C0 6 rfl dL_isTold_20 ?_
    refine jj_aload C0 7 rfl dL_isTold_22 ?_
    refine jj_callSl C0 (cells' := ((2 * c) + 1)) (slots' := ((64 * c) + 32)) (cc_L_above hEV (c := c) (fr := pr) (by omega) (hov5 _ (by omega)) htd5 (by omega) hup hdn hdv hK hSt hEx hAm hOv) (cwS 5 hw (lw_gS hU_713 hU_714 hU_42 hU_715) rfl rfl rfl (by decide +kernel) ⟨Nat.le_of_ble_eq_true rfl, Nat.le_of_ble_eq_true rfl⟩) rfl rfl (Nat.le_of_ble_eq_true rfl) ⟨by show (2 * c) + 1 ≤ 18; omega, by show (64 * c) + 32 ≤ 576; omega⟩ rfl rfl dL_isTold_24 ?_
    intro _ hu
    show jj_W _ _ _ _ _ _ _ _ _ _ _ _ _ _ _ _ _ 27 _ [.long (lI (f_num up dn dv td (K c) (St c) (Ex c) (Am c) pr))] (wL ka cI cJ td pr up dn mo sh co n K St Ex Am Ov Bj Aj BL AL He Cj dv Ca sd Cz ++ (wH ha cA hA nA ed cI cJ cZ td pr up dn dv r1 sd mc n mo sh co Ca Cz K St Ex Am Bi As BL AL He Co ++ GG))
    refine jj_lstore C0 (lv' := [(9, .long (lI (f_num up dn dv td (K c) (St c) (Ex c) (Am c) pr))), (8, .int (iI (c : Int))), (0, .ref (ha 0)), (1, .int (iI (t : Int))), (2, .ref (ka 0)), (3, .ref (ka 1)), (4, .ref (ka 3)), (5, .ref (ka 4)), (6, .ref (ka 5)), (7, .ref (ka 6))]) (by decide) rfl dL_isTold_27 ?_
    refine jj_iload C0 1 rfl dL_isTold_29 ?_
    refine jj_aload_n C0 4 rfl dL_isTold_31 ?_
    refine jj_aload C0 7 rfl dL_isTold_32 ?_
    refine jj_callSl C0 (cells' := ((2 * c) + 1)) (slots' := ((64 * c) + 32)) (cc_L_below hEV (c := c) (by omega) (hov5 _ (by omega)) hup hdn hAm hOv hEx htd5) (cwS 3 hw (lw_gS hU_719 hU_720 hU_42 hU_721) rfl rfl rfl (by decide +kernel) ⟨Nat.le_of_ble_eq_true rfl, Nat.le_of_ble_eq_true rfl⟩) rfl rfl (Nat.le_of_ble_eq_true rfl) ⟨by show ((2 * c) + 1) + 0 ≤ 18; omega, by show ((64 * c) + 32) + 0 ≤ 576; omega⟩ rfl rfl dL_isTold_34 ?_
    intro _ hu
    show jj_W _ _ _ _ _ _ _ _ _ _ _ _ _ _ _ _ _ 37 _ [.long (lI (f_den up dn td (Ex c)))] (wL ka cI cJ td pr up dn mo sh co n K St Ex Am Ov Bj Aj BL AL He Cj dv Ca sd Cz ++ (wH ha cA hA nA ed cI cJ cZ td pr up dn dv r1 sd mc n mo sh co Ca Cz K St Ex Am Bi As BL AL He Co ++ GG))
    refine jj_lstore C0 (lv' := [(11, .long (lI (f_den up dn td (Ex c)))), (9, .long (lI (f_num up dn dv td (K c) (St c) (Ex c) (Am c) pr))), (8, .int (iI (c : Int))), (0, .ref (ha 0)), (1, .int (iI (t : Int))), (2, .ref (ka 0)), (3, .ref (ka 1)), (4, .ref (ka 3)), (5, .ref (ka 4)), (6, .ref (ka 5)), (7, .ref (ka 6))]) (by decide) rfl dL_isTold_37 ?_
    refine jj_aload C0 7 rfl dL_isTold_39 ?_
    refine jj_bipush C0 dL_isTold_41 (by decide) ?_
    refine jj_iload C0 2 rfl dL_isTold_43 ?_
    refine jj_iadd C0 dL_isTold_45 ?_
    refine jj_iald C0 (q0 := 3) (t0 := 0) (f := (f_lq Bj Aj BL AL)) (rfl) rfl (k := (12 + c)) (by omega) (by omega) (by decide) dL_isTold_46 ?_
    refine jj_topi (b := (BL c)) (f_lq_BL (by omega)) ?_
    refine jj_aload C0 7 rfl dL_isTold_47 ?_
    refine jj_bipush C0 dL_isTold_49 (by decide) ?_
    refine jj_iload C0 2 rfl dL_isTold_51 ?_
    refine jj_iadd C0 dL_isTold_53 ?_
    refine jj_iald C0 (q0 := 3) (t0 := 0) (f := (f_lq Bj Aj BL AL)) (rfl) rfl (k := (18 + c)) (by omega) (by omega) (by decide) dL_isTold_54 ?_
    refine jj_topi (b := (AL c)) (f_lq_AL) ?_
    refine jj_iadd C0 dL_isTold_55 ?_
    refine jj_join (X := Unit) (pcj := 64) (fun q9 => match q9 with | () => [(11, .long (lI (f_den up dn td (Ex c)))), (9, .long (lI (f_num up dn dv td (K c) (St c) (Ex c) (Am c) pr))), (8, .int (iI (c : Int))), (0, .ref (ha 0)), (1, .int (iI (t : Int))), (2, .ref (ka 0)), (3, .ref (ka 1)), (4, .ref (ka 3)), (5, .ref (ka 4)), (6, .ref (ka 5)), (7, .ref (ka 6))]) (fun q9 => match q9 with | () => [.int (iI (if 0 < BL c + AL c then 1 else 0))]) (fun q9 => match q9 with | () => wL ka cI cJ td pr up dn mo sh co n K St Ex Am Ov Bj Aj BL AL He Cj dv Ca sd Cz ++ (wH ha cA hA nA ed cI cJ cZ td pr up dn dv r1 sd mc n mo sh co Ca Cz K St Ex Am Bi As BL AL He Co ++ GG)) (fun q9 => match q9 with | () => True) ?_ ?_
    · intro q9 hq9
      obtain ⟨⟩ := q9
      have _ : True := hq9
      refine jj_istore C0 (lv' := [(13, .int (iI (if 0 < BL c + AL c then 1 else 0))), (11, .long (lI (f_den up dn td (Ex c)))), (9, .long (lI (f_num up dn dv td (K c) (St c) (Ex c) (Am c) pr))), (8, .int (iI (c : Int))), (0, .ref (ha 0)), (1, .int (iI (t : Int))), (2, .ref (ka 0)), (3, .ref (ka 1)), (4, .ref (ka 3)), (5, .ref (ka 4)), (6, .ref (ka 5)), (7, .ref (ka 6))]) (by decide) rfl dL_isTold_64 ?_
      refine jj_iconst C0 dL_isTold_66 ?_
      refine jj_istore C0 (lv' := [(14, .int (iI 0)), (13, .int (iI (if 0 < BL c + AL c then 1 else 0))), (11, .long (lI (f_den up dn td (Ex c)))), (9, .long (lI (f_num up dn dv td (K c) (St c) (Ex c) (Am c) pr))), (8, .int (iI (c : Int))), (0, .ref (ha 0)), (1, .int (iI (t : Int))), (2, .ref (ka 0)), (3, .ref (ka 1)), (4, .ref (ka 3)), (5, .ref (ka 4)), (6, .ref (ka 5)), (7, .ref (ka 6))]) (by decide) rfl dL_isTold_67 ?_
      refine jj_ind (X := Nat) (fun q9 => match q9 with | w => (5 - w : Nat)) (fun q9 => match q9 with | w => [(14, .int (iI (w : Int))), (13, .int (iI (if 0 < BL c + AL c then 1 else 0))), (11, .long (lI (f_den up dn td (Ex c)))), (9, .long (lI (f_num up dn dv td (K c) (St c) (Ex c) (Am c) pr))), (8, .int (iI (c : Int))), (0, .ref (ha 0)), (1, .int (iI (t : Int))), (2, .ref (ka 0)), (3, .ref (ka 1)), (4, .ref (ka 3)), (5, .ref (ka 4)), (6, .ref (ka 5)), (7, .ref (ka 6))]) (fun q9 => match q9 with | w => []) (fun q9 => match q9 with | w => wL ka cI cJ td pr up dn mo sh co n K St Ex Am Ov Bj Aj BL AL He Cj dv Ca sd Cz ++ (wH ha cA hA nA ed cI cJ cZ td pr up dn dv r1 sd mc n mo sh co Ca Cz K St Ex Am Bi As BL AL He Co ++ GG)) (fun q9 => match q9 with | w => w ≤ 4) ?_ 0 (Nat.zero_le _)
      intro q9 hq9 ih69
      obtain ⟨w, rfl⟩ : ∃ z, z = q9 := ⟨_, rfl⟩
      have hw4 : w ≤ 4 := hq9
      show jj_W _ _ _ _ _ _ _ _ _ _ _ _ _ _ _ _ _ 69 [(14, .int (iI (w : Int))), (13, .int (iI (if 0 < BL c + AL c then 1 else 0))), (11, .long (lI (f_den up dn td (Ex c)))), (9, .long (lI (f_num up dn dv td (K c) (St c) (Ex c) (Am c) pr))), (8, .int (iI (c : Int))), (0, .ref (ha 0)), (1, .int (iI (t : Int))), (2, .ref (ka 0)), (3, .ref (ka 1)), (4, .ref (ka 3)), (5, .ref (ka 4)), (6, .ref (ka 5)), (7, .ref (ka 6))] [] (wL ka cI cJ td pr up dn mo sh co n K St Ex Am Ov Bj Aj BL AL He Cj dv Ca sd Cz ++ (wH ha cA hA nA ed cI cJ cZ td pr up dn dv r1 sd mc n mo sh co Ca Cz K St Ex Am Bi As BL AL He Co ++ GG))
      refine jj_iload C0 0 rfl dL_isTold_69 ?_
      refine jj_iconst C0 dL_isTold_71 ?_
      refine jj_icmp_ge C0 (by omega) (by omega) dL_isTold_72 (tgt := 114) (by decide) (fun c_10 => ?_) (fun c_10 => ?_)
      · refine jj_iconst C0 dL_isTold_114 ?_
        refine jj_istore C0 (lv' := [(14, .int (iI 0)), (13, .int (iI (if 0 < BL c + AL c then 1 else 0))), (11, .long (lI (f_den up dn td (Ex c)))), (9, .long (lI (f_num up dn dv td (K c) (St c) (Ex c) (Am c) pr))), (8, .int (iI (c : Int))), (0, .ref (ha 0)), (1, .int (iI (t : Int))), (2, .ref (ka 0)), (3, .ref (ka 1)), (4, .ref (ka 3)), (5, .ref (ka 4)), (6, .ref (ka 5)), (7, .ref (ka 6))]) (by decide) rfl dL_isTold_115 ?_
        refine jj_lv [0, 2, 3, 4, 5, 6, 7, 8, 9, 10, 11, 12] rfl ?_
        refine jj_ind (X := Nat) (fun q9 => match q9 with | i => (8 - i : Nat)) (fun q9 => match q9 with | i => [(14, .int (iI (i : Int))), (11, .long (lI (f_den up dn td (Ex c)))), (9, .long (lI (f_num up dn dv td (K c) (St c) (Ex c) (Am c) pr))), (8, .int (iI (c : Int))), (0, .ref (ha 0)), (1, .int (iI (t : Int))), (2, .ref (ka 0)), (3, .ref (ka 1)), (4, .ref (ka 3)), (5, .ref (ka 4)), (6, .ref (ka 5)), (7, .ref (ka 6))]) (fun q9 => match q9 with | i => []) (fun q9 => match q9 with | i => wL ka cI cJ td pr up dn mo sh co n K St Ex Am Ov Bj Aj BL AL He Cj dv Ca sd Cz ++ (wH ha cA hA nA ed cI cJ cZ td pr up dn dv r1 sd mc n mo sh co Ca Cz K St Ex Am Bi As BL AL He Co ++ GG)) (fun q9 => match q9 with | i => i ≤ 7) ?_ 0 (Nat.zero_le _)
        intro q9 hq9 ih117
        obtain ⟨i, rfl⟩ : ∃ z, z = q9 := ⟨_, rfl⟩
        have hi7 : i ≤ 7 := hq9
        show jj_W _ _ _ _ _ _ _ _ _ _ _ _ _ _ _ _ _ 117 [(14, .int (iI (i : Int))), (11, .long (lI (f_den up dn td (Ex c)))), (9, .long (lI (f_num up dn dv td (K c) (St c) (Ex c) (Am c) pr))), (8, .int (iI (c : Int))), (0, .ref (ha 0)), (1, .int (iI (t : Int))), (2, .ref (ka 0)), (3, .ref (ka 1)), (4, .ref (ka 3)), (5, .ref (ka 4)), (6, .ref (ka 5)), (7, .ref (ka 6))] [] (wL ka cI cJ td pr up dn mo sh co n K St Ex Am Ov Bj Aj BL AL He Cj dv Ca sd Cz ++ (wH ha cA hA nA ed cI cJ cZ td pr up dn dv r1 sd mc n mo sh co Ca Cz K St Ex Am Bi As BL AL He Co ++ GG))
        refine jj_iload C0 0 rfl dL_isTold_117 ?_
        refine jj_bipush C0 dL_isTold_119 (by decide) ?_
        refine jj_icmp_ge C0 (by omega) (by omega) dL_isTold_121 (tgt := 164) (by decide) (fun c_11 => ?_) (fun c_11 => ?_)
        · refine jj_iload_n C0 5 rfl dL_isTold_164 ?_
          refine jj_iload C0 3 rfl dL_isTold_165 ?_
          refine jj_iadd C0 dL_isTold_167 ?_
          refine jj_iconst C0 dL_isTold_168 ?_
          refine jj_irem C0 (by omega) (by omega) (by omega) (by omega) dL_isTold_169 ?_
          refine jj_toHw ?_
          refine jj_joinC (cells' := (2 * c + 2)) (slots' := (64 * c + 64)) (X9 := Nat → Int) (pcj := 248) (fun q9 => match q9 with | r2 => [(8, .int (iI (c : Int))), (0, .ref (ha 0)), (1, .int (iI (t : Int))), (2, .ref (ka 0)), (3, .ref (ka 1)), (4, .ref (ka 3)), (5, .ref (ka 4)), (6, .ref (ka 5)), (7, .ref (ka 6))]) (fun q9 => match q9 with | r2 => []) (fun q9 => match q9 with | r2 => wH ha cA hA nA ed cI cJ cZ td pr up dn dv r2 sd mc n mo sh co Ca Cz K St Ex Am Bi As BL AL He Co ++ (GG ++ wL ka cI cJ td pr up dn mo sh co n K St Ex Am Ov Bj Aj BL AL He Cj dv Ca sd Cz)) (fun q9 => match q9 with | r2 => True) ?_ ?_
          · intro q9 hq9
            obtain ⟨r2, rfl⟩ : ∃ z, z = q9 := ⟨_, rfl⟩
            have _ : True := hq9
            refine jj_iinc C0 (z := ((c + 1 : Nat) : Int)) (lv' := [(8, .int (iI ((c + 1 : Nat) : Int))), (0, .ref (ha 0)), (1, .int (iI (t : Int))), (2, .ref (ka 0)), (3, .ref (ka 1)), (4, .ref (ka 3)), (5, .ref (ka 4)), (6, .ref (ka 5)), (7, .ref (ka 6))]) 0 rfl (by omega) (by decide) rfl dL_isTold_248 ?_
            refine jj_goto C0 (tgt := 3) dL_isTold_251 (by decide) ?_
            refine jj_wd (cells' := (2 * (c + 1))) (slots' := (64 * (c + 1))) (by omega) (by omega) ?_
            exact ih3 (c + 1, r2) (by omega) (by dsimp only; omega)
          intro j248
          refine jj_if_le C0 (by omega) dL_isTold_170 (tgt := 176) (by decide) (fun c_12 => ?_) (fun c_12 => ?_)
          · refine jj_aload_n C0 4 rfl dL_isTold_176 ?_
            refine jj_iload C0 3 rfl dL_isTold_177 ?_
            refine jj_iconst C0 dL_isTold_179 ?_
            refine jj_callSWl C0 (cells' := ((2 * c) + 1)) (slots' := ((64 * c) + 32)) (jj_weakl (fun A U H h => h.1.1) (cw_L_value hl (c := c) (v := 1) (by omega) (by omega) hpr hexs1 hn htd hup hdn hdv hK hSt hEx hAm (fun h9 => f_ED_app (hED0 h9)))) (vx_cwSW 3 hw (lw_gW hU_752 hU_753 hU_42 hU_754) rfl rfl rfl (by decide +kernel) ⟨Nat.le_of_ble_eq_true rfl, Nat.le_of_ble_eq_true rfl⟩) rfl rfl (Nat.le_of_ble_eq_true rfl) ⟨by show ((2 * c) + 1) + 0 ≤ 18; omega, by show ((64 * c) + 32) + 0 ≤ 576; omega⟩ rfl rfl dL_isTold_180 ?_
            intro r8_13 hu
            show jj_W _ _ _ _ _ _ _ _ _ _ _ _ _ _ _ _ _ 183 _ [.long (lI (if 1 = 0 then (f_num up dn dv td (K c) (St c) (Ex c) (Am c) pr) / f_g (f_den up dn td (Ex c)) (f_num up dn dv td (K c) (St c) (Ex c) (Am c) pr) else (f_den up dn td (Ex c)) / f_g (f_den up dn td (Ex c)) (f_num up dn dv td (K c) (St c) (Ex c) (Am c) pr)))] (wH ha cA hA nA ed cI cJ cZ td pr up dn dv r8_13 sd mc n mo sh co Ca Cz K St Ex Am Bi As BL AL He Co ++ (GG ++ wL ka cI cJ td pr up dn mo sh co n K St Ex Am Ov Bj Aj BL AL He Cj dv Ca sd Cz))
            refine jj_topl (b := ((f_den up dn td (Ex c)) / (f_g (f_den up dn td (Ex c)) (f_num up dn dv td (K c) (St c) (Ex c) (Am c) pr)))) (if_neg (by decide)) ?_
            refine jj_lstore C0 (lv' := [(14, .long (lI ((f_den up dn td (Ex c)) / (f_g (f_den up dn td (Ex c)) (f_num up dn dv td (K c) (St c) (Ex c) (Am c) pr))))), (11, .long (lI (f_den up dn td (Ex c)))), (9, .long (lI (f_num up dn dv td (K c) (St c) (Ex c) (Am c) pr))), (8, .int (iI (c : Int))), (0, .ref (ha 0)), (1, .int (iI (t : Int))), (2, .ref (ka 0)), (3, .ref (ka 1)), (4, .ref (ka 3)), (5, .ref (ka 4)), (6, .ref (ka 5)), (7, .ref (ka 6))]) (by decide) rfl dL_isTold_183 ?_
            refine jj_aload_n C0 4 rfl dL_isTold_185 ?_
            refine jj_iload C0 3 rfl dL_isTold_186 ?_
            refine jj_iconst C0 dL_isTold_188 ?_
            refine jj_callSWl C0 (cells' := ((2 * c) + 1)) (slots' := ((64 * c) + 32)) (jj_weakl (fun A U H h => h.1.1) (cw_L_value hl (c := c) (v := 0) (by omega) (by omega) hpr hexs1 hn htd hup hdn hdv hK hSt hEx hAm (fun h9 => f_ED_app (hED0 h9)))) (vx_cwSW 3 hw (lw_gW hU_752 hU_753 hU_42 hU_754) rfl rfl rfl (by decide +kernel) ⟨Nat.le_of_ble_eq_true rfl, Nat.le_of_ble_eq_true rfl⟩) rfl rfl (Nat.le_of_ble_eq_true rfl) ⟨by show ((2 * c) + 1) + 0 ≤ 18; omega, by show ((64 * c) + 32) + 0 ≤ 576; omega⟩ rfl rfl dL_isTold_189 ?_
            intro r8_14 hu
            show jj_W _ _ _ _ _ _ _ _ _ _ _ _ _ _ _ _ _ 192 _ [.long (lI (if 0 = 0 then (f_num up dn dv td (K c) (St c) (Ex c) (Am c) pr) / f_g (f_den up dn td (Ex c)) (f_num up dn dv td (K c) (St c) (Ex c) (Am c) pr) else (f_den up dn td (Ex c)) / f_g (f_den up dn td (Ex c)) (f_num up dn dv td (K c) (St c) (Ex c) (Am c) pr)))] (wH ha cA hA nA ed cI cJ cZ td pr up dn dv r8_14 sd mc n mo sh co Ca Cz K St Ex Am Bi As BL AL He Co ++ (GG ++ wL ka cI cJ td pr up dn mo sh co n K St Ex Am Ov Bj Aj BL AL He Cj dv Ca sd Cz))
            refine jj_topl (b := ((f_num up dn dv td (K c) (St c) (Ex c) (Am c) pr) / (f_g (f_den up dn td (Ex c)) (f_num up dn dv td (K c) (St c) (Ex c) (Am c) pr)))) (if_pos rfl) ?_
            refine jj_lload C0 1 rfl dL_isTold_192 ?_
            refine jj_lmul C0 dL_isTold_194 ?_
            refine jj_lload C0 2 rfl dL_isTold_195 ?_
            refine jj_lload C0 0 rfl dL_isTold_197 ?_
            refine jj_lmul C0 dL_isTold_199 ?_
            refine jj_topl (b := (((f_num up dn dv td (K c) (St c) (Ex c) (Am c) pr) / (f_g (f_den up dn td (Ex c)) (f_num up dn dv td (K c) (St c) (Ex c) (Am c) pr))) * (f_den up dn td (Ex c)))) (hte.1.symm) ?_
            refine jj_lcmpN C0 dL_isTold_200 dL_isTold_201 (tgt := 246) (by decide) ?_
            refine jj_lload C0 0 rfl dL_isTold_204 ?_
            refine jj_lconst C0 (z := 1) (by decide) dL_isTold_206 ?_
            refine jj_lcmp_lt C0 (by omega) (by omega) dL_isTold_207 dL_isTold_208 (tgt := 246) (by decide) (fun c_15 => absurd c_15 (by omega)) (fun c_15 => ?_)
            refine jj_lload C0 1 rfl dL_isTold_211 ?_
            refine jj_lload C0 0 rfl dL_isTold_213 ?_
            refine jj_lrem C0 (by omega) (by omega) (by omega) (by omega) dL_isTold_215 ?_
            refine jj_lconst C0 (z := 0) (by decide) dL_isTold_216 ?_
            refine jj_lcmp_ne C0 (by rw [hte.2.2.2]; omega) (by omega) dL_isTold_217 dL_isTold_218 (tgt := 246) (by decide) (fun c_16 => absurd c_16 (fun g9 => g9 hte.2.2.2)) (fun c_16 => ?_)
            refine jj_aload_n C0 4 rfl dL_isTold_221 ?_
            refine jj_iload C0 3 rfl dL_isTold_222 ?_
            refine jj_callSWi C0 (cells' := ((2 * c) + 1)) (slots' := ((64 * c) + 32)) (jj_weaki (fun A U H h => h.1.1) (cw_L_mark hl (c := c) (by omega) hpr hexs1 hn htd hup hdn hdv hK hSt hEx hAm (fun h9 => f_ED_app (hED0 h9)))) (vx_cwSW 2 hw (lw_gW hU_764 hU_765 hU_42 hU_766) rfl rfl rfl (by decide +kernel) ⟨Nat.le_of_ble_eq_true rfl, Nat.le_of_ble_eq_true rfl⟩) rfl rfl (Nat.le_of_ble_eq_true rfl) ⟨by show ((2 * c) + 1) + 0 ≤ 18; omega, by show ((64 * c) + 32) + 0 ≤ 576; omega⟩ rfl rfl dL_isTold_224 ?_
            intro r8_17 hu
            show jj_W _ _ _ _ _ _ _ _ _ _ _ _ _ _ _ _ _ 227 _ [.int (iI (f_mark up dn dv td (K c) (St c) (Ex c) (Am c) pr))] (wH ha cA hA nA ed cI cJ cZ td pr up dn dv r8_17 sd mc n mo sh co Ca Cz K St Ex Am Bi As BL AL He Co ++ (GG ++ wL ka cI cJ td pr up dn mo sh co n K St Ex Am Ov Bj Aj BL AL He Cj dv Ca sd Cz))
            refine jj_i2l C0 (by omega) dL_isTold_227 ?_
            refine jj_iload C0 3 rfl dL_isTold_228 ?_
            refine jj_aload C0 9 rfl dL_isTold_230 ?_
            refine jj_iconst C0 dL_isTold_232 ?_
            refine jj_toLw ?_
            refine jj_iald C0 (q0 := 4) (t0 := 0) (f := (f_lg td pr up dn mo sh co n)) (rfl) rfl (k := 1) (by omega) (by omega) (by decide) dL_isTold_233 ?_
            refine jj_topi (b := pr) (rfl) ?_
            refine jj_aload_n C0 6 rfl dL_isTold_234 ?_
            refine jj_aload C0 9 rfl dL_isTold_235 ?_
            refine jj_aload C0 10 rfl dL_isTold_237 ?_
            refine jj_callSl C0 (cells' := (((2 * c) + 1) + 1)) (slots' := (((64 * c) + 32) + 32)) (cc_L_markOf hEV (c := c) (fr := pr) (by omega) (hov5 _ (by omega)) htd5 (by omega) hup hdn hdv hK hSt hEx hAm hOv) (cwS 5 hw (lw_gS hU_709 hU_710 hU_42 hU_711) rfl rfl rfl (by decide +kernel) ⟨Nat.le_of_ble_eq_true rfl, Nat.le_of_ble_eq_true rfl⟩) rfl rfl (Nat.le_of_ble_eq_true rfl) ⟨by show ((2 * c) + 1) + 1 ≤ 18; omega, by show ((64 * c) + 32) + 32 ≤ 576; omega⟩ rfl rfl dL_isTold_239 ?_
            intro _ hu
            show jj_W _ _ _ _ _ _ _ _ _ _ _ _ _ _ _ _ _ 242 _ [.long (lI (f_mark up dn dv td (K c) (St c) (Ex c) (Am c) pr)), .long (lI (f_mark up dn dv td (K c) (St c) (Ex c) (Am c) pr))] (wL ka cI cJ td pr up dn mo sh co n K St Ex Am Ov Bj Aj BL AL He Cj dv Ca sd Cz ++ (wH ha cA hA nA ed cI cJ cZ td pr up dn dv r8_17 sd mc n mo sh co Ca Cz K St Ex Am Bi As BL AL He Co ++ GG))
            refine jj_lcmpS C0 dL_isTold_242 dL_isTold_243 (tgt := 248) (by decide) ?_
            refine jj_toHw ?_
            refine jj_wd (cells' := (2 * c + 2)) (slots' := (64 * c + 64)) (by omega) (by omega) ?_
            refine jj_lv [3, 4, 5, 6, 7, 8, 9, 10, 11] rfl ?_
            exact j248 r8_17 trivial
          · refine jj_goto C0 (tgt := 248) dL_isTold_173 (by decide) ?_
            refine jj_wd (cells' := (2 * c + 2)) (slots' := (64 * c + 64)) (by omega) (by omega) ?_
            refine jj_lv [3, 4, 5, 6, 7, 8, 9, 10, 11] rfl ?_
            exact j248 r1 trivial
        · refine jj_aload_n C0 4 rfl dL_isTold_124 ?_
          refine jj_iload C0 0 rfl dL_isTold_125 ?_
          refine jj_bipush C0 dL_isTold_127 (by decide) ?_
          refine jj_icmp_ne C0 (by omega) (by omega) dL_isTold_129 (tgt := 136) (by decide) (fun c_18 => ?_) (fun c_18 => ?_)
          · refine jj_iload C0 0 rfl dL_isTold_136 ?_
            refine jj_iload C0 3 rfl dL_isTold_138 ?_
            refine jj_toHw ?_
            refine jj_callSWi C0 (cells' := ((2 * c) + 1)) (slots' := ((64 * c) + 32)) (jj_weaki (fun A U H h => h.1.1) (cw_L_lots hl (z := (i : Int)) (c := c) (k := i) (by omega) (by omega) hn (fun h9 => f_ED_app (hED0 h9)))) (vx_cwSW 3 hw (lw_gW hU_745 hU_746 hU_42 hU_747) rfl rfl rfl (by decide +kernel) ⟨Nat.le_of_ble_eq_true rfl, Nat.le_of_ble_eq_true rfl⟩) rfl rfl (Nat.le_of_ble_eq_true rfl) ⟨by show ((2 * c) + 1) + 0 ≤ 18; omega, by show ((64 * c) + 32) + 0 ≤ 576; omega⟩ rfl rfl dL_isTold_140 ?_
            intro _ hu
            show jj_W _ _ _ _ _ _ _ _ _ _ _ _ _ _ _ _ _ 143 _ [.int (iI (He (7 * c + i)))] (wH ha cA hA nA ed cI cJ cZ td pr up dn dv r1 sd mc n mo sh co Ca Cz K St Ex Am Bi As BL AL He Co ++ (GG ++ wL ka cI cJ td pr up dn mo sh co n K St Ex Am Ov Bj Aj BL AL He Cj dv Ca sd Cz))
            refine jj_aload_n C0 7 rfl dL_isTold_143 ?_
            refine jj_bipush C0 dL_isTold_144 (by decide) ?_
            refine jj_iload C0 3 rfl dL_isTold_146 ?_
            refine jj_imul C0 dL_isTold_148 ?_
            refine jj_iload C0 0 rfl dL_isTold_149 ?_
            refine jj_iadd C0 dL_isTold_151 ?_
            refine jj_toLw ?_
            refine jj_iald C0 (q0 := 1) (t0 := 0) (f := (f_lh He)) (rfl) rfl (k := ((10 * c) + i)) (by omega) (by omega) (by decide) dL_isTold_152 ?_
            refine jj_topi (b := (He (7 * c + i))) (f_lh_at (by omega)) ?_
            refine jj_icmpS C0 dL_isTold_153 (tgt := 158) (by decide) ?_
            refine jj_iinc C0 (z := ((i + 1 : Nat) : Int)) (lv' := [(14, .int (iI ((i + 1 : Nat) : Int))), (11, .long (lI (f_den up dn td (Ex c)))), (9, .long (lI (f_num up dn dv td (K c) (St c) (Ex c) (Am c) pr))), (8, .int (iI (c : Int))), (0, .ref (ha 0)), (1, .int (iI (t : Int))), (2, .ref (ka 0)), (3, .ref (ka 1)), (4, .ref (ka 3)), (5, .ref (ka 4)), (6, .ref (ka 5)), (7, .ref (ka 6))]) 0 rfl (by omega) (by decide) rfl dL_isTold_158 ?_
            refine jj_goto C0 (tgt := 117) dL_isTold_161 (by decide) ?_
            exact ih117 (i + 1) (by omega) (by dsimp only; omega)
          · refine jj_iconst C0 dL_isTold_132 ?_
            refine jj_goto C0 (tgt := 138) dL_isTold_133 (by decide) ?_
            refine jj_iload C0 3 rfl dL_isTold_138 ?_
            refine jj_toHw ?_
            refine jj_callSWi C0 (cells' := ((2 * c) + 1)) (slots' := ((64 * c) + 32)) (jj_weaki (fun A U H h => h.1.1) (cw_L_lots hl (z := (-1)) (c := c) (k := i) (by omega) (by omega) hn (fun h9 => f_ED_app (hED0 h9)))) (vx_cwSW 3 hw (lw_gW hU_745 hU_746 hU_42 hU_747) rfl rfl rfl (by decide +kernel) ⟨Nat.le_of_ble_eq_true rfl, Nat.le_of_ble_eq_true rfl⟩) rfl rfl (Nat.le_of_ble_eq_true rfl) ⟨by show ((2 * c) + 1) + 0 ≤ 18; omega, by show ((64 * c) + 32) + 0 ≤ 576; omega⟩ rfl rfl dL_isTold_140 ?_
            intro _ hu
            show jj_W _ _ _ _ _ _ _ _ _ _ _ _ _ _ _ _ _ 143 _ [.int (iI (He (7 * c + i)))] (wH ha cA hA nA ed cI cJ cZ td pr up dn dv r1 sd mc n mo sh co Ca Cz K St Ex Am Bi As BL AL He Co ++ (GG ++ wL ka cI cJ td pr up dn mo sh co n K St Ex Am Ov Bj Aj BL AL He Cj dv Ca sd Cz))
            refine jj_aload_n C0 7 rfl dL_isTold_143 ?_
            refine jj_bipush C0 dL_isTold_144 (by decide) ?_
            refine jj_iload C0 3 rfl dL_isTold_146 ?_
            refine jj_imul C0 dL_isTold_148 ?_
            refine jj_iload C0 0 rfl dL_isTold_149 ?_
            refine jj_iadd C0 dL_isTold_151 ?_
            refine jj_toLw ?_
            refine jj_iald C0 (q0 := 1) (t0 := 0) (f := (f_lh He)) (rfl) rfl (k := ((10 * c) + i)) (by omega) (by omega) (by decide) dL_isTold_152 ?_
            refine jj_topi (b := (He (7 * c + i))) (f_lh_at (by omega)) ?_
            refine jj_icmpS C0 dL_isTold_153 (tgt := 158) (by decide) ?_
            refine jj_iinc C0 (z := ((i + 1 : Nat) : Int)) (lv' := [(14, .int (iI ((i + 1 : Nat) : Int))), (11, .long (lI (f_den up dn td (Ex c)))), (9, .long (lI (f_num up dn dv td (K c) (St c) (Ex c) (Am c) pr))), (8, .int (iI (c : Int))), (0, .ref (ha 0)), (1, .int (iI (t : Int))), (2, .ref (ka 0)), (3, .ref (ka 1)), (4, .ref (ka 3)), (5, .ref (ka 4)), (6, .ref (ka 5)), (7, .ref (ka 6))]) 0 rfl (by omega) (by decide) rfl dL_isTold_158 ?_
            refine jj_goto C0 (tgt := 117) dL_isTold_161 (by decide) ?_
            exact ih117 (i + 1) (by omega) (by dsimp only; omega)
      · refine jj_aload_n C0 5 rfl dL_isTold_75 ?_
        refine jj_iload C0 4 rfl dL_isTold_76 ?_
        refine jj_iload C0 0 rfl dL_isTold_78 ?_
        refine jj_toHw ?_
        refine jj_callSWi C0 (cells' := ((2 * c) + 1)) (slots' := ((64 * c) + 32)) (jj_weaki (fun A U H h => h.1.1) (cw_L_quoted hl (c := c) (x := (w : Int)) (by omega) (by omega) hn (fun h9 => f_ED_app (hED0 h9)))) (vx_cwSW 3 hw (lw_gW hU_737 hU_738 hU_42 hU_739) rfl rfl rfl (by decide +kernel) ⟨Nat.le_of_ble_eq_true rfl, Nat.le_of_ble_eq_true rfl⟩) rfl rfl (Nat.le_of_ble_eq_true rfl) ⟨by show ((2 * c) + 1) + 0 ≤ 18; omega, by show ((64 * c) + 32) + 0 ≤ 576; omega⟩ rfl rfl dL_isTold_80 ?_
        intro _ hu
        show jj_W _ _ _ _ _ _ _ _ _ _ _ _ _ _ _ _ _ 83 _ [.int (iI (if (w : Int) = 0 then Bi c else if (w : Int) = 1 then As c else if (w : Int) = 2 then BL c else AL c))] (wH ha cA hA nA ed cI cJ cZ td pr up dn dv r1 sd mc n mo sh co Ca Cz K St Ex Am Bi As BL AL He Co ++ (GG ++ wL ka cI cJ td pr up dn mo sh co n K St Ex Am Ov Bj Aj BL AL He Cj dv Ca sd Cz))
        refine jj_iload C0 1 rfl dL_isTold_83 ?_
        refine jj_if_eq C0 (by (repeat' split) <;> omega) dL_isTold_85 (tgt := 102) (by decide) (fun c_19 => ?_) (fun c_19 => ?_)
        · have hh9 : ¬ 0 < BL c + AL c := fun g9 => by rw [if_pos g9] at c_19; omega
          have hq9 := f_tie_quoted (c := c) (x := (w : Int)) hQ
          rw [if_neg hh9] at hq9
          refine jj_iconst C0 dL_isTold_102 ?_
          refine jj_topi (b := (if (w : Int) = 0 then Bi c else if (w : Int) = 1 then As c else if (w : Int) = 2 then BL c else AL c)) (hq9) ?_
          refine jj_icmpS C0 dL_isTold_103 (tgt := 108) (by decide) ?_
          refine jj_iinc C0 (z := ((w + 1 : Nat) : Int)) (lv' := [(14, .int (iI ((w + 1 : Nat) : Int))), (13, .int (iI (if 0 < BL c + AL c then 1 else 0))), (11, .long (lI (f_den up dn td (Ex c)))), (9, .long (lI (f_num up dn dv td (K c) (St c) (Ex c) (Am c) pr))), (8, .int (iI (c : Int))), (0, .ref (ha 0)), (1, .int (iI (t : Int))), (2, .ref (ka 0)), (3, .ref (ka 1)), (4, .ref (ka 3)), (5, .ref (ka 4)), (6, .ref (ka 5)), (7, .ref (ka 6))]) 0 rfl (by omega) (by decide) rfl dL_isTold_108 ?_
          refine jj_goto C0 (tgt := 69) dL_isTold_111 (by decide) ?_
          refine jj_toLw ?_
          exact ih69 (w + 1) (by omega) (by dsimp only; omega)
        · have hh9 : 0 < BL c + AL c := Decidable.byContradiction fun g9 => by rw [if_neg g9] at c_19; omega
          have hq9 := f_tie_quoted (c := c) (x := (w : Int)) hQ
          rw [if_pos hh9] at hq9
          refine jj_aload C0 9 rfl dL_isTold_88 ?_
          refine jj_bipush C0 dL_isTold_90 (by decide) ?_
          refine jj_iload C0 0 rfl dL_isTold_92 ?_
          refine jj_imul C0 dL_isTold_94 ?_
          refine jj_iload C0 4 rfl dL_isTold_95 ?_
          refine jj_iadd C0 dL_isTold_97 ?_
          refine jj_toLw ?_
          refine jj_iald C0 (q0 := 3) (t0 := 0) (f := (f_lq Bj Aj BL AL)) (rfl) rfl (k := ((6 * w) + c)) (by omega) (by omega) (by decide) dL_isTold_98 ?_
          refine jj_topi (b := (if (w : Int) = 0 then Bj c else if (w : Int) = 1 then Aj c else if (w : Int) = 2 then BL c else AL c)) (f_lq_w (by omega) (by omega)) ?_
          refine jj_goto C0 (tgt := 103) dL_isTold_99 (by decide) ?_
          refine jj_topi (b := (if (w : Int) = 0 then Bi c else if (w : Int) = 1 then As c else if (w : Int) = 2 then BL c else AL c)) (hq9) ?_
          refine jj_icmpS C0 dL_isTold_103 (tgt := 108) (by decide) ?_
          refine jj_iinc C0 (z := ((w + 1 : Nat) : Int)) (lv' := [(14, .int (iI ((w + 1 : Nat) : Int))), (13, .int (iI (if 0 < BL c + AL c then 1 else 0))), (11, .long (lI (f_den up dn td (Ex c)))), (9, .long (lI (f_num up dn dv td (K c) (St c) (Ex c) (Am c) pr))), (8, .int (iI (c : Int))), (0, .ref (ha 0)), (1, .int (iI (t : Int))), (2, .ref (ka 0)), (3, .ref (ka 1)), (4, .ref (ka 3)), (5, .ref (ka 4)), (6, .ref (ka 5)), (7, .ref (ka 6))]) 0 rfl (by omega) (by decide) rfl dL_isTold_108 ?_
          refine jj_goto C0 (tgt := 69) dL_isTold_111 (by decide) ?_
          exact ih69 (w + 1) (by omega) (by dsimp only; omega)
    intro j64
    refine jj_if_le C0 (by omega) dL_isTold_56 (tgt := 63) (by decide) (fun c_20 => ?_) (fun c_20 => ?_)
    · refine jj_iconst C0 dL_isTold_63 ?_
      refine jj_topi (b := (if 0 < BL c + AL c then 1 else 0)) (by first | rw [if_pos (by omega)] | rw [if_neg (by omega)]) ?_
      exact j64 () trivial
    · refine jj_iconst C0 dL_isTold_59 ?_
      refine jj_goto C0 (tgt := 64) dL_isTold_60 (by decide) ?_
      refine jj_topi (b := (if 0 < BL c + AL c then 1 else 0)) (by first | rw [if_pos (by omega)] | rw [if_neg (by omega)]) ?_
      exact j64 () trivial
end P4
