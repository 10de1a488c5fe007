theorem f_up_le {f : Nat → Int} {k : Nat} {v B : Int} (h : ∀ j, f j ≤ B) (hv : v ≤ B) : ∀ j, va_up f k v j ≤ B := fun j => by
  by_cases e : j = k
  · subst e; rw [va_up_self]; exact hv
  · rw [va_up_ne f v e]; exact h j
theorem f_LG_1 {cO : ClassId} {es q0 q1 : Nat} {cA : Nat → Nat} {GG : va_W} : f_LG cO es (0 + 1) q0 (va_up cA 0 q1) ((q0, .inl (cO, 10, .inr (.inr (.inr (.inr (va_up (fun _ => none) 0 (some q1))))))) :: GG) := ⟨fun _ => ⟨10, _, GG, rfl, by omega, by omega, fun j hj => by
    obtain rfl : j = 0 := by omega
    rw [va_up_self, va_up_self]⟩, fun h => absurd h (by omega)⟩
section P6
variable {p : Program} {l : Launch} {e : Env} {s : State} {m : MethodId} {args : Array Value} {below : List Frame} {meth : Method} {c9 : Code} {dC : Nat → ClassId} {dI : Nat → Nat → Nat} {A : Nat → Prop} {Q : State → Prop} {ha ka : Nat → Nat} {cI cJ cZ cO : ClassId} {es mi b L : Nat} {sa : Nat → Nat} {xs : Nat → Int32} {k9 t : Nat} {u9 v9 io : Int} {c w9 cells slots : Nat} {cA hA nA : Nat → Nat} {ed : Nat} {rw : Nat → Int} {mc : Int} {GG : va_W} {td : Nat} {pr up dn : Int} {dv : Nat → Int} {sd : Int} {n : Nat} {mo sh co : Int} {Ca Cz K St Ex Am Ov Bi As Bj Aj BL AL He Co Cj : Nat → Int}
set_option maxHeartbeats 4000000 in
set_option maxRecDepth 100000 in
theorem lq_steps (hC9 : f_C9 p l s m args meth c9 dC dI A cI cJ cZ cO es mi sa b L xs) (hcs : cells + 100 ≤ 600104 ∧ slots + 4000 ≤ 7301314) (hk9 : k9 ≤ 89) (ht9 : t ≤ 89) (hI : f_IV k9 td n pr up dn dv sd mo sh Ca K St Ex Am Ov Bi As Bj Aj BL AL He Co) (hJ : f_JV t td n pr dv sh St Ex Bj Aj) (hcc : f_JC Ov Co Cj) (hG : f_LG cO es n ed cA GG) (hu9 : iR u9) (hv9 : iR v9) (kK : f_K9 p l e s m args below meth c9 dC dI A Q ha ka cI cJ cZ cO es b k9 t u9 cells slots)   : jj_W p l e room_1 s m args below meth c9 (dC, dI) vwCl A 46 cells slots Q 475 [(18, .int (iI (-1))), (17, .int (iI 1)), (16, .int (iI io)), (14, .long (lI (f_W up dn dv td n K St Ex Am He Ca sh pr))), (13, .int (iI (w9 : Int))), (12, .int (iI (c : Int))), (11, .int (iI u9)), (10, .int (iI v9)), (9, .int (iI (t : Int))), (8, .ref (ka 6)), (7, .ref (ka 5)), (6, .ref (ka 4)), (5, .ref (ka 3)), (4, .ref (ka 2)), (3, .ref (ka 1)), (2, .ref (ka 0)), (1, .ref (ha 0)), (0, .ref b)] [] (wH ha cA hA nA ed cI cJ cZ td pr up dn dv rw sd mc n mo sh co Ca Cz K St Ex Am Bi As BL AL He Co ++ (GG ++ wL ka cI cJ td pr up dn mo sh co n K St Ex Am Ov Bj Aj BL AL He Cj dv Ca sd Cz)) := by
  obtain ⟨C0, hl, hL⟩ := hC9
  have hw := C0.2.2.2.2.1
  have hEV := hEVS es mi sa b L xs
  have hED0 : 0 < n → f_ED cA n ed cO GG := fun h9 => by have h8 := f_LG_ED (M := []) hG h9; rwa [List.append_nil] at h8
  have hCj9 := hcc.1
  have hV := hI
  obtain ⟨⟨htd, hn, hpr, hup, hdn, hdv, hsd, hmo, hsh⟩, ⟨hK, hSt, hEx, hAm, hOv, hovs, hexs, hovn⟩, hQ9, ⟨hHe, hsums, hHz⟩, ⟨hCo, hCz⟩, hCa⟩ := hI
  have hQ := hQ9
  obtain ⟨hBi, hAs, hBj, hAj, hBL, hAL, hQt, hQ0, hQn, hQo⟩ := hQ9
  have hW9 := hJ
  obtain ⟨hn6, htd5, hex5, hSp, hdv9, hBA, hsh9⟩ := hJ
  have hexs1 : ∀ c, c < n → Ex c ≤ (td : Int) + 10 := fun c hc => (hexs c hc).1
  have hHe9 : ∀ j, -999000 ≤ He j ∧ He j ≤ 999000 := fun j => by have := hHe j; omega
  have hHe6 : ∀ j, -1000000 ≤ He j ∧ He j ≤ 1000000 := fun j => by have := hHe j; omega
  have hCa9 : ∀ j, -100000000000000000 ≤ Ca j ∧ Ca j ≤ 100000000000000000 := fun j => by have := hCa j; omega
  have hov5 : ∀ c, c < n → (Ov c = 1 ∧ Ex c < (td : Int)) ∨ (Ov c = 0 ∧ (td : Int) ≤ Ex c ∧ Ex c ≤ (td : Int) + 5) := fun c hc => by have h1 := hovs c hc; have h2 := hex5 c hc; omega
  have hovw : ∀ c, c < n → He (7 * c + 6) = 0 ∨ (Ov c = 1 ∧ Ex c < (td : Int)) ∨ (Ov c = 0 ∧ (td : Int) ≤ Ex c ∧ Ex c ≤ (td : Int) + 5) := fun c hc => Or.inr (hov5 c hc)
  refine jj_aload C0 11 rfl dL_law_475 ?_
  refine jj_iconst C0 dL_law_477 ?_
  refine jj_iconst C0 dL_law_478 ?_
  refine jj_iload C0 6 rfl dL_law_479 ?_
  refine jj_bipush C0 dL_law_481 (by decide) ?_
  refine jj_callSi C0 (cells' := cells) (slots' := slots) (cc_L_low hEV (v := u9) (m := 10) (by omega)) (cwS 2 hw (lw_gS hU_167 hU_168 hU_42 hU_169) rfl rfl rfl (by decide +kernel) ⟨Nat.le_of_ble_eq_true rfl, Nat.le_of_ble_eq_true rfl⟩) rfl rfl (Nat.le_of_ble_eq_true rfl) ⟨by show cells + 0 ≤ 600104; omega, by show slots + 0 ≤ 7301314; omega⟩ rfl rfl dL_law_483 ?_
  intro _ hu
  show jj_W _ _ _ _ _ _ _ _ _ _ _ _ _ _ _ _ _ 486 _ [.int (iI (f_lo u9 10)), .int (iI 1), .int (iI 2), .ref (ka 4)] (wH ha cA hA nA ed cI cJ cZ td pr up dn dv rw sd mc n mo sh co Ca Cz K St Ex Am Bi As BL AL He Co ++ (GG ++ wL ka cI cJ td pr up dn mo sh co n K St Ex Am Ov Bj Aj BL AL He Cj dv Ca sd Cz))
  obtain ⟨x1, hx1⟩ : ∃ z : Int, z = (f_lo u9 10) := ⟨_, rfl⟩
  have hbx1 : 0 ≤ x1 ∧ x1 < 10 := by rw [hx1]; exact f_lo_bd _ (by omega)
  refine jj_topi (b := x1) (hx1.symm) ?_
  refine jj_iadd C0 dL_law_486 ?_
  refine jj_toLw ?_
  refine jj_iast C0 (q0 := 4) (t0 := 0) (f := (f_lg td pr up dn mo sh co n)) (rfl) rfl (k := 2) (by omega) (by omega) (by decide) (ws' := wL ka cI cJ td pr (1 + x1) dn mo sh co n K St Ex Am Ov Bj Aj BL AL He Cj dv Ca sd Cz ++ (wH ha cA hA nA ed cI cJ cZ td pr up dn dv rw sd mc n mo sh co Ca Cz K St Ex Am Bi As BL AL He Co ++ GG)) (wL_up) dL_law_487 ?_
  refine jj_aload C0 11 rfl dL_law_488 ?_
  refine jj_iconst C0 dL_law_490 ?_
  refine jj_iconst C0 dL_law_491 ?_
  refine jj_iload C0 6 rfl dL_law_492 ?_
  refine jj_iconst C0 dL_law_494 ?_
  refine jj_ishrX C0 dL_law_495 ?_
  have hR495 := f_sr_R u9 5
  refine jj_bipush C0 dL_law_496 (by decide) ?_
  refine jj_callSi C0 (cells' := cells) (slots' := slots) (cc_L_low hEV (v := (f_sr u9 5)) (m := 10) (by omega)) (cwS 2 hw (lw_gS hU_167 hU_168 hU_42 hU_169) rfl rfl rfl (by decide +kernel) ⟨Nat.le_of_ble_eq_true rfl, Nat.le_of_ble_eq_true rfl⟩) rfl rfl (Nat.le_of_ble_eq_true rfl) ⟨by show cells + 0 ≤ 600104; omega, by show slots + 0 ≤ 7301314; omega⟩ rfl rfl dL_law_498 ?_
  intro _ hu
  show jj_W _ _ _ _ _ _ _ _ _ _ _ _ _ _ _ _ _ 501 _ [.int (iI (f_lo (f_sr u9 5) 10)), .int (iI 1), .int (iI 3), .ref (ka 4)] (wL ka cI cJ td pr (1 + x1) dn mo sh co n K St Ex Am Ov Bj Aj BL AL He Cj dv Ca sd Cz ++ (wH ha cA hA nA ed cI cJ cZ td pr up dn dv rw sd mc n mo sh co Ca Cz K St Ex Am Bi As BL AL He Co ++ GG))
  obtain ⟨x2, hx2⟩ : ∃ z : Int, z = (f_lo (f_sr u9 5) 10) := ⟨_, rfl⟩
  have hbx2 : 0 ≤ x2 ∧ x2 < 10 := by rw [hx2]; exact f_lo_bd _ (by omega)
  refine jj_topi (b := x2) (hx2.symm) ?_
  refine jj_iadd C0 dL_law_501 ?_
  refine jj_iast C0 (q0 := 4) (t0 := 0) (f := (f_lg td pr (1 + x1) dn mo sh co n)) (rfl) rfl (k := 3) (by omega) (by omega) (by decide) (ws' := wL ka cI cJ td pr (1 + x1) (1 + x2) mo sh co n K St Ex Am Ov Bj Aj BL AL He Cj dv Ca sd Cz ++ (wH ha cA hA nA ed cI cJ cZ td pr up dn dv rw sd mc n mo sh co Ca Cz K St Ex Am Bi As BL AL He Co ++ GG)) (wL_dn) dL_law_502 ?_
  refine jj_aload_n C0 16 rfl dL_law_503 ?_
  refine jj_aload C0 11 rfl dL_law_504 ?_
  refine jj_iconst C0 dL_law_506 ?_
  refine jj_iald C0 (q0 := 4) (t0 := 0) (f := (f_lg td pr (1 + x1) (1 + x2) mo sh co n)) (rfl) rfl (k := 2) (by omega) (by omega) (by decide) dL_law_507 ?_
  refine jj_topi (b := (1 + x1)) (rfl) ?_
  refine jj_aload C0 11 rfl dL_law_508 ?_
  refine jj_iconst C0 dL_law_510 ?_
  refine jj_iald C0 (q0 := 4) (t0 := 0) (f := (f_lg td pr (1 + x1) (1 + x2) mo sh co n)) (rfl) rfl (k := 3) (by omega) (by omega) (by decide) dL_law_511 ?_
  refine jj_topi (b := (1 + x2)) (rfl) ?_
  refine jj_toHw ?_
  refine jj_callSWi C0 (cells' := cells) (slots' := slots) (jj_weaki (fun A U H h => h.1.1) (cw_L_steps hl (x := (1 + x1)) (y := (1 + x2)) (by omega) (by omega) hpr hexs1 hn htd hup hdn hdv hK hSt hEx hAm hHe6 hsh (fun h9 => f_ED_app (hED0 h9)))) (vx_cwSW 3 hw (lw_gW hU_170 hU_171 hU_42 hU_172) rfl rfl rfl (by decide +kernel) ⟨Nat.le_of_ble_eq_true rfl, Nat.le_of_ble_eq_true rfl⟩) rfl rfl (Nat.le_of_ble_eq_true rfl) ⟨by show cells + 0 ≤ 600104; omega, by show slots + 0 ≤ 7301314; omega⟩ rfl rfl dL_law_512 ?_
  intro r8_1 hu
  show jj_W _ _ _ _ _ _ _ _ _ _ _ _ _ _ _ _ _ 515 _ [.int (iI 0)] (wH ha cA hA nA ed cI cJ cZ td pr (1 + x1) (1 + x2) dv r8_1 sd mc n mo sh co Ca (va_up Cz 5 ((Cz 5) + ((f_W (1 + x1) (1 + x2) dv td n K St Ex Am He Ca sh pr) - (f_W up dn dv td n K St Ex Am He Ca sh pr)))) K St Ex Am Bi As BL AL He Co ++ (GG ++ wL ka cI cJ td pr (1 + x1) (1 + x2) mo sh co n K St Ex Am Ov Bj Aj BL AL He Cj dv Ca sd Cz))
  refine jj_if_ne C0 (by omega) dL_law_515 (tgt := 522) (by decide) (fun c_2 => absurd c_2 (by omega)) (fun c_2 => ?_)
  refine jj_iconst C0 dL_law_518 ?_
  refine jj_goto C0 (tgt := 523) dL_law_519 (by decide) ?_
  refine jj_istore C0 (lv' := [(17, .int (iI 1)), (18, .int (iI (-1))), (16, .int (iI io)), (14, .long (lI (f_W up dn dv td n K St Ex Am He Ca sh pr))), (13, .int (iI (w9 : Int))), (12, .int (iI (c : Int))), (11, .int (iI u9)), (10, .int (iI v9)), (9, .int (iI (t : Int))), (8, .ref (ka 6)), (7, .ref (ka 5)), (6, .ref (ka 4)), (5, .ref (ka 3)), (4, .ref (ka 2)), (3, .ref (ka 1)), (2, .ref (ka 0)), (1, .ref (ha 0)), (0, .ref b)]) (by decide) rfl dL_law_523 ?_
  refine jj_iconst C0 dL_law_525 ?_
  refine jj_istore C0 (lv' := [(18, .int (iI 5)), (17, .int (iI 1)), (16, .int (iI io)), (14, .long (lI (f_W up dn dv td n K St Ex Am He Ca sh pr))), (13, .int (iI (w9 : Int))), (12, .int (iI (c : Int))), (11, .int (iI u9)), (10, .int (iI v9)), (9, .int (iI (t : Int))), (8, .ref (ka 6)), (7, .ref (ka 5)), (6, .ref (ka 4)), (5, .ref (ka 3)), (4, .ref (ka 2)), (3, .ref (ka 1)), (2, .ref (ka 0)), (1, .ref (ha 0)), (0, .ref b)]) (by decide) rfl dL_law_526 ?_
  refine jj_goto C0 (tgt := 2039) dL_law_528 (by decide) ?_
  refine jj_lv [0, 1, 3, 6, 8, 9, 10, 11, 12, 13, 14, 15, 16, 17] rfl ?_
  exact kK cA hA nA ed r8_1 mc GG td pr (1 + x1) (1 + x2) dv sd n mo sh co Ca (va_up Cz 5 ((Cz 5) + ((f_W (1 + x1) (1 + x2) dv td n K St Ex Am He Ca sh pr) - (f_W up dn dv td n K St Ex Am He Ca sh pr)))) Cz K St Ex Am Ov Bi As Bj Aj BL AL He Co Cj (f_W up dn dv td n K St Ex Am He Ca sh pr) 5 _ _ (⟨⟨htd, hn, hpr, by omega, by omega, hdv, hsd, hmo, hsh⟩, (f_IV_k hV).2⟩) (⟨hn6, htd5, hex5, fun c hc => by have := hSp c hc; omega, hdv9, hBA, by omega⟩) (hcc) (hG) (Or.inr ⟨5, by omega, rfl, rfl⟩) (by omega) (by omega)
set_option maxHeartbeats 4000000 in
set_option maxRecDepth 100000 in
theorem lq_move (hC9 : f_C9 p l s m args meth c9 dC dI A cI cJ cZ cO es mi sa b L xs) (hcs : cells + 100 ≤ 600104 ∧ slots + 4000 ≤ 7301314) (hk9 : k9 ≤ 89) (ht9 : t ≤ 89) (hI : f_IV k9 td n pr up dn dv sd mo sh Ca K St Ex Am Ov Bi As Bj Aj BL AL He Co) (hJ : f_JV t td n pr dv sh St Ex Bj Aj) (hcc : f_JC Ov Co Cj) (hG : f_LG cO es n ed cA GG) (hu9 : iR u9) (hv9 : iR v9) (kK : f_K9 p l e s m args below meth c9 dC dI A Q ha ka cI cJ cZ cO es b k9 t u9 cells slots)   : jj_W p l e room_1 s m args below meth c9 (dC, dI) vwCl A 46 cells slots Q 531 [(18, .int (iI (-1))), (17, .int (iI 1)), (16, .int (iI io)), (14, .long (lI (f_W up dn dv td n K St Ex Am He Ca sh pr))), (13, .int (iI (w9 : Int))), (12, .int (iI (c : Int))), (11, .int (iI u9)), (10, .int (iI v9)), (9, .int (iI (t : Int))), (8, .ref (ka 6)), (7, .ref (ka 5)), (6, .ref (ka 4)), (5, .ref (ka 3)), (4, .ref (ka 2)), (3, .ref (ka 1)), (2, .ref (ka 0)), (1, .ref (ha 0)), (0, .ref b)] [] (wH ha cA hA nA ed cI cJ cZ td pr up dn dv rw sd mc n mo sh co Ca Cz K St Ex Am Bi As BL AL He Co ++ (GG ++ wL ka cI cJ td pr up dn mo sh co n K St Ex Am Ov Bj Aj BL AL He Cj dv Ca sd Cz)) := by
  obtain ⟨C0, hl, hL⟩ := hC9
  have hw := C0.2.2.2.2.1
  have hEV := hEVS es mi sa b L xs
  have hED0 : 0 < n → f_ED cA n ed cO GG := fun h9 => by have h8 := f_LG_ED (M := []) hG h9; rwa [List.append_nil] at h8
  have hCj9 := hcc.1
  have hV := hI
  obtain ⟨⟨htd, hn, hpr, hup, hdn, hdv, hsd, hmo, hsh⟩, ⟨hK, hSt, hEx, hAm, hOv, hovs, hexs, hovn⟩, hQ9, ⟨hHe, hsums, hHz⟩, ⟨hCo, hCz⟩, hCa⟩ := hI
  have hQ := hQ9
  obtain ⟨hBi, hAs, hBj, hAj, hBL, hAL, hQt, hQ0, hQn, hQo⟩ := hQ9
  have hW9 := hJ
  obtain ⟨hn6, htd5, hex5, hSp, hdv9, hBA, hsh9⟩ := hJ
  have hexs1 : ∀ c, c < n → Ex c ≤ (td : Int) + 10 := fun c hc => (hexs c hc).1
  have hHe9 : ∀ j, -999000 ≤ He j ∧ He j ≤ 999000 := fun j => by have := hHe j; omega
  have hHe6 : ∀ j, -1000000 ≤ He j ∧ He j ≤ 1000000 := fun j => by have := hHe j; omega
  have hCa9 : ∀ j, -100000000000000000 ≤ Ca j ∧ Ca j ≤ 100000000000000000 := fun j => by have := hCa j; omega
  have hov5 : ∀ c, c < n → (Ov c = 1 ∧ Ex c < (td : Int)) ∨ (Ov c = 0 ∧ (td : Int) ≤ Ex c ∧ Ex c ≤ (td : Int) + 5) := fun c hc => by have h1 := hovs c hc; have h2 := hex5 c hc; omega
  have hovw : ∀ c, c < n → He (7 * c + 6) = 0 ∨ (Ov c = 1 ∧ Ex c < (td : Int)) ∨ (Ov c = 0 ∧ (td : Int) ≤ Ex c ∧ Ex c ≤ (td : Int) + 5) := fun c hc => Or.inr (hov5 c hc)
  refine jj_aload C0 11 rfl dL_law_531 ?_
  refine jj_iconst C0 dL_law_533 ?_
  refine jj_toLw ?_
  refine jj_iald C0 (q0 := 4) (t0 := 0) (f := (f_lg td pr up dn mo sh co n)) (rfl) rfl (k := 1) (by omega) (by omega) (by decide) dL_law_534 ?_
  refine jj_topi (b := pr) (rfl) ?_
  refine jj_bipush C0 dL_law_535 (by decide) ?_
  refine jj_iload C0 6 rfl dL_law_537 ?_
  refine jj_bipush C0 dL_law_539 (by decide) ?_
  refine jj_callSi C0 (cells' := cells) (slots' := slots) (cc_L_low hEV (v := u9) (m := 41) (by omega)) (cwS 2 hw (lw_gS hU_167 hU_168 hU_42 hU_169) rfl rfl rfl (by decide +kernel) ⟨Nat.le_of_ble_eq_true rfl, Nat.le_of_ble_eq_true rfl⟩) rfl rfl (Nat.le_of_ble_eq_true rfl) ⟨by show cells + 0 ≤ 600104; omega, by show slots + 0 ≤ 7301314; omega⟩ rfl rfl dL_law_541 ?_
  intro _ hu
  show jj_W _ _ _ _ _ _ _ _ _ _ _ _ _ _ _ _ _ 544 _ [.int (iI (f_lo u9 41)), .int (iI 10), .int (iI pr)] (wL ka cI cJ td pr up dn mo sh co n K St Ex Am Ov Bj Aj BL AL He Cj dv Ca sd Cz ++ (wH ha cA hA nA ed cI cJ cZ td pr up dn dv rw sd mc n mo sh co Ca Cz K St Ex Am Bi As BL AL He Co ++ GG))
  obtain ⟨x1, hx1⟩ : ∃ z : Int, z = (f_lo u9 41) := ⟨_, rfl⟩
  have hbx1 : 0 ≤ x1 ∧ x1 < 41 := by rw [hx1]; exact f_lo_bd _ (by omega)
  refine jj_topi (b := x1) (hx1.symm) ?_
  refine jj_bipush C0 dL_law_544 (by decide) ?_
  refine jj_isub C0 dL_law_546 ?_
  refine jj_imul C0 dL_law_547 ?_
  refine jj_iadd C0 dL_law_548 ?_
  refine jj_iload C0 6 rfl dL_law_549 ?_
  refine jj_bipush C0 dL_law_551 (by decide) ?_
  refine jj_ishrX C0 dL_law_553 ?_
  have hR553 := f_sr_R u9 7
  refine jj_iconst C0 dL_law_554 ?_
  refine jj_callSi C0 (cells' := cells) (slots' := slots) (cc_L_low hEV (v := (f_sr u9 7)) (m := 3) (by omega)) (cwS 2 hw (lw_gS hU_167 hU_168 hU_42 hU_169) rfl rfl rfl (by decide +kernel) ⟨Nat.le_of_ble_eq_true rfl, Nat.le_of_ble_eq_true rfl⟩) rfl rfl (Nat.le_of_ble_eq_true rfl) ⟨by show cells + 0 ≤ 600104; omega, by show slots + 0 ≤ 7301314; omega⟩ rfl rfl dL_law_555 ?_
  intro _ hu
  show jj_W _ _ _ _ _ _ _ _ _ _ _ _ _ _ _ _ _ 558 _ [.int (iI (f_lo (f_sr u9 7) 3)), .int (iI (pr + (10 * (x1 - 20))))] (wL ka cI cJ td pr up dn mo sh co n K St Ex Am Ov Bj Aj BL AL He Cj dv Ca sd Cz ++ (wH ha cA hA nA ed cI cJ cZ td pr up dn dv rw sd mc n mo sh co Ca Cz K St Ex Am Bi As BL AL He Co ++ GG))
  obtain ⟨x2, hx2⟩ : ∃ z : Int, z = (f_lo (f_sr u9 7) 3) := ⟨_, rfl⟩
  have hbx2 : 0 ≤ x2 ∧ x2 < 3 := by rw [hx2]; exact f_lo_bd _ (by omega)
  refine jj_topi (b := x2) (hx2.symm) ?_
  refine jj_iadd C0 dL_law_558 ?_
  obtain ⟨px, hpx⟩ : ∃ z : Int, z = ((pr + (10 * (x1 - 20))) + x2) := ⟨_, rfl⟩
  refine jj_topi (b := px) (hpx.symm) ?_
  refine jj_istore C0 (lv' := [(23, .int (iI px)), (18, .int (iI (-1))), (17, .int (iI 1)), (16, .int (iI io)), (14, .long (lI (f_W up dn dv td n K St Ex Am He Ca sh pr))), (13, .int (iI (w9 : Int))), (12, .int (iI (c : Int))), (11, .int (iI u9)), (10, .int (iI v9)), (9, .int (iI (t : Int))), (8, .ref (ka 6)), (7, .ref (ka 5)), (6, .ref (ka 4)), (5, .ref (ka 3)), (4, .ref (ka 2)), (3, .ref (ka 1)), (2, .ref (ka 0)), (1, .ref (ha 0)), (0, .ref b)]) (by decide) rfl dL_law_559 ?_
  refine jj_iload C0 0 rfl dL_law_561 ?_
  refine jj_if_lt C0 (by omega) dL_law_563 (tgt := 2039) (by decide) (fun c_1 => ?_) (fun c_1 => ?_)
  · refine jj_toHw ?_
    refine jj_lv [1, 2, 4, 7, 9, 10, 11, 12, 13, 14, 15, 16, 17, 18] rfl ?_
    exact kK cA hA nA ed rw mc GG td pr up dn dv sd n mo sh co Ca Cz Cz K St Ex Am Ov Bi As Bj Aj BL AL He Co Cj (f_W up dn dv td n K St Ex Am He Ca sh pr) (-1) _ _ (f_IV_k hV) (f_JV_t hW9) (hcc) (hG) (Or.inl ⟨rfl, rfl⟩) (by omega) (by omega)
  · refine jj_iload C0 0 rfl dL_law_566 ?_
    refine jj_sipush C0 dL_law_568 (by decide) ?_
    refine jj_icmp_le C0 (by omega) (by omega) dL_law_571 (tgt := 577) (by decide) (fun c_2 => ?_) (fun c_2 => ?_)
    · refine jj_aload C0 12 rfl dL_law_577 ?_
      refine jj_iconst C0 dL_law_579 ?_
      refine jj_iload C0 0 rfl dL_law_580 ?_
      refine jj_iast C0 (q0 := 4) (t0 := 0) (f := (f_lg td pr up dn mo sh co n)) (rfl) rfl (k := 1) (by omega) (by omega) (by decide) (ws' := wL ka cI cJ td px up dn mo sh co n K St Ex Am Ov Bj Aj BL AL He Cj dv Ca sd Cz ++ (wH ha cA hA nA ed cI cJ cZ td pr up dn dv rw sd mc n mo sh co Ca Cz K St Ex Am Bi As BL AL He Co ++ GG)) (wL_pr) dL_law_582 ?_
      refine jj_aload_n C0 17 rfl dL_law_583 ?_
      refine jj_iload C0 0 rfl dL_law_584 ?_
      refine jj_toHw ?_
      refine jj_callSWl C0 (cells' := cells) (slots' := slots) (jj_weakl (fun A U H h => h.1.1) (cw_L_move hl (x := px) (by omega) hpr hexs1 hn htd hup hdn hdv hK hSt hEx hAm hHe6 hsh (fun h9 => f_ED_app (hED0 h9)))) (vx_cwSW 2 hw (lw_gW hU_330 hU_331 hU_42 hU_332) rfl rfl rfl (by decide +kernel) ⟨Nat.le_of_ble_eq_true rfl, Nat.le_of_ble_eq_true rfl⟩) rfl rfl (Nat.le_of_ble_eq_true rfl) ⟨by show cells + 0 ≤ 600104; omega, by show slots + 0 ≤ 7301314; omega⟩ rfl rfl dL_law_586 ?_
      intro r8_3 hu
      show jj_W _ _ _ _ _ _ _ _ _ _ _ _ _ _ _ _ _ 589 _ [.long (lI ((f_W up dn dv td n K St Ex Am He Ca sh px) - (f_W up dn dv td n K St Ex Am He Ca sh pr)))] (wH ha cA hA nA ed cI cJ cZ td px up dn dv r8_3 sd mc n mo sh co Ca (va_up Cz 1 ((Cz 1) + ((f_W up dn dv td n K St Ex Am He Ca sh px) - (f_W up dn dv td n K St Ex Am He Ca sh pr)))) K St Ex Am Bi As BL AL He Co ++ (GG ++ wL ka cI cJ td px up dn mo sh co n K St Ex Am Ov Bj Aj BL AL He Cj dv Ca sd Cz))
      refine jj_iload C0 0 rfl dL_law_589 ?_
      refine jj_aload_n C0 16 rfl dL_law_591 ?_
      refine jj_aload_n C0 15 rfl dL_law_592 ?_
      refine jj_aload C0 12 rfl dL_law_593 ?_
      refine jj_aload C0 11 rfl dL_law_595 ?_
      refine jj_aload C0 10 rfl dL_law_597 ?_
      refine jj_toLw ?_
      refine jj_callSl C0 (cells' := (cells + 6)) (slots' := (slots + 192)) (cc_L_worth hEV (fr := px) hovw hn6 htd5 (by omega) hup hdn hdv hK hSt hEx hAm hOv hHe6 hsh) (cwS 6 hw (lw_gS hU_722 hU_723 hU_42 hU_724) rfl rfl rfl (by decide +kernel) ⟨Nat.le_of_ble_eq_true rfl, Nat.le_of_ble_eq_true rfl⟩) rfl rfl (Nat.le_of_ble_eq_true rfl) ⟨by show cells + 6 ≤ 600104; omega, by show slots + 192 ≤ 7301314; omega⟩ rfl rfl dL_law_599 ?_
      intro _ hu
      show jj_W _ _ _ _ _ _ _ _ _ _ _ _ _ _ _ _ _ 602 _ [.long (lI (f_W up dn dv td n K St Ex Am He Ca sh px)), .long (lI ((f_W up dn dv td n K St Ex Am He Ca sh px) - (f_W up dn dv td n K St Ex Am He Ca sh pr)))] (wL ka cI cJ td px up dn mo sh co n K St Ex Am Ov Bj Aj BL AL He Cj dv Ca sd Cz ++ (wH ha cA hA nA ed cI cJ cZ td px up dn dv r8_3 sd mc n mo sh co Ca (va_up Cz 1 ((Cz 1) + ((f_W up dn dv td n K St Ex Am He Ca sh px) - (f_W up dn dv td n K St Ex Am He Ca sh pr)))) K St Ex Am Bi As BL AL He Co ++ GG))
      refine jj_lload C0 4 rfl dL_law_602 ?_
      refine jj_lsub C0 dL_law_604 ?_
      refine jj_lcmpN C0 dL_law_605 dL_law_606 (tgt := 613) (by decide) ?_
      refine jj_iconst C0 dL_law_609 ?_
      refine jj_goto C0 (tgt := 614) dL_law_610 (by decide) ?_
      refine jj_istore C0 (lv' := [(17, .int (iI 1)), (23, .int (iI px)), (18, .int (iI (-1))), (16, .int (iI io)), (14, .long (lI (f_W up dn dv td n K St Ex Am He Ca sh pr))), (13, .int (iI (w9 : Int))), (12, .int (iI (c : Int))), (11, .int (iI u9)), (10, .int (iI v9)), (9, .int (iI (t : Int))), (8, .ref (ka 6)), (7, .ref (ka 5)), (6, .ref (ka 4)), (5, .ref (ka 3)), (4, .ref (ka 2)), (3, .ref (ka 1)), (2, .ref (ka 0)), (1, .ref (ha 0)), (0, .ref b)]) (by decide) rfl dL_law_614 ?_
      refine jj_iconst C0 dL_law_616 ?_
      refine jj_istore C0 (lv' := [(18, .int (iI 1)), (17, .int (iI 1)), (23, .int (iI px)), (16, .int (iI io)), (14, .long (lI (f_W up dn dv td n K St Ex Am He Ca sh pr))), (13, .int (iI (w9 : Int))), (12, .int (iI (c : Int))), (11, .int (iI u9)), (10, .int (iI v9)), (9, .int (iI (t : Int))), (8, .ref (ka 6)), (7, .ref (ka 5)), (6, .ref (ka 4)), (5, .ref (ka 3)), (4, .ref (ka 2)), (3, .ref (ka 1)), (2, .ref (ka 0)), (1, .ref (ha 0)), (0, .ref b)]) (by decide) rfl dL_law_617 ?_
      refine jj_goto C0 (tgt := 2039) dL_law_619 (by decide) ?_
      refine jj_toHw ?_
      refine jj_lv [0, 1, 4, 7, 9, 10, 11, 12, 13, 14, 15, 16, 17, 18] rfl ?_
      exact kK cA hA nA ed r8_3 mc GG td px up dn dv sd n mo sh co Ca (va_up Cz 1 ((Cz 1) + ((f_W up dn dv td n K St Ex Am He Ca sh px) - (f_W up dn dv td n K St Ex Am He Ca sh pr)))) Cz K St Ex Am Ov Bi As Bj Aj BL AL He Co Cj (f_W up dn dv td n K St Ex Am He Ca sh pr) 1 _ _ (⟨⟨htd, hn, by omega, hup, hdn, hdv, hsd, hmo, hsh⟩, (f_IV_k hV).2⟩) (⟨hn6, htd5, hex5, fun c hc => by have := hSp c hc; omega, hdv9, hBA, by omega⟩) (hcc) (hG) (Or.inr ⟨1, by omega, rfl, rfl⟩) (by omega) (by omega)
    · refine jj_goto C0 (tgt := 2039) dL_law_574 (by decide) ?_
      refine jj_toHw ?_
      refine jj_lv [1, 2, 4, 7, 9, 10, 11, 12, 13, 14, 15, 16, 17, 18] rfl ?_
      exact kK cA hA nA ed rw mc GG td pr up dn dv sd n mo sh co Ca Cz Cz K St Ex Am Ov Bi As Bj Aj BL AL He Co Cj (f_W up dn dv td n K St Ex Am He Ca sh pr) (-1) _ _ (f_IV_k hV) (f_JV_t hW9) (hcc) (hG) (Or.inl ⟨rfl, rfl⟩) (by omega) (by omega)
set_option maxHeartbeats 4000000 in
set_option maxRecDepth 100000 in
theorem lq_dividend (hC9 : f_C9 p l s m args meth c9 dC dI A cI cJ cZ cO es mi sa b L xs) (hcs : cells + 100 ≤ 600104 ∧ slots + 4000 ≤ 7301314) (hk9 : k9 ≤ 89) (ht9 : t ≤ 89) (hI : f_IV k9 td n pr up dn dv sd mo sh Ca K St Ex Am Ov Bi As Bj Aj BL AL He Co) (hJ : f_JV t td n pr dv sh St Ex Bj Aj) (hcc : f_JC Ov Co Cj) (hG : f_LG cO es n ed cA GG) (hu9 : iR u9) (hv9 : iR v9) (kK : f_K9 p l e s m args below meth c9 dC dI A Q ha ka cI cJ cZ cO es b k9 t u9 cells slots)   : jj_W p l e room_1 s m args below meth c9 (dC, dI) vwCl A 46 cells slots Q 622 [(18, .int (iI (-1))), (17, .int (iI 1)), (16, .int (iI io)), (14, .long (lI (f_W up dn dv td n K St Ex Am He Ca sh pr))), (13, .int (iI (w9 : Int))), (12, .int (iI (c : Int))), (11, .int (iI u9)), (10, .int (iI v9)), (9, .int (iI (t : Int))), (8, .ref (ka 6)), (7, .ref (ka 5)), (6, .ref (ka 4)), (5, .ref (ka 3)), (4, .ref (ka 2)), (3, .ref (ka 1)), (2, .ref (ka 0)), (1, .ref (ha 0)), (0, .ref b)] [] (wH ha cA hA nA ed cI cJ cZ td pr up dn dv rw sd mc n mo sh co Ca Cz K St Ex Am Bi As BL AL He Co ++ (GG ++ wL ka cI cJ td pr up dn mo sh co n K St Ex Am Ov Bj Aj BL AL He Cj dv Ca sd Cz)) := by
  obtain ⟨C0, hl, hL⟩ := hC9
  have hw := C0.2.2.2.2.1
  have hEV := hEVS es mi sa b L xs
  have hED0 : 0 < n → f_ED cA n ed cO GG := fun h9 => by have h8 := f_LG_ED (M := []) hG h9; rwa [List.append_nil] at h8
  have hCj9 := hcc.1
  have hV := hI
  obtain ⟨⟨htd, hn, hpr, hup, hdn, hdv, hsd, hmo, hsh⟩, ⟨hK, hSt, hEx, hAm, hOv, hovs, hexs, hovn⟩, hQ9, ⟨hHe, hsums, hHz⟩, ⟨hCo, hCz⟩, hCa⟩ := hI
  have hQ := hQ9
  obtain ⟨hBi, hAs, hBj, hAj, hBL, hAL, hQt, hQ0, hQn, hQo⟩ := hQ9
  have hW9 := hJ
  obtain ⟨hn6, htd5, hex5, hSp, hdv9, hBA, hsh9⟩ := hJ
  have hexs1 : ∀ c, c < n → Ex c ≤ (td : Int) + 10 := fun c hc => (hexs c hc).1
  have hHe9 : ∀ j, -999000 ≤ He j ∧ He j ≤ 999000 := fun j => by have := hHe j; omega
  have hHe6 : ∀ j, -1000000 ≤ He j ∧ He j ≤ 1000000 := fun j => by have := hHe j; omega
  have hCa9 : ∀ j, -100000000000000000 ≤ Ca j ∧ Ca j ≤ 100000000000000000 := fun j => by have := hCa j; omega
  have hov5 : ∀ c, c < n → (Ov c = 1 ∧ Ex c < (td : Int)) ∨ (Ov c = 0 ∧ (td : Int) ≤ Ex c ∧ Ex c ≤ (td : Int) + 5) := fun c hc => by have h1 := hovs c hc; have h2 := hex5 c hc; omega
  have hovw : ∀ c, c < n → He (7 * c + 6) = 0 ∨ (Ov c = 1 ∧ Ex c < (td : Int)) ∨ (Ov c = 0 ∧ (td : Int) ≤ Ex c ∧ Ex c ≤ (td : Int) + 5) := fun c hc => Or.inr (hov5 c hc)
  refine jj_aload C0 11 rfl dL_law_622 ?_
  refine jj_iconst C0 dL_law_624 ?_
  refine jj_toLw ?_
  refine jj_iald C0 (q0 := 4) (t0 := 0) (f := (f_lg td pr up dn mo sh co n)) (rfl) rfl (k := 0) (by omega) (by omega) (by decide) dL_law_625 ?_
  refine jj_topi (b := (td : Int)) (rfl) ?_
  refine jj_iconst C0 dL_law_626 ?_
  refine jj_iadd C0 dL_law_627 ?_
  refine jj_iload C0 6 rfl dL_law_628 ?_
  refine jj_bipush C0 dL_law_630 (by decide) ?_
  refine jj_callSi C0 (cells' := cells) (slots' := slots) (cc_L_low hEV (v := u9) (m := 6) (by omega)) (cwS 2 hw (lw_gS hU_167 hU_168 hU_42 hU_169) rfl rfl rfl (by decide +kernel) ⟨Nat.le_of_ble_eq_true rfl, Nat.le_of_ble_eq_true rfl⟩) rfl rfl (Nat.le_of_ble_eq_true rfl) ⟨by show cells + 0 ≤ 600104; omega, by show slots + 0 ≤ 7301314; omega⟩ rfl rfl dL_law_632 ?_
  intro _ hu
  show jj_W _ _ _ _ _ _ _ _ _ _ _ _ _ _ _ _ _ 635 _ [.int (iI (f_lo u9 6)), .int (iI ((td : Int) + 1))] (wL ka cI cJ td pr up dn mo sh co n K St Ex Am Ov Bj Aj BL AL He Cj dv Ca sd Cz ++ (wH ha cA hA nA ed cI cJ cZ td pr up dn dv rw sd mc n mo sh co Ca Cz K St Ex Am Bi As BL AL He Co ++ GG))
  obtain ⟨x1, hx1⟩ : ∃ z : Nat, (z : Int) = (f_lo u9 6) := ⟨((f_lo u9 6)).toNat, by have := f_lo_bd u9 (k := 6) (by omega); omega⟩
  have hbx1 : x1 < 6 := by have := f_lo_bd u9 (k := 6) (by omega); omega
  refine jj_topi (b := (x1 : Int)) (hx1.symm) ?_
  refine jj_iadd C0 dL_law_635 ?_
  refine jj_topi (b := ((td + 1 + x1 : Nat) : Int)) (by omega) ?_
  refine jj_istore C0 (lv' := [(24, .int (iI ((td + 1 + x1 : Nat) : Int))), (18, .int (iI (-1))), (17, .int (iI 1)), (16, .int (iI io)), (14, .long (lI (f_W up dn dv td n K St Ex Am He Ca sh pr))), (13, .int (iI (w9 : Int))), (12, .int (iI (c : Int))), (11, .int (iI u9)), (10, .int (iI v9)), (9, .int (iI (t : Int))), (8, .ref (ka 6)), (7, .ref (ka 5)), (6, .ref (ka 4)), (5, .ref (ka 3)), (4, .ref (ka 2)), (3, .ref (ka 1)), (2, .ref (ka 0)), (1, .ref (ha 0)), (0, .ref b)]) (by decide) rfl dL_law_636 ?_
  refine jj_iload C0 7 rfl dL_law_638 ?_
  refine jj_bipush C0 dL_law_640 (by decide) ?_
  refine jj_iandX C0 dL_law_642 ?_
  have hR642 := f_an_R u9 64
  refine jj_join (X := Int) (pcj := 661) (fun q9 => match q9 with | ce9 => [(24, .int (iI ((td + 1 + x1 : Nat) : Int))), (18, .int (iI (-1))), (17, .int (iI 1)), (16, .int (iI io)), (14, .long (lI (f_W up dn dv td n K St Ex Am He Ca sh pr))), (13, .int (iI (w9 : Int))), (12, .int (iI (c : Int))), (11, .int (iI u9)), (10, .int (iI v9)), (9, .int (iI (t : Int))), (8, .ref (ka 6)), (7, .ref (ka 5)), (6, .ref (ka 4)), (5, .ref (ka 3)), (4, .ref (ka 2)), (3, .ref (ka 1)), (2, .ref (ka 0)), (1, .ref (ha 0)), (0, .ref b)]) (fun q9 => match q9 with | ce9 => [.int (iI ce9)]) (fun q9 => match q9 with | ce9 => wL ka cI cJ td pr up dn mo sh co n K St Ex Am Ov Bj Aj BL AL He Cj dv Ca sd Cz ++ (wH ha cA hA nA ed cI cJ cZ td pr up dn dv rw sd mc n mo sh co Ca Cz K St Ex Am Bi As BL AL He Co ++ GG)) (fun q9 => match q9 with | ce9 => 0 ≤ ce9 ∧ ce9 < 200) ?_ ?_
  · intro q9 hq9
    obtain ⟨ce9, rfl⟩ : ∃ z, z = q9 := ⟨_, rfl⟩
    have hce9 : 0 ≤ ce9 ∧ ce9 < 200 := hq9
    refine jj_istore C0 (lv' := [(25, .int (iI ce9)), (24, .int (iI ((td + 1 + x1 : Nat) : Int))), (18, .int (iI (-1))), (17, .int (iI 1)), (16, .int (iI io)), (14, .long (lI (f_W up dn dv td n K St Ex Am He Ca sh pr))), (13, .int (iI (w9 : Int))), (12, .int (iI (c : Int))), (11, .int (iI u9)), (10, .int (iI v9)), (9, .int (iI (t : Int))), (8, .ref (ka 6)), (7, .ref (ka 5)), (6, .ref (ka 4)), (5, .ref (ka 3)), (4, .ref (ka 2)), (3, .ref (ka 1)), (2, .ref (ka 0)), (1, .ref (ha 0)), (0, .ref b)]) (by decide) rfl dL_law_661 ?_
    refine jj_aload_n C0 18 rfl dL_law_663 ?_
    refine jj_iload C0 1 rfl dL_law_664 ?_
    refine jj_iload C0 0 rfl dL_law_666 ?_
    refine jj_toHw ?_
    refine jj_callSWi C0 (cells' := cells) (slots' := slots) (jj_weaki (fun A U H h => h.1.1) (cw_L_dividend hl (d := (td + 1 + x1)) (y := ce9) (by omega) (by omega) hpr hexs1 hn htd hup hdn hdv hK hSt hEx hAm hHe6 hsh (fun h9 => f_ED_app (hED0 h9)))) (vx_cwSW 3 hw (lw_gW hU_338 hU_339 hU_42 hU_340) rfl rfl rfl (by decide +kernel) ⟨Nat.le_of_ble_eq_true rfl, Nat.le_of_ble_eq_true rfl⟩) rfl rfl (Nat.le_of_ble_eq_true rfl) ⟨by show cells + 0 ≤ 600104; omega, by show slots + 0 ≤ 7301314; omega⟩ rfl rfl dL_law_668 ?_
    intro r8_1 hu
    show jj_W _ _ _ _ _ _ _ _ _ _ _ _ _ _ _ _ _ 671 _ [.int (iI (dv (td + 1 + x1)))] (wH ha cA hA nA ed cI cJ cZ td pr up dn (va_up dv (td + 1 + x1) ce9) r8_1 sd mc n mo sh co Ca (va_up Cz 5 ((Cz 5) + ((f_W up dn (va_up dv (td + 1 + x1) ce9) td n K St Ex Am He Ca sh pr) - (f_W up dn dv td n K St Ex Am He Ca sh pr)))) K St Ex Am Bi As BL AL He Co ++ (GG ++ wL ka cI cJ td pr up dn mo sh co n K St Ex Am Ov Bj Aj BL AL He Cj dv Ca sd Cz))
    refine jj_aload C0 12 rfl dL_law_671 ?_
    refine jj_iload C0 1 rfl dL_law_673 ?_
    refine jj_toLw ?_
    refine jj_iald C0 (q0 := 5) (t0 := 0) (f := dv) (rfl) rfl (k := (td + 1 + x1)) (by omega) (by omega) (by decide) dL_law_675 ?_
    refine jj_icmpN C0 dL_law_676 (tgt := 683) (by decide) ?_
    refine jj_iconst C0 dL_law_679 ?_
    refine jj_goto C0 (tgt := 684) dL_law_680 (by decide) ?_
    refine jj_istore C0 (lv' := [(17, .int (iI 1)), (25, .int (iI ce9)), (24, .int (iI ((td + 1 + x1 : Nat) : Int))), (18, .int (iI (-1))), (16, .int (iI io)), (14, .long (lI (f_W up dn dv td n K St Ex Am He Ca sh pr))), (13, .int (iI (w9 : Int))), (12, .int (iI (c : Int))), (11, .int (iI u9)), (10, .int (iI v9)), (9, .int (iI (t : Int))), (8, .ref (ka 6)), (7, .ref (ka 5)), (6, .ref (ka 4)), (5, .ref (ka 3)), (4, .ref (ka 2)), (3, .ref (ka 1)), (2, .ref (ka 0)), (1, .ref (ha 0)), (0, .ref b)]) (by decide) rfl dL_law_684 ?_
    refine jj_aload C0 12 rfl dL_law_686 ?_
    refine jj_iload C0 2 rfl dL_law_688 ?_
    refine jj_iload C0 1 rfl dL_law_690 ?_
    refine jj_iast C0 (q0 := 5) (t0 := 0) (f := dv) (rfl) rfl (k := (td + 1 + x1)) (by omega) (by omega) (by decide) (ws' := wL ka cI cJ td pr up dn mo sh co n K St Ex Am Ov Bj Aj BL AL He Cj (va_up dv (td + 1 + x1) ce9) Ca sd Cz ++ (wH ha cA hA nA ed cI cJ cZ td pr up dn (va_up dv (td + 1 + x1) ce9) r8_1 sd mc n mo sh co Ca (va_up Cz 5 ((Cz 5) + ((f_W up dn (va_up dv (td + 1 + x1) ce9) td n K St Ex Am He Ca sh pr) - (f_W up dn dv td n K St Ex Am He Ca sh pr)))) K St Ex Am Bi As BL AL He Co ++ GG)) (wL_dv) dL_law_692 ?_
    refine jj_iconst C0 dL_law_693 ?_
    refine jj_istore C0 (lv' := [(18, .int (iI 5)), (17, .int (iI 1)), (25, .int (iI ce9)), (24, .int (iI ((td + 1 + x1 : Nat) : Int))), (16, .int (iI io)), (14, .long (lI (f_W up dn dv td n K St Ex Am He Ca sh pr))), (13, .int (iI (w9 : Int))), (12, .int (iI (c : Int))), (11, .int (iI u9)), (10, .int (iI v9)), (9, .int (iI (t : Int))), (8, .ref (ka 6)), (7, .ref (ka 5)), (6, .ref (ka 4)), (5, .ref (ka 3)), (4, .ref (ka 2)), (3, .ref (ka 1)), (2, .ref (ka 0)), (1, .ref (ha 0)), (0, .ref b)]) (by decide) rfl dL_law_694 ?_
    refine jj_goto C0 (tgt := 2039) dL_law_696 (by decide) ?_
    refine jj_toHw ?_
    refine jj_lv [0, 1, 5, 8, 10, 11, 12, 13, 14, 15, 16, 17, 18, 19] rfl ?_
    exact kK cA hA nA ed r8_1 mc GG td pr up dn (va_up dv (td + 1 + x1) ce9) sd n mo sh co Ca (va_up Cz 5 ((Cz 5) + ((f_W up dn (va_up dv (td + 1 + x1) ce9) td n K St Ex Am He Ca sh pr) - (f_W up dn dv td n K St Ex Am He Ca sh pr)))) Cz K St Ex Am Ov Bi As Bj Aj BL AL He Co Cj (f_W up dn dv td n K St Ex Am He Ca sh pr) 5 _ _ (⟨⟨htd, hn, hpr, hup, hdn, up_bd hdv (by omega), hsd, hmo, hsh⟩, (f_IV_k hV).2⟩) (⟨hn6, htd5, hex5, fun c hc => by have := hSp c hc; omega, f_up_le hdv9 (by omega), hBA, by omega⟩) (hcc) (hG) (Or.inr ⟨5, by omega, rfl, rfl⟩) (by omega) (by omega)
  intro j661
  refine jj_if_ne C0 (by omega) dL_law_643 (tgt := 650) (by decide) (fun c_2 => ?_) (fun c_2 => ?_)
  · refine jj_iload C0 7 rfl dL_law_650 ?_
    refine jj_bipush C0 dL_law_652 (by decide) ?_
    refine jj_ishrX C0 dL_law_654 ?_
    have hR654 := f_sr_R u9 7
    have hlo9 := f_lo_bd (f_sr u9 7) (k := 200) (by omega)
    refine jj_sipush C0 dL_law_655 (by decide) ?_
    refine jj_callSi C0 (cells' := cells) (slots' := slots) (cc_L_low hEV (v := (f_sr u9 7)) (m := 200) (by omega)) (cwS 2 hw (lw_gS hU_167 hU_168 hU_42 hU_169) rfl rfl rfl (by decide +kernel) ⟨Nat.le_of_ble_eq_true rfl, Nat.le_of_ble_eq_true rfl⟩) rfl rfl (Nat.le_of_ble_eq_true rfl) ⟨by show cells + 0 ≤ 600104; omega, by show slots + 0 ≤ 7301314; omega⟩ rfl rfl dL_law_658 ?_
    intro _ hu
    show jj_W _ _ _ _ _ _ _ _ _ _ _ _ _ _ _ _ _ 661 _ [.int (iI (f_lo (f_sr u9 7) 200))] (wL ka cI cJ td pr up dn mo sh co n K St Ex Am Ov Bj Aj BL AL He Cj dv Ca sd Cz ++ (wH ha cA hA nA ed cI cJ cZ td pr up dn dv rw sd mc n mo sh co Ca Cz K St Ex Am Bi As BL AL He Co ++ GG))
    exact j661 (f_lo (f_sr u9 7) 200) (by omega)
  · refine jj_iconst C0 dL_law_646 ?_
    refine jj_goto C0 (tgt := 661) dL_law_647 (by decide) ?_
    exact j661 0 (by omega)
/-! a new contract -/
set_option maxHeartbeats 4000000 in
set_option maxRecDepth 100000 in
theorem lq_contract (hC9 : f_C9 p l s m args meth c9 dC dI A cI cJ cZ cO es mi sa b L xs) (hcs : cells + 100 ≤ 600104 ∧ slots + 4000 ≤ 7301314) (hk9 : k9 ≤ 89) (ht9 : t ≤ 89) (hI : f_IV k9 td n pr up dn dv sd mo sh Ca K St Ex Am Ov Bi As Bj Aj BL AL He Co) (hJ : f_JV t td n pr dv sh St Ex Bj Aj) (hcc : f_JC Ov Co Cj) (hG : f_LG cO es n ed cA GG) (hu9 : iR u9) (hv9 : iR v9) (kK : f_K9 p l e s m args below meth c9 dC dI A Q ha ka cI cJ cZ cO es b k9 t u9 cells slots)  (hpos : 0 < n) : jj_W p l e room_1 s m args below meth c9 (dC, dI) vwCl A 46 cells slots Q 292 [(18, .int (iI (-1))), (17, .int (iI 1)), (16, .int (iI io)), (14, .long (lI (f_W up dn dv td n K St Ex Am He Ca sh pr))), (13, .int (iI (w9 : Int))), (12, .int (iI (c : Int))), (11, .int (iI u9)), (10, .int (iI v9)), (9, .int (iI (t : Int))), (8, .ref (ka 6)), (7, .ref (ka 5)), (6, .ref (ka 4)), (5, .ref (ka 3)), (4, .ref (ka 2)), (3, .ref (ka 1)), (2, .ref (ka 0)), (1, .ref (ha 0)), (0, .ref b)] [] (wH ha cA hA nA ed cI cJ cZ td pr up dn dv rw sd mc n mo sh co Ca Cz K St Ex Am Bi As BL AL He Co ++ (GG ++ wL ka cI cJ td pr up dn mo sh co n K St Ex Am Ov Bj Aj BL AL He Cj dv Ca sd Cz)) := by
  obtain ⟨C0, hl, hL⟩ := hC9
  have hw := C0.2.2.2.2.1
  have hEV := hEVS es mi sa b L xs
  have hED0 : 0 < n → f_ED cA n ed cO GG := fun h9 => by have h8 := f_LG_ED (M := []) hG h9; rwa [List.append_nil] at h8
  have hCj9 := hcc.1
  have hV := hI
  obtain ⟨⟨htd, hn, hpr, hup, hdn, hdv, hsd, hmo, hsh⟩, ⟨hK, hSt, hEx, hAm, hOv, hovs, hexs, hovn⟩, hQ9, ⟨hHe, hsums, hHz⟩, ⟨hCo, hCz⟩, hCa⟩ := hI
  have hQ := hQ9
  obtain ⟨hBi, hAs, hBj, hAj, hBL, hAL, hQt, hQ0, hQn, hQo⟩ := hQ9
  have hW9 := hJ
  obtain ⟨hn6, htd5, hex5, hSp, hdv9, hBA, hsh9⟩ := hJ
  have hexs1 : ∀ c, c < n → Ex c ≤ (td : Int) + 10 := fun c hc => (hexs c hc).1
  have hHe9 : ∀ j, -999000 ≤ He j ∧ He j ≤ 999000 := fun j => by have := hHe j; omega
  have hHe6 : ∀ j, -1000000 ≤ He j ∧ He j ≤ 1000000 := fun j => by have := hHe j; omega
  have hCa9 : ∀ j, -100000000000000000 ≤ Ca j ∧ Ca j ≤ 100000000000000000 := fun j => by have := hCa j; omega
  have hov5 : ∀ c, c < n → (Ov c = 1 ∧ Ex c < (td : Int)) ∨ (Ov c = 0 ∧ (td : Int) ≤ Ex c ∧ Ex c ≤ (td : Int) + 5) := fun c hc => by have h1 := hovs c hc; have h2 := hex5 c hc; omega
  have hovw : ∀ c, c < n → He (7 * c + 6) = 0 ∨ (Ov c = 1 ∧ Ex c < (td : Int)) ∨ (Ov c = 0 ∧ (td : Int) ≤ Ex c ∧ Ex c ≤ (td : Int) + 5) := fun c hc => Or.inr (hov5 c hc)
  obtain ⟨cap, fe, G, hGe, hcap1, hcap2, hfe⟩ := hG.1 hpos
  have hG8 := hG
  subst hGe
  refine jj_aload C0 11 rfl dL_law_292 ?_
  refine jj_bipush C0 dL_law_294 (by decide) ?_
  refine jj_toLw ?_
  refine jj_iald C0 (q0 := 4) (t0 := 0) (f := (f_lg td pr up dn mo sh co n)) (rfl) rfl (k := 7) (by omega) (by omega) (by decide) dL_law_296 ?_
  refine jj_topi (b := (n : Int)) (rfl) ?_
  refine jj_bipush C0 dL_law_297 (by decide) ?_
  refine jj_icmp_ne C0 (by omega) (by omega) dL_law_299 (tgt := 305) (by decide) (fun c_1 => ?_) (fun c_1 => ?_)
  · refine jj_iload C0 7 rfl dL_law_305 ?_
    refine jj_bipush C0 dL_law_307 (by decide) ?_
    refine jj_ishrX C0 dL_law_309 ?_
    have hR309 := f_sr_R v9 11
    refine jj_iconst C0 dL_law_310 ?_
    refine jj_callSi C0 (cells' := cells) (slots' := slots) (cc_L_low hEV (v := (f_sr v9 11)) (m := 2) (by omega)) (cwS 2 hw (lw_gS hU_167 hU_168 hU_42 hU_169) rfl rfl rfl (by decide +kernel) ⟨Nat.le_of_ble_eq_true rfl, Nat.le_of_ble_eq_true rfl⟩) rfl rfl (Nat.le_of_ble_eq_true rfl) ⟨by show cells + 0 ≤ 600104; omega, by show slots + 0 ≤ 7301314; omega⟩ rfl rfl dL_law_311 ?_
    intro _ hu
    show jj_W _ _ _ _ _ _ _ _ _ _ _ _ _ _ _ _ _ 314 _ [.int (iI (f_lo (f_sr v9 11) 2))] (wL ka cI cJ td pr up dn mo sh co n K St Ex Am Ov Bj Aj BL AL He Cj dv Ca sd Cz ++ (wH ha cA hA nA ed cI cJ cZ td pr up dn dv rw sd mc n mo sh co Ca Cz K St Ex Am Bi As BL AL He Co ++ ((ed, .inl (cO, cap, .inr (.inr (.inr (.inr fe))))) :: G)))
    obtain ⟨x1, hx1⟩ : ∃ z : Int, z = (f_lo (f_sr v9 11) 2) := ⟨_, rfl⟩
    have hbx1 : 0 ≤ x1 ∧ x1 < 2 := by rw [hx1]; exact f_lo_bd _ (by omega)
    refine jj_topi (b := x1) (hx1.symm) ?_
    refine jj_istore C0 (lv' := [(19, .int (iI x1)), (18, .int (iI (-1))), (17, .int (iI 1)), (16, .int (iI io)), (14, .long (lI (f_W up dn dv td n K St Ex Am He Ca sh pr))), (13, .int (iI (w9 : Int))), (12, .int (iI (c : Int))), (11, .int (iI u9)), (10, .int (iI v9)), (9, .int (iI (t : Int))), (8, .ref (ka 6)), (7, .ref (ka 5)), (6, .ref (ka 4)), (5, .ref (ka 3)), (4, .ref (ka 2)), (3, .ref (ka 1)), (2, .ref (ka 0)), (1, .ref (ha 0)), (0, .ref b)]) (by decide) rfl dL_law_314 ?_
    refine jj_aload C0 12 rfl dL_law_316 ?_
    refine jj_iconst C0 dL_law_318 ?_
    refine jj_iald C0 (q0 := 4) (t0 := 0) (f := (f_lg td pr up dn mo sh co n)) (rfl) rfl (k := 1) (by omega) (by omega) (by decide) dL_law_319 ?_
    refine jj_topi (b := pr) (rfl) ?_
    refine jj_bipush C0 dL_law_320 (by decide) ?_
    refine jj_isub C0 dL_law_322 ?_
    refine jj_bipush C0 dL_law_323 (by decide) ?_
    refine jj_iload C0 7 rfl dL_law_325 ?_
    refine jj_iconst C0 dL_law_327 ?_
    refine jj_callSi C0 (cells' := cells) (slots' := slots) (cc_L_low hEV (v := u9) (m := 5) (by omega)) (cwS 2 hw (lw_gS hU_167 hU_168 hU_42 hU_169) rfl rfl rfl (by decide +kernel) ⟨Nat.le_of_ble_eq_true rfl, Nat.le_of_ble_eq_true rfl⟩) rfl rfl (Nat.le_of_ble_eq_true rfl) ⟨by show cells + 0 ≤ 600104; omega, by show slots + 0 ≤ 7301314; omega⟩ rfl rfl dL_law_328 ?_
    intro _ hu
    show jj_W _ _ _ _ _ _ _ _ _ _ _ _ _ _ _ _ _ 331 _ [.int (iI (f_lo u9 5)), .int (iI 50), .int (iI (pr - 100))] (wL ka cI cJ td pr up dn mo sh co n K St Ex Am Ov Bj Aj BL AL He Cj dv Ca sd Cz ++ (wH ha cA hA nA ed cI cJ cZ td pr up dn dv rw sd mc n mo sh co Ca Cz K St Ex Am Bi As BL AL He Co ++ ((ed, .inl (cO, cap, .inr (.inr (.inr (.inr fe))))) :: G)))
    obtain ⟨x2, hx2⟩ : ∃ z : Int, z = (f_lo u9 5) := ⟨_, rfl⟩
    have hbx2 : 0 ≤ x2 ∧ x2 < 5 := by rw [hx2]; exact f_lo_bd _ (by omega)
    refine jj_topi (b := x2) (hx2.symm) ?_
    refine jj_imul C0 dL_law_331 ?_
    refine jj_iadd C0 dL_law_332 ?_
    obtain ⟨sk9, hsk9⟩ : ∃ z : Int, z = ((pr - 100) + (50 * x2)) := ⟨_, rfl⟩
    refine jj_topi (b := sk9) (hsk9.symm) ?_
    refine jj_istore C0 (lv' := [(20, .int (iI sk9)), (19, .int (iI x1)), (18, .int (iI (-1))), (17, .int (iI 1)), (16, .int (iI io)), (14, .long (lI (f_W up dn dv td n K St Ex Am He Ca sh pr))), (13, .int (iI (w9 : Int))), (12, .int (iI (c : Int))), (11, .int (iI u9)), (10, .int (iI v9)), (9, .int (iI (t : Int))), (8, .ref (ka 6)), (7, .ref (ka 5)), (6, .ref (ka 4)), (5, .ref (ka 3)), (4, .ref (ka 2)), (3, .ref (ka 1)), (2, .ref (ka 0)), (1, .ref (ha 0)), (0, .ref b)]) (by decide) rfl dL_law_333 ?_
    refine jj_aload C0 13 rfl dL_law_335 ?_
    refine jj_iconst C0 dL_law_337 ?_
    refine jj_iald C0 (q0 := 4) (t0 := 0) (f := (f_lg td pr up dn mo sh co n)) (rfl) rfl (k := 0) (by omega) (by omega) (by decide) dL_law_338 ?_
    refine jj_topi (b := (td : Int)) (rfl) ?_
    refine jj_iload C0 8 rfl dL_law_339 ?_
    refine jj_iconst C0 dL_law_341 ?_
    refine jj_ishrX C0 dL_law_342 ?_
    have hR342 := f_sr_R u9 4
    refine jj_bipush C0 dL_law_343 (by decide) ?_
    refine jj_callSi C0 (cells' := cells) (slots' := slots) (cc_L_low hEV (v := (f_sr u9 4)) (m := 6) (by omega)) (cwS 2 hw (lw_gS hU_167 hU_168 hU_42 hU_169) rfl rfl rfl (by decide +kernel) ⟨Nat.le_of_ble_eq_true rfl, Nat.le_of_ble_eq_true rfl⟩) rfl rfl (Nat.le_of_ble_eq_true rfl) ⟨by show cells + 0 ≤ 600104; omega, by show slots + 0 ≤ 7301314; omega⟩ rfl rfl dL_law_345 ?_
    intro _ hu
    show jj_W _ _ _ _ _ _ _ _ _ _ _ _ _ _ _ _ _ 348 _ [.int (iI (f_lo (f_sr u9 4) 6)), .int (iI (td : Int))] (wL ka cI cJ td pr up dn mo sh co n K St Ex Am Ov Bj Aj BL AL He Cj dv Ca sd Cz ++ (wH ha cA hA nA ed cI cJ cZ td pr up dn dv rw sd mc n mo sh co Ca Cz K St Ex Am Bi As BL AL He Co ++ ((ed, .inl (cO, cap, .inr (.inr (.inr (.inr fe))))) :: G)))
    obtain ⟨x3, hx3⟩ : ∃ z : Int, z = (f_lo (f_sr u9 4) 6) := ⟨_, rfl⟩
    have hbx3 : 0 ≤ x3 ∧ x3 < 6 := by rw [hx3]; exact f_lo_bd _ (by omega)
    refine jj_topi (b := x3) (hx3.symm) ?_
    refine jj_iadd C0 dL_law_348 ?_
    obtain ⟨ex9, hex9⟩ : ∃ z : Int, z = ((td : Int) + x3) := ⟨_, rfl⟩
    refine jj_topi (b := ex9) (hex9.symm) ?_
    refine jj_istore C0 (lv' := [(21, .int (iI ex9)), (20, .int (iI sk9)), (19, .int (iI x1)), (18, .int (iI (-1))), (17, .int (iI 1)), (16, .int (iI io)), (14, .long (lI (f_W up dn dv td n K St Ex Am He Ca sh pr))), (13, .int (iI (w9 : Int))), (12, .int (iI (c : Int))), (11, .int (iI u9)), (10, .int (iI v9)), (9, .int (iI (t : Int))), (8, .ref (ka 6)), (7, .ref (ka 5)), (6, .ref (ka 4)), (5, .ref (ka 3)), (4, .ref (ka 2)), (3, .ref (ka 1)), (2, .ref (ka 0)), (1, .ref (ha 0)), (0, .ref b)]) (by decide) rfl dL_law_349 ?_
    refine jj_join (X := Int) (pcj := 365) (fun q9 => match q9 with | am9 => [(21, .int (iI ex9)), (20, .int (iI sk9)), (19, .int (iI x1)), (18, .int (iI (-1))), (17, .int (iI 1)), (16, .int (iI io)), (14, .long (lI (f_W up dn dv td n K St Ex Am He Ca sh pr))), (13, .int (iI (w9 : Int))), (12, .int (iI (c : Int))), (11, .int (iI u9)), (10, .int (iI v9)), (9, .int (iI (t : Int))), (8, .ref (ka 6)), (7, .ref (ka 5)), (6, .ref (ka 4)), (5, .ref (ka 3)), (4, .ref (ka 2)), (3, .ref (ka 1)), (2, .ref (ka 0)), (1, .ref (ha 0)), (0, .ref b)]) (fun q9 => match q9 with | am9 => [.int (iI am9)]) (fun q9 => match q9 with | am9 => wL ka cI cJ td pr up dn mo sh co n K St Ex Am Ov Bj Aj BL AL He Cj dv Ca sd Cz ++ (wH ha cA hA nA ed cI cJ cZ td pr up dn dv rw sd mc n mo sh co Ca Cz K St Ex Am Bi As BL AL He Co ++ ((ed, .inl (cO, cap, .inr (.inr (.inr (.inr fe))))) :: G))) (fun q9 => match q9 with | am9 => am9 = 0 ∨ am9 = 1) ?_ ?_
    · intro q9 hq9
      obtain ⟨am9, rfl⟩ : ∃ z, z = q9 := ⟨_, rfl⟩
      have ham9 : am9 = 0 ∨ am9 = 1 := hq9
      refine jj_istore C0 (lv' := [(22, .int (iI am9)), (21, .int (iI ex9)), (20, .int (iI sk9)), (19, .int (iI x1)), (18, .int (iI (-1))), (17, .int (iI 1)), (16, .int (iI io)), (14, .long (lI (f_W up dn dv td n K St Ex Am He Ca sh pr))), (13, .int (iI (w9 : Int))), (12, .int (iI (c : Int))), (11, .int (iI u9)), (10, .int (iI v9)), (9, .int (iI (t : Int))), (8, .ref (ka 6)), (7, .ref (ka 5)), (6, .ref (ka 4)), (5, .ref (ka 3)), (4, .ref (ka 2)), (3, .ref (ka 1)), (2, .ref (ka 0)), (1, .ref (ha 0)), (0, .ref b)]) (by decide) rfl dL_law_365 ?_
      refine jj_iload C0 2 rfl dL_law_367 ?_
      refine jj_if_lt C0 (by omega) dL_law_369 (tgt := 2039) (by decide) (fun c_2 => ?_) (fun c_2 => ?_)
      · refine jj_toHw ?_
        refine jj_lv [4, 5, 7, 10, 12, 13, 14, 15, 16, 17, 18, 19, 20, 21] rfl ?_
        exact kK cA hA nA ed rw mc ((ed, .inl (cO, cap, .inr (.inr (.inr (.inr fe))))) :: G) td pr up dn dv sd n mo sh co Ca Cz Cz K St Ex Am Ov Bi As Bj Aj BL AL He Co Cj (f_W up dn dv td n K St Ex Am He Ca sh pr) (-1) _ _ (f_IV_k hV) (f_JV_t hW9) (hcc) (hG) (Or.inl ⟨rfl, rfl⟩) (by omega) (by omega)
      · refine jj_iload C0 2 rfl dL_law_372 ?_
        refine jj_sipush C0 dL_law_374 (by decide) ?_
        refine jj_icmp_le C0 (by omega) (by omega) dL_law_377 (tgt := 383) (by decide) (fun c_3 => ?_) (fun c_3 => ?_)
        · refine jj_aload_n C0 19 rfl dL_law_383 ?_
          refine jj_aload C0 15 rfl dL_law_384 ?_
          refine jj_bipush C0 dL_law_386 (by decide) ?_
          refine jj_iald C0 (q0 := 4) (t0 := 0) (f := (f_lg td pr up dn mo sh co n)) (rfl) rfl (k := 7) (by omega) (by omega) (by decide) dL_law_388 ?_
          refine jj_topi (b := (n : Int)) (rfl) ?_
          refine jj_iload C0 3 rfl dL_law_389 ?_
          refine jj_iast C0 (q0 := 0) (t0 := 0) (f := (f_lk K St Ex Am Ov)) (rfl) rfl (k := n) (by omega) (by omega) (by decide) (ws' := wL ka cI cJ td pr up dn mo sh co n (va_up K n x1) St Ex Am Ov Bj Aj BL AL He Cj dv Ca sd Cz ++ (wH ha cA hA nA ed cI cJ cZ td pr up dn dv rw sd mc n mo sh co Ca Cz K St Ex Am Bi As BL AL He Co ++ ((ed, .inl (cO, cap, .inr (.inr (.inr (.inr fe))))) :: G))) (wL_K (by omega)) dL_law_391 ?_
          refine jj_aload_n C0 19 rfl dL_law_392 ?_
          refine jj_bipush C0 dL_law_393 (by decide) ?_
          refine jj_aload C0 15 rfl dL_law_395 ?_
          refine jj_bipush C0 dL_law_397 (by decide) ?_
          refine jj_iald C0 (q0 := 4) (t0 := 0) (f := (f_lg td pr up dn mo sh co n)) (rfl) rfl (k := 7) (by omega) (by omega) (by decide) dL_law_399 ?_
          refine jj_topi (b := (n : Int)) (rfl) ?_
          refine jj_iadd C0 dL_law_400 ?_
          refine jj_iload C0 2 rfl dL_law_401 ?_
          refine jj_iast C0 (q0 := 0) (t0 := 0) (f := (f_lk (va_up K n x1) St Ex Am Ov)) (rfl) rfl (k := (6 + n)) (by omega) (by omega) (by decide) (ws' := wL ka cI cJ td pr up dn mo sh co n (va_up K n x1) (va_up St n sk9) Ex Am Ov Bj Aj BL AL He Cj dv Ca sd Cz ++ (wH ha cA hA nA ed cI cJ cZ td pr up dn dv rw sd mc n mo sh co Ca Cz K St Ex Am Bi As BL AL He Co ++ ((ed, .inl (cO, cap, .inr (.inr (.inr (.inr fe))))) :: G))) (wL_St (by omega)) dL_law_403 ?_
          refine jj_aload_n C0 19 rfl dL_law_404 ?_
          refine jj_bipush C0 dL_law_405 (by decide) ?_
          refine jj_aload C0 15 rfl dL_law_407 ?_
          refine jj_bipush C0 dL_law_409 (by decide) ?_
          refine jj_iald C0 (q0 := 4) (t0 := 0) (f := (f_lg td pr up dn mo sh co n)) (rfl) rfl (k := 7) (by omega) (by omega) (by decide) dL_law_411 ?_
          refine jj_topi (b := (n : Int)) (rfl) ?_
          refine jj_iadd C0 dL_law_412 ?_
          refine jj_iload C0 1 rfl dL_law_413 ?_
          refine jj_iast C0 (q0 := 0) (t0 := 0) (f := (f_lk (va_up K n x1) (va_up St n sk9) Ex Am Ov)) (rfl) rfl (k := (12 + n)) (by omega) (by omega) (by decide) (ws' := wL ka cI cJ td pr up dn mo sh co n (va_up K n x1) (va_up St n sk9) (va_up Ex n ex9) Am Ov Bj Aj BL AL He Cj dv Ca sd Cz ++ (wH ha cA hA nA ed cI cJ cZ td pr up dn dv rw sd mc n mo sh co Ca Cz K St Ex Am Bi As BL AL He Co ++ ((ed, .inl (cO, cap, .inr (.inr (.inr (.inr fe))))) :: G))) (wL_Ex (by omega)) dL_law_415 ?_
          refine jj_aload_n C0 19 rfl dL_law_416 ?_
          refine jj_bipush C0 dL_law_417 (by decide) ?_
          refine jj_aload C0 15 rfl dL_law_419 ?_
          refine jj_bipush C0 dL_law_421 (by decide) ?_
          refine jj_iald C0 (q0 := 4) (t0 := 0) (f := (f_lg td pr up dn mo sh co n)) (rfl) rfl (k := 7) (by omega) (by omega) (by decide) dL_law_423 ?_
          refine jj_topi (b := (n : Int)) (rfl) ?_
          refine jj_iadd C0 dL_law_424 ?_
          refine jj_iload C0 0 rfl dL_law_425 ?_
          refine jj_join (X := Unit) (pcj := 435) (fun q9 => match q9 with | () => [(22, .int (iI am9)), (21, .int (iI ex9)), (20, .int (iI sk9)), (19, .int (iI x1)), (18, .int (iI (-1))), (17, .int (iI 1)), (16, .int (iI io)), (14, .long (lI (f_W up dn dv td n K St Ex Am He Ca sh pr))), (13, .int (iI (w9 : Int))), (12, .int (iI (c : Int))), (11, .int (iI u9)), (10, .int (iI v9)), (9, .int (iI (t : Int))), (8, .ref (ka 6)), (7, .ref (ka 5)), (6, .ref (ka 4)), (5, .ref (ka 3)), (4, .ref (ka 2)), (3, .ref (ka 1)), (2, .ref (ka 0)), (1, .ref (ha 0)), (0, .ref b)]) (fun q9 => match q9 with | () => [.int (iI am9), .int (iI (18 + (n : Int))), .ref (ka 0)]) (fun q9 => match q9 with | () => wL ka cI cJ td pr up dn mo sh co n (va_up K n x1) (va_up St n sk9) (va_up Ex n ex9) Am Ov Bj Aj BL AL He Cj dv Ca sd Cz ++ (wH ha cA hA nA ed cI cJ cZ td pr up dn dv rw sd mc n mo sh co Ca Cz K St Ex Am Bi As BL AL He Co ++ ((ed, .inl (cO, cap, .inr (.inr (.inr (.inr fe))))) :: G))) (fun q9 => match q9 with | () => True) ?_ ?_
          · intro q9 hq9
            obtain ⟨⟩ := q9
            have _ : True := hq9
            refine jj_iast C0 (q0 := 0) (t0 := 0) (f := (f_lk (va_up K n x1) (va_up St n sk9) (va_up Ex n ex9) Am Ov)) (rfl) rfl (k := (18 + n)) (by omega) (by omega) (by decide) (ws' := wL ka cI cJ td pr up dn mo sh co n (va_up K n x1) (va_up St n sk9) (va_up Ex n ex9) (va_up Am n am9) Ov Bj Aj BL AL He Cj dv Ca sd Cz ++ (wH ha cA hA nA ed cI cJ cZ td pr up dn dv rw sd mc n mo sh co Ca Cz K St Ex Am Bi As BL AL He Co ++ ((ed, .inl (cO, cap, .inr (.inr (.inr (.inr fe))))) :: G))) (wL_Am (hovn n (Nat.le_refl _))) dL_law_435 ?_
            refine jj_aload_n C0 20 rfl dL_law_436 ?_
            refine jj_iload C0 3 rfl dL_law_437 ?_
            refine jj_iload C0 2 rfl dL_law_439 ?_
            refine jj_iload C0 1 rfl dL_law_441 ?_
            refine jj_iload C0 0 rfl dL_law_443 ?_
            refine jj_toHw ?_
            refine jj_ws (ws' := wH ha cA hA nA ed cI cJ cZ td pr up dn dv rw sd mc n mo sh co Ca Cz K St Ex Am Bi As BL AL He Co ++ ((ed, .inl (cO, cap, .inr (.inr (.inr (.inr fe))))) :: (G ++ wL ka cI cJ td pr up dn mo sh co n (va_up K n x1) (va_up St n sk9) (va_up Ex n ex9) (va_up Am n am9) Ov Bj Aj BL AL He Cj dv Ca sd Cz))) rfl ?_
            refine jj_callSWi C0 (cells' := (cells + 7)) (slots' := (slots + 78)) (jj_weaki (fun A U H h => h.1.1) (cw_L_contract hl (k := x1) (y := sk9) (ex := ex9) (am := am9) (EF := G ++ wL ka cI cJ td pr up dn mo sh co n (va_up K n x1) (va_up St n sk9) (va_up Ex n ex9) (va_up Am n am9) Ov Bj Aj BL AL He Cj dv Ca sd Cz) (by omega) (by omega) (by omega) (by omega) (by omega) htd ⟨hcap1, hcap2⟩ hfe ⟨(by have := hQn n (Nat.le_refl _); have := hQ0 n; omega), (by have := hQn n (Nat.le_refl _); have := hQ0 n; omega), (hQn n (Nat.le_refl _)).1, (hQn n (Nat.le_refl _)).2, fun j hj => hHz _ (by omega), fun j hj => hCz _ (by omega)⟩)) (vx_cwSW 5 hw (lw_gW hU_350 hU_351 hU_42 hU_352) rfl rfl rfl (by decide +kernel) ⟨Nat.le_of_ble_eq_true rfl, Nat.le_of_ble_eq_true rfl⟩) rfl rfl (Nat.le_of_ble_eq_true rfl) ⟨by show cells + 7 ≤ 600104; omega, by show slots + 78 ≤ 7301314; omega⟩ rfl rfl dL_law_445 ?_
            intro u hu
            obtain ⟨q1, q2, q3, e2, cp, f2, G2⟩ := u
            have hu_c : n + 1 ≤ cp ∧ cp ≤ 1000 ∧ ∀ j, j < n + 1 → f2 j = some (va_up cA n q1 j) := hu
            show jj_W _ _ _ _ _ _ _ _ _ _ _ _ _ _ _ _ _ 448 _ [.int (iI (n : Int))] (wH ha (va_up cA n q1) (va_up hA n q2) (va_up nA n q3) e2 cI cJ cZ td pr up dn dv rw sd (mc + 1) (n + 1) mo sh co Ca Cz (va_up K n x1) (va_up St n sk9) (va_up Ex n ex9) (va_up Am n am9) Bi As BL AL He Co ++ ((e2, .inl (cO, cp, .inr (.inr (.inr (.inr f2))))) :: (G2 ++ (G ++ wL ka cI cJ td pr up dn mo sh co n (va_up K n x1) (va_up St n sk9) (va_up Ex n ex9) (va_up Am n am9) Ov Bj Aj BL AL He Cj dv Ca sd Cz))))
            refine jj_ws (ws' := wH ha (va_up cA n q1) (va_up hA n q2) (va_up nA n q3) e2 cI cJ cZ td pr up dn dv rw sd (mc + 1) (n + 1) mo sh co Ca Cz (va_up K n x1) (va_up St n sk9) (va_up Ex n ex9) (va_up Am n am9) Bi As BL AL He Co ++ (((e2, .inl (cO, cp, .inr (.inr (.inr (.inr f2))))) :: (G2 ++ G)) ++ wL ka cI cJ td pr up dn mo sh co n (va_up K n x1) (va_up St n sk9) (va_up Ex n ex9) (va_up Am n am9) Ov Bj Aj BL AL He Cj dv Ca sd Cz)) (by rw [List.cons_append, List.append_assoc]) ?_
            refine jj_aload C0 15 rfl dL_law_448 ?_
            refine jj_bipush C0 dL_law_450 (by decide) ?_
            refine jj_toLw ?_
            refine jj_iald C0 (q0 := 4) (t0 := 0) (f := (f_lg td pr up dn mo sh co n)) (rfl) rfl (k := 7) (by omega) (by omega) (by decide) dL_law_452 ?_
            refine jj_topi (b := (n : Int)) (rfl) ?_
            refine jj_topi (b := (n : Int)) (rfl) ?_
            refine jj_icmpN C0 dL_law_453 (tgt := 460) (by decide) ?_
            refine jj_iconst C0 dL_law_456 ?_
            refine jj_goto C0 (tgt := 461) dL_law_457 (by decide) ?_
            refine jj_istore C0 (lv' := [(17, .int (iI 1)), (22, .int (iI am9)), (21, .int (iI ex9)), (20, .int (iI sk9)), (19, .int (iI x1)), (18, .int (iI (-1))), (16, .int (iI io)), (14, .long (lI (f_W up dn dv td n K St Ex Am He Ca sh pr))), (13, .int (iI (w9 : Int))), (12, .int (iI (c : Int))), (11, .int (iI u9)), (10, .int (iI v9)), (9, .int (iI (t : Int))), (8, .ref (ka 6)), (7, .ref (ka 5)), (6, .ref (ka 4)), (5, .ref (ka 3)), (4, .ref (ka 2)), (3, .ref (ka 1)), (2, .ref (ka 0)), (1, .ref (ha 0)), (0, .ref b)]) (by decide) rfl dL_law_461 ?_
            refine jj_aload C0 15 rfl dL_law_463 ?_
            refine jj_bipush C0 dL_law_465 (by decide) ?_
            refine jj_dup2_11 C0 dL_law_467 rfl rfl ?_
            refine jj_iald C0 (q0 := 4) (t0 := 0) (f := (f_lg td pr up dn mo sh co n)) (rfl) rfl (k := 7) (by omega) (by omega) (by decide) dL_law_468 ?_
            refine jj_topi (b := (n : Int)) (rfl) ?_
            refine jj_iconst C0 dL_law_469 ?_
            refine jj_iadd C0 dL_law_470 ?_
            refine jj_topi (b := (((n + 1) : Nat) : Int)) (by omega) ?_
            refine jj_iast C0 (q0 := 4) (t0 := 0) (f := (f_lg td pr up dn mo sh co n)) (rfl) rfl (k := 7) (by omega) (by omega) (by decide) (ws' := wL ka cI cJ td pr up dn mo sh co (n + 1) (va_up K n x1) (va_up St n sk9) (va_up Ex n ex9) (va_up Am n am9) Ov Bj Aj BL AL He Cj dv Ca sd Cz ++ (wH ha (va_up cA n q1) (va_up hA n q2) (va_up nA n q3) e2 cI cJ cZ td pr up dn dv rw sd (mc + 1) (n + 1) mo sh co Ca Cz (va_up K n x1) (va_up St n sk9) (va_up Ex n ex9) (va_up Am n am9) Bi As BL AL He Co ++ ((e2, .inl (cO, cp, .inr (.inr (.inr (.inr f2))))) :: (G2 ++ G)))) (wL_n) dL_law_471 ?_
            refine jj_goto C0 (tgt := 2039) dL_law_472 (by decide) ?_
            refine jj_toHw ?_
            refine jj_lv [5, 0, 7, 10, 12, 13, 14, 15, 16, 17, 18, 19, 20, 21] rfl ?_
            exact kK (va_up cA n q1) (va_up hA n q2) (va_up nA n q3) e2 rw (mc + 1) ((e2, .inl (cO, cp, .inr (.inr (.inr (.inr f2))))) :: (G2 ++ G)) td pr up dn dv sd (n + 1) mo sh co Ca Cz Cz (va_up K n x1) (va_up St n sk9) (va_up Ex n ex9) (va_up Am n am9) Ov Bi As Bj Aj BL AL He Co Cj (f_W up dn dv td n K St Ex Am He Ca sh pr) (-1) _ _ (f_IV_contract hV (by omega) (by omega) (by omega) (by omega) (by omega)) (⟨by omega, htd5, f_up_n (P := fun _ z => z ≤ (td : Int) + 5) hex5 (by omega), f_up_n (P := fun _ z => -(100 + 202 * ((t + 1 : Nat) : Int)) ≤ z - pr ∧ z - pr ≤ 100 + 202 * ((t + 1 : Nat) : Int)) (fun c hc => by have := hSp c hc; omega) (by omega), hdv9, hBA, by omega⟩) (hcc) (⟨fun _ => ⟨cp, f2, G2 ++ G, rfl, hu_c.1, hu_c.2.1, hu_c.2.2⟩, fun h => absurd h (Nat.succ_ne_zero n)⟩) (Or.inl ⟨rfl, rfl⟩) (by omega) (by omega)
          intro j435
          refine jj_if_eq C0 (by omega) dL_law_427 (tgt := 434) (by decide) (fun c_4 => ?_) (fun c_4 => ?_)
          · refine jj_iconst C0 dL_law_434 ?_
            refine jj_topi (b := am9) (by omega) ?_
            exact j435 () trivial
          · refine jj_iconst C0 dL_law_430 ?_
            refine jj_goto C0 (tgt := 435) dL_law_431 (by decide) ?_
            refine jj_topi (b := am9) (by omega) ?_
            exact j435 () trivial
        · refine jj_goto C0 (tgt := 2039) dL_law_380 (by decide) ?_
          refine jj_toHw ?_
          refine jj_lv [4, 5, 7, 10, 12, 13, 14, 15, 16, 17, 18, 19, 20, 21] rfl ?_
          exact kK cA hA nA ed rw mc ((ed, .inl (cO, cap, .inr (.inr (.inr (.inr fe))))) :: G) td pr up dn dv sd n mo sh co Ca Cz Cz K St Ex Am Ov Bi As Bj Aj BL AL He Co Cj (f_W up dn dv td n K St Ex Am He Ca sh pr) (-1) _ _ (f_IV_k hV) (f_JV_t hW9) (hcc) (hG) (Or.inl ⟨rfl, rfl⟩) (by omega) (by omega)
    intro j365
    refine jj_iload C0 9 rfl dL_law_351 ?_
    refine jj_sipush C0 dL_law_353 (by decide) ?_
    refine jj_iandX C0 dL_law_356 ?_
    have hR356 := f_an_R u9 512
    refine jj_if_ne C0 (by omega) dL_law_357 (tgt := 364) (by decide) (fun c_5 => ?_) (fun c_5 => ?_)
    · refine jj_iconst C0 dL_law_364 ?_
      exact j365 0 (by omega)
    · refine jj_iconst C0 dL_law_360 ?_
      refine jj_goto C0 (tgt := 365) dL_law_361 (by decide) ?_
      exact j365 1 (by omega)
  · refine jj_goto C0 (tgt := 2039) dL_law_302 (by decide) ?_
    refine jj_toHw ?_
    refine jj_lv [0, 1, 3, 6, 8, 9, 10, 11, 12, 13, 14, 15, 16, 17] rfl ?_
    exact kK cA hA nA ed rw mc ((ed, .inl (cO, cap, .inr (.inr (.inr (.inr fe))))) :: G) td pr up dn dv sd n mo sh co Ca Cz Cz K St Ex Am Ov Bi As Bj Aj BL AL He Co Cj (f_W up dn dv td n K St Ex Am He Ca sh pr) (-1) _ _ (f_IV_k hV) (f_JV_t hW9) (hcc) (hG) (Or.inl ⟨rfl, rfl⟩) (by omega) (by omega)
set_option maxHeartbeats 4000000 in
set_option maxRecDepth 100000 in
theorem lq_contract_0 (hC9 : f_C9 p l s m args meth c9 dC dI A cI cJ cZ cO es mi sa b L xs) (hcs : cells + 100 ≤ 600104 ∧ slots + 4000 ≤ 7301314) (hk9 : k9 ≤ 89) (ht9 : t ≤ 89) (hI : f_IV k9 td 0 pr up dn dv sd mo sh Ca K St Ex Am Ov Bi As Bj Aj BL AL He Co) (hJ : f_JV t td 0 pr dv sh St Ex Bj Aj) (hcc : f_JC Ov Co Cj) (hG : f_LG cO es 0 es cA GG) (hu9 : iR u9) (hv9 : iR v9) (kK : f_K9 p l e s m args below meth c9 dC dI A Q ha ka cI cJ cZ cO es b k9 t u9 cells slots)   : jj_W p l e room_1 s m args below meth c9 (dC, dI) vwCl A 46 cells slots Q 292 [(18, .int (iI (-1))), (17, .int (iI 1)), (16, .int (iI io)), (14, .long (lI (f_W up dn dv td 0 K St Ex Am He Ca sh pr))), (13, .int (iI (w9 : Int))), (12, .int (iI (c : Int))), (11, .int (iI u9)), (10, .int (iI v9)), (9, .int (iI (t : Int))), (8, .ref (ka 6)), (7, .ref (ka 5)), (6, .ref (ka 4)), (5, .ref (ka 3)), (4, .ref (ka 2)), (3, .ref (ka 1)), (2, .ref (ka 0)), (1, .ref (ha 0)), (0, .ref b)] [] (wH ha cA hA nA es cI cJ cZ td pr up dn dv rw sd mc 0 mo sh co Ca Cz K St Ex Am Bi As BL AL He Co ++ (GG ++ wL ka cI cJ td pr up dn mo sh co 0 K St Ex Am Ov Bj Aj BL AL He Cj dv Ca sd Cz)) := by
  obtain ⟨C0, hl, hL⟩ := hC9
  have hw := C0.2.2.2.2.1
  have hEV := hEVS es mi sa b L xs
  have hED0 : 0 < 0 → f_ED cA 0 es cO GG := fun h9 => by have h8 := f_LG_ED (M := []) hG h9; rwa [List.append_nil] at h8
  have hCj9 := hcc.1
  have hV := hI
  obtain ⟨⟨htd, hn, hpr, hup, hdn, hdv, hsd, hmo, hsh⟩, ⟨hK, hSt, hEx, hAm, hOv, hovs, hexs, hovn⟩, hQ9, ⟨hHe, hsums, hHz⟩, ⟨hCo, hCz⟩, hCa⟩ := hI
  have hQ := hQ9
  obtain ⟨hBi, hAs, hBj, hAj, hBL, hAL, hQt, hQ0, hQn, hQo⟩ := hQ9
  have hW9 := hJ
  obtain ⟨hn6, htd5, hex5, hSp, hdv9, hBA, hsh9⟩ := hJ
  have hexs1 : ∀ c, c < 0 → Ex c ≤ (td : Int) + 10 := fun c hc => (hexs c hc).1
  have hHe9 : ∀ j, -999000 ≤ He j ∧ He j ≤ 999000 := fun j => by have := hHe j; omega
  have hHe6 : ∀ j, -1000000 ≤ He j ∧ He j ≤ 1000000 := fun j => by have := hHe j; omega
  have hCa9 : ∀ j, -100000000000000000 ≤ Ca j ∧ Ca j ≤ 100000000000000000 := fun j => by have := hCa j; omega
  have hov5 : ∀ c, c < 0 → (Ov c = 1 ∧ Ex c < (td : Int)) ∨ (Ov c = 0 ∧ (td : Int) ≤ Ex c ∧ Ex c ≤ (td : Int) + 5) := fun c hc => by have h1 := hovs c hc; have h2 := hex5 c hc; omega
  have hovw : ∀ c, c < 0 → He (7 * c + 6) = 0 ∨ (Ov c = 1 ∧ Ex c < (td : Int)) ∨ (Ov c = 0 ∧ (td : Int) ≤ Ex c ∧ Ex c ≤ (td : Int) + 5) := fun c hc => Or.inr (hov5 c hc)
  refine jj_aload C0 11 rfl dL_law_292 ?_
  refine jj_bipush C0 dL_law_294 (by decide) ?_
  refine jj_toLw ?_
  refine jj_iald C0 (q0 := 4) (t0 := 0) (f := (f_lg td pr up dn mo sh co 0)) (rfl) rfl (k := 7) (by omega) (by omega) (by decide) dL_law_296 ?_
  refine jj_topi (b := 0) (rfl) ?_
  refine jj_bipush C0 dL_law_297 (by decide) ?_
  refine jj_icmp_ne C0 (by omega) (by omega) dL_law_299 (tgt := 305) (by decide) (fun c_1 => ?_) (fun c_1 => absurd c_1 (by omega))
  refine jj_iload C0 7 rfl dL_law_305 ?_
  refine jj_bipush C0 dL_law_307 (by decide) ?_
  refine jj_ishrX C0 dL_law_309 ?_
  have hR309 := f_sr_R v9 11
  refine jj_iconst C0 dL_law_310 ?_
  refine jj_callSi C0 (cells' := cells) (slots' := slots) (cc_L_low hEV (v := (f_sr v9 11)) (m := 2) (by omega)) (cwS 2 hw (lw_gS hU_167 hU_168 hU_42 hU_169) rfl rfl rfl (by decide +kernel) ⟨Nat.le_of_ble_eq_true rfl, Nat.le_of_ble_eq_true rfl⟩) rfl rfl (Nat.le_of_ble_eq_true rfl) ⟨by show cells + 0 ≤ 600104; omega, by show slots + 0 ≤ 7301314; omega⟩ rfl rfl dL_law_311 ?_
  intro _ hu
  show jj_W _ _ _ _ _ _ _ _ _ _ _ _ _ _ _ _ _ 314 _ [.int (iI (f_lo (f_sr v9 11) 2))] (wL ka cI cJ td pr up dn mo sh co 0 K St Ex Am Ov Bj Aj BL AL He Cj dv Ca sd Cz ++ (wH ha cA hA nA es cI cJ cZ td pr up dn dv rw sd mc 0 mo sh co Ca Cz K St Ex Am Bi As BL AL He Co ++ GG))
  obtain ⟨x1, hx1⟩ : ∃ z : Int, z = (f_lo (f_sr v9 11) 2) := ⟨_, rfl⟩
  have hbx1 : 0 ≤ x1 ∧ x1 < 2 := by rw [hx1]; exact f_lo_bd _ (by omega)
  refine jj_topi (b := x1) (hx1.symm) ?_
  refine jj_istore C0 (lv' := [(19, .int (iI x1)), (18, .int (iI (-1))), (17, .int (iI 1)), (16, .int (iI io)), (14, .long (lI (f_W up dn dv td 0 K St Ex Am He Ca sh pr))), (13, .int (iI (w9 : Int))), (12, .int (iI (c : Int))), (11, .int (iI u9)), (10, .int (iI v9)), (9, .int (iI (t : Int))), (8, .ref (ka 6)), (7, .ref (ka 5)), (6, .ref (ka 4)), (5, .ref (ka 3)), (4, .ref (ka 2)), (3, .ref (ka 1)), (2, .ref (ka 0)), (1, .ref (ha 0)), (0, .ref b)]) (by decide) rfl dL_law_314 ?_
  refine jj_aload C0 12 rfl dL_law_316 ?_
  refine jj_iconst C0 dL_law_318 ?_
  refine jj_iald C0 (q0 := 4) (t0 := 0) (f := (f_lg td pr up dn mo sh co 0)) (rfl) rfl (k := 1) (by omega) (by omega) (by decide) dL_law_319 ?_
  refine jj_topi (b := pr) (rfl) ?_
  refine jj_bipush C0 dL_law_320 (by decide) ?_
  refine jj_isub C0 dL_law_322 ?_
  refine jj_bipush C0 dL_law_323 (by decide) ?_
  refine jj_iload C0 7 rfl dL_law_325 ?_
  refine jj_iconst C0 dL_law_327 ?_
  refine jj_callSi C0 (cells' := cells) (slots' := slots) (cc_L_low hEV (v := u9) (m := 5) (by omega)) (cwS 2 hw (lw_gS hU_167 hU_168 hU_42 hU_169) rfl rfl rfl (by decide +kernel) ⟨Nat.le_of_ble_eq_true rfl, Nat.le_of_ble_eq_true rfl⟩) rfl rfl (Nat.le_of_ble_eq_true rfl) ⟨by show cells + 0 ≤ 600104; omega, by show slots + 0 ≤ 7301314; omega⟩ rfl rfl dL_law_328 ?_
  intro _ hu
  show jj_W _ _ _ _ _ _ _ _ _ _ _ _ _ _ _ _ _ 331 _ [.int (iI (f_lo u9 5)), .int (iI 50), .int (iI (pr - 100))] (wL ka cI cJ td pr up dn mo sh co 0 K St Ex Am Ov Bj Aj BL AL He Cj dv Ca sd Cz ++ (wH ha cA hA nA es cI cJ cZ td pr up dn dv rw sd mc 0 mo sh co Ca Cz K St Ex Am Bi As BL AL He Co ++ GG))
  obtain ⟨x2, hx2⟩ : ∃ z : Int, z = (f_lo u9 5) := ⟨_, rfl⟩
  have hbx2 : 0 ≤ x2 ∧ x2 < 5 := by rw [hx2]; exact f_lo_bd _ (by omega)
  refine jj_topi (b := x2) (hx2.symm) ?_
  refine jj_imul C0 dL_law_331 ?_
  refine jj_iadd C0 dL_law_332 ?_
  obtain ⟨sk9, hsk9⟩ : ∃ z : Int, z = ((pr - 100) + (50 * x2)) := ⟨_, rfl⟩
  refine jj_topi (b := sk9) (hsk9.symm) ?_
  refine jj_istore C0 (lv' := [(20, .int (iI sk9)), (19, .int (iI x1)), (18, .int (iI (-1))), (17, .int (iI 1)), (16, .int (iI io)), (14, .long (lI (f_W up dn dv td 0 K St Ex Am He Ca sh pr))), (13, .int (iI (w9 : Int))), (12, .int (iI (c : Int))), (11, .int (iI u9)), (10, .int (iI v9)), (9, .int (iI (t : Int))), (8, .ref (ka 6)), (7, .ref (ka 5)), (6, .ref (ka 4)), (5, .ref (ka 3)), (4, .ref (ka 2)), (3, .ref (ka 1)), (2, .ref (ka 0)), (1, .ref (ha 0)), (0, .ref b)]) (by decide) rfl dL_law_333 ?_
  refine jj_aload C0 13 rfl dL_law_335 ?_
  refine jj_iconst C0 dL_law_337 ?_
  refine jj_iald C0 (q0 := 4) (t0 := 0) (f := (f_lg td pr up dn mo sh co 0)) (rfl) rfl (k := 0) (by omega) (by omega) (by decide) dL_law_338 ?_
  refine jj_topi (b := (td : Int)) (rfl) ?_
  refine jj_iload C0 8 rfl dL_law_339 ?_
  refine jj_iconst C0 dL_law_341 ?_
  refine jj_ishrX C0 dL_law_342 ?_
  have hR342 := f_sr_R u9 4
  refine jj_bipush C0 dL_law_343 (by decide) ?_
  refine jj_callSi C0 (cells' := cells) (slots' := slots) (cc_L_low hEV (v := (f_sr u9 4)) (m := 6) (by omega)) (cwS 2 hw (lw_gS hU_167 hU_168 hU_42 hU_169) rfl rfl rfl (by decide +kernel) ⟨Nat.le_of_ble_eq_true rfl, Nat.le_of_ble_eq_true rfl⟩) rfl rfl (Nat.le_of_ble_eq_true rfl) ⟨by show cells + 0 ≤ 600104; omega, by show slots + 0 ≤ 7301314; omega⟩ rfl rfl dL_law_345 ?_
  intro _ hu
  show jj_W _ _ _ _ _ _ _ _ _ _ _ _ _ _ _ _ _ 348 _ [.int (iI (f_lo (f_sr u9 4) 6)), .int (iI (td : Int))] (wL ka cI cJ td pr up dn mo sh co 0 K St Ex Am Ov Bj Aj BL AL He Cj dv Ca sd Cz ++ (wH ha cA hA nA es cI cJ cZ td pr up dn dv rw sd mc 0 mo sh co Ca Cz K St Ex Am Bi As BL AL He Co ++ GG))
  obtain ⟨x3, hx3⟩ : ∃ z : Int, z = (f_lo (f_sr u9 4) 6) := ⟨_, rfl⟩
  have hbx3 : 0 ≤ x3 ∧ x3 < 6 := by rw [hx3]; exact f_lo_bd _ (by omega)
  refine jj_topi (b := x3) (hx3.symm) ?_
  refine jj_iadd C0 dL_law_348 ?_
  obtain ⟨ex9, hex9⟩ : ∃ z : Int, z = ((td : Int) + x3) := ⟨_, rfl⟩
  refine jj_topi (b := ex9) (hex9.symm) ?_
  refine jj_istore C0 (lv' := [(21, .int (iI ex9)), (20, .int (iI sk9)), (19, .int (iI x1)), (18, .int (iI (-1))), (17, .int (iI 1)), (16, .int (iI io)), (14, .long (lI (f_W up dn dv td 0 K St Ex Am He Ca sh pr))), (13, .int (iI (w9 : Int))), (12, .int (iI (c : Int))), (11, .int (iI u9)), (10, .int (iI v9)), (9, .int (iI (t : Int))), (8, .ref (ka 6)), (7, .ref (ka 5)), (6, .ref (ka 4)), (5, .ref (ka 3)), (4, .ref (ka 2)), (3, .ref (ka 1)), (2, .ref (ka 0)), (1, .ref (ha 0)), (0, .ref b)]) (by decide) rfl dL_law_349 ?_
  refine jj_join (X := Int) (pcj := 365) (fun q9 => match q9 with | am9 => [(21, .int (iI ex9)), (20, .int (iI sk9)), (19, .int (iI x1)), (18, .int (iI (-1))), (17, .int (iI 1)), (16, .int (iI io)), (14, .long (lI (f_W up dn dv td 0 K St Ex Am He Ca sh pr))), (13, .int (iI (w9 : Int))), (12, .int (iI (c : Int))), (11, .int (iI u9)), (10, .int (iI v9)), (9, .int (iI (t : Int))), (8, .ref (ka 6)), (7, .ref (ka 5)), (6, .ref (ka 4)), (5, .ref (ka 3)), (4, .ref (ka 2)), (3, .ref (ka 1)), (2, .ref (ka 0)), (1, .ref (ha 0)), (0, .ref b)]) (fun q9 => match q9 with | am9 => [.int (iI am9)]) (fun q9 => match q9 with | am9 => wL ka cI cJ td pr up dn mo sh co 0 K St Ex Am Ov Bj Aj BL AL He Cj dv Ca sd Cz ++ (wH ha cA hA nA es cI cJ cZ td pr up dn dv rw sd mc 0 mo sh co Ca Cz K St Ex Am Bi As BL AL He Co ++ GG)) (fun q9 => match q9 with | am9 => am9 = 0 ∨ am9 = 1) ?_ ?_
  · intro q9 hq9
    obtain ⟨am9, rfl⟩ : ∃ z, z = q9 := ⟨_, rfl⟩
    have ham9 : am9 = 0 ∨ am9 = 1 := hq9
    refine jj_istore C0 (lv' := [(22, .int (iI am9)), (21, .int (iI ex9)), (20, .int (iI sk9)), (19, .int (iI x1)), (18, .int (iI (-1))), (17, .int (iI 1)), (16, .int (iI io)), (14, .long (lI (f_W up dn dv td 0 K St Ex Am He Ca sh pr))), (13, .int (iI (w9 : Int))), (12, .int (iI (c : Int))), (11, .int (iI u9)), (10, .int (iI v9)), (9, .int (iI (t : Int))), (8, .ref (ka 6)), (7, .ref (ka 5)), (6, .ref (ka 4)), (5, .ref (ka 3)), (4, .ref (ka 2)), (3, .ref (ka 1)), (2, .ref (ka 0)), (1, .ref (ha 0)), (0, .ref b)]) (by decide) rfl dL_law_365 ?_
    refine jj_iload C0 2 rfl dL_law_367 ?_
    refine jj_if_lt C0 (by omega) dL_law_369 (tgt := 2039) (by decide) (fun c_2 => ?_) (fun c_2 => ?_)
    · refine jj_toHw ?_
      refine jj_lv [4, 5, 7, 10, 12, 13, 14, 15, 16, 17, 18, 19, 20, 21] rfl ?_
      exact kK cA hA nA es rw mc GG td pr up dn dv sd 0 mo sh co Ca Cz Cz K St Ex Am Ov Bi As Bj Aj BL AL He Co Cj (f_W up dn dv td 0 K St Ex Am He Ca sh pr) (-1) _ _ (f_IV_k hV) (f_JV_t hW9) (hcc) (hG) (Or.inl ⟨rfl, rfl⟩) (by omega) (by omega)
    · refine jj_iload C0 2 rfl dL_law_372 ?_
      refine jj_sipush C0 dL_law_374 (by decide) ?_
      refine jj_icmp_le C0 (by omega) (by omega) dL_law_377 (tgt := 383) (by decide) (fun c_3 => ?_) (fun c_3 => ?_)
      · refine jj_aload_n C0 19 rfl dL_law_383 ?_
        refine jj_aload C0 15 rfl dL_law_384 ?_
        refine jj_bipush C0 dL_law_386 (by decide) ?_
        refine jj_iald C0 (q0 := 4) (t0 := 0) (f := (f_lg td pr up dn mo sh co 0)) (rfl) rfl (k := 7) (by omega) (by omega) (by decide) dL_law_388 ?_
        refine jj_topi (b := 0) (rfl) ?_
        refine jj_iload C0 3 rfl dL_law_389 ?_
        refine jj_iast C0 (q0 := 0) (t0 := 0) (f := (f_lk K St Ex Am Ov)) (rfl) rfl (k := 0) (by omega) (by omega) (by decide) (ws' := wL ka cI cJ td pr up dn mo sh co 0 (va_up K 0 x1) St Ex Am Ov Bj Aj BL AL He Cj dv Ca sd Cz ++ (wH ha cA hA nA es cI cJ cZ td pr up dn dv rw sd mc 0 mo sh co Ca Cz K St Ex Am Bi As BL AL He Co ++ GG)) (wL_K (by omega)) dL_law_391 ?_
        refine jj_aload_n C0 19 rfl dL_law_392 ?_
        refine jj_bipush C0 dL_law_393 (by decide) ?_
        refine jj_aload C0 15 rfl dL_law_395 ?_
        refine jj_bipush C0 dL_law_397 (by decide) ?_
        refine jj_iald C0 (q0 := 4) (t0 := 0) (f := (f_lg td pr up dn mo sh co 0)) (rfl) rfl (k := 7) (by omega) (by omega) (by decide) dL_law_399 ?_
        refine jj_topi (b := 0) (rfl) ?_
        refine jj_iadd C0 dL_law_400 ?_
        refine jj_iload C0 2 rfl dL_law_401 ?_
        refine jj_iast C0 (q0 := 0) (t0 := 0) (f := (f_lk (va_up K 0 x1) St Ex Am Ov)) (rfl) rfl (k := (6 + 0)) (by omega) (by omega) (by decide) (ws' := wL ka cI cJ td pr up dn mo sh co 0 (va_up K 0 x1) (va_up St 0 sk9) Ex Am Ov Bj Aj BL AL He Cj dv Ca sd Cz ++ (wH ha cA hA nA es cI cJ cZ td pr up dn dv rw sd mc 0 mo sh co Ca Cz K St Ex Am Bi As BL AL He Co ++ GG)) (wL_St (by omega)) dL_law_403 ?_
        refine jj_aload_n C0 19 rfl dL_law_404 ?_
        refine jj_bipush C0 dL_law_405 (by decide) ?_
        refine jj_aload C0 15 rfl dL_law_407 ?_
        refine jj_bipush C0 dL_law_409 (by decide) ?_
        refine jj_iald C0 (q0 := 4) (t0 := 0) (f := (f_lg td pr up dn mo sh co 0)) (rfl) rfl (k := 7) (by omega) (by omega) (by decide) dL_law_411 ?_
        refine jj_topi (b := 0) (rfl) ?_
        refine jj_iadd C0 dL_law_412 ?_
        refine jj_iload C0 1 rfl dL_law_413 ?_
        refine jj_iast C0 (q0 := 0) (t0 := 0) (f := (f_lk (va_up K 0 x1) (va_up St 0 sk9) Ex Am Ov)) (rfl) rfl (k := (12 + 0)) (by omega) (by omega) (by decide) (ws' := wL ka cI cJ td pr up dn mo sh co 0 (va_up K 0 x1) (va_up St 0 sk9) (va_up Ex 0 ex9) Am Ov Bj Aj BL AL He Cj dv Ca sd Cz ++ (wH ha cA hA nA es cI cJ cZ td pr up dn dv rw sd mc 0 mo sh co Ca Cz K St Ex Am Bi As BL AL He Co ++ GG)) (wL_Ex (by omega)) dL_law_415 ?_
        refine jj_aload_n C0 19 rfl dL_law_416 ?_
        refine jj_bipush C0 dL_law_417 (by decide) ?_
        refine jj_aload C0 15 rfl dL_law_419 ?_
        refine jj_bipush C0 dL_law_421 (by decide) ?_
        refine jj_iald C0 (q0 := 4) (t0 := 0) (f := (f_lg td pr up dn mo sh co 0)) (rfl) rfl (k := 7) (by omega) (by omega) (by decide) dL_law_423 ?_
        refine jj_topi (b := 0) (rfl) ?_
        refine jj_iadd C0 dL_law_424 ?_
        refine jj_iload C0 0 rfl dL_law_425 ?_
        refine jj_join (X := Unit) (pcj := 435) (fun q9 => match q9 with | () => [(22, .int (iI am9)), (21, .int (iI ex9)), (20, .int (iI sk9)), (19, .int (iI x1)), (18, .int (iI (-1))), (17, .int (iI 1)), (16, .int (iI io)), (14, .long (lI (f_W up dn dv td 0 K St Ex Am He Ca sh pr))), (13, .int (iI (w9 : Int))), (12, .int (iI (c : Int))), (11, .int (iI u9)), (10, .int (iI v9)), (9, .int (iI (t : Int))), (8, .ref (ka 6)), (7, .ref (ka 5)), (6, .ref (ka 4)), (5, .ref (ka 3)), (4, .ref (ka 2)), (3, .ref (ka 1)), (2, .ref (ka 0)), (1, .ref (ha 0)), (0, .ref b)]) (fun q9 => match q9 with | () => [.int (iI am9), .int (iI (18 + 0)), .ref (ka 0)]) (fun q9 => match q9 with | () => wL ka cI cJ td pr up dn mo sh co 0 (va_up K 0 x1) (va_up St 0 sk9) (va_up Ex 0 ex9) Am Ov Bj Aj BL AL He Cj dv Ca sd Cz ++ (wH ha cA hA nA es cI cJ cZ td pr up dn dv rw sd mc 0 mo sh co Ca Cz K St Ex Am Bi As BL AL He Co ++ GG)) (fun q9 => match q9 with | () => True) ?_ ?_
        · intro q9 hq9
          obtain ⟨⟩ := q9
          have _ : True := hq9
          refine jj_iast C0 (q0 := 0) (t0 := 0) (f := (f_lk (va_up K 0 x1) (va_up St 0 sk9) (va_up Ex 0 ex9) Am Ov)) (rfl) rfl (k := (18 + 0)) (by omega) (by omega) (by decide) (ws' := wL ka cI cJ td pr up dn mo sh co 0 (va_up K 0 x1) (va_up St 0 sk9) (va_up Ex 0 ex9) (va_up Am 0 am9) Ov Bj Aj BL AL He Cj dv Ca sd Cz ++ (wH ha cA hA nA es cI cJ cZ td pr up dn dv rw sd mc 0 mo sh co Ca Cz K St Ex Am Bi As BL AL He Co ++ GG)) (wL_Am (hovn 0 (Nat.le_refl _))) dL_law_435 ?_
          refine jj_aload_n C0 20 rfl dL_law_436 ?_
          refine jj_iload C0 3 rfl dL_law_437 ?_
          refine jj_iload C0 2 rfl dL_law_439 ?_
          refine jj_iload C0 1 rfl dL_law_441 ?_
          refine jj_iload C0 0 rfl dL_law_443 ?_
          refine jj_toHw ?_
          refine jj_callSWi C0 (cells' := (cells + 7)) (slots' := (slots + 78)) (jj_weaki (fun A U H h => h.1) (cw_L_contract_0 hl (k := x1) (y := sk9) (ex := ex9) (am := am9) (EE := GG ++ wL ka cI cJ td pr up dn mo sh co 0 (va_up K 0 x1) (va_up St 0 sk9) (va_up Ex 0 ex9) (va_up Am 0 am9) Ov Bj Aj BL AL He Cj dv Ca sd Cz) (by omega) (by omega) (by omega) (by omega) htd ⟨(by have := hQn 0 (Nat.le_refl _); have := hQ0 0; omega), (by have := hQn 0 (Nat.le_refl _); have := hQ0 0; omega), (hQn 0 (Nat.le_refl _)).1, (hQn 0 (Nat.le_refl _)).2, fun j hj => hHz _ (by omega), fun j hj => hCz _ (by omega)⟩)) (vx_cwSW 5 hw (lw_gW hU_350 hU_351 hU_42 hU_352) rfl rfl rfl (by decide +kernel) ⟨Nat.le_of_ble_eq_true rfl, Nat.le_of_ble_eq_true rfl⟩) rfl rfl (Nat.le_of_ble_eq_true rfl) ⟨by show cells + 7 ≤ 600104; omega, by show slots + 78 ≤ 7301314; omega⟩ rfl rfl dL_law_445 ?_
          intro u hu
          obtain ⟨q1, q2, q3, q0⟩ := u
          show jj_W _ _ _ _ _ _ _ _ _ _ _ _ _ _ _ _ _ 448 _ [.int (iI 0)] (wH ha (va_up cA 0 q1) (va_up hA 0 q2) (va_up nA 0 q3) q0 cI cJ cZ td pr up dn dv rw sd (mc + 1) (0 + 1) mo sh co Ca Cz (va_up K 0 x1) (va_up St 0 sk9) (va_up Ex 0 ex9) (va_up Am 0 am9) Bi As BL AL He Co ++ ((q0, .inl (cO, 10, .inr (.inr (.inr (.inr (va_up (fun _ => none) 0 (some q1))))))) :: (GG ++ wL ka cI cJ td pr up dn mo sh co 0 (va_up K 0 x1) (va_up St 0 sk9) (va_up Ex 0 ex9) (va_up Am 0 am9) Ov Bj Aj BL AL He Cj dv Ca sd Cz)))
          refine jj_ws (ws' := wH ha (va_up cA 0 q1) (va_up hA 0 q2) (va_up nA 0 q3) q0 cI cJ cZ td pr up dn dv rw sd (mc + 1) (0 + 1) mo sh co Ca Cz (va_up K 0 x1) (va_up St 0 sk9) (va_up Ex 0 ex9) (va_up Am 0 am9) Bi As BL AL He Co ++ (((q0, .inl (cO, 10, .inr (.inr (.inr (.inr (va_up (fun _ => none) 0 (some q1))))))) :: GG) ++ wL ka cI cJ td pr up dn mo sh co 0 (va_up K 0 x1) (va_up St 0 sk9) (va_up Ex 0 ex9) (va_up Am 0 am9) Ov Bj Aj BL AL He Cj dv Ca sd Cz)) rfl ?_
          refine jj_aload C0 15 rfl dL_law_448 ?_
          refine jj_bipush C0 dL_law_450 (by decide) ?_
          refine jj_toLw ?_
          refine jj_iald C0 (q0 := 4) (t0 := 0) (f := (f_lg td pr up dn mo sh co 0)) (rfl) rfl (k := 7) (by omega) (by omega) (by decide) dL_law_452 ?_
          refine jj_topi (b := 0) (rfl) ?_
          refine jj_topi (b := 0) (rfl) ?_
          refine jj_icmpN C0 dL_law_453 (tgt := 460) (by decide) ?_
          refine jj_iconst C0 dL_law_456 ?_
          refine jj_goto C0 (tgt := 461) dL_law_457 (by decide) ?_
          refine jj_istore C0 (lv' := [(17, .int (iI 1)), (22, .int (iI am9)), (21, .int (iI ex9)), (20, .int (iI sk9)), (19, .int (iI x1)), (18, .int (iI (-1))), (16, .int (iI io)), (14, .long (lI (f_W up dn dv td 0 K St Ex Am He Ca sh pr))), (13, .int (iI (w9 : Int))), (12, .int (iI (c : Int))), (11, .int (iI u9)), (10, .int (iI v9)), (9, .int (iI (t : Int))), (8, .ref (ka 6)), (7, .ref (ka 5)), (6, .ref (ka 4)), (5, .ref (ka 3)), (4, .ref (ka 2)), (3, .ref (ka 1)), (2, .ref (ka 0)), (1, .ref (ha 0)), (0, .ref b)]) (by decide) rfl dL_law_461 ?_
          refine jj_aload C0 15 rfl dL_law_463 ?_
          refine jj_bipush C0 dL_law_465 (by decide) ?_
          refine jj_dup2_11 C0 dL_law_467 rfl rfl ?_
          refine jj_iald C0 (q0 := 4) (t0 := 0) (f := (f_lg td pr up dn mo sh co 0)) (rfl) rfl (k := 7) (by omega) (by omega) (by decide) dL_law_468 ?_
          refine jj_topi (b := 0) (rfl) ?_
          refine jj_iconst C0 dL_law_469 ?_
          refine jj_iadd C0 dL_law_470 ?_
          refine jj_topi (b := (((0 + 1) : Nat) : Int)) (by omega) ?_
          refine jj_iast C0 (q0 := 4) (t0 := 0) (f := (f_lg td pr up dn mo sh co 0)) (rfl) rfl (k := 7) (by omega) (by omega) (by decide) (ws' := wL ka cI cJ td pr up dn mo sh co (0 + 1) (va_up K 0 x1) (va_up St 0 sk9) (va_up Ex 0 ex9) (va_up Am 0 am9) Ov Bj Aj BL AL He Cj dv Ca sd Cz ++ (wH ha (va_up cA 0 q1) (va_up hA 0 q2) (va_up nA 0 q3) q0 cI cJ cZ td pr up dn dv rw sd (mc + 1) (0 + 1) mo sh co Ca Cz (va_up K 0 x1) (va_up St 0 sk9) (va_up Ex 0 ex9) (va_up Am 0 am9) Bi As BL AL He Co ++ ((q0, .inl (cO, 10, .inr (.inr (.inr (.inr (va_up (fun _ => none) 0 (some q1))))))) :: GG))) (wL_n) dL_law_471 ?_
          refine jj_goto C0 (tgt := 2039) dL_law_472 (by decide) ?_
          refine jj_toHw ?_
          refine jj_lv [5, 0, 7, 10, 12, 13, 14, 15, 16, 17, 18, 19, 20, 21] rfl ?_
          exact kK (va_up cA 0 q1) (va_up hA 0 q2) (va_up nA 0 q3) q0 rw (mc + 1) ((q0, .inl (cO, 10, .inr (.inr (.inr (.inr (va_up (fun _ => none) 0 (some q1))))))) :: GG) td pr up dn dv sd (0 + 1) mo sh co Ca Cz Cz (va_up K 0 x1) (va_up St 0 sk9) (va_up Ex 0 ex9) (va_up Am 0 am9) Ov Bi As Bj Aj BL AL He Co Cj (f_W up dn dv td 0 K St Ex Am He Ca sh pr) (-1) _ _ (f_IV_contract (n := 0) hV (by omega) (by omega) (by omega) (by omega) (by omega)) (⟨by omega, htd5, f_up_n (n := 0) (P := fun _ z => z ≤ (td : Int) + 5) hex5 (by omega), f_up_n (n := 0) (P := fun _ z => -(100 + 202 * ((t + 1 : Nat) : Int)) ≤ z - pr ∧ z - pr ≤ 100 + 202 * ((t + 1 : Nat) : Int)) (fun c hc => by have := hSp c hc; omega) (by omega), hdv9, hBA, by omega⟩) (hcc) (f_LG_1) (Or.inl ⟨rfl, rfl⟩) (by omega) (by omega)
        intro j435
        refine jj_if_eq C0 (by omega) dL_law_427 (tgt := 434) (by decide) (fun c_4 => ?_) (fun c_4 => ?_)
        · refine jj_iconst C0 dL_law_434 ?_
          refine jj_topi (b := am9) (by omega) ?_
          exact j435 () trivial
        · refine jj_iconst C0 dL_law_430 ?_
          refine jj_goto C0 (tgt := 435) dL_law_431 (by decide) ?_
          refine jj_topi (b := am9) (by omega) ?_
          exact j435 () trivial
      · refine jj_goto C0 (tgt := 2039) dL_law_380 (by decide) ?_
        refine jj_toHw ?_
        refine jj_lv [4, 5, 7, 10, 12, 13, 14, 15, 16, 17, 18, 19, 20, 21] rfl ?_
        exact kK cA hA nA es rw mc GG td pr up dn dv sd 0 mo sh co Ca Cz Cz K St Ex Am Ov Bi As Bj Aj BL AL He Co Cj (f_W up dn dv td 0 K St Ex Am He Ca sh pr) (-1) _ _ (f_IV_k hV) (f_JV_t hW9) (hcc) (hG) (Or.inl ⟨rfl, rfl⟩) (by omega) (by omega)
  intro j365
  refine jj_iload C0 9 rfl dL_law_351 ?_
  refine jj_sipush C0 dL_law_353 (by decide) ?_
  refine jj_iandX C0 dL_law_356 ?_
  have hR356 := f_an_R u9 512
  refine jj_if_ne C0 (by omega) dL_law_357 (tgt := 364) (by decide) (fun c_5 => ?_) (fun c_5 => ?_)
  · refine jj_iconst C0 dL_law_364 ?_
    exact j365 0 (by omega)
  · refine jj_iconst C0 dL_law_360 ?_
    refine jj_goto C0 (tgt := 365) dL_law_361 (by decide) ?_
    exact j365 1 (by omega)
end P6
