/-- the law's notices are the class's, where a contract isn't over -/
def f_JC (Ov Co Cj : Nat → Int) : Prop := (∀ j, 0 ≤ Cj j ∧ Cj j ≤ 1) ∧ ∀ c i, i < 7 → Ov c = 0 → Cj (7 * c + i) = Co (7 * c + i)
theorem f_JV_t {t td n : Nat} {pr : Int} {dv : Nat → Int} {sh : Int} {St Ex Bj Aj : Nat → Int} (h : f_JV t td n pr dv sh St Ex Bj Aj) : f_JV (t + 1) td n pr dv sh St Ex Bj Aj := ⟨h.1, h.2.1, h.2.2.1, fun c hc => by have := h.2.2.2.1 c hc; omega, h.2.2.2.2.1, h.2.2.2.2.2.1, by have := h.2.2.2.2.2.2; omega⟩
/-- what is known all along -/
def f_C9 (p : Program) (l : Launch) (s : State) (m : MethodId) (args : Array Value) (meth : Method) (c9 : Code) (dC : Nat → ClassId) (dI : Nat → Nat → Nat) (A : Nat → Prop) (cI cJ cZ cO : ClassId) (es mi : Nat) (sa : Nat → Nat) (b L : Nat) (xs : Nat → Int32) : Prop := jj_C p s m args meth c9 (dC, dI) vwCl A 46 cL_law "StrikehallLaw" lw_U [(cI, .int), (cJ, .long), (cZ, .boolean), (cO, .object "java/lang/Object")] (EVS es mi sa b L xs) ∧ l.stackTraces = false ∧ L ≤ 2560
/-- what is left to do behind a turn's call -/
def f_K9 (p : Program) (l : Launch) (e : Env) (s : State) (m : MethodId) (args : Array Value) (below : List Frame) (meth : Method) (c9 : Code) (dC : Nat → ClassId) (dI : Nat → Nat → Nat) (A : Nat → Prop) (Q : State → Prop) (ha ka : Nat → Nat) (cI cJ cZ cO : ClassId) (es b k9 t : Nat) (u9 : Int) (cells0 slots0 : Nat) : Prop := ∀ (cA hA nA : Nat → Nat) (ed : Nat) (rw : Nat → Int) (mc : Int) (GG : va_W) (td : Nat) (pr up dn : Int) (dv : Nat → Int) (sd : Int) (n : Nat) (mo sh co : Int) (Ca Cz CzL K St Ex Am Ov Bi As Bj Aj BL AL He Co Cj : Nat → Int) (hd by9 : Int) (cells slots : Nat), f_IV (k9 + 1) td n pr up dn dv sd mo sh Ca K St Ex Am Ov Bi As Bj Aj BL AL He Co → f_JV (t + 1) td n pr dv sh St Ex Bj Aj → f_JC Ov Co Cj → f_LG cO es n ed cA GG → ((by9 = -1 ∧ CzL = Cz) ∨ ∃ j : Nat, j ≤ 5 ∧ by9 = (j : Int) ∧ Cz = va_up CzL j (CzL j + ((f_W up dn dv td n K St Ex Am He Ca sh pr) - hd))) → cells ≤ cells0 + 30 → slots ≤ slots0 + 1000 → jj_W p l e room_1 s m args below meth c9 (dC, dI) vwCl A 46 cells slots Q 2039 [(18, .int (iI by9)), (17, .int (iI 1)), (14, .long (lI hd)), (11, .int (iI u9)), (9, .int (iI (t : Int))), (8, .ref (ka 6)), (7, .ref (ka 5)), (6, .ref (ka 4)), (5, .ref (ka 3)), (4, .ref (ka 2)), (3, .ref (ka 1)), (2, .ref (ka 0)), (1, .ref (ha 0)), (0, .ref b)] [] (wH ha cA hA nA ed cI cJ cZ td pr up dn dv rw sd mc n mo sh co Ca Cz K St Ex Am Bi As BL AL He Co ++ (GG ++ wL ka cI cJ td pr up dn mo sh co n K St Ex Am Ov Bj Aj BL AL He Cj dv Ca sd CzL))
theorem f_worst_bd {w : Int → Int} {now pr m B : Int} (hB : 0 ≤ B) (hpr : 0 ≤ pr ∧ pr ≤ 20000) (hm : 0 ≤ m ∧ m ≤ 7) (hn : -B ≤ now ∧ now ≤ B) (h : ∀ z, -30000 ≤ z ∧ z ≤ 30000 → -B ≤ w z ∧ w z ≤ B) : ∀ i : Nat, (i : Int) ≤ 2 * m + 1 → 0 ≤ f_worst w now pr m i ∧ f_worst w now pr m i ≤ 2 * B
  | 0, _ => by simp only [f_worst]; omega
  | i + 1, hi => by
    have h1 := f_worst_bd hB hpr hm hn h i (by omega)
    have h2 := h (pr + 10 * (-m + (i : Int))) (by omega)
    simp only [f_worst]
    omega
section P5
variable {p : Program} {l : Launch} {e : Env} {s : State} {m : MethodId} {args : Array Value} {below : List Frame} {meth : Method} {c9 : Code} {dC : Nat → ClassId} {dI : Nat → Nat → Nat} {A : Nat → Prop} {Q : State → Prop} {ha ka : Nat → Nat} {cI cJ cZ cO : ClassId} {es mi b L : Nat} {sa : Nat → Nat} {xs : Nat → Int32} {k9 t : Nat} {u9 v9 io : Int} {c w9 cells slots : Nat} {cA hA nA : Nat → Nat} {ed : Nat} {rw : Nat → Int} {mc : Int} {GG : va_W} {td : Nat} {pr up dn : Int} {dv : Nat → Int} {sd : Int} {n : Nat} {mo sh co : Int} {Ca Cz CzL K St Ex Am Ov Bi As Bj Aj BL AL He Co Cj : Nat → Int}
set_option maxHeartbeats 4000000 in
set_option maxRecDepth 100000 in
theorem lt_74 (hC9 : f_C9 p l s m args meth c9 dC dI A cI cJ cZ cO es mi sa b L xs) (hcs : cells + 300 ≤ 600104 ∧ slots + 9000 ≤ 7301314) (hk9 : k9 ≤ 90) (ht9 : t ≤ 89) (hI : f_IV k9 td n pr up dn dv sd mo sh Ca K St Ex Am Ov Bi As Bj Aj BL AL He Co) (hJ : f_JV (t + 1) td n pr dv sh St Ex Bj Aj) (hG : f_LG cO es n ed cA GG) (kE : ∀ (r9 : Nat → Int) (ce sl : Nat), ce ≤ cells + 210 → sl ≤ slots + 6800 → jj_W p l e room_1 s m args below meth c9 (dC, dI) vwCl A 46 ce sl Q 2237 [(9, .int (iI (t : Int))), (8, .ref (ka 6)), (7, .ref (ka 5)), (6, .ref (ka 4)), (5, .ref (ka 3)), (4, .ref (ka 2)), (3, .ref (ka 1)), (2, .ref (ka 0)), (1, .ref (ha 0)), (0, .ref b)] [] (wH ha cA hA nA ed cI cJ cZ td pr up dn dv r9 sd mc n mo sh co Ca Cz K St Ex Am Bi As BL AL He Co ++ (GG ++ wL ka cI cJ td pr up dn mo sh co n K St Ex Am Ov Bj Aj BL AL He Cj dv Ca sd Cz))) : jj_W p l e room_1 s m args below meth c9 (dC, dI) vwCl A 46 cells slots Q 2074 [(17, .int (iI 1)), (11, .int (iI u9)), (9, .int (iI (t : Int))), (8, .ref (ka 6)), (7, .ref (ka 5)), (6, .ref (ka 4)), (5, .ref (ka 3)), (4, .ref (ka 2)), (3, .ref (ka 1)), (2, .ref (ka 0)), (1, .ref (ha 0)), (0, .ref b)] [] (wH ha cA hA nA ed cI cJ cZ td pr up dn dv rw sd mc n mo sh co Ca Cz K St Ex Am Bi As BL AL He Co ++ (GG ++ wL ka cI cJ td pr up dn mo sh co n K St Ex Am Ov Bj Aj BL AL He Cj dv Ca sd Cz)) := by
  obtain ⟨C0, hl, hL⟩ := hC9
  have hw := C0.2.2.2.2.1
  have hEV := hEVS es mi sa b L xs
  have hED0 : 0 < n → f_ED cA n ed cO GG := fun h9 => by have h8 := f_LG_ED (M := []) hG h9; rwa [List.append_nil] at h8
  have hV := hI
  obtain ⟨⟨htd, hn, hpr, hup, hdn, hdv, hsd, hmo, hsh⟩, ⟨hK, hSt, hEx, hAm, hOv, hovs, hexs, hovn⟩, hQ9, ⟨hHe, hsums, hHz⟩, ⟨hCo, hCz⟩, hCa⟩ := hI
  have hQ := hQ9
  obtain ⟨hBi, hAs, hBj, hAj, hBL, hAL, hQt, hQ0, hQn, hQo⟩ := hQ9
  have hW9 := hJ
  obtain ⟨hn6, htd5, hex5, hSp, hdv9, hBA, hsh9⟩ := hJ
  have hexs1 : ∀ c, c < n → Ex c ≤ (td : Int) + 10 := fun c hc => (hexs c hc).1
  have hHe9 : ∀ j, -999000 ≤ He j ∧ He j ≤ 999000 := fun j => by have := hHe j; omega
  have hHe6 : ∀ j, -1000000 ≤ He j ∧ He j ≤ 1000000 := fun j => by have := hHe j; omega
  have hCa9 : ∀ j, -100000000000000000 ≤ Ca j ∧ Ca j ≤ 100000000000000000 := fun j => by have := hCa j; omega
  have hov5 : ∀ c, c < n → (Ov c = 1 ∧ Ex c < (td : Int)) ∨ (Ov c = 0 ∧ (td : Int) ≤ Ex c ∧ Ex c ≤ (td : Int) + 5) := fun c hc => by have h1 := hovs c hc; have h2 := hex5 c hc; omega
  have hovw : ∀ c, c < n → He (7 * c + 6) = 0 ∨ (Ov c = 1 ∧ Ex c < (td : Int)) ∨ (Ov c = 0 ∧ (td : Int) ≤ Ex c ∧ Ex c ≤ (td : Int) + 5) := fun c hc => Or.inr (hov5 c hc)
  have hWB : ∀ z, -30000 ≤ z ∧ z ≤ 30000 → -120000000000000000 ≤ f_W up dn dv td n K St Ex Am He Ca sh z ∧ f_W up dn dv td n K St Ex Am He Ca sh z ≤ 120000000000000000 := fun z hz => f_W_bd hup hdn hdv hSt hz hHe6 (hCa9 6) hsh hexs hn
  have hk91 : k9 ≤ 100 := by omega
  refine jj_iload C0 0 rfl dL_law_2074 ?_
  refine jj_if_eq C0 (by omega) dL_law_2076 (tgt := 2098) (by decide) (fun c_1 => absurd c_1 (by omega)) (fun c_1 => ?_)
  refine jj_aload_n C0 10 rfl dL_law_2079 ?_
  refine jj_iload C0 2 rfl dL_law_2080 ?_
  refine jj_aload_n C0 9 rfl dL_law_2082 ?_
  refine jj_aload_n C0 8 rfl dL_law_2083 ?_
  refine jj_aload C0 6 rfl dL_law_2084 ?_
  refine jj_aload C0 5 rfl dL_law_2086 ?_
  refine jj_aload C0 4 rfl dL_law_2088 ?_
  refine jj_aload C0 3 rfl dL_law_2090 ?_
  refine jj_callSi C0 (cells' := (cells + 18)) (slots' := (slots + 576)) (cc_L_isTold  (t := t) hl hk91 ht9 hV hW9 hED0) (cwS 8 hw (lw_gS hU_734 hU_735 hU_42 hU_736) rfl rfl rfl (by decide +kernel) ⟨Nat.le_of_ble_eq_true rfl, Nat.le_of_ble_eq_true rfl⟩) rfl rfl (Nat.le_of_ble_eq_true rfl) ⟨by show cells + 18 ≤ 600104; omega, by show slots + 576 ≤ 7301314; omega⟩ rfl rfl dL_law_2092 ?_
  intro r8_2 hu
  show jj_W _ _ _ _ _ _ _ _ _ _ _ _ _ _ _ _ _ 2095 _ [.int (iI 1)] (wH ha cA hA nA ed cI cJ cZ td pr up dn dv r8_2 sd mc n mo sh co Ca Cz K St Ex Am Bi As BL AL He Co ++ (GG ++ wL ka cI cJ td pr up dn mo sh co n K St Ex Am Ov Bj Aj BL AL He Cj dv Ca sd Cz))
  refine jj_if_ne C0 (by omega) dL_law_2095 (tgt := 2100) (by decide) (fun c_3 => ?_) (fun c_3 => absurd c_3 (by omega))
  refine jj_iload C0 2 rfl dL_law_2100 ?_
  refine jj_bipush C0 dL_law_2102 (by decide) ?_
  refine jj_irem C0 (by omega) (by omega) (by omega) (by omega) dL_law_2104 ?_
  refine jj_bipush C0 dL_law_2105 (by decide) ?_
  refine jj_icmp_eq C0 (by omega) (by omega) dL_law_2107 (tgt := 2113) (by decide) (fun c_4 => ?_) (fun c_4 => ?_)
  · refine jj_iload C0 1 rfl dL_law_2113 ?_
    refine jj_iconst C0 dL_law_2115 ?_
    refine jj_ishrX C0 dL_law_2116 ?_
    have hR2116 := f_sr_R u9 3
    refine jj_bipush C0 dL_law_2117 (by decide) ?_
    refine jj_callSi C0 (cells' := (cells + 18)) (slots' := (slots + 576)) (cc_L_low hEV (v := (f_sr u9 3)) (m := 8) (by omega)) (cwS 2 hw (lw_gS hU_167 hU_168 hU_42 hU_169) rfl rfl rfl (by decide +kernel) ⟨Nat.le_of_ble_eq_true rfl, Nat.le_of_ble_eq_true rfl⟩) rfl rfl (Nat.le_of_ble_eq_true rfl) ⟨by show (cells + 18) + 0 ≤ 600104; omega, by show (slots + 576) + 0 ≤ 7301314; omega⟩ rfl rfl dL_law_2119 ?_
    intro _ hu
    show jj_W _ _ _ _ _ _ _ _ _ _ _ _ _ _ _ _ _ 2122 _ [.int (iI (f_lo (f_sr u9 3) 8))] (wH ha cA hA nA ed cI cJ cZ td pr up dn dv r8_2 sd mc n mo sh co Ca Cz K St Ex Am Bi As BL AL He Co ++ (GG ++ wL ka cI cJ td pr up dn mo sh co n K St Ex Am Ov Bj Aj BL AL He Cj dv Ca sd Cz))
    have hmo9 := f_lo_bd (f_sr u9 3) (k := 8) (by omega)
    obtain ⟨m9, hm9⟩ : ∃ z : Nat, (z : Int) = (f_lo (f_sr u9 3) 8) := ⟨((f_lo (f_sr u9 3) 8)).toNat, by omega⟩
    refine jj_topi (b := (m9 : Int)) (hm9.symm) ?_
    refine jj_istore C0 (lv' := [(19, .int (iI (m9 : Int))), (17, .int (iI 1)), (11, .int (iI u9)), (9, .int (iI (t : Int))), (8, .ref (ka 6)), (7, .ref (ka 5)), (6, .ref (ka 4)), (5, .ref (ka 3)), (4, .ref (ka 2)), (3, .ref (ka 1)), (2, .ref (ka 0)), (1, .ref (ha 0)), (0, .ref b)]) (by decide) rfl dL_law_2122 ?_
    refine jj_aload C0 6 rfl dL_law_2124 ?_
    refine jj_iconst C0 dL_law_2126 ?_
    refine jj_toLw ?_
    refine jj_iald C0 (q0 := 4) (t0 := 0) (f := (f_lg td pr up dn mo sh co n)) (rfl) rfl (k := 1) (by omega) (by omega) (by decide) dL_law_2127 ?_
    refine jj_topi (b := pr) (rfl) ?_
    refine jj_aload_n C0 10 rfl dL_law_2128 ?_
    refine jj_aload_n C0 9 rfl dL_law_2129 ?_
    refine jj_aload C0 6 rfl dL_law_2130 ?_
    refine jj_aload C0 5 rfl dL_law_2132 ?_
    refine jj_aload C0 4 rfl dL_law_2134 ?_
    refine jj_callSl C0 (cells' := ((cells + 18) + 6)) (slots' := ((slots + 576) + 192)) (cc_L_worth hEV (fr := pr) hovw hn6 htd5 (by omega) hup hdn hdv hK hSt hEx hAm hOv hHe6 hsh) (cwS 6 hw (lw_gS hU_722 hU_723 hU_42 hU_724) rfl rfl rfl (by decide +kernel) ⟨Nat.le_of_ble_eq_true rfl, Nat.le_of_ble_eq_true rfl⟩) rfl rfl (Nat.le_of_ble_eq_true rfl) ⟨by show (cells + 18) + 6 ≤ 600104; omega, by show (slots + 576) + 192 ≤ 7301314; omega⟩ rfl rfl dL_law_2136 ?_
    intro _ hu
    show jj_W _ _ _ _ _ _ _ _ _ _ _ _ _ _ _ _ _ 2139 _ [.long (lI (f_W up dn dv td n K St Ex Am He Ca sh pr))] (wL ka cI cJ td pr up dn mo sh co n K St Ex Am Ov Bj Aj BL AL He Cj dv Ca sd Cz ++ (wH ha cA hA nA ed cI cJ cZ td pr up dn dv r8_2 sd mc n mo sh co Ca Cz K St Ex Am Bi As BL AL He Co ++ GG))
    refine jj_lstore C0 (lv' := [(20, .long (lI (f_W up dn dv td n K St Ex Am He Ca sh pr))), (19, .int (iI (m9 : Int))), (17, .int (iI 1)), (11, .int (iI u9)), (9, .int (iI (t : Int))), (8, .ref (ka 6)), (7, .ref (ka 5)), (6, .ref (ka 4)), (5, .ref (ka 3)), (4, .ref (ka 2)), (3, .ref (ka 1)), (2, .ref (ka 0)), (1, .ref (ha 0)), (0, .ref b)]) (by decide) rfl dL_law_2139 ?_
    refine jj_lconst C0 (z := 0) (by decide) dL_law_2141 ?_
    refine jj_topl (b := (f_worst (fun q8 => f_W up dn dv td n K St Ex Am He Ca sh q8) (f_W up dn dv td n K St Ex Am He Ca sh pr) pr (m9 : Int) 0)) (rfl) ?_
    refine jj_lstore C0 (lv' := [(22, .long (lI (f_worst (fun q8 => f_W up dn dv td n K St Ex Am He Ca sh q8) (f_W up dn dv td n K St Ex Am He Ca sh pr) pr (m9 : Int) 0))), (20, .long (lI (f_W up dn dv td n K St Ex Am He Ca sh pr))), (19, .int (iI (m9 : Int))), (17, .int (iI 1)), (11, .int (iI u9)), (9, .int (iI (t : Int))), (8, .ref (ka 6)), (7, .ref (ka 5)), (6, .ref (ka 4)), (5, .ref (ka 3)), (4, .ref (ka 2)), (3, .ref (ka 1)), (2, .ref (ka 0)), (1, .ref (ha 0)), (0, .ref b)]) (by decide) rfl dL_law_2142 ?_
    refine jj_iload C0 2 rfl dL_law_2144 ?_
    refine jj_ineg C0 dL_law_2146 ?_
    refine jj_topi (b := (-(m9 : Int) + ((0 : Nat) : Int))) (by omega) ?_
    refine jj_istore C0 (lv' := [(24, .int (iI (-(m9 : Int) + ((0 : Nat) : Int)))), (22, .long (lI (f_worst (fun q8 => f_W up dn dv td n K St Ex Am He Ca sh q8) (f_W up dn dv td n K St Ex Am He Ca sh pr) pr (m9 : Int) 0))), (20, .long (lI (f_W up dn dv td n K St Ex Am He Ca sh pr))), (19, .int (iI (m9 : Int))), (17, .int (iI 1)), (11, .int (iI u9)), (9, .int (iI (t : Int))), (8, .ref (ka 6)), (7, .ref (ka 5)), (6, .ref (ka 4)), (5, .ref (ka 3)), (4, .ref (ka 2)), (3, .ref (ka 1)), (2, .ref (ka 0)), (1, .ref (ha 0)), (0, .ref b)]) (by decide) rfl dL_law_2147 ?_
    refine jj_toHw ?_
    refine jj_lv [0, 1, 2, 3, 6, 7, 8, 9, 10, 11, 12, 13, 14, 15] rfl ?_
    refine jj_wd (cells' := (cells + 24 + 12 * 0)) (slots' := (slots + 768 + 384 * 0)) (by omega) (by omega) ?_
    refine jj_indC (X := Nat) (fun q9 => match q9 with | i => (2 * m9 + 2 - i : Nat)) (fun q9 => match q9 with | i => (cells + 24 + 12 * i)) (fun q9 => match q9 with | i => (slots + 768 + 384 * i)) (fun q9 => match q9 with | i => [(24, .int (iI (-(m9 : Int) + (i : Int)))), (22, .long (lI (f_worst (fun q8 => f_W up dn dv td n K St Ex Am He Ca sh q8) (f_W up dn dv td n K St Ex Am He Ca sh pr) pr (m9 : Int) i))), (20, .long (lI (f_W up dn dv td n K St Ex Am He Ca sh pr))), (19, .int (iI (m9 : Int))), (9, .int (iI (t : Int))), (8, .ref (ka 6)), (7, .ref (ka 5)), (6, .ref (ka 4)), (5, .ref (ka 3)), (4, .ref (ka 2)), (3, .ref (ka 1)), (2, .ref (ka 0)), (1, .ref (ha 0)), (0, .ref b)]) (fun q9 => match q9 with | i => []) (fun q9 => match q9 with | i => wH ha cA hA nA ed cI cJ cZ td pr up dn dv r8_2 sd mc n mo sh co Ca Cz K St Ex Am Bi As BL AL He Co ++ (GG ++ wL ka cI cJ td pr up dn mo sh co n K St Ex Am Ov Bj Aj BL AL He Cj dv Ca sd Cz)) (fun q9 => match q9 with | i => i ≤ 2 * m9 + 1) ?_ 0 (Nat.zero_le _)
    intro q9 hq9 ih2149
    obtain ⟨i, rfl⟩ : ∃ z, z = q9 := ⟨_, rfl⟩
    have hi9 : i ≤ 2 * m9 + 1 := hq9
    have hwb := f_worst_bd (w := (fun q8 => f_W up dn dv td n K St Ex Am He Ca sh q8)) (now := (f_W up dn dv td n K St Ex Am He Ca sh pr)) (pr := pr) (m := (m9 : Int)) (B := 120000000000000000) (by omega) hpr (by omega) (hWB pr (by omega)) hWB i (by omega)
    show jj_W _ _ _ _ _ _ _ _ _ _ _ _ _ _ ((cells + 24 + 12 * i)) ((slots + 768 + 384 * i)) _ 2149 [(24, .int (iI (-(m9 : Int) + (i : Int)))), (22, .long (lI (f_worst (fun q8 => f_W up dn dv td n K St Ex Am He Ca sh q8) (f_W up dn dv td n K St Ex Am He Ca sh pr) pr (m9 : Int) i))), (20, .long (lI (f_W up dn dv td n K St Ex Am He Ca sh pr))), (19, .int (iI (m9 : Int))), (9, .int (iI (t : Int))), (8, .ref (ka 6)), (7, .ref (ka 5)), (6, .ref (ka 4)), (5, .ref (ka 3)), (4, .ref (ka 2)), (3, .ref (ka 1)), (2, .ref (ka 0)), (1, .ref (ha 0)), (0, .ref b)] [] (wH ha cA hA nA ed cI cJ cZ td pr up dn dv r8_2 sd mc n mo sh co Ca Cz K St Ex Am Bi As BL AL He Co ++ (GG ++ wL ka cI cJ td pr up dn mo sh co n K St Ex Am Ov Bj Aj BL AL He Cj dv Ca sd Cz))
    refine jj_iload C0 0 rfl dL_law_2149 ?_
    refine jj_iload C0 3 rfl dL_law_2151 ?_
    refine jj_icmp_gt C0 (by omega) (by omega) dL_law_2153 (tgt := 2223) (by decide) (fun c_5 => ?_) (fun c_5 => ?_)
    · refine jj_lve (lv' := [(24, .int (iI (-(m9 : Int) + (i : Int)))), (22, .long (lI (f_worst (fun q8 => f_W up dn dv td n K St Ex Am He Ca sh q8) (f_W up dn dv td n K St Ex Am He Ca sh pr) pr (m9 : Int) (2 * m9 + 1)))), (20, .long (lI (f_W up dn dv td n K St Ex Am He Ca sh pr))), (19, .int (iI (m9 : Int))), (9, .int (iI (t : Int))), (8, .ref (ka 6)), (7, .ref (ka 5)), (6, .ref (ka 4)), (5, .ref (ka 3)), (4, .ref (ka 2)), (3, .ref (ka 1)), (2, .ref (ka 0)), (1, .ref (ha 0)), (0, .ref b)]) (by rw [show i = 2 * m9 + 1 by omega]) ?_
      refine jj_aload_n C0 12 rfl dL_law_2223 ?_
      refine jj_iload C0 3 rfl dL_law_2224 ?_
      refine jj_callSWl C0 (cells' := (cells + 24 + 12 * i)) (slots' := (slots + 768 + 384 * i)) (jj_weakl (fun A U H h => h.1.1) (cw_L_worst hl (m := m9) (by omega) hCa9 hpr hexs1 hn htd hup hdn hdv hK hSt hEx hAm hHe6 hsh (fun h9 => f_ED_app (hED0 h9)))) (vx_cwSW 2 hw (lw_gW hU_698 hU_699 hU_42 hU_700) rfl rfl rfl (by decide +kernel) ⟨Nat.le_of_ble_eq_true rfl, Nat.le_of_ble_eq_true rfl⟩) rfl rfl (Nat.le_of_ble_eq_true rfl) ⟨by show (cells + 24 + 12 * i) + 0 ≤ 600104; omega, by show (slots + 768 + 384 * i) + 0 ≤ 7301314; omega⟩ rfl rfl dL_law_2226 ?_
      intro r8_6 hu
      show jj_W _ _ _ _ _ _ _ _ _ _ _ _ _ _ _ _ _ 2229 _ [.long (lI (f_worst (fun q8 => (f_W up dn dv td n K St Ex Am He Ca sh q8)) (f_W up dn dv td n K St Ex Am He Ca sh pr) pr (m9 : Int) (2 * m9 + 1)))] (wH ha cA hA nA ed cI cJ cZ td pr up dn dv r8_6 sd mc n mo sh co Ca Cz K St Ex Am Bi As BL AL He Co ++ (GG ++ wL ka cI cJ td pr up dn mo sh co n K St Ex Am Ov Bj Aj BL AL He Cj dv Ca sd Cz))
      refine jj_lload C0 1 rfl dL_law_2229 ?_
      refine jj_topl (b := (f_worst (fun q8 => (f_W up dn dv td n K St Ex Am He Ca sh q8)) (f_W up dn dv td n K St Ex Am He Ca sh pr) pr (m9 : Int) (2 * m9 + 1))) (rfl) ?_
      refine jj_lcmpS C0 dL_law_2231 dL_law_2232 (tgt := 2237) (by decide) ?_
      refine jj_lv [4, 5, 6, 7, 8, 9, 10, 11, 12, 13] rfl ?_
      exact kE r8_6 _ _ (by omega) (by omega)
    · have hw2 := hWB (pr + (10 * (-(m9 : Int) + (i : Int)))) (by omega)
      have hw3 := hWB pr (by omega)
      refine jj_lload C0 2 rfl dL_law_2156 ?_
      refine jj_aload C0 7 rfl dL_law_2158 ?_
      refine jj_iconst C0 dL_law_2160 ?_
      refine jj_toLw ?_
      refine jj_iald C0 (q0 := 4) (t0 := 0) (f := (f_lg td pr up dn mo sh co n)) (rfl) rfl (k := 1) (by omega) (by omega) (by decide) dL_law_2161 ?_
      refine jj_topi (b := pr) (rfl) ?_
      refine jj_bipush C0 dL_law_2162 (by decide) ?_
      refine jj_iload C0 0 rfl dL_law_2164 ?_
      refine jj_imul C0 dL_law_2166 ?_
      refine jj_iadd C0 dL_law_2167 ?_
      refine jj_aload_n C0 11 rfl dL_law_2168 ?_
      refine jj_aload_n C0 10 rfl dL_law_2169 ?_
      refine jj_aload C0 7 rfl dL_law_2170 ?_
      refine jj_aload C0 6 rfl dL_law_2172 ?_
      refine jj_aload C0 5 rfl dL_law_2174 ?_
      refine jj_callSl C0 (cells' := ((cells + 24 + 12 * i) + 6)) (slots' := ((slots + 768 + 384 * i) + 192)) (cc_L_worth hEV (fr := (pr + (10 * (-(m9 : Int) + (i : Int))))) hovw hn6 htd5 (by omega) hup hdn hdv hK hSt hEx hAm hOv hHe6 hsh) (cwS 6 hw (lw_gS hU_722 hU_723 hU_42 hU_724) rfl rfl rfl (by decide +kernel) ⟨Nat.le_of_ble_eq_true rfl, Nat.le_of_ble_eq_true rfl⟩) rfl rfl (Nat.le_of_ble_eq_true rfl) ⟨by show (cells + 24 + 12 * i) + 6 ≤ 600104; omega, by show (slots + 768 + 384 * i) + 192 ≤ 7301314; omega⟩ rfl rfl dL_law_2176 ?_
      intro _ hu
      show jj_W _ _ _ _ _ _ _ _ _ _ _ _ _ _ _ _ _ 2179 _ [.long (lI (f_W up dn dv td n K St Ex Am He Ca sh (pr + (10 * (-(m9 : Int) + (i : Int)))))), .long (lI (f_W up dn dv td n K St Ex Am He Ca sh pr))] (wL ka cI cJ td pr up dn mo sh co n K St Ex Am Ov Bj Aj BL AL He Cj dv Ca sd Cz ++ (wH ha cA hA nA ed cI cJ cZ td pr up dn dv r8_2 sd mc n mo sh co Ca Cz K St Ex Am Bi As BL AL He Co ++ GG))
      refine jj_lsub C0 dL_law_2179 ?_
      refine jj_lload C0 1 rfl dL_law_2180 ?_
      refine jj_lcmp_le C0 (by omega) (by omega) dL_law_2182 dL_law_2183 (tgt := 2213) (by decide) (fun c_7 => ?_) (fun c_7 => ?_)
      · refine jj_lload C0 1 rfl dL_law_2213 ?_
        refine jj_topl (b := (f_worst (fun q8 => f_W up dn dv td n K St Ex Am He Ca sh q8) (f_W up dn dv td n K St Ex Am He Ca sh pr) pr (m9 : Int) (i + 1))) (by simp only [f_worst]; omega) ?_
        refine jj_lstore C0 (lv' := [(22, .long (lI (f_worst (fun q8 => f_W up dn dv td n K St Ex Am He Ca sh q8) (f_W up dn dv td n K St Ex Am He Ca sh pr) pr (m9 : Int) (i + 1)))), (24, .int (iI (-(m9 : Int) + (i : Int)))), (20, .long (lI (f_W up dn dv td n K St Ex Am He Ca sh pr))), (19, .int (iI (m9 : Int))), (9, .int (iI (t : Int))), (8, .ref (ka 6)), (7, .ref (ka 5)), (6, .ref (ka 4)), (5, .ref (ka 3)), (4, .ref (ka 2)), (3, .ref (ka 1)), (2, .ref (ka 0)), (1, .ref (ha 0)), (0, .ref b)]) (by decide) rfl dL_law_2215 ?_
        refine jj_iinc C0 (z := (-(m9 : Int) + ((i + 1 : Nat) : Int))) (lv' := [(24, .int (iI (-(m9 : Int) + ((i + 1 : Nat) : Int)))), (22, .long (lI (f_worst (fun q8 => f_W up dn dv td n K St Ex Am He Ca sh q8) (f_W up dn dv td n K St Ex Am He Ca sh pr) pr (m9 : Int) (i + 1)))), (20, .long (lI (f_W up dn dv td n K St Ex Am He Ca sh pr))), (19, .int (iI (m9 : Int))), (9, .int (iI (t : Int))), (8, .ref (ka 6)), (7, .ref (ka 5)), (6, .ref (ka 4)), (5, .ref (ka 3)), (4, .ref (ka 2)), (3, .ref (ka 1)), (2, .ref (ka 0)), (1, .ref (ha 0)), (0, .ref b)]) 1 rfl (by omega) (by decide) rfl dL_law_2217 ?_
        refine jj_goto C0 (tgt := 2149) dL_law_2220 (by decide) ?_
        refine jj_toHw ?_
        refine jj_wd (cells' := (cells + 24 + 12 * (i + 1))) (slots' := (slots + 768 + 384 * (i + 1))) (by omega) (by omega) ?_
        exact ih2149 (i + 1) (by omega) (by dsimp only; omega)
      · refine jj_lload C0 2 rfl dL_law_2186 ?_
        refine jj_aload C0 7 rfl dL_law_2188 ?_
        refine jj_iconst C0 dL_law_2190 ?_
        refine jj_iald C0 (q0 := 4) (t0 := 0) (f := (f_lg td pr up dn mo sh co n)) (rfl) rfl (k := 1) (by omega) (by omega) (by decide) dL_law_2191 ?_
        refine jj_topi (b := pr) (rfl) ?_
        refine jj_bipush C0 dL_law_2192 (by decide) ?_
        refine jj_iload C0 0 rfl dL_law_2194 ?_
        refine jj_imul C0 dL_law_2196 ?_
        refine jj_iadd C0 dL_law_2197 ?_
        refine jj_aload_n C0 11 rfl dL_law_2198 ?_
        refine jj_aload_n C0 10 rfl dL_law_2199 ?_
        refine jj_aload C0 7 rfl dL_law_2200 ?_
        refine jj_aload C0 6 rfl dL_law_2202 ?_
        refine jj_aload C0 5 rfl dL_law_2204 ?_
        refine jj_callSl C0 (cells' := (((cells + 24 + 12 * i) + 6) + 6)) (slots' := (((slots + 768 + 384 * i) + 192) + 192)) (cc_L_worth hEV (fr := (pr + (10 * (-(m9 : Int) + (i : Int))))) hovw hn6 htd5 (by omega) hup hdn hdv hK hSt hEx hAm hOv hHe6 hsh) (cwS 6 hw (lw_gS hU_722 hU_723 hU_42 hU_724) rfl rfl rfl (by decide +kernel) ⟨Nat.le_of_ble_eq_true rfl, Nat.le_of_ble_eq_true rfl⟩) rfl rfl (Nat.le_of_ble_eq_true rfl) ⟨by show ((cells + 24 + 12 * i) + 6) + 6 ≤ 600104; omega, by show ((slots + 768 + 384 * i) + 192) + 192 ≤ 7301314; omega⟩ rfl rfl dL_law_2206 ?_
        intro _ hu
        show jj_W _ _ _ _ _ _ _ _ _ _ _ _ _ _ _ _ _ 2209 _ [.long (lI (f_W up dn dv td n K St Ex Am He Ca sh (pr + (10 * (-(m9 : Int) + (i : Int)))))), .long (lI (f_W up dn dv td n K St Ex Am He Ca sh pr))] (wL ka cI cJ td pr up dn mo sh co n K St Ex Am Ov Bj Aj BL AL He Cj dv Ca sd Cz ++ (wH ha cA hA nA ed cI cJ cZ td pr up dn dv r8_2 sd mc n mo sh co Ca Cz K St Ex Am Bi As BL AL He Co ++ GG))
        refine jj_lsub C0 dL_law_2209 ?_
        refine jj_goto C0 (tgt := 2215) dL_law_2210 (by decide) ?_
        refine jj_topl (b := (f_worst (fun q8 => f_W up dn dv td n K St Ex Am He Ca sh q8) (f_W up dn dv td n K St Ex Am He Ca sh pr) pr (m9 : Int) (i + 1))) (by simp only [f_worst]; omega) ?_
        refine jj_lstore C0 (lv' := [(22, .long (lI (f_worst (fun q8 => f_W up dn dv td n K St Ex Am He Ca sh q8) (f_W up dn dv td n K St Ex Am He Ca sh pr) pr (m9 : Int) (i + 1)))), (24, .int (iI (-(m9 : Int) + (i : Int)))), (20, .long (lI (f_W up dn dv td n K St Ex Am He Ca sh pr))), (19, .int (iI (m9 : Int))), (9, .int (iI (t : Int))), (8, .ref (ka 6)), (7, .ref (ka 5)), (6, .ref (ka 4)), (5, .ref (ka 3)), (4, .ref (ka 2)), (3, .ref (ka 1)), (2, .ref (ka 0)), (1, .ref (ha 0)), (0, .ref b)]) (by decide) rfl dL_law_2215 ?_
        refine jj_iinc C0 (z := (-(m9 : Int) + ((i + 1 : Nat) : Int))) (lv' := [(24, .int (iI (-(m9 : Int) + ((i + 1 : Nat) : Int)))), (22, .long (lI (f_worst (fun q8 => f_W up dn dv td n K St Ex Am He Ca sh q8) (f_W up dn dv td n K St Ex Am He Ca sh pr) pr (m9 : Int) (i + 1)))), (20, .long (lI (f_W up dn dv td n K St Ex Am He Ca sh pr))), (19, .int (iI (m9 : Int))), (9, .int (iI (t : Int))), (8, .ref (ka 6)), (7, .ref (ka 5)), (6, .ref (ka 4)), (5, .ref (ka 3)), (4, .ref (ka 2)), (3, .ref (ka 1)), (2, .ref (ka 0)), (1, .ref (ha 0)), (0, .ref b)]) 1 rfl (by omega) (by decide) rfl dL_law_2217 ?_
        refine jj_goto C0 (tgt := 2149) dL_law_2220 (by decide) ?_
        refine jj_toHw ?_
        refine jj_wd (cells' := (cells + 24 + 12 * (i + 1))) (slots' := (slots + 768 + 384 * (i + 1))) (by omega) (by omega) ?_
        exact ih2149 (i + 1) (by omega) (by dsimp only; omega)
  · refine jj_goto C0 (tgt := 2237) dL_law_2110 (by decide) ?_
    refine jj_lv [2, 3, 4, 5, 6, 7, 8, 9, 10, 11] rfl ?_
    exact kE r8_2 _ _ (by omega) (by omega)
set_option maxHeartbeats 4000000 in
set_option maxRecDepth 100000 in
theorem lt_39A (hC9 : f_C9 p l s m args meth c9 dC dI A cI cJ cZ cO es mi sa b L xs) (hcs : cells + 300 ≤ 600104 ∧ slots + 9000 ≤ 7301314) (hk9 : k9 ≤ 90) (ht9 : t ≤ 89) (hI : f_IV k9 td n pr up dn dv sd mo sh Ca K St Ex Am Ov Bi As Bj Aj BL AL He Co) (hJ : f_JV (t + 1) td n pr dv sh St Ex Bj Aj) (hG : f_LG cO es n ed cA GG) {hd : Int} (kF : ∀ (ce sl : Nat), ce ≤ cells + 6 → sl ≤ slots + 192 → jj_W p l e room_1 s m args below meth c9 (dC, dI) vwCl A 46 ce sl Q 2074 [(17, .int (iI 1)), (11, .int (iI u9)), (9, .int (iI (t : Int))), (8, .ref (ka 6)), (7, .ref (ka 5)), (6, .ref (ka 4)), (5, .ref (ka 3)), (4, .ref (ka 2)), (3, .ref (ka 1)), (2, .ref (ka 0)), (1, .ref (ha 0)), (0, .ref b)] [] (wH ha cA hA nA ed cI cJ cZ td pr up dn dv rw sd mc n mo sh co Ca Cz K St Ex Am Bi As BL AL He Co ++ (GG ++ wL ka cI cJ td pr up dn mo sh co n K St Ex Am Ov Bj Aj BL AL He Cj dv Ca sd Cz))) : jj_W p l e room_1 s m args below meth c9 (dC, dI) vwCl A 46 cells slots Q 2039 [(18, .int (iI (-1))), (17, .int (iI 1)), (14, .long (lI hd)), (11, .int (iI u9)), (9, .int (iI (t : Int))), (8, .ref (ka 6)), (7, .ref (ka 5)), (6, .ref (ka 4)), (5, .ref (ka 3)), (4, .ref (ka 2)), (3, .ref (ka 1)), (2, .ref (ka 0)), (1, .ref (ha 0)), (0, .ref b)] [] (wH ha cA hA nA ed cI cJ cZ td pr up dn dv rw sd mc n mo sh co Ca Cz K St Ex Am Bi As BL AL He Co ++ (GG ++ wL ka cI cJ td pr up dn mo sh co n K St Ex Am Ov Bj Aj BL AL He Cj dv Ca sd Cz)) := by
  obtain ⟨C0, hl, hL⟩ := hC9
  have hw := C0.2.2.2.2.1
  have hEV := hEVS es mi sa b L xs
  have hED0 : 0 < n → f_ED cA n ed cO GG := fun h9 => by have h8 := f_LG_ED (M := []) hG h9; rwa [List.append_nil] at h8
  have hV := hI
  obtain ⟨⟨htd, hn, hpr, hup, hdn, hdv, hsd, hmo, hsh⟩, ⟨hK, hSt, hEx, hAm, hOv, hovs, hexs, hovn⟩, hQ9, ⟨hHe, hsums, hHz⟩, ⟨hCo, hCz⟩, hCa⟩ := hI
  have hQ := hQ9
  obtain ⟨hBi, hAs, hBj, hAj, hBL, hAL, hQt, hQ0, hQn, hQo⟩ := hQ9
  have hW9 := hJ
  obtain ⟨hn6, htd5, hex5, hSp, hdv9, hBA, hsh9⟩ := hJ
  have hexs1 : ∀ c, c < n → Ex c ≤ (td : Int) + 10 := fun c hc => (hexs c hc).1
  have hHe9 : ∀ j, -999000 ≤ He j ∧ He j ≤ 999000 := fun j => by have := hHe j; omega
  have hHe6 : ∀ j, -1000000 ≤ He j ∧ He j ≤ 1000000 := fun j => by have := hHe j; omega
  have hCa9 : ∀ j, -100000000000000000 ≤ Ca j ∧ Ca j ≤ 100000000000000000 := fun j => by have := hCa j; omega
  have hov5 : ∀ c, c < n → (Ov c = 1 ∧ Ex c < (td : Int)) ∨ (Ov c = 0 ∧ (td : Int) ≤ Ex c ∧ Ex c ≤ (td : Int) + 5) := fun c hc => by have h1 := hovs c hc; have h2 := hex5 c hc; omega
  have hovw : ∀ c, c < n → He (7 * c + 6) = 0 ∨ (Ov c = 1 ∧ Ex c < (td : Int)) ∨ (Ov c = 0 ∧ (td : Int) ≤ Ex c ∧ Ex c ≤ (td : Int) + 5) := fun c hc => Or.inr (hov5 c hc)
  refine jj_iload C0 0 rfl dL_law_2039 ?_
  refine jj_iconst C0 dL_law_2041 ?_
  refine jj_icmp_eq C0 (by omega) (by omega) dL_law_2042 (tgt := 2074) (by decide) (fun c_1 => ?_) (fun c_1 => absurd c_1 (by omega))
  refine jj_lv [1, 3, 4, 5, 6, 7, 8, 9, 10, 11, 12, 13] rfl ?_
  exact kF _ _ (by omega) (by omega)
set_option maxHeartbeats 4000000 in
set_option maxRecDepth 100000 in
theorem lt_39B (hC9 : f_C9 p l s m args meth c9 dC dI A cI cJ cZ cO es mi sa b L xs) (hcs : cells + 300 ≤ 600104 ∧ slots + 9000 ≤ 7301314) (hk9 : k9 ≤ 90) (ht9 : t ≤ 89) (hI : f_IV k9 td n pr up dn dv sd mo sh Ca K St Ex Am Ov Bi As Bj Aj BL AL He Co) (hJ : f_JV (t + 1) td n pr dv sh St Ex Bj Aj) (hG : f_LG cO es n ed cA GG) {hd : Int} {j : Nat} (hj5 : j ≤ 5) (hCz9 : Cz = va_up CzL j (CzL j + ((f_W up dn dv td n K St Ex Am He Ca sh pr) - hd))) (kF : ∀ (ce sl : Nat), ce ≤ cells + 6 → sl ≤ slots + 192 → jj_W p l e room_1 s m args below meth c9 (dC, dI) vwCl A 46 ce sl Q 2074 [(17, .int (iI 1)), (11, .int (iI u9)), (9, .int (iI (t : Int))), (8, .ref (ka 6)), (7, .ref (ka 5)), (6, .ref (ka 4)), (5, .ref (ka 3)), (4, .ref (ka 2)), (3, .ref (ka 1)), (2, .ref (ka 0)), (1, .ref (ha 0)), (0, .ref b)] [] (wH ha cA hA nA ed cI cJ cZ td pr up dn dv rw sd mc n mo sh co Ca Cz K St Ex Am Bi As BL AL He Co ++ (GG ++ wL ka cI cJ td pr up dn mo sh co n K St Ex Am Ov Bj Aj BL AL He Cj dv Ca sd Cz))) : jj_W p l e room_1 s m args below meth c9 (dC, dI) vwCl A 46 cells slots Q 2039 [(18, .int (iI (j : Int))), (17, .int (iI 1)), (14, .long (lI hd)), (11, .int (iI u9)), (9, .int (iI (t : Int))), (8, .ref (ka 6)), (7, .ref (ka 5)), (6, .ref (ka 4)), (5, .ref (ka 3)), (4, .ref (ka 2)), (3, .ref (ka 1)), (2, .ref (ka 0)), (1, .ref (ha 0)), (0, .ref b)] [] (wH ha cA hA nA ed cI cJ cZ td pr up dn dv rw sd mc n mo sh co Ca Cz K St Ex Am Bi As BL AL He Co ++ (GG ++ wL ka cI cJ td pr up dn mo sh co n K St Ex Am Ov Bj Aj BL AL He Cj dv Ca sd CzL)) := by
  obtain ⟨C0, hl, hL⟩ := hC9
  have hw := C0.2.2.2.2.1
  have hEV := hEVS es mi sa b L xs
  have hED0 : 0 < n → f_ED cA n ed cO GG := fun h9 => by have h8 := f_LG_ED (M := []) hG h9; rwa [List.append_nil] at h8
  have hV := hI
  obtain ⟨⟨htd, hn, hpr, hup, hdn, hdv, hsd, hmo, hsh⟩, ⟨hK, hSt, hEx, hAm, hOv, hovs, hexs, hovn⟩, hQ9, ⟨hHe, hsums, hHz⟩, ⟨hCo, hCz⟩, hCa⟩ := hI
  have hQ := hQ9
  obtain ⟨hBi, hAs, hBj, hAj, hBL, hAL, hQt, hQ0, hQn, hQo⟩ := hQ9
  have hW9 := hJ
  obtain ⟨hn6, htd5, hex5, hSp, hdv9, hBA, hsh9⟩ := hJ
  have hexs1 : ∀ c, c < n → Ex c ≤ (td : Int) + 10 := fun c hc => (hexs c hc).1
  have hHe9 : ∀ j, -999000 ≤ He j ∧ He j ≤ 999000 := fun j => by have := hHe j; omega
  have hHe6 : ∀ j, -1000000 ≤ He j ∧ He j ≤ 1000000 := fun j => by have := hHe j; omega
  have hCa9 : ∀ j, -100000000000000000 ≤ Ca j ∧ Ca j ≤ 100000000000000000 := fun j => by have := hCa j; omega
  have hov5 : ∀ c, c < n → (Ov c = 1 ∧ Ex c < (td : Int)) ∨ (Ov c = 0 ∧ (td : Int) ≤ Ex c ∧ Ex c ≤ (td : Int) + 5) := fun c hc => by have h1 := hovs c hc; have h2 := hex5 c hc; omega
  have hovw : ∀ c, c < n → He (7 * c + 6) = 0 ∨ (Ov c = 1 ∧ Ex c < (td : Int)) ∨ (Ov c = 0 ∧ (td : Int) ≤ Ex c ∧ Ex c ≤ (td : Int) + 5) := fun c hc => Or.inr (hov5 c hc)
  refine jj_iload C0 0 rfl dL_law_2039 ?_
  refine jj_iconst C0 dL_law_2041 ?_
  refine jj_icmp_eq C0 (by omega) (by omega) dL_law_2042 (tgt := 2074) (by decide) (fun c_1 => absurd c_1 (by omega)) (fun c_1 => ?_)
  refine jj_aload C0 5 rfl dL_law_2045 ?_
  refine jj_bipush C0 dL_law_2047 (by decide) ?_
  refine jj_iload C0 0 rfl dL_law_2049 ?_
  refine jj_iadd C0 dL_law_2051 ?_
  refine jj_dup2_11 C0 dL_law_2052 rfl rfl ?_
  refine jj_toLw ?_
  refine jj_lald C0 (q0 := 6) (t0 := 1) (f := (f_lm Ca sd CzL)) (rfl) rfl (k := (8 + j)) (by omega) (by omega) (by decide) dL_law_2053 ?_
  refine jj_topl (b := (CzL j)) (f_lm_Cz) ?_
  refine jj_aload C0 7 rfl dL_law_2054 ?_
  refine jj_iconst C0 dL_law_2056 ?_
  refine jj_iald C0 (q0 := 4) (t0 := 0) (f := (f_lg td pr up dn mo sh co n)) (rfl) rfl (k := 1) (by omega) (by omega) (by decide) dL_law_2057 ?_
  refine jj_topi (b := pr) (rfl) ?_
  refine jj_aload_n C0 11 rfl dL_law_2058 ?_
  refine jj_aload_n C0 10 rfl dL_law_2059 ?_
  refine jj_aload C0 7 rfl dL_law_2060 ?_
  refine jj_aload C0 6 rfl dL_law_2062 ?_
  refine jj_aload C0 5 rfl dL_law_2064 ?_
  refine jj_callSl C0 (cells' := (cells + 6)) (slots' := (slots + 192)) (cc_L_worth hEV (fr := pr) hovw hn6 htd5 (by omega) hup hdn hdv hK hSt hEx hAm hOv hHe6 hsh) (cwS 6 hw (lw_gS hU_722 hU_723 hU_42 hU_724) rfl rfl rfl (by decide +kernel) ⟨Nat.le_of_ble_eq_true rfl, Nat.le_of_ble_eq_true rfl⟩) rfl rfl (Nat.le_of_ble_eq_true rfl) ⟨by show cells + 6 ≤ 600104; omega, by show slots + 192 ≤ 7301314; omega⟩ rfl rfl dL_law_2066 ?_
  intro _ hu
  show jj_W _ _ _ _ _ _ _ _ _ _ _ _ _ _ _ _ _ 2069 _ [.long (lI (f_W up dn dv td n K St Ex Am He Ca sh pr)), .long (lI (CzL j)), .int (iI (8 + (j : Int))), .ref (ka 6)] (wL ka cI cJ td pr up dn mo sh co n K St Ex Am Ov Bj Aj BL AL He Cj dv Ca sd CzL ++ (wH ha cA hA nA ed cI cJ cZ td pr up dn dv rw sd mc n mo sh co Ca Cz K St Ex Am Bi As BL AL He Co ++ GG))
  refine jj_lload C0 2 rfl dL_law_2069 ?_
  refine jj_lsub C0 dL_law_2071 ?_
  refine jj_ladd C0 dL_law_2072 ?_
  refine jj_last C0 (q0 := 6) (t0 := 1) (f := (f_lm Ca sd CzL)) (rfl) rfl (k := (8 + j)) (by omega) (by omega) (by decide) (ws' := wL ka cI cJ td pr up dn mo sh co n K St Ex Am Ov Bj Aj BL AL He Cj dv Ca sd (va_up CzL j ((CzL j) + ((f_W up dn dv td n K St Ex Am He Ca sh pr) - hd))) ++ (wH ha cA hA nA ed cI cJ cZ td pr up dn dv rw sd mc n mo sh co Ca Cz K St Ex Am Bi As BL AL He Co ++ GG)) (wL_Cz) dL_law_2073 ?_
  refine jj_toHw ?_
  refine jj_lv [1, 3, 4, 5, 6, 7, 8, 9, 10, 11, 12, 13] rfl ?_
  refine jj_ws (ws' := wH ha cA hA nA ed cI cJ cZ td pr up dn dv rw sd mc n mo sh co Ca Cz K St Ex Am Bi As BL AL He Co ++ (GG ++ wL ka cI cJ td pr up dn mo sh co n K St Ex Am Ov Bj Aj BL AL He Cj dv Ca sd Cz)) (by rw [← hCz9]) ?_
  exact kF _ _ (by omega) (by omega)
/-- .. at the turn's end -/
def f_E9 (p : Program) (l : Launch) (e : Env) (s : State) (m : MethodId) (args : Array Value) (below : List Frame) (meth : Method) (c9 : Code) (dC : Nat → ClassId) (dI : Nat → Nat → Nat) (A : Nat → Prop) (Q : State → Prop) (ha ka : Nat → Nat) (cI cJ cZ cO : ClassId) (es b k9 t : Nat) (cells0 slots0 : Nat) : Prop := ∀ (cA hA nA : Nat → Nat) (ed : Nat) (rw : Nat → Int) (mc : Int) (GG : va_W) (td : Nat) (pr up dn : Int) (dv : Nat → Int) (sd : Int) (n : Nat) (mo sh co : Int) (Ca Cz K St Ex Am Ov Bi As Bj Aj BL AL He Co Cj : Nat → Int) (cells slots : Nat), f_IV (k9 + 1) td n pr up dn dv sd mo sh Ca K St Ex Am Ov Bi As Bj Aj BL AL He Co → f_JV (t + 1) td n pr dv sh St Ex Bj Aj → f_JC Ov Co Cj → f_LG cO es n ed cA GG → cells ≤ cells0 + 280 → slots ≤ slots0 + 8500 → jj_W p l e room_1 s m args below meth c9 (dC, dI) vwCl A 46 cells slots Q 2237 [(9, .int (iI (t : Int))), (8, .ref (ka 6)), (7, .ref (ka 5)), (6, .ref (ka 4)), (5, .ref (ka 3)), (4, .ref (ka 2)), (3, .ref (ka 1)), (2, .ref (ka 0)), (1, .ref (ha 0)), (0, .ref b)] [] (wH ha cA hA nA ed cI cJ cZ td pr up dn dv rw sd mc n mo sh co Ca Cz K St Ex Am Bi As BL AL He Co ++ (GG ++ wL ka cI cJ td pr up dn mo sh co n K St Ex Am Ov Bj Aj BL AL He Cj dv Ca sd Cz))
theorem lt_39 (hC9 : f_C9 p l s m args meth c9 dC dI A cI cJ cZ cO es mi sa b L xs) (hcs : cells + 600 ≤ 600104 ∧ slots + 18000 ≤ 7301314) (hk9 : k9 ≤ 89) (ht9 : t ≤ 89) (kE : f_E9 p l e s m args below meth c9 dC dI A Q ha ka cI cJ cZ cO es b k9 t cells slots) : f_K9 p l e s m args below meth c9 dC dI A Q ha ka cI cJ cZ cO es b k9 t u9 cells slots := by
  intro cA hA nA ed rw mc GG td pr up dn dv sd n mo sh co Ca Cz CzL K St Ex Am Ov Bi As Bj Aj BL AL He Co Cj hd by9 ce sl hI hJ hcc hG hby hc1 hc2
  have kF : ∀ (ce' sl' : Nat), ce' ≤ ce + 6 → sl' ≤ sl + 192 → jj_W p l e room_1 s m args below meth c9 (dC, dI) vwCl A 46 ce' sl' Q 2074 [(17, .int (iI 1)), (11, .int (iI u9)), (9, .int (iI (t : Int))), (8, .ref (ka 6)), (7, .ref (ka 5)), (6, .ref (ka 4)), (5, .ref (ka 3)), (4, .ref (ka 2)), (3, .ref (ka 1)), (2, .ref (ka 0)), (1, .ref (ha 0)), (0, .ref b)] [] (wH ha cA hA nA ed cI cJ cZ td pr up dn dv rw sd mc n mo sh co Ca Cz K St Ex Am Bi As BL AL He Co ++ (GG ++ wL ka cI cJ td pr up dn mo sh co n K St Ex Am Ov Bj Aj BL AL He Cj dv Ca sd Cz)) := fun ce' sl' h1 h2 => lt_74 hC9 ⟨by omega, by omega⟩ (by omega : k9 + 1 ≤ 90) ht9 hI hJ hG (fun r9 ce2 sl2 h3 h4 => kE cA hA nA ed r9 mc GG td pr up dn dv sd n mo sh co Ca Cz K St Ex Am Ov Bi As Bj Aj BL AL He Co Cj ce2 sl2 hI hJ hcc hG (by omega) (by omega))
  rcases hby with ⟨h1, h2⟩ | ⟨j, hj, h1, h2⟩
  · subst h1 h2
    exact lt_39A hC9 ⟨by omega, by omega⟩ (by omega : k9 + 1 ≤ 90) ht9 hI hJ hG kF
  · subst h1
    exact lt_39B hC9 ⟨by omega, by omega⟩ (by omega : k9 + 1 ≤ 90) ht9 hI hJ hG hj h2 kF
end P5
