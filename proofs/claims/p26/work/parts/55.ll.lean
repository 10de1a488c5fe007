section P10
variable {p : Program} {l : Launch} {e : Env} {s : State} {m : MethodId} {args : Array Value} {below : List Frame} {meth : Method} {c9 : Code} {dC : Nat → ClassId} {dI : Nat → Nat → Nat} {A : Nat → Prop} {Q : State → Prop} {ha ka : Nat → Nat} {cI cJ cZ cO : ClassId} {es mi b L : Nat} {sa : Nat → Nat} {xs : Nat → Int32} {k9 t : Nat} {u9 v9 io : Int} {c w9 cells slots : Nat} {cA hA nA : Nat → Nat} {ed : Nat} {rw : Nat → Int} {mc : Int} {GG : va_W} {td : Nat} {pr up dn : Int} {dv : Nat → Int} {sd : Int} {n : Nat} {mo sh co : Int} {Ca Cz K St Ex Am Ov Bi As Bj Aj BL AL He Co Cj : Nat → Int}
set_option maxHeartbeats 4000000 in
set_option maxRecDepth 100000 in
theorem law_turn_0 (hC9 : f_C9 p l s m args meth c9 dC dI A cI cJ cZ cO es mi sa b L xs) (hcs : cells + 800 ≤ 600104 ∧ slots + 19000 ≤ 7301314) (hk9 : k9 ≤ 89) (ht9 : t ≤ 89) (hI : f_IV k9 td n pr up dn dv sd mo sh Ca K St Ex Am Ov Bi As Bj Aj BL AL He Co) (hJ : f_JV t td n pr dv sh St Ex Bj Aj) (hcc : f_JC Ov Co Cj) (hG : f_LG cO es n ed cA GG) (kE : f_E9 p l e s m args below meth c9 dC dI A Q ha ka cI cJ cZ cO es b k9 t (cells + 6) (slots + 192)) (hn0 : n = 0) : jj_W p l e room_1 s m args below meth c9 (dC, dI) vwCl A 46 cells slots Q 84 [(9, .int (iI (t : Int))), (8, .ref (ka 6)), (7, .ref (ka 5)), (6, .ref (ka 4)), (5, .ref (ka 3)), (4, .ref (ka 2)), (3, .ref (ka 1)), (2, .ref (ka 0)), (1, .ref (ha 0)), (0, .ref b)] [] (wH ha cA hA nA ed cI cJ cZ td pr up dn dv rw sd mc n mo sh co Ca Cz K St Ex Am Bi As BL AL He Co ++ (GG ++ wL ka cI cJ td pr up dn mo sh co n K St Ex Am Ov Bj Aj BL AL He Cj dv Ca sd Cz)) := by
  obtain ⟨C0, hl, hL⟩ := hC9
  have hw := C0.2.2.2.2.1
  have hEV := hEVS es mi sa b L xs
  have hED0 : 0 < n → f_ED cA n ed cO GG := fun h9 => by have h8 := f_LG_ED (M := []) hG h9; rwa [List.append_nil] at h8
  have hCj9 := hcc.1
  have hV := hI
  obtain ⟨⟨htd, hn, hpr, hup, hdn, hdv, hsd, hmo, hsh⟩, ⟨hK, hSt, hEx, hAm, hOv, hovs, hexs, hovn⟩, hQ9, ⟨hHe, hsums, hHz⟩, ⟨hCo, hCz⟩, hCa⟩ := hI
  have hQ := hQ9
  obtain ⟨hBi, hAs, hBj, hAj, hBL, hAL, hQt, hQ0, hQn, hQo⟩ := hQ9
  have hW9 := hJ
  obtain ⟨hn6, htd5, hex5, hSp, hdv9, hBA, hsh9⟩ := hJ
  have hexs1 : ∀ c, c < n → Ex c ≤ (td : Int) + 10 := fun c hc => (hexs c hc).1
  have hHe9 : ∀ j, -999000 ≤ He j ∧ He j ≤ 999000 := fun j => by have := hHe j; omega
  have hHe6 : ∀ j, -1000000 ≤ He j ∧ He j ≤ 1000000 := fun j => by have := hHe j; omega
  have hCa9 : ∀ j, -100000000000000000 ≤ Ca j ∧ Ca j ≤ 100000000000000000 := fun j => by have := hCa j; omega
  have hov5 : ∀ c, c < n → (Ov c = 1 ∧ Ex c < (td : Int)) ∨ (Ov c = 0 ∧ (td : Int) ≤ Ex c ∧ Ex c ≤ (td : Int) + 5) := fun c hc => by have h1 := hovs c hc; have h2 := hex5 c hc; omega
  have hovw : ∀ c, c < n → He (7 * c + 6) = 0 ∨ (Ov c = 1 ∧ Ex c < (td : Int)) ∨ (Ov c = 0 ∧ (td : Int) ≤ Ex c ∧ Ex c ≤ (td : Int) + 5) := fun c hc => Or.inr (hov5 c hc)
  refine jj_iload C0 0 rfl dL_law_84 ?_
  refine jj_bipush C0 dL_law_86 (by decide) ?_
  refine jj_icmp_ge C0 (by omega) (by omega) dL_law_88 (tgt := 2243) (by decide) (fun c_1 => absurd c_1 (by omega)) (fun c_1 => ?_)
  refine jj_aload_n C0 9 rfl dL_law_91 ?_
  refine jj_iconst C0 dL_law_92 ?_
  refine jj_iload C0 0 rfl dL_law_93 ?_
  refine jj_imul C0 dL_law_95 ?_
  refine jj_topi (b := ((2 * t : Nat) : Int)) (by omega) ?_
  refine jj_callSi C0 (cells' := cells) (slots' := slots) (cc_L_cell  (b := b) (k := (2 * t)) (by omega) (by omega)) (cwS 2 hw (lw_gS hU_163 hU_164 hU_42 hU_165) rfl rfl rfl (by decide +kernel) ⟨Nat.le_of_ble_eq_true rfl, Nat.le_of_ble_eq_true rfl⟩) rfl rfl (Nat.le_of_ble_eq_true rfl) ⟨by show cells + 0 ≤ 600104; omega, by show slots + 0 ≤ 7301314; omega⟩ rfl rfl dL_law_96 ?_
  intro u_2 hu
  have hu1 : iR u_2 := hu
  show jj_W _ _ _ _ _ _ _ _ _ _ _ _ _ _ _ _ _ 99 _ [.int (iI u_2)] (wH ha cA hA nA ed cI cJ cZ td pr up dn dv rw sd mc n mo sh co Ca Cz K St Ex Am Bi As BL AL He Co ++ (GG ++ wL ka cI cJ td pr up dn mo sh co n K St Ex Am Ov Bj Aj BL AL He Cj dv Ca sd Cz))
  refine jj_istore C0 (lv' := [(10, .int (iI u_2)), (9, .int (iI (t : Int))), (8, .ref (ka 6)), (7, .ref (ka 5)), (6, .ref (ka 4)), (5, .ref (ka 3)), (4, .ref (ka 2)), (3, .ref (ka 1)), (2, .ref (ka 0)), (1, .ref (ha 0)), (0, .ref b)]) (by decide) rfl dL_law_99 ?_
  refine jj_aload_n C0 10 rfl dL_law_101 ?_
  refine jj_iconst C0 dL_law_102 ?_
  refine jj_iload C0 1 rfl dL_law_103 ?_
  refine jj_imul C0 dL_law_105 ?_
  refine jj_iconst C0 dL_law_106 ?_
  refine jj_iadd C0 dL_law_107 ?_
  refine jj_topi (b := ((2 * t + 1 : Nat) : Int)) (by omega) ?_
  refine jj_callSi C0 (cells' := cells) (slots' := slots) (cc_L_cell  (b := b) (k := (2 * t + 1)) (by omega) (by omega)) (cwS 2 hw (lw_gS hU_163 hU_164 hU_42 hU_165) rfl rfl rfl (by decide +kernel) ⟨Nat.le_of_ble_eq_true rfl, Nat.le_of_ble_eq_true rfl⟩) rfl rfl (Nat.le_of_ble_eq_true rfl) ⟨by show cells + 0 ≤ 600104; omega, by show slots + 0 ≤ 7301314; omega⟩ rfl rfl dL_law_108 ?_
  intro u_3 hu
  have hu2 : iR u_3 := hu
  show jj_W _ _ _ _ _ _ _ _ _ _ _ _ _ _ _ _ _ 111 _ [.int (iI u_3)] (wH ha cA hA nA ed cI cJ cZ td pr up dn dv rw sd mc n mo sh co Ca Cz K St Ex Am Bi As BL AL He Co ++ (GG ++ wL ka cI cJ td pr up dn mo sh co n K St Ex Am Ov Bj Aj BL AL He Cj dv Ca sd Cz))
  refine jj_istore C0 (lv' := [(11, .int (iI u_3)), (10, .int (iI u_2)), (9, .int (iI (t : Int))), (8, .ref (ka 6)), (7, .ref (ka 5)), (6, .ref (ka 4)), (5, .ref (ka 3)), (4, .ref (ka 2)), (3, .ref (ka 1)), (2, .ref (ka 0)), (1, .ref (ha 0)), (0, .ref b)]) (by decide) rfl dL_law_111 ?_
  refine jj_aload C0 5 rfl dL_law_113 ?_
  refine jj_bipush C0 dL_law_115 (by decide) ?_
  refine jj_toLw ?_
  refine jj_iald C0 (q0 := 4) (t0 := 0) (f := (f_lg td pr up dn mo sh co n)) (rfl) rfl (k := 7) (by omega) (by omega) (by decide) dL_law_117 ?_
  refine jj_topi (b := (n : Int)) (rfl) ?_
  refine jj_if_ne C0 (by omega) dL_law_118 (tgt := 125) (by decide) (fun c_4 => absurd c_4 (by omega)) (fun c_4 => ?_)
  refine jj_iconst C0 dL_law_121 ?_
  refine jj_goto C0 (tgt := 137) dL_law_122 (by decide) ?_
  refine jj_topi (b := ((0 : Nat) : Int)) rfl ?_
  refine jj_istore C0 (lv' := [(12, .int (iI ((0 : Nat) : Int))), (11, .int (iI u_3)), (10, .int (iI u_2)), (9, .int (iI (t : Int))), (8, .ref (ka 6)), (7, .ref (ka 5)), (6, .ref (ka 4)), (5, .ref (ka 3)), (4, .ref (ka 2)), (3, .ref (ka 1)), (2, .ref (ka 0)), (1, .ref (ha 0)), (0, .ref b)]) (by decide) rfl dL_law_137 ?_
  refine jj_iload C0 2 rfl dL_law_139 ?_
  refine jj_bipush C0 dL_law_141 (by decide) ?_
  refine jj_ishrX C0 dL_law_143 ?_
  have hR143 := f_sr_R u_2 8
  refine jj_bipush C0 dL_law_144 (by decide) ?_
  refine jj_callSi C0 (cells' := cells) (slots' := slots) (cc_L_low hEV (v := (f_sr u_2 8)) (m := 7) (by omega)) (cwS 2 hw (lw_gS hU_167 hU_168 hU_42 hU_169) rfl rfl rfl (by decide +kernel) ⟨Nat.le_of_ble_eq_true rfl, Nat.le_of_ble_eq_true rfl⟩) rfl rfl (Nat.le_of_ble_eq_true rfl) ⟨by show cells + 0 ≤ 600104; omega, by show slots + 0 ≤ 7301314; omega⟩ rfl rfl dL_law_146 ?_
  intro _ hu
  show jj_W _ _ _ _ _ _ _ _ _ _ _ _ _ _ _ _ _ 149 _ [.int (iI (f_lo (f_sr u_2 8) 7))] (wL ka cI cJ td pr up dn mo sh co n K St Ex Am Ov Bj Aj BL AL He Cj dv Ca sd Cz ++ (wH ha cA hA nA ed cI cJ cZ td pr up dn dv rw sd mc n mo sh co Ca Cz K St Ex Am Bi As BL AL He Co ++ GG))
  obtain ⟨w9w, hw9w⟩ : ∃ z : Nat, (z : Int) = (f_lo (f_sr u_2 8) 7) := ⟨((f_lo (f_sr u_2 8) 7)).toNat, by have := f_lo_bd (f_sr u_2 8) (k := 7) (by omega); omega⟩
  have hbw9w : w9w < 7 := by have := f_lo_bd (f_sr u_2 8) (k := 7) (by omega); omega
  refine jj_topi (b := (w9w : Int)) (hw9w.symm) ?_
  refine jj_istore C0 (lv' := [(13, .int (iI (w9w : Int))), (12, .int (iI ((0 : Nat) : Int))), (11, .int (iI u_3)), (10, .int (iI u_2)), (9, .int (iI (t : Int))), (8, .ref (ka 6)), (7, .ref (ka 5)), (6, .ref (ka 4)), (5, .ref (ka 3)), (4, .ref (ka 2)), (3, .ref (ka 1)), (2, .ref (ka 0)), (1, .ref (ha 0)), (0, .ref b)]) (by decide) rfl dL_law_149 ?_
  refine jj_aload C0 7 rfl dL_law_151 ?_
  refine jj_iconst C0 dL_law_153 ?_
  refine jj_iald C0 (q0 := 4) (t0 := 0) (f := (f_lg td pr up dn mo sh co n)) (rfl) rfl (k := 1) (by omega) (by omega) (by decide) dL_law_154 ?_
  refine jj_topi (b := pr) (rfl) ?_
  refine jj_aload_n C0 11 rfl dL_law_155 ?_
  refine jj_aload_n C0 10 rfl dL_law_156 ?_
  refine jj_aload C0 7 rfl dL_law_157 ?_
  refine jj_aload C0 6 rfl dL_law_159 ?_
  refine jj_aload C0 5 rfl dL_law_161 ?_
  refine jj_callSl C0 (cells' := (cells + 6)) (slots' := (slots + 192)) (cc_L_worth hEV (fr := pr) hovw hn6 htd5 (by omega) hup hdn hdv hK hSt hEx hAm hOv hHe6 hsh) (cwS 6 hw (lw_gS hU_722 hU_723 hU_42 hU_724) rfl rfl rfl (by decide +kernel) ⟨Nat.le_of_ble_eq_true rfl, Nat.le_of_ble_eq_true rfl⟩) rfl rfl (Nat.le_of_ble_eq_true rfl) ⟨by show cells + 6 ≤ 600104; omega, by show slots + 192 ≤ 7301314; omega⟩ rfl rfl dL_law_163 ?_
  intro _ hu
  show jj_W _ _ _ _ _ _ _ _ _ _ _ _ _ _ _ _ _ 166 _ [.long (lI (f_W up dn dv td n K St Ex Am He Ca sh pr))] (wL ka cI cJ td pr up dn mo sh co n K St Ex Am Ov Bj Aj BL AL He Cj dv Ca sd Cz ++ (wH ha cA hA nA ed cI cJ cZ td pr up dn dv rw sd mc n mo sh co Ca Cz K St Ex Am Bi As BL AL He Co ++ GG))
  refine jj_lstore C0 (lv' := [(14, .long (lI (f_W up dn dv td n K St Ex Am He Ca sh pr))), (13, .int (iI (w9w : Int))), (12, .int (iI ((0 : Nat) : Int))), (11, .int (iI u_3)), (10, .int (iI u_2)), (9, .int (iI (t : Int))), (8, .ref (ka 6)), (7, .ref (ka 5)), (6, .ref (ka 4)), (5, .ref (ka 3)), (4, .ref (ka 2)), (3, .ref (ka 1)), (2, .ref (ka 0)), (1, .ref (ha 0)), (0, .ref b)]) (by decide) rfl dL_law_166 ?_
  refine jj_aload C0 8 rfl dL_law_168 ?_
  refine jj_bipush C0 dL_law_170 (by decide) ?_
  refine jj_iald C0 (q0 := 4) (t0 := 0) (f := (f_lg td pr up dn mo sh co n)) (rfl) rfl (k := 7) (by omega) (by omega) (by decide) dL_law_172 ?_
  refine jj_topi (b := (n : Int)) (rfl) ?_
  refine jj_if_eq C0 (by omega) dL_law_173 (tgt := 187) (by decide) (fun c_5 => ?_) (fun c_5 => absurd c_5 (by omega))
  refine jj_iconst C0 dL_law_187 ?_
  refine jj_goto C0 (tgt := 192) dL_law_188 (by decide) ?_
  refine jj_istore C0 (lv' := [(16, .int (iI 1)), (14, .long (lI (f_W up dn dv td n K St Ex Am He Ca sh pr))), (13, .int (iI (w9w : Int))), (12, .int (iI ((0 : Nat) : Int))), (11, .int (iI u_3)), (10, .int (iI u_2)), (9, .int (iI (t : Int))), (8, .ref (ka 6)), (7, .ref (ka 5)), (6, .ref (ka 4)), (5, .ref (ka 3)), (4, .ref (ka 2)), (3, .ref (ka 1)), (2, .ref (ka 0)), (1, .ref (ha 0)), (0, .ref b)]) (by decide) rfl dL_law_192 ?_
  refine jj_iconst C0 dL_law_194 ?_
  refine jj_istore C0 (lv' := [(17, .int (iI 1)), (16, .int (iI 1)), (14, .long (lI (f_W up dn dv td n K St Ex Am He Ca sh pr))), (13, .int (iI (w9w : Int))), (12, .int (iI ((0 : Nat) : Int))), (11, .int (iI u_3)), (10, .int (iI u_2)), (9, .int (iI (t : Int))), (8, .ref (ka 6)), (7, .ref (ka 5)), (6, .ref (ka 4)), (5, .ref (ka 3)), (4, .ref (ka 2)), (3, .ref (ka 1)), (2, .ref (ka 0)), (1, .ref (ha 0)), (0, .ref b)]) (by decide) rfl dL_law_195 ?_
  refine jj_iconst C0 dL_law_197 ?_
  refine jj_istore C0 (lv' := [(18, .int (iI (-1))), (17, .int (iI 1)), (16, .int (iI 1)), (14, .long (lI (f_W up dn dv td n K St Ex Am He Ca sh pr))), (13, .int (iI (w9w : Int))), (12, .int (iI ((0 : Nat) : Int))), (11, .int (iI u_3)), (10, .int (iI u_2)), (9, .int (iI (t : Int))), (8, .ref (ka 6)), (7, .ref (ka 5)), (6, .ref (ka 4)), (5, .ref (ka 3)), (4, .ref (ka 2)), (3, .ref (ka 1)), (2, .ref (ka 0)), (1, .ref (ha 0)), (0, .ref b)]) (by decide) rfl dL_law_198 ?_
  refine jj_iload C0 8 rfl dL_law_200 ?_
  refine jj_iconst C0 dL_law_202 ?_
  refine jj_icmp_ge C0 (by omega) (by omega) dL_law_203 (tgt := 210) (by decide) (fun c_6 => ?_) (fun c_6 => ?_)
  · refine jj_iload C0 7 rfl dL_law_210 ?_
    refine jj_bipush C0 dL_law_212 (by decide) ?_
    refine jj_callSi C0 (cells' := (cells + 6)) (slots' := (slots + 192)) (cc_L_low hEV (v := u_2) (m := 16) (by omega)) (cwS 2 hw (lw_gS hU_167 hU_168 hU_42 hU_169) rfl rfl rfl (by decide +kernel) ⟨Nat.le_of_ble_eq_true rfl, Nat.le_of_ble_eq_true rfl⟩) rfl rfl (Nat.le_of_ble_eq_true rfl) ⟨by show (cells + 6) + 0 ≤ 600104; omega, by show (slots + 192) + 0 ≤ 7301314; omega⟩ rfl rfl dL_law_214 ?_
    intro _ hu
    show jj_W _ _ _ _ _ _ _ _ _ _ _ _ _ _ _ _ _ 217 _ [.int (iI (f_lo u_2 16))] (wL ka cI cJ td pr up dn mo sh co n K St Ex Am Ov Bj Aj BL AL He Cj dv Ca sd Cz ++ (wH ha cA hA nA ed cI cJ cZ td pr up dn dv rw sd mc n mo sh co Ca Cz K St Ex Am Bi As BL AL He Co ++ GG))
    refine jj_toHw ?_
    have hz9 := f_lo_bd u_2 (k := 16) (by omega)
    generalize (f_lo u_2 16) = z at hz9 ⊢
    rcases (by omega : z = 0 ∨ z = 1 ∨ z = 2 ∨ z = 3 ∨ z = 4 ∨ z = 5 ∨ z = 6 ∨ z = 7 ∨ z = 8 ∨ z = 9 ∨ z = 10 ∨ z = 11 ∨ z = 12 ∨ z = 13 ∨ z = 14 ∨ z = 15) with rfl | rfl | rfl | rfl | rfl | rfl | rfl | rfl | rfl | rfl | rfl | rfl | rfl | rfl | rfl | rfl
    · subst hn0
      have he9 := hG.2 rfl
      subst he9
      exact jj_tab C0 (tgt := 292) (k := 0) (by omega) dL_law_217 (by decide) (by decide) rfl (by decide) (lq_contract_0 ⟨C0, hl, hL⟩ ⟨by omega, by omega⟩ hk9 ht9 hV hW9 hcc hG hu2 hu1 (lt_39 ⟨C0, hl, hL⟩ ⟨by omega, by omega⟩ hk9 ht9 kE))
    · subst hn0
      have he9 := hG.2 rfl
      subst he9
      exact jj_tab C0 (tgt := 292) (k := 1) (by omega) dL_law_217 (by decide) (by decide) rfl (by decide) (lq_contract_0 ⟨C0, hl, hL⟩ ⟨by omega, by omega⟩ hk9 ht9 hV hW9 hcc hG hu2 hu1 (lt_39 ⟨C0, hl, hL⟩ ⟨by omega, by omega⟩ hk9 ht9 kE))
    · exact jj_tab C0 (tgt := 475) (k := 2) (by omega) dL_law_217 (by decide) (by decide) rfl (by decide) (lq_steps ⟨C0, hl, hL⟩ ⟨by omega, by omega⟩ hk9 ht9 hV hW9 hcc hG hu2 hu1 (lt_39 ⟨C0, hl, hL⟩ ⟨by omega, by omega⟩ hk9 ht9 kE))
    · exact jj_tab C0 (tgt := 531) (k := 3) (by omega) dL_law_217 (by decide) (by decide) rfl (by decide) (lq_move ⟨C0, hl, hL⟩ ⟨by omega, by omega⟩ hk9 ht9 hV hW9 hcc hG hu2 hu1 (lt_39 ⟨C0, hl, hL⟩ ⟨by omega, by omega⟩ hk9 ht9 kE))
    · exact jj_tab C0 (tgt := 531) (k := 4) (by omega) dL_law_217 (by decide) (by decide) rfl (by decide) (lq_move ⟨C0, hl, hL⟩ ⟨by omega, by omega⟩ hk9 ht9 hV hW9 hcc hG hu2 hu1 (lt_39 ⟨C0, hl, hL⟩ ⟨by omega, by omega⟩ hk9 ht9 kE))
    · exact jj_tab C0 (tgt := 622) (k := 5) (by omega) dL_law_217 (by decide) (by decide) rfl (by decide) (lq_dividend ⟨C0, hl, hL⟩ ⟨by omega, by omega⟩ hk9 ht9 hV hW9 hcc hG hu2 hu1 (lt_39 ⟨C0, hl, hL⟩ ⟨by omega, by omega⟩ hk9 ht9 kE))
    · exact jj_tab C0 (tgt := 699) (k := 6) (by omega) dL_law_217 (by decide) (by decide) rfl (by decide) (lq_quote ⟨C0, hl, hL⟩ ⟨by omega, by omega⟩ hk9 ht9 hV hW9 hcc hG hu2 hu1 (lt_39 ⟨C0, hl, hL⟩ ⟨by omega, by omega⟩ hk9 ht9 kE) (by omega) (by omega) (by omega))
    · exact jj_tab C0 (tgt := 699) (k := 7) (by omega) dL_law_217 (by decide) (by decide) rfl (by decide) (lq_quote ⟨C0, hl, hL⟩ ⟨by omega, by omega⟩ hk9 ht9 hV hW9 hcc hG hu2 hu1 (lt_39 ⟨C0, hl, hL⟩ ⟨by omega, by omega⟩ hk9 ht9 kE) (by omega) (by omega) (by omega))
    · exact jj_tab C0 (tgt := 699) (k := 8) (by omega) dL_law_217 (by decide) (by decide) rfl (by decide) (lq_quote ⟨C0, hl, hL⟩ ⟨by omega, by omega⟩ hk9 ht9 hV hW9 hcc hG hu2 hu1 (lt_39 ⟨C0, hl, hL⟩ ⟨by omega, by omega⟩ hk9 ht9 kE) (by omega) (by omega) (by omega))
    · exact jj_tab C0 (tgt := 858) (k := 9) (by omega) dL_law_217 (by decide) (by decide) rfl (by decide) (lq_order ⟨C0, hl, hL⟩ ⟨by omega, by omega⟩ hk9 ht9 hV hW9 hcc hG hu2 hu1 (lt_39 ⟨C0, hl, hL⟩ ⟨by omega, by omega⟩ hk9 ht9 kE) (by omega) (by omega) (by omega))
    · exact jj_tab C0 (tgt := 858) (k := 10) (by omega) dL_law_217 (by decide) (by decide) rfl (by decide) (lq_order ⟨C0, hl, hL⟩ ⟨by omega, by omega⟩ hk9 ht9 hV hW9 hcc hG hu2 hu1 (lt_39 ⟨C0, hl, hL⟩ ⟨by omega, by omega⟩ hk9 ht9 kE) (by omega) (by omega) (by omega))
    · exact jj_tab C0 (tgt := 858) (k := 11) (by omega) dL_law_217 (by decide) (by decide) rfl (by decide) (lq_order ⟨C0, hl, hL⟩ ⟨by omega, by omega⟩ hk9 ht9 hV hW9 hcc hG hu2 hu1 (lt_39 ⟨C0, hl, hL⟩ ⟨by omega, by omega⟩ hk9 ht9 kE) (by omega) (by omega) (by omega))
    · exact jj_tab C0 (tgt := 1317) (k := 12) (by omega) dL_law_217 (by decide) (by decide) rfl (by decide) (lq_hedge ⟨C0, hl, hL⟩ ⟨by omega, by omega⟩ hk9 ht9 hV hW9 hcc hG hu2 hu1 (lt_39 ⟨C0, hl, hL⟩ ⟨by omega, by omega⟩ hk9 ht9 kE))
    · exact jj_tab C0 (tgt := 1429) (k := 13) (by omega) dL_law_217 (by decide) (by decide) rfl (by decide) (lq_limex ⟨C0, hl, hL⟩ ⟨by omega, by omega⟩ hk9 ht9 hV hW9 hcc hG hu2 hu1 (lt_39 ⟨C0, hl, hL⟩ ⟨by omega, by omega⟩ hk9 ht9 kE) (by omega) (by omega) (by omega))
    · exact jj_tab C0 (tgt := 1656) (k := 14) (by omega) dL_law_217 (by decide) (by decide) rfl (by decide) (lq_contrary ⟨C0, hl, hL⟩ ⟨by omega, by omega⟩ hk9 ht9 hV hW9 hcc hG hu2 hu1 (lt_39 ⟨C0, hl, hL⟩ ⟨by omega, by omega⟩ hk9 ht9 kE) (by omega) (by omega) (by omega))
    · exact jj_tabD C0 (tgt := 1784) (by omega) dL_law_217 (Or.inr (by omega)) (by decide) (lq_close ⟨C0, hl, hL⟩ ⟨by omega, by omega⟩ hk9 ht9 hV hW9 hcc hG hu2 hu1 (lt_39 ⟨C0, hl, hL⟩ ⟨by omega, by omega⟩ hk9 ht9 kE))
  · refine jj_iconst C0 dL_law_206 ?_
    refine jj_goto C0 (tgt := 217) dL_law_207 (by decide) ?_
    refine jj_toHw ?_
    subst hn0
    have he9 := hG.2 rfl
    subst he9
    exact jj_tab C0 (tgt := 292) (k := 0) (by omega) dL_law_217 (by decide) (by decide) rfl (by decide) (lq_contract_0 ⟨C0, hl, hL⟩ ⟨by omega, by omega⟩ hk9 ht9 hV hW9 hcc hG hu2 hu1 (lt_39 ⟨C0, hl, hL⟩ ⟨by omega, by omega⟩ hk9 ht9 kE))
set_option maxHeartbeats 4000000 in
set_option maxRecDepth 100000 in
theorem law_turn (hC9 : f_C9 p l s m args meth c9 dC dI A cI cJ cZ cO es mi sa b L xs) (hcs : cells + 800 ≤ 600104 ∧ slots + 19000 ≤ 7301314) (hk9 : k9 ≤ 89) (ht9 : t ≤ 89) (hI : f_IV k9 td n pr up dn dv sd mo sh Ca K St Ex Am Ov Bi As Bj Aj BL AL He Co) (hJ : f_JV t td n pr dv sh St Ex Bj Aj) (hcc : f_JC Ov Co Cj) (hG : f_LG cO es n ed cA GG) (kE : f_E9 p l e s m args below meth c9 dC dI A Q ha ka cI cJ cZ cO es b k9 t (cells + 6) (slots + 192)) (hpos : 0 < n) : jj_W p l e room_1 s m args below meth c9 (dC, dI) vwCl A 46 cells slots Q 84 [(9, .int (iI (t : Int))), (8, .ref (ka 6)), (7, .ref (ka 5)), (6, .ref (ka 4)), (5, .ref (ka 3)), (4, .ref (ka 2)), (3, .ref (ka 1)), (2, .ref (ka 0)), (1, .ref (ha 0)), (0, .ref b)] [] (wH ha cA hA nA ed cI cJ cZ td pr up dn dv rw sd mc n mo sh co Ca Cz K St Ex Am Bi As BL AL He Co ++ (GG ++ wL ka cI cJ td pr up dn mo sh co n K St Ex Am Ov Bj Aj BL AL He Cj dv Ca sd Cz)) := by
  obtain ⟨C0, hl, hL⟩ := hC9
  have hw := C0.2.2.2.2.1
  have hEV := hEVS es mi sa b L xs
  have hED0 : 0 < n → f_ED cA n ed cO GG := fun h9 => by have h8 := f_LG_ED (M := []) hG h9; rwa [List.append_nil] at h8
  have hCj9 := hcc.1
  have hV := hI
  obtain ⟨⟨htd, hn, hpr, hup, hdn, hdv, hsd, hmo, hsh⟩, ⟨hK, hSt, hEx, hAm, hOv, hovs, hexs, hovn⟩, hQ9, ⟨hHe, hsums, hHz⟩, ⟨hCo, hCz⟩, hCa⟩ := hI
  have hQ := hQ9
  obtain ⟨hBi, hAs, hBj, hAj, hBL, hAL, hQt, hQ0, hQn, hQo⟩ := hQ9
  have hW9 := hJ
  obtain ⟨hn6, htd5, hex5, hSp, hdv9, hBA, hsh9⟩ := hJ
  have hexs1 : ∀ c, c < n → Ex c ≤ (td : Int) + 10 := fun c hc => (hexs c hc).1
  have hHe9 : ∀ j, -999000 ≤ He j ∧ He j ≤ 999000 := fun j => by have := hHe j; omega
  have hHe6 : ∀ j, -1000000 ≤ He j ∧ He j ≤ 1000000 := fun j => by have := hHe j; omega
  have hCa9 : ∀ j, -100000000000000000 ≤ Ca j ∧ Ca j ≤ 100000000000000000 := fun j => by have := hCa j; omega
  have hov5 : ∀ c, c < n → (Ov c = 1 ∧ Ex c < (td : Int)) ∨ (Ov c = 0 ∧ (td : Int) ≤ Ex c ∧ Ex c ≤ (td : Int) + 5) := fun c hc => by have h1 := hovs c hc; have h2 := hex5 c hc; omega
  have hovw : ∀ c, c < n → He (7 * c + 6) = 0 ∨ (Ov c = 1 ∧ Ex c < (td : Int)) ∨ (Ov c = 0 ∧ (td : Int) ≤ Ex c ∧ Ex c ≤ (td : Int) + 5) := fun c hc => Or.inr (hov5 c hc)
  refine jj_iload C0 0 rfl dL_law_84 ?_
  refine jj_bipush C0 dL_law_86 (by decide) ?_
  refine jj_icmp_ge C0 (by omega) (by omega) dL_law_88 (tgt := 2243) (by decide) (fun c_1 => absurd c_1 (by omega)) (fun c_1 => ?_)
  refine jj_aload_n C0 9 rfl dL_law_91 ?_
  refine jj_iconst C0 dL_law_92 ?_
  refine jj_iload C0 0 rfl dL_law_93 ?_
  refine jj_imul C0 dL_law_95 ?_
  refine jj_topi (b := ((2 * t : Nat) : Int)) (by omega) ?_
  refine jj_callSi C0 (cells' := cells) (slots' := slots) (cc_L_cell  (b := b) (k := (2 * t)) (by omega) (by omega)) (cwS 2 hw (lw_gS hU_163 hU_164 hU_42 hU_165) rfl rfl rfl (by decide +kernel) ⟨Nat.le_of_ble_eq_true rfl, Nat.le_of_ble_eq_true rfl⟩) rfl rfl (Nat.le_of_ble_eq_true rfl) ⟨by show cells + 0 ≤ 600104; omega, by show slots + 0 ≤ 7301314; omega⟩ rfl rfl dL_law_96 ?_
  intro u_2 hu
  have hu1 : iR u_2 := hu
  show jj_W _ _ _ _ _ _ _ _ _ _ _ _ _ _ _ _ _ 99 _ [.int (iI u_2)] (wH ha cA hA nA ed cI cJ cZ td pr up dn dv rw sd mc n mo sh co Ca Cz K St Ex Am Bi As BL AL He Co ++ (GG ++ wL ka cI cJ td pr up dn mo sh co n K St Ex Am Ov Bj Aj BL AL He Cj dv Ca sd Cz))
  refine jj_istore C0 (lv' := [(10, .int (iI u_2)), (9, .int (iI (t : Int))), (8, .ref (ka 6)), (7, .ref (ka 5)), (6, .ref (ka 4)), (5, .ref (ka 3)), (4, .ref (ka 2)), (3, .ref (ka 1)), (2, .ref (ka 0)), (1, .ref (ha 0)), (0, .ref b)]) (by decide) rfl dL_law_99 ?_
  refine jj_aload_n C0 10 rfl dL_law_101 ?_
  refine jj_iconst C0 dL_law_102 ?_
  refine jj_iload C0 1 rfl dL_law_103 ?_
  refine jj_imul C0 dL_law_105 ?_
  refine jj_iconst C0 dL_law_106 ?_
  refine jj_iadd C0 dL_law_107 ?_
  refine jj_topi (b := ((2 * t + 1 : Nat) : Int)) (by omega) ?_
  refine jj_callSi C0 (cells' := cells) (slots' := slots) (cc_L_cell  (b := b) (k := (2 * t + 1)) (by omega) (by omega)) (cwS 2 hw (lw_gS hU_163 hU_164 hU_42 hU_165) rfl rfl rfl (by decide +kernel) ⟨Nat.le_of_ble_eq_true rfl, Nat.le_of_ble_eq_true rfl⟩) rfl rfl (Nat.le_of_ble_eq_true rfl) ⟨by show cells + 0 ≤ 600104; omega, by show slots + 0 ≤ 7301314; omega⟩ rfl rfl dL_law_108 ?_
  intro u_3 hu
  have hu2 : iR u_3 := hu
  show jj_W _ _ _ _ _ _ _ _ _ _ _ _ _ _ _ _ _ 111 _ [.int (iI u_3)] (wH ha cA hA nA ed cI cJ cZ td pr up dn dv rw sd mc n mo sh co Ca Cz K St Ex Am Bi As BL AL He Co ++ (GG ++ wL ka cI cJ td pr up dn mo sh co n K St Ex Am Ov Bj Aj BL AL He Cj dv Ca sd Cz))
  refine jj_istore C0 (lv' := [(11, .int (iI u_3)), (10, .int (iI u_2)), (9, .int (iI (t : Int))), (8, .ref (ka 6)), (7, .ref (ka 5)), (6, .ref (ka 4)), (5, .ref (ka 3)), (4, .ref (ka 2)), (3, .ref (ka 1)), (2, .ref (ka 0)), (1, .ref (ha 0)), (0, .ref b)]) (by decide) rfl dL_law_111 ?_
  refine jj_aload C0 5 rfl dL_law_113 ?_
  refine jj_bipush C0 dL_law_115 (by decide) ?_
  refine jj_toLw ?_
  refine jj_iald C0 (q0 := 4) (t0 := 0) (f := (f_lg td pr up dn mo sh co n)) (rfl) rfl (k := 7) (by omega) (by omega) (by decide) dL_law_117 ?_
  refine jj_topi (b := (n : Int)) (rfl) ?_
  refine jj_if_ne C0 (by omega) dL_law_118 (tgt := 125) (by decide) (fun c_4 => ?_) (fun c_4 => absurd c_4 (by omega))
  refine jj_iload C0 1 rfl dL_law_125 ?_
  refine jj_iconst C0 dL_law_127 ?_
  refine jj_ishrX C0 dL_law_128 ?_
  have hR128 := f_sr_R u_2 5
  refine jj_aload C0 5 rfl dL_law_129 ?_
  refine jj_bipush C0 dL_law_131 (by decide) ?_
  refine jj_iald C0 (q0 := 4) (t0 := 0) (f := (f_lg td pr up dn mo sh co n)) (rfl) rfl (k := 7) (by omega) (by omega) (by decide) dL_law_133 ?_
  refine jj_topi (b := (n : Int)) (rfl) ?_
  refine jj_callSi C0 (cells' := cells) (slots' := slots) (cc_L_low hEV (v := (f_sr u_2 5)) (m := (n : Int)) (by omega)) (cwS 2 hw (lw_gS hU_167 hU_168 hU_42 hU_169) rfl rfl rfl (by decide +kernel) ⟨Nat.le_of_ble_eq_true rfl, Nat.le_of_ble_eq_true rfl⟩) rfl rfl (Nat.le_of_ble_eq_true rfl) ⟨by show cells + 0 ≤ 600104; omega, by show slots + 0 ≤ 7301314; omega⟩ rfl rfl dL_law_134 ?_
  intro _ hu
  show jj_W _ _ _ _ _ _ _ _ _ _ _ _ _ _ _ _ _ 137 _ [.int (iI (f_lo (f_sr u_2 5) (n : Int)))] (wL ka cI cJ td pr up dn mo sh co n K St Ex Am Ov Bj Aj BL AL He Cj dv Ca sd Cz ++ (wH ha cA hA nA ed cI cJ cZ td pr up dn dv rw sd mc n mo sh co Ca Cz K St Ex Am Bi As BL AL He Co ++ GG))
  obtain ⟨c9c, hc9c⟩ : ∃ z : Nat, (z : Int) = (f_lo (f_sr u_2 5) (n : Int)) := ⟨((f_lo (f_sr u_2 5) (n : Int))).toNat, by have := f_lo_bd (f_sr u_2 5) (k := (n : Int)) (by omega); omega⟩
  have hbc9c : c9c < (n : Int) := by have := f_lo_bd (f_sr u_2 5) (k := (n : Int)) (by omega); omega
  refine jj_topi (b := (c9c : Int)) (hc9c.symm) ?_
  refine jj_istore C0 (lv' := [(12, .int (iI (c9c : Int))), (11, .int (iI u_3)), (10, .int (iI u_2)), (9, .int (iI (t : Int))), (8, .ref (ka 6)), (7, .ref (ka 5)), (6, .ref (ka 4)), (5, .ref (ka 3)), (4, .ref (ka 2)), (3, .ref (ka 1)), (2, .ref (ka 0)), (1, .ref (ha 0)), (0, .ref b)]) (by decide) rfl dL_law_137 ?_
  refine jj_iload C0 2 rfl dL_law_139 ?_
  refine jj_bipush C0 dL_law_141 (by decide) ?_
  refine jj_ishrX C0 dL_law_143 ?_
  have hR143 := f_sr_R u_2 8
  refine jj_bipush C0 dL_law_144 (by decide) ?_
  refine jj_callSi C0 (cells' := cells) (slots' := slots) (cc_L_low hEV (v := (f_sr u_2 8)) (m := 7) (by omega)) (cwS 2 hw (lw_gS hU_167 hU_168 hU_42 hU_169) rfl rfl rfl (by decide +kernel) ⟨Nat.le_of_ble_eq_true rfl, Nat.le_of_ble_eq_true rfl⟩) rfl rfl (Nat.le_of_ble_eq_true rfl) ⟨by show cells + 0 ≤ 600104; omega, by show slots + 0 ≤ 7301314; omega⟩ rfl rfl dL_law_146 ?_
  intro _ hu
  show jj_W _ _ _ _ _ _ _ _ _ _ _ _ _ _ _ _ _ 149 _ [.int (iI (f_lo (f_sr u_2 8) 7))] (wL ka cI cJ td pr up dn mo sh co n K St Ex Am Ov Bj Aj BL AL He Cj dv Ca sd Cz ++ (wH ha cA hA nA ed cI cJ cZ td pr up dn dv rw sd mc n mo sh co Ca Cz K St Ex Am Bi As BL AL He Co ++ GG))
  obtain ⟨w9w, hw9w⟩ : ∃ z : Nat, (z : Int) = (f_lo (f_sr u_2 8) 7) := ⟨((f_lo (f_sr u_2 8) 7)).toNat, by have := f_lo_bd (f_sr u_2 8) (k := 7) (by omega); omega⟩
  have hbw9w : w9w < 7 := by have := f_lo_bd (f_sr u_2 8) (k := 7) (by omega); omega
  refine jj_topi (b := (w9w : Int)) (hw9w.symm) ?_
  refine jj_istore C0 (lv' := [(13, .int (iI (w9w : Int))), (12, .int (iI (c9c : Int))), (11, .int (iI u_3)), (10, .int (iI u_2)), (9, .int (iI (t : Int))), (8, .ref (ka 6)), (7, .ref (ka 5)), (6, .ref (ka 4)), (5, .ref (ka 3)), (4, .ref (ka 2)), (3, .ref (ka 1)), (2, .ref (ka 0)), (1, .ref (ha 0)), (0, .ref b)]) (by decide) rfl dL_law_149 ?_
  refine jj_aload C0 7 rfl dL_law_151 ?_
  refine jj_iconst C0 dL_law_153 ?_
  refine jj_iald C0 (q0 := 4) (t0 := 0) (f := (f_lg td pr up dn mo sh co n)) (rfl) rfl (k := 1) (by omega) (by omega) (by decide) dL_law_154 ?_
  refine jj_topi (b := pr) (rfl) ?_
  refine jj_aload_n C0 11 rfl dL_law_155 ?_
  refine jj_aload_n C0 10 rfl dL_law_156 ?_
  refine jj_aload C0 7 rfl dL_law_157 ?_
  refine jj_aload C0 6 rfl dL_law_159 ?_
  refine jj_aload C0 5 rfl dL_law_161 ?_
  refine jj_callSl C0 (cells' := (cells + 6)) (slots' := (slots + 192)) (cc_L_worth hEV (fr := pr) hovw hn6 htd5 (by omega) hup hdn hdv hK hSt hEx hAm hOv hHe6 hsh) (cwS 6 hw (lw_gS hU_722 hU_723 hU_42 hU_724) rfl rfl rfl (by decide +kernel) ⟨Nat.le_of_ble_eq_true rfl, Nat.le_of_ble_eq_true rfl⟩) rfl rfl (Nat.le_of_ble_eq_true rfl) ⟨by show cells + 6 ≤ 600104; omega, by show slots + 192 ≤ 7301314; omega⟩ rfl rfl dL_law_163 ?_
  intro _ hu
  show jj_W _ _ _ _ _ _ _ _ _ _ _ _ _ _ _ _ _ 166 _ [.long (lI (f_W up dn dv td n K St Ex Am He Ca sh pr))] (wL ka cI cJ td pr up dn mo sh co n K St Ex Am Ov Bj Aj BL AL He Cj dv Ca sd Cz ++ (wH ha cA hA nA ed cI cJ cZ td pr up dn dv rw sd mc n mo sh co Ca Cz K St Ex Am Bi As BL AL He Co ++ GG))
  refine jj_lstore C0 (lv' := [(14, .long (lI (f_W up dn dv td n K St Ex Am He Ca sh pr))), (13, .int (iI (w9w : Int))), (12, .int (iI (c9c : Int))), (11, .int (iI u_3)), (10, .int (iI u_2)), (9, .int (iI (t : Int))), (8, .ref (ka 6)), (7, .ref (ka 5)), (6, .ref (ka 4)), (5, .ref (ka 3)), (4, .ref (ka 2)), (3, .ref (ka 1)), (2, .ref (ka 0)), (1, .ref (ha 0)), (0, .ref b)]) (by decide) rfl dL_law_166 ?_
  refine jj_aload C0 8 rfl dL_law_168 ?_
  refine jj_bipush C0 dL_law_170 (by decide) ?_
  refine jj_iald C0 (q0 := 4) (t0 := 0) (f := (f_lg td pr up dn mo sh co n)) (rfl) rfl (k := 7) (by omega) (by omega) (by decide) dL_law_172 ?_
  refine jj_topi (b := (n : Int)) (rfl) ?_
  refine jj_if_eq C0 (by omega) dL_law_173 (tgt := 187) (by decide) (fun c_5 => absurd c_5 (by omega)) (fun c_5 => ?_)
  have hb1 := hAm c9c
  have hb2 := hOv c9c
  refine jj_aload_n C0 12 rfl dL_law_176 ?_
  refine jj_bipush C0 dL_law_177 (by decide) ?_
  refine jj_iload C0 2 rfl dL_law_179 ?_
  refine jj_iadd C0 dL_law_181 ?_
  refine jj_iald C0 (q0 := 0) (t0 := 0) (f := (f_lk K St Ex Am Ov)) (rfl) rfl (k := (18 + c9c)) (by omega) (by omega) (by decide) dL_law_182 ?_
  refine jj_topi (b := (Am c9c + 2 * Ov c9c)) (f_lk_A) ?_
  refine jj_iconst C0 dL_law_183 ?_
  refine jj_icmp_le C0 (by omega) (by omega) dL_law_184 (tgt := 191) (by decide) (fun c_6 => ?_) (fun c_6 => ?_)
  · refine jj_iconst C0 dL_law_191 ?_
    refine jj_istore C0 (lv' := [(16, .int (iI 0)), (14, .long (lI (f_W up dn dv td n K St Ex Am He Ca sh pr))), (13, .int (iI (w9w : Int))), (12, .int (iI (c9c : Int))), (11, .int (iI u_3)), (10, .int (iI u_2)), (9, .int (iI (t : Int))), (8, .ref (ka 6)), (7, .ref (ka 5)), (6, .ref (ka 4)), (5, .ref (ka 3)), (4, .ref (ka 2)), (3, .ref (ka 1)), (2, .ref (ka 0)), (1, .ref (ha 0)), (0, .ref b)]) (by decide) rfl dL_law_192 ?_
    refine jj_iconst C0 dL_law_194 ?_
    refine jj_istore C0 (lv' := [(17, .int (iI 1)), (16, .int (iI 0)), (14, .long (lI (f_W up dn dv td n K St Ex Am He Ca sh pr))), (13, .int (iI (w9w : Int))), (12, .int (iI (c9c : Int))), (11, .int (iI u_3)), (10, .int (iI u_2)), (9, .int (iI (t : Int))), (8, .ref (ka 6)), (7, .ref (ka 5)), (6, .ref (ka 4)), (5, .ref (ka 3)), (4, .ref (ka 2)), (3, .ref (ka 1)), (2, .ref (ka 0)), (1, .ref (ha 0)), (0, .ref b)]) (by decide) rfl dL_law_195 ?_
    refine jj_iconst C0 dL_law_197 ?_
    refine jj_istore C0 (lv' := [(18, .int (iI (-1))), (17, .int (iI 1)), (16, .int (iI 0)), (14, .long (lI (f_W up dn dv td n K St Ex Am He Ca sh pr))), (13, .int (iI (w9w : Int))), (12, .int (iI (c9c : Int))), (11, .int (iI u_3)), (10, .int (iI u_2)), (9, .int (iI (t : Int))), (8, .ref (ka 6)), (7, .ref (ka 5)), (6, .ref (ka 4)), (5, .ref (ka 3)), (4, .ref (ka 2)), (3, .ref (ka 1)), (2, .ref (ka 0)), (1, .ref (ha 0)), (0, .ref b)]) (by decide) rfl dL_law_198 ?_
    refine jj_iload C0 8 rfl dL_law_200 ?_
    refine jj_iconst C0 dL_law_202 ?_
    refine jj_icmp_ge C0 (by omega) (by omega) dL_law_203 (tgt := 210) (by decide) (fun c_7 => ?_) (fun c_7 => ?_)
    · refine jj_iload C0 7 rfl dL_law_210 ?_
      refine jj_bipush C0 dL_law_212 (by decide) ?_
      refine jj_callSi C0 (cells' := (cells + 6)) (slots' := (slots + 192)) (cc_L_low hEV (v := u_2) (m := 16) (by omega)) (cwS 2 hw (lw_gS hU_167 hU_168 hU_42 hU_169) rfl rfl rfl (by decide +kernel) ⟨Nat.le_of_ble_eq_true rfl, Nat.le_of_ble_eq_true rfl⟩) rfl rfl (Nat.le_of_ble_eq_true rfl) ⟨by show (cells + 6) + 0 ≤ 600104; omega, by show (slots + 192) + 0 ≤ 7301314; omega⟩ rfl rfl dL_law_214 ?_
      intro _ hu
      show jj_W _ _ _ _ _ _ _ _ _ _ _ _ _ _ _ _ _ 217 _ [.int (iI (f_lo u_2 16))] (wL ka cI cJ td pr up dn mo sh co n K St Ex Am Ov Bj Aj BL AL He Cj dv Ca sd Cz ++ (wH ha cA hA nA ed cI cJ cZ td pr up dn dv rw sd mc n mo sh co Ca Cz K St Ex Am Bi As BL AL He Co ++ GG))
      refine jj_toHw ?_
      have hz9 := f_lo_bd u_2 (k := 16) (by omega)
      generalize (f_lo u_2 16) = z at hz9 ⊢
      rcases (by omega : z = 0 ∨ z = 1 ∨ z = 2 ∨ z = 3 ∨ z = 4 ∨ z = 5 ∨ z = 6 ∨ z = 7 ∨ z = 8 ∨ z = 9 ∨ z = 10 ∨ z = 11 ∨ z = 12 ∨ z = 13 ∨ z = 14 ∨ z = 15) with rfl | rfl | rfl | rfl | rfl | rfl | rfl | rfl | rfl | rfl | rfl | rfl | rfl | rfl | rfl | rfl
      · exact jj_tab C0 (tgt := 292) (k := 0) (by omega) dL_law_217 (by decide) (by decide) rfl (by decide) (lq_contract ⟨C0, hl, hL⟩ ⟨by omega, by omega⟩ hk9 ht9 hV hW9 hcc hG hu2 hu1 (lt_39 ⟨C0, hl, hL⟩ ⟨by omega, by omega⟩ hk9 ht9 kE) hpos)
      · exact jj_tab C0 (tgt := 292) (k := 1) (by omega) dL_law_217 (by decide) (by decide) rfl (by decide) (lq_contract ⟨C0, hl, hL⟩ ⟨by omega, by omega⟩ hk9 ht9 hV hW9 hcc hG hu2 hu1 (lt_39 ⟨C0, hl, hL⟩ ⟨by omega, by omega⟩ hk9 ht9 kE) hpos)
      · exact jj_tab C0 (tgt := 475) (k := 2) (by omega) dL_law_217 (by decide) (by decide) rfl (by decide) (lq_steps ⟨C0, hl, hL⟩ ⟨by omega, by omega⟩ hk9 ht9 hV hW9 hcc hG hu2 hu1 (lt_39 ⟨C0, hl, hL⟩ ⟨by omega, by omega⟩ hk9 ht9 kE))
      · exact jj_tab C0 (tgt := 531) (k := 3) (by omega) dL_law_217 (by decide) (by decide) rfl (by decide) (lq_move ⟨C0, hl, hL⟩ ⟨by omega, by omega⟩ hk9 ht9 hV hW9 hcc hG hu2 hu1 (lt_39 ⟨C0, hl, hL⟩ ⟨by omega, by omega⟩ hk9 ht9 kE))
      · exact jj_tab C0 (tgt := 531) (k := 4) (by omega) dL_law_217 (by decide) (by decide) rfl (by decide) (lq_move ⟨C0, hl, hL⟩ ⟨by omega, by omega⟩ hk9 ht9 hV hW9 hcc hG hu2 hu1 (lt_39 ⟨C0, hl, hL⟩ ⟨by omega, by omega⟩ hk9 ht9 kE))
      · exact jj_tab C0 (tgt := 622) (k := 5) (by omega) dL_law_217 (by decide) (by decide) rfl (by decide) (lq_dividend ⟨C0, hl, hL⟩ ⟨by omega, by omega⟩ hk9 ht9 hV hW9 hcc hG hu2 hu1 (lt_39 ⟨C0, hl, hL⟩ ⟨by omega, by omega⟩ hk9 ht9 kE))
      · exact jj_tab C0 (tgt := 699) (k := 6) (by omega) dL_law_217 (by decide) (by decide) rfl (by decide) (lq_quote ⟨C0, hl, hL⟩ ⟨by omega, by omega⟩ hk9 ht9 hV hW9 hcc hG hu2 hu1 (lt_39 ⟨C0, hl, hL⟩ ⟨by omega, by omega⟩ hk9 ht9 kE) (by omega) (by omega) (by omega))
      · exact jj_tab C0 (tgt := 699) (k := 7) (by omega) dL_law_217 (by decide) (by decide) rfl (by decide) (lq_quote ⟨C0, hl, hL⟩ ⟨by omega, by omega⟩ hk9 ht9 hV hW9 hcc hG hu2 hu1 (lt_39 ⟨C0, hl, hL⟩ ⟨by omega, by omega⟩ hk9 ht9 kE) (by omega) (by omega) (by omega))
      · exact jj_tab C0 (tgt := 699) (k := 8) (by omega) dL_law_217 (by decide) (by decide) rfl (by decide) (lq_quote ⟨C0, hl, hL⟩ ⟨by omega, by omega⟩ hk9 ht9 hV hW9 hcc hG hu2 hu1 (lt_39 ⟨C0, hl, hL⟩ ⟨by omega, by omega⟩ hk9 ht9 kE) (by omega) (by omega) (by omega))
      · exact jj_tab C0 (tgt := 858) (k := 9) (by omega) dL_law_217 (by decide) (by decide) rfl (by decide) (lq_order ⟨C0, hl, hL⟩ ⟨by omega, by omega⟩ hk9 ht9 hV hW9 hcc hG hu2 hu1 (lt_39 ⟨C0, hl, hL⟩ ⟨by omega, by omega⟩ hk9 ht9 kE) (by omega) (by omega) (by omega))
      · exact jj_tab C0 (tgt := 858) (k := 10) (by omega) dL_law_217 (by decide) (by decide) rfl (by decide) (lq_order ⟨C0, hl, hL⟩ ⟨by omega, by omega⟩ hk9 ht9 hV hW9 hcc hG hu2 hu1 (lt_39 ⟨C0, hl, hL⟩ ⟨by omega, by omega⟩ hk9 ht9 kE) (by omega) (by omega) (by omega))
      · exact jj_tab C0 (tgt := 858) (k := 11) (by omega) dL_law_217 (by decide) (by decide) rfl (by decide) (lq_order ⟨C0, hl, hL⟩ ⟨by omega, by omega⟩ hk9 ht9 hV hW9 hcc hG hu2 hu1 (lt_39 ⟨C0, hl, hL⟩ ⟨by omega, by omega⟩ hk9 ht9 kE) (by omega) (by omega) (by omega))
      · exact jj_tab C0 (tgt := 1317) (k := 12) (by omega) dL_law_217 (by decide) (by decide) rfl (by decide) (lq_hedge ⟨C0, hl, hL⟩ ⟨by omega, by omega⟩ hk9 ht9 hV hW9 hcc hG hu2 hu1 (lt_39 ⟨C0, hl, hL⟩ ⟨by omega, by omega⟩ hk9 ht9 kE))
      · exact jj_tab C0 (tgt := 1429) (k := 13) (by omega) dL_law_217 (by decide) (by decide) rfl (by decide) (lq_limex ⟨C0, hl, hL⟩ ⟨by omega, by omega⟩ hk9 ht9 hV hW9 hcc hG hu2 hu1 (lt_39 ⟨C0, hl, hL⟩ ⟨by omega, by omega⟩ hk9 ht9 kE) (by omega) (by omega) (by omega))
      · exact jj_tab C0 (tgt := 1656) (k := 14) (by omega) dL_law_217 (by decide) (by decide) rfl (by decide) (lq_contrary ⟨C0, hl, hL⟩ ⟨by omega, by omega⟩ hk9 ht9 hV hW9 hcc hG hu2 hu1 (lt_39 ⟨C0, hl, hL⟩ ⟨by omega, by omega⟩ hk9 ht9 kE) (by omega) (by omega) (by omega))
      · exact jj_tabD C0 (tgt := 1784) (by omega) dL_law_217 (Or.inr (by omega)) (by decide) (lq_close ⟨C0, hl, hL⟩ ⟨by omega, by omega⟩ hk9 ht9 hV hW9 hcc hG hu2 hu1 (lt_39 ⟨C0, hl, hL⟩ ⟨by omega, by omega⟩ hk9 ht9 kE))
    · refine jj_iconst C0 dL_law_206 ?_
      refine jj_goto C0 (tgt := 217) dL_law_207 (by decide) ?_
      refine jj_toHw ?_
      exact jj_tab C0 (tgt := 292) (k := 0) (by omega) dL_law_217 (by decide) (by decide) rfl (by decide) (lq_contract ⟨C0, hl, hL⟩ ⟨by omega, by omega⟩ hk9 ht9 hV hW9 hcc hG hu2 hu1 (lt_39 ⟨C0, hl, hL⟩ ⟨by omega, by omega⟩ hk9 ht9 kE) hpos)
  · refine jj_iconst C0 dL_law_187 ?_
    refine jj_goto C0 (tgt := 192) dL_law_188 (by decide) ?_
    refine jj_istore C0 (lv' := [(16, .int (iI 1)), (14, .long (lI (f_W up dn dv td n K St Ex Am He Ca sh pr))), (13, .int (iI (w9w : Int))), (12, .int (iI (c9c : Int))), (11, .int (iI u_3)), (10, .int (iI u_2)), (9, .int (iI (t : Int))), (8, .ref (ka 6)), (7, .ref (ka 5)), (6, .ref (ka 4)), (5, .ref (ka 3)), (4, .ref (ka 2)), (3, .ref (ka 1)), (2, .ref (ka 0)), (1, .ref (ha 0)), (0, .ref b)]) (by decide) rfl dL_law_192 ?_
    refine jj_iconst C0 dL_law_194 ?_
    refine jj_istore C0 (lv' := [(17, .int (iI 1)), (16, .int (iI 1)), (14, .long (lI (f_W up dn dv td n K St Ex Am He Ca sh pr))), (13, .int (iI (w9w : Int))), (12, .int (iI (c9c : Int))), (11, .int (iI u_3)), (10, .int (iI u_2)), (9, .int (iI (t : Int))), (8, .ref (ka 6)), (7, .ref (ka 5)), (6, .ref (ka 4)), (5, .ref (ka 3)), (4, .ref (ka 2)), (3, .ref (ka 1)), (2, .ref (ka 0)), (1, .ref (ha 0)), (0, .ref b)]) (by decide) rfl dL_law_195 ?_
    refine jj_iconst C0 dL_law_197 ?_
    refine jj_istore C0 (lv' := [(18, .int (iI (-1))), (17, .int (iI 1)), (16, .int (iI 1)), (14, .long (lI (f_W up dn dv td n K St Ex Am He Ca sh pr))), (13, .int (iI (w9w : Int))), (12, .int (iI (c9c : Int))), (11, .int (iI u_3)), (10, .int (iI u_2)), (9, .int (iI (t : Int))), (8, .ref (ka 6)), (7, .ref (ka 5)), (6, .ref (ka 4)), (5, .ref (ka 3)), (4, .ref (ka 2)), (3, .ref (ka 1)), (2, .ref (ka 0)), (1, .ref (ha 0)), (0, .ref b)]) (by decide) rfl dL_law_198 ?_
    refine jj_iload C0 8 rfl dL_law_200 ?_
    refine jj_iconst C0 dL_law_202 ?_
    refine jj_icmp_ge C0 (by omega) (by omega) dL_law_203 (tgt := 210) (by decide) (fun c_8 => ?_) (fun c_8 => ?_)
    · refine jj_iload C0 7 rfl dL_law_210 ?_
      refine jj_bipush C0 dL_law_212 (by decide) ?_
      refine jj_callSi C0 (cells' := (cells + 6)) (slots' := (slots + 192)) (cc_L_low hEV (v := u_2) (m := 16) (by omega)) (cwS 2 hw (lw_gS hU_167 hU_168 hU_42 hU_169) rfl rfl rfl (by decide +kernel) ⟨Nat.le_of_ble_eq_true rfl, Nat.le_of_ble_eq_true rfl⟩) rfl rfl (Nat.le_of_ble_eq_true rfl) ⟨by show (cells + 6) + 0 ≤ 600104; omega, by show (slots + 192) + 0 ≤ 7301314; omega⟩ rfl rfl dL_law_214 ?_
      intro _ hu
      show jj_W _ _ _ _ _ _ _ _ _ _ _ _ _ _ _ _ _ 217 _ [.int (iI (f_lo u_2 16))] (wL ka cI cJ td pr up dn mo sh co n K St Ex Am Ov Bj Aj BL AL He Cj dv Ca sd Cz ++ (wH ha cA hA nA ed cI cJ cZ td pr up dn dv rw sd mc n mo sh co Ca Cz K St Ex Am Bi As BL AL He Co ++ GG))
      refine jj_toHw ?_
      have hz9 := f_lo_bd u_2 (k := 16) (by omega)
      generalize (f_lo u_2 16) = z at hz9 ⊢
      rcases (by omega : z = 0 ∨ z = 1 ∨ z = 2 ∨ z = 3 ∨ z = 4 ∨ z = 5 ∨ z = 6 ∨ z = 7 ∨ z = 8 ∨ z = 9 ∨ z = 10 ∨ z = 11 ∨ z = 12 ∨ z = 13 ∨ z = 14 ∨ z = 15) with rfl | rfl | rfl | rfl | rfl | rfl | rfl | rfl | rfl | rfl | rfl | rfl | rfl | rfl | rfl | rfl
      · exact jj_tab C0 (tgt := 292) (k := 0) (by omega) dL_law_217 (by decide) (by decide) rfl (by decide) (lq_contract ⟨C0, hl, hL⟩ ⟨by omega, by omega⟩ hk9 ht9 hV hW9 hcc hG hu2 hu1 (lt_39 ⟨C0, hl, hL⟩ ⟨by omega, by omega⟩ hk9 ht9 kE) hpos)
      · exact jj_tab C0 (tgt := 292) (k := 1) (by omega) dL_law_217 (by decide) (by decide) rfl (by decide) (lq_contract ⟨C0, hl, hL⟩ ⟨by omega, by omega⟩ hk9 ht9 hV hW9 hcc hG hu2 hu1 (lt_39 ⟨C0, hl, hL⟩ ⟨by omega, by omega⟩ hk9 ht9 kE) hpos)
      · exact jj_tab C0 (tgt := 475) (k := 2) (by omega) dL_law_217 (by decide) (by decide) rfl (by decide) (lq_steps ⟨C0, hl, hL⟩ ⟨by omega, by omega⟩ hk9 ht9 hV hW9 hcc hG hu2 hu1 (lt_39 ⟨C0, hl, hL⟩ ⟨by omega, by omega⟩ hk9 ht9 kE))
      · exact jj_tab C0 (tgt := 531) (k := 3) (by omega) dL_law_217 (by decide) (by decide) rfl (by decide) (lq_move ⟨C0, hl, hL⟩ ⟨by omega, by omega⟩ hk9 ht9 hV hW9 hcc hG hu2 hu1 (lt_39 ⟨C0, hl, hL⟩ ⟨by omega, by omega⟩ hk9 ht9 kE))
      · exact jj_tab C0 (tgt := 531) (k := 4) (by omega) dL_law_217 (by decide) (by decide) rfl (by decide) (lq_move ⟨C0, hl, hL⟩ ⟨by omega, by omega⟩ hk9 ht9 hV hW9 hcc hG hu2 hu1 (lt_39 ⟨C0, hl, hL⟩ ⟨by omega, by omega⟩ hk9 ht9 kE))
      · exact jj_tab C0 (tgt := 622) (k := 5) (by omega) dL_law_217 (by decide) (by decide) rfl (by decide) (lq_dividend ⟨C0, hl, hL⟩ ⟨by omega, by omega⟩ hk9 ht9 hV hW9 hcc hG hu2 hu1 (lt_39 ⟨C0, hl, hL⟩ ⟨by omega, by omega⟩ hk9 ht9 kE))
      · exact jj_tab C0 (tgt := 699) (k := 6) (by omega) dL_law_217 (by decide) (by decide) rfl (by decide) (lq_quote ⟨C0, hl, hL⟩ ⟨by omega, by omega⟩ hk9 ht9 hV hW9 hcc hG hu2 hu1 (lt_39 ⟨C0, hl, hL⟩ ⟨by omega, by omega⟩ hk9 ht9 kE) (by omega) (by omega) (by omega))
      · exact jj_tab C0 (tgt := 699) (k := 7) (by omega) dL_law_217 (by decide) (by decide) rfl (by decide) (lq_quote ⟨C0, hl, hL⟩ ⟨by omega, by omega⟩ hk9 ht9 hV hW9 hcc hG hu2 hu1 (lt_39 ⟨C0, hl, hL⟩ ⟨by omega, by omega⟩ hk9 ht9 kE) (by omega) (by omega) (by omega))
      · exact jj_tab C0 (tgt := 699) (k := 8) (by omega) dL_law_217 (by decide) (by decide) rfl (by decide) (lq_quote ⟨C0, hl, hL⟩ ⟨by omega, by omega⟩ hk9 ht9 hV hW9 hcc hG hu2 hu1 (lt_39 ⟨C0, hl, hL⟩ ⟨by omega, by omega⟩ hk9 ht9 kE) (by omega) (by omega) (by omega))
      · exact jj_tab C0 (tgt := 858) (k := 9) (by omega) dL_law_217 (by decide) (by decide) rfl (by decide) (lq_order ⟨C0, hl, hL⟩ ⟨by omega, by omega⟩ hk9 ht9 hV hW9 hcc hG hu2 hu1 (lt_39 ⟨C0, hl, hL⟩ ⟨by omega, by omega⟩ hk9 ht9 kE) (by omega) (by omega) (by omega))
      · exact jj_tab C0 (tgt := 858) (k := 10) (by omega) dL_law_217 (by decide) (by decide) rfl (by decide) (lq_order ⟨C0, hl, hL⟩ ⟨by omega, by omega⟩ hk9 ht9 hV hW9 hcc hG hu2 hu1 (lt_39 ⟨C0, hl, hL⟩ ⟨by omega, by omega⟩ hk9 ht9 kE) (by omega) (by omega) (by omega))
      · exact jj_tab C0 (tgt := 858) (k := 11) (by omega) dL_law_217 (by decide) (by decide) rfl (by decide) (lq_order ⟨C0, hl, hL⟩ ⟨by omega, by omega⟩ hk9 ht9 hV hW9 hcc hG hu2 hu1 (lt_39 ⟨C0, hl, hL⟩ ⟨by omega, by omega⟩ hk9 ht9 kE) (by omega) (by omega) (by omega))
      · exact jj_tab C0 (tgt := 1317) (k := 12) (by omega) dL_law_217 (by decide) (by decide) rfl (by decide) (lq_hedge ⟨C0, hl, hL⟩ ⟨by omega, by omega⟩ hk9 ht9 hV hW9 hcc hG hu2 hu1 (lt_39 ⟨C0, hl, hL⟩ ⟨by omega, by omega⟩ hk9 ht9 kE))
      · exact jj_tab C0 (tgt := 1429) (k := 13) (by omega) dL_law_217 (by decide) (by decide) rfl (by decide) (lq_limex ⟨C0, hl, hL⟩ ⟨by omega, by omega⟩ hk9 ht9 hV hW9 hcc hG hu2 hu1 (lt_39 ⟨C0, hl, hL⟩ ⟨by omega, by omega⟩ hk9 ht9 kE) (by omega) (by omega) (by omega))
      · exact jj_tab C0 (tgt := 1656) (k := 14) (by omega) dL_law_217 (by decide) (by decide) rfl (by decide) (lq_contrary ⟨C0, hl, hL⟩ ⟨by omega, by omega⟩ hk9 ht9 hV hW9 hcc hG hu2 hu1 (lt_39 ⟨C0, hl, hL⟩ ⟨by omega, by omega⟩ hk9 ht9 kE) (by omega) (by omega) (by omega))
      · exact jj_tabD C0 (tgt := 1784) (by omega) dL_law_217 (Or.inr (by omega)) (by decide) (lq_close ⟨C0, hl, hL⟩ ⟨by omega, by omega⟩ hk9 ht9 hV hW9 hcc hG hu2 hu1 (lt_39 ⟨C0, hl, hL⟩ ⟨by omega, by omega⟩ hk9 ht9 kE))
    · refine jj_iconst C0 dL_law_206 ?_
      refine jj_goto C0 (tgt := 217) dL_law_207 (by decide) ?_
      refine jj_toHw ?_
      exact jj_tab C0 (tgt := 292) (k := 0) (by omega) dL_law_217 (by decide) (by decide) rfl (by decide) (lq_contract ⟨C0, hl, hL⟩ ⟨by omega, by omega⟩ hk9 ht9 hV hW9 hcc hG hu2 hu1 (lt_39 ⟨C0, hl, hL⟩ ⟨by omega, by omega⟩ hk9 ht9 kE) hpos)
/-- how the law ends -/
def f_EX (p : Program) (l : Launch) (e : Env) (s : State) (m : MethodId) (args : Array Value) (below : List Frame) (meth : Method) (c9 : Code) (dC : Nat → ClassId) (dI : Nat → Nat → Nat) (A : Nat → Prop) (Q : State → Prop) : Prop := ∀ (cells slots : Nat) (lv : List (Nat × Value)) (ws : va_W), cells ≤ 600104 → slots ≤ 7301314 → jj_W p l e room_1 s m args below meth c9 (dC, dI) vwCl A 46 cells slots Q 2271 lv [.int (iI 1)] ws
set_option maxHeartbeats 4000000 in
set_option maxRecDepth 100000 in
theorem law_end (hC9 : f_C9 p l s m args meth c9 dC dI A cI cJ cZ cO es mi sa b L xs) (hcs : cells + 100 ≤ 600104 ∧ slots + 1000 ≤ 7301314) (hI : f_IV k9 td n pr up dn dv sd mo sh Ca K St Ex Am Ov Bi As Bj Aj BL AL He Co) (hJ : f_JV t td n pr dv sh St Ex Bj Aj) (hk9 : k9 ≤ 90) (hG : f_LG cO es n ed cA GG) (hX9 : f_EX p l e s m args below meth c9 dC dI A Q) : jj_W p l e room_1 s m args below meth c9 (dC, dI) vwCl A 46 cells slots Q 84 [(9, .int (iI ((90 : Nat) : Int))), (8, .ref (ka 6)), (7, .ref (ka 5)), (6, .ref (ka 4)), (5, .ref (ka 3)), (4, .ref (ka 2)), (3, .ref (ka 1)), (2, .ref (ka 0)), (1, .ref (ha 0)), (0, .ref b)] [] (wH ha cA hA nA ed cI cJ cZ td pr up dn dv rw sd mc n mo sh co Ca Cz K St Ex Am Bi As BL AL He Co ++ (GG ++ wL ka cI cJ td pr up dn mo sh co n K St Ex Am Ov Bj Aj BL AL He Cj dv Ca sd Cz)) := by
  obtain ⟨C0, hl, hL⟩ := hC9
  have hw := C0.2.2.2.2.1
  have hEV := hEVS es mi sa b L xs
  have hED0 : 0 < n → f_ED cA n ed cO GG := fun h9 => by have h8 := f_LG_ED (M := []) hG h9; rwa [List.append_nil] at h8
  have hV := hI
  obtain ⟨⟨htd, hn, hpr, hup, hdn, hdv, hsd, hmo, hsh⟩, ⟨hK, hSt, hEx, hAm, hOv, hovs, hexs, hovn⟩, hQ9, ⟨hHe, hsums, hHz⟩, ⟨hCo, hCz⟩, hCa⟩ := hI
  have hQ := hQ9
  obtain ⟨hBi, hAs, hBj, hAj, hBL, hAL, hQt, hQ0, hQn, hQo⟩ := hQ9
  have hW9 := hJ
  obtain ⟨hn6, htd5, hex5, hSp, hdv9, hBA, hsh9⟩ := hJ
  have hexs1 : ∀ c, c < n → Ex c ≤ (td : Int) + 10 := fun c hc => (hexs c hc).1
  have hHe9 : ∀ j, -999000 ≤ He j ∧ He j ≤ 999000 := fun j => by have := hHe j; omega
  have hHe6 : ∀ j, -1000000 ≤ He j ∧ He j ≤ 1000000 := fun j => by have := hHe j; omega
  have hCa9 : ∀ j, -100000000000000000 ≤ Ca j ∧ Ca j ≤ 100000000000000000 := fun j => by have := hCa j; omega
  have hov5 : ∀ c, c < n → (Ov c = 1 ∧ Ex c < (td : Int)) ∨ (Ov c = 0 ∧ (td : Int) ≤ Ex c ∧ Ex c ≤ (td : Int) + 5) := fun c hc => by have h1 := hovs c hc; have h2 := hex5 c hc; omega
  have hovw : ∀ c, c < n → He (7 * c + 6) = 0 ∨ (Ov c = 1 ∧ Ex c < (td : Int)) ∨ (Ov c = 0 ∧ (td : Int) ≤ Ex c ∧ Ex c ≤ (td : Int) + 5) := fun c hc => Or.inr (hov5 c hc)
  refine jj_iload C0 0 rfl dL_law_84 ?_
  refine jj_bipush C0 dL_law_86 (by decide) ?_
  refine jj_icmp_ge C0 (by omega) (by omega) dL_law_88 (tgt := 2243) (by decide) (fun c_1 => ?_) (fun c_1 => absurd c_1 (by omega))
  refine jj_aload_n C0 8 rfl dL_law_2243 ?_
  refine jj_iconst C0 dL_law_2244 ?_
  refine jj_callSWi C0 (cells' := (cells + 1)) (slots' := (slots + 6)) (jj_weaki (fun A U H h => h.1.1) (cr_L_seed hl (x := (-1)) (by omega) (by omega))) (vx_cwSW 2 hw (lw_gW hU_617 hU_618 hU_42 hU_619) rfl rfl rfl (by decide +kernel) ⟨Nat.le_of_ble_eq_true rfl, Nat.le_of_ble_eq_true rfl⟩) rfl rfl (Nat.le_of_ble_eq_true rfl) ⟨by show cells + 1 ≤ 600104; omega, by show slots + 6 ≤ 7301314; omega⟩ rfl rfl dL_law_2245 ?_
  intro _ hu
  show jj_W _ _ _ _ _ _ _ _ _ _ _ _ _ _ _ _ _ 2248 _ [.int (iI (-2000000002))] (wH ha cA hA nA ed cI cJ cZ td pr up dn dv rw sd mc n mo sh co Ca Cz K St Ex Am Bi As BL AL He Co ++ (GG ++ wL ka cI cJ td pr up dn mo sh co n K St Ex Am Ov Bj Aj BL AL He Cj dv Ca sd Cz))
  refine jj_ldc C0 (z := -2000000002) (by decide) (hw _ hU_329) dL_law_2248 ?_
  refine jj_icmp_ne C0 (by omega) (by omega) dL_law_2250 (tgt := 2270) (by decide) (fun c_2 => absurd c_2 (by omega)) (fun c_2 => ?_)
  refine jj_aload_n C0 8 rfl dL_law_2253 ?_
  refine jj_bipush C0 dL_law_2254 (by decide) ?_
  refine jj_callSWl C0 (cells' := ((cells + 1) + 1)) (slots' := ((slots + 6) + 6)) (jj_weakl (fun A U H h => h.1.1) (cr_L_cash hl (w := 6) (by omega) (by omega))) (vx_cwSW 2 hw (lw_gW hU_690 hU_691 hU_42 hU_692) rfl rfl rfl (by decide +kernel) ⟨Nat.le_of_ble_eq_true rfl, Nat.le_of_ble_eq_true rfl⟩) rfl rfl (Nat.le_of_ble_eq_true rfl) ⟨by show (cells + 1) + 1 ≤ 600104; omega, by show (slots + 6) + 6 ≤ 7301314; omega⟩ rfl rfl dL_law_2256 ?_
  intro _ hu
  show jj_W _ _ _ _ _ _ _ _ _ _ _ _ _ _ _ _ _ 2259 _ [.long (lI (-2000000001))] (wH ha cA hA nA ed cI cJ cZ td pr up dn dv rw sd mc n mo sh co Ca Cz K St Ex Am Bi As BL AL He Co ++ (GG ++ wL ka cI cJ td pr up dn mo sh co n K St Ex Am Ov Bj Aj BL AL He Cj dv Ca sd Cz))
  refine jj_ldc2 C0 (z := -2000000001) (by decide) (hw _ hU_697) dL_law_2259 ?_
  refine jj_lcmp_ne C0 (by omega) (by omega) dL_law_2262 dL_law_2263 (tgt := 2270) (by decide) (fun c_3 => absurd c_3 (by omega)) (fun c_3 => ?_)
  refine jj_iconst C0 dL_law_2266 ?_
  refine jj_goto C0 (tgt := 2271) dL_law_2267 (by decide) ?_
  exact hX9 _ _ _ _ (by omega) (by omega)
set_option maxHeartbeats 4000000 in
set_option maxRecDepth 100000 in
theorem law_loop (hC9 : f_C9 p l s m args meth c9 dC dI A cI cJ cZ cO es mi sa b L xs) (hX9 : f_EX p l e s m args below meth c9 dC dI A Q) : ∀ (r : Nat) (cA hA nA : Nat → Nat) (ed : Nat) (rw : Nat → Int) (mc : Int) (GG : va_W) (td : Nat) (pr up dn : Int) (dv : Nat → Int) (sd : Int) (n : Nat) (mo sh co : Int) (Ca Cz K St Ex Am Ov Bi As Bj Aj BL AL He Co Cj : Nat → Int) (t cells slots : Nat), t + r = 90 → f_IV t td n pr up dn dv sd mo sh Ca K St Ex Am Ov Bi As Bj Aj BL AL He Co → f_JV t td n pr dv sh St Ex Bj Aj → f_JC Ov Co Cj → f_LG cO es n ed cA GG → cells ≤ 100 + 400 * t → slots ≤ 2000 + 10000 * t → jj_W p l e room_1 s m args below meth c9 (dC, dI) vwCl A 46 cells slots Q 84 [(9, .int (iI (t : Int))), (8, .ref (ka 6)), (7, .ref (ka 5)), (6, .ref (ka 4)), (5, .ref (ka 3)), (4, .ref (ka 2)), (3, .ref (ka 1)), (2, .ref (ka 0)), (1, .ref (ha 0)), (0, .ref b)] [] (wH ha cA hA nA ed cI cJ cZ td pr up dn dv rw sd mc n mo sh co Ca Cz K St Ex Am Bi As BL AL He Co ++ (GG ++ wL ka cI cJ td pr up dn mo sh co n K St Ex Am Ov Bj Aj BL AL He Cj dv Ca sd Cz)) := by
  obtain ⟨C0, hl, hL⟩ := id hC9
  intro r
  induction r with
  | zero =>
    intro cA hA nA ed rw mc GG td pr up dn dv sd n mo sh co Ca Cz K St Ex Am Ov Bi As Bj Aj BL AL He Co Cj t cells slots ht hI hJ hcc hG h1 h2
    obtain rfl : t = 90 := by omega
    exact law_end hC9 ⟨by omega, by omega⟩ hI hJ (by omega) hG hX9
  | succ r ih =>
    intro cA hA nA ed rw mc GG td pr up dn dv sd n mo sh co Ca Cz K St Ex Am Ov Bi As Bj Aj BL AL He Co Cj t cells slots ht hI hJ hcc hG h1 h2
    have kE : f_E9 p l e s m args below meth c9 dC dI A Q ha ka cI cJ cZ cO es b t t (cells + 6) (slots + 192) := by
      intro cA hA nA ed rw mc GG td pr up dn dv sd n mo sh co Ca Cz K St Ex Am Ov Bi As Bj Aj BL AL He Co Cj ce sl hI' hJ' hcc' hG' h3 h4
      refine jj_iinc C0 (z := ((t + 1 : Nat) : Int)) (lv' := [(9, .int (iI ((t + 1 : Nat) : Int))), (8, .ref (ka 6)), (7, .ref (ka 5)), (6, .ref (ka 4)), (5, .ref (ka 3)), (4, .ref (ka 2)), (3, .ref (ka 1)), (2, .ref (ka 0)), (1, .ref (ha 0)), (0, .ref b)]) 0 rfl (by omega) (by decide) rfl dL_law_2237 ?_
      refine jj_goto C0 (tgt := 84) dL_law_2240 (by decide) ?_
      exact ih cA hA nA ed rw mc GG td pr up dn dv sd n mo sh co Ca Cz K St Ex Am Ov Bi As Bj Aj BL AL He Co Cj (t + 1) ce sl (by omega) hI' hJ' hcc' hG' (by omega) (by omega)
    by_cases hp : 0 < n
    · exact law_turn hC9 ⟨by omega, by omega⟩ (by omega) (by omega) hI hJ hcc hG kE hp
    · exact law_turn_0 hC9 ⟨by omega, by omega⟩ (by omega) (by omega) hI hJ hcc hG kE (by omega)
end P10
