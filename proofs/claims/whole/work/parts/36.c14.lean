section CC14a
variable {p : Program} {l : Launch} {e : Env} {R : Room} {s : State} {m : MethodId} {args : Array Value} {below : List Frame} {meth : Method} {c : Code} {D : va_G} {cl : List vw_C} {A : Nat → Prop} {nL cells slots : Nat} {Q : State → Prop} {cc : ByteArray} {pc : Nat} {rest : List Value} {lv : List (Nat × Value)} {ws E : va_W} {X : String} {own : String} {Ts : List Cond} {tys : List (ClassId × FieldType)} {EV : (Nat → Prop) → State → Heap → Prop}
theorem jj_tabD (C0 : jj_C p s m args meth c D cl A nL cc own Ts tys EV) {dflt lo hi : Int} {offs : Array Int} {len : Nat} {k : Int} {tgt : Nat} (hr : iR k) (hdg : decode cc pc = .ok (.tableswitch dflt lo hi offs, len)) (h1 : k < lo ∨ hi < k) (ht : (pc : Int) + dflt = (tgt : Int)) (kk : jj_W p l e R s m args below meth c D cl A nL cells slots Q tgt lv rest ws) : jj_W p l e R s m args below meth c D cl A nL cells slots Q pc lv (.int (iI k) :: rest) ws :=
  fun H locs ls hP hD hS hl => lv_tableOut C0.1 C0.2.1 hdg (by rw [iI_toInt hr]; exact h1) ht (kk H locs ls hP hD hS hl)
end CC14a
section CC14
variable {sa : Nat → Nat} {l : Launch} {dC : Nat → ClassId} {dI : Nat → Nat → Nat} {cI cJ cZ cO : ClassId} {EE ws : va_W} {ha cA hA nA : Nat → Nat} {ed : Nat} {td : Nat} {pr up dn : Int} {dv rw : Nat → Int} {sd mc : Int} {n : Nat} {mo sh co : Int} {Ca Cz K St Ex Am Bi As BL AL He Co : Nat → Int}
set_option maxHeartbeats 4000000 in
set_option maxRecDepth 100000 in
theorem cx_X3_steps (hl : l.stackTraces = false) {x y : Int} (hbad : ¬ (1 ≤ x ∧ x ≤ 10 ∧ 1 ≤ y ∧ y ≤ 10)) (hrx : iR x) (hry : iR y) : jj_X (EVT sa) (dC, dI) vwCl [(cI, .int), (cJ, .long), (cZ, .boolean), (cO, .object "java/lang/Object")] l yX3_steps (Cond.code yX3_steps cX3_steps 5 none :: lw_U) ({ frames := 7, cells := 1, slots := 6, locals := 122 } : Room) [.ref (ha 0), .int (iI x), .int (iI y)] (wH ha cA hA nA ed cI cJ cZ td pr up dn dv rw sd mc n mo sh co Ca Cz K St Ex Am Bi As BL AL He Co ++ EE) "java/lang/IllegalArgumentException" := by
  refine jj_startX (cc := cX3_steps) (nL := 5) (ret := none) (lv := [(0, .ref (ha 0)), (1, .int (iI x)), (2, .int (iI y))]) (hEVT sa) (by decide) rfl (Nat.le_of_ble_eq_true rfl) rfl ?_
  intro p9 e9 s9 m9 a9 b9 me9 c9 A9 C1 hx0
  have C0 : jj_C p9 s9 m9 a9 me9 c9 (dC, dI) vwCl A9 5 cX3_steps "Strikehall" lw_U _ (EVT sa) := jj_toU C1
  have hw := C0.2.2.2.2.1
  have hE := C0.2.2.2.2.2.2.2.1
  refine jj_iload_n C0 1 rfl dX3_steps_0 ?_
  refine jj_iconst C0 dX3_steps_1 ?_
  refine jj_bipush C0 dX3_steps_2 (by decide) ?_
  by_cases g4 : 1 ≤ x ∧ x ≤ 10
  · skip
    refine jj_callSv C0 (jj_weakv (fun A U H h => h.1) (cc_X3_checkRange  (a := x) (b := 1) (d := 10) (by omega) (by omega) (by omega) (by omega))) (cwS 3 hw (lw_gS hU_329 hU_330 hU_60 hU_331) rfl rfl rfl (by decide +kernel) ⟨Nat.le_of_ble_eq_true rfl, Nat.le_of_ble_eq_true rfl⟩) rfl rfl (Nat.le_of_ble_eq_true rfl) ⟨by decide, by decide⟩ rfl rfl dX3_steps_4 ?_
    intro _ hu
    show jj_W _ _ _ _ _ _ _ _ _ _ _ _ _ _ _ _ _ 7 _ [] (wH ha cA hA nA ed cI cJ cZ td pr up dn dv rw sd mc n mo sh co Ca Cz K St Ex Am Bi As BL AL He Co ++ EE)
    refine jj_iload_n C0 2 rfl dX3_steps_7 ?_
    refine jj_iconst C0 dX3_steps_8 ?_
    refine jj_bipush C0 dX3_steps_9 (by decide) ?_
    by_cases g11 : 1 ≤ y ∧ y ≤ 10
    · exact absurd hbad (by omega)
    · skip
      exact jj_callXS C0 hx0 (cx_X3_checkRange hl (by omega) (by omega) (by omega) (by omega)) (cwS 3 hw (lw_gS hU_329 hU_330 hU_60 hU_331) rfl rfl rfl (by decide +kernel) ⟨Nat.le_of_ble_eq_true rfl, Nat.le_of_ble_eq_true rfl⟩) rfl rfl (Nat.le_of_ble_eq_true rfl) ⟨by decide, by decide⟩ ⟨by decide, by decide⟩ dX3_steps_11
  · skip
    exact jj_callXS C0 hx0 (cx_X3_checkRange hl (by omega) (by omega) (by omega) (by omega)) (cwS 3 hw (lw_gS hU_329 hU_330 hU_60 hU_331) rfl rfl rfl (by decide +kernel) ⟨Nat.le_of_ble_eq_true rfl, Nat.le_of_ble_eq_true rfl⟩) rfl rfl (Nat.le_of_ble_eq_true rfl) ⟨by decide, by decide⟩ ⟨by decide, by decide⟩ dX3_steps_4
set_option maxHeartbeats 4000000 in
set_option maxRecDepth 100000 in
theorem cx_X3_move (hl : l.stackTraces = false) {x : Int} (hbad : ¬ (0 ≤ x ∧ x ≤ 20000)) (hrx : iR x) : jj_X (EVT sa) (dC, dI) vwCl [(cI, .int), (cJ, .long), (cZ, .boolean), (cO, .object "java/lang/Object")] l yX3_move (Cond.code yX3_move cX3_move 6 (some .long) :: lw_U) ({ frames := 7, cells := 1, slots := 6, locals := 122 } : Room) [.ref (ha 0), .int (iI x)] (wH ha cA hA nA ed cI cJ cZ td pr up dn dv rw sd mc n mo sh co Ca Cz K St Ex Am Bi As BL AL He Co ++ EE) "java/lang/IllegalArgumentException" := by
  refine jj_startX (cc := cX3_move) (nL := 6) (ret := (some .long)) (lv := [(0, .ref (ha 0)), (1, .int (iI x))]) (hEVT sa) (by decide) rfl (Nat.le_of_ble_eq_true rfl) rfl ?_
  intro p9 e9 s9 m9 a9 b9 me9 c9 A9 C1 hx0
  have C0 : jj_C p9 s9 m9 a9 me9 c9 (dC, dI) vwCl A9 6 cX3_move "Strikehall" lw_U _ (EVT sa) := jj_toU C1
  have hw := C0.2.2.2.2.1
  have hE := C0.2.2.2.2.2.2.2.1
  refine jj_iload_n C0 1 rfl dX3_move_0 ?_
  refine jj_iconst C0 dX3_move_1 ?_
  refine jj_sipush C0 dX3_move_2 (by decide) ?_
  by_cases g5 : 0 ≤ x ∧ x ≤ 20000
  · exact absurd hbad (by omega)
  · skip
    exact jj_callXS C0 hx0 (cx_X3_checkRange hl (by omega) (by omega) (by omega) (by omega)) (cwS 3 hw (lw_gS hU_329 hU_330 hU_60 hU_331) rfl rfl rfl (by decide +kernel) ⟨Nat.le_of_ble_eq_true rfl, Nat.le_of_ble_eq_true rfl⟩) rfl rfl (Nat.le_of_ble_eq_true rfl) ⟨by decide, by decide⟩ ⟨by decide, by decide⟩ dX3_move_5
set_option maxHeartbeats 4000000 in
set_option maxRecDepth 100000 in
theorem cx_X3_dividend (hl : l.stackTraces = false) {x y : Int} (hbad : ¬ ((td : Int) + 1 ≤ x ∧ x ≤ 200 ∧ 0 ≤ y ∧ y ≤ 1000)) (hrx : iR x) (hry : iR y) (htd : td ≤ 200) : jj_X (EVT sa) (dC, dI) vwCl [(cI, .int), (cJ, .long), (cZ, .boolean), (cO, .object "java/lang/Object")] l yX3_dividend (Cond.code yX3_dividend cX3_dividend 6 (some .int) :: lw_U) ({ frames := 7, cells := 1, slots := 6, locals := 122 } : Room) [.ref (ha 0), .int (iI x), .int (iI y)] (wH ha cA hA nA ed cI cJ cZ td pr up dn dv rw sd mc n mo sh co Ca Cz K St Ex Am Bi As BL AL He Co ++ EE) "java/lang/IllegalArgumentException" := by
  refine jj_startX (cc := cX3_dividend) (nL := 6) (ret := (some .int)) (lv := [(0, .ref (ha 0)), (1, .int (iI x)), (2, .int (iI y))]) (hEVT sa) (by decide) rfl (Nat.le_of_ble_eq_true rfl) rfl ?_
  intro p9 e9 s9 m9 a9 b9 me9 c9 A9 C1 hx0
  have C0 : jj_C p9 s9 m9 a9 me9 c9 (dC, dI) vwCl A9 6 cX3_dividend "Strikehall" lw_U _ (EVT sa) := jj_toU C1
  have hw := C0.2.2.2.2.1
  have hE := C0.2.2.2.2.2.2.2.1
  refine jj_iload_n C0 1 rfl dX3_dividend_0 ?_
  refine jj_aload_n C0 0 rfl dX3_dividend_1 ?_
  refine jj_get C0 (ci := 4) (v := .ref (ha 1)) hin_X3 (0) (rfl) rfl 0 (by decide) (hw _ hU_156) (fun _ h9 => h9) rfl dX3_dividend_2 ?_
  refine jj_getN C0 (ci := 3) (v := .int (iI (td : Int))) hin_X2 (1) (rfl) rfl 5 (by decide) (va_Nw.use rfl (hE.1.1 _ (hN_103))) (fun _ h9 => h9) rfl dX3_dividend_5 ?_
  refine jj_iconst C0 dX3_dividend_8 ?_
  refine jj_iadd C0 dX3_dividend_9 ?_
  refine jj_sipush C0 dX3_dividend_10 (by decide) ?_
  by_cases g13 : ((td : Int) + 1) ≤ x ∧ x ≤ 200
  · skip
    refine jj_callSv C0 (jj_weakv (fun A U H h => h.1) (cc_X3_checkRange  (a := x) (b := ((td : Int) + 1)) (d := 200) (by omega) (by omega) (by omega) (by omega))) (cwS 3 hw (lw_gS hU_329 hU_330 hU_60 hU_331) rfl rfl rfl (by decide +kernel) ⟨Nat.le_of_ble_eq_true rfl, Nat.le_of_ble_eq_true rfl⟩) rfl rfl (Nat.le_of_ble_eq_true rfl) ⟨by decide, by decide⟩ rfl rfl dX3_dividend_13 ?_
    intro _ hu
    show jj_W _ _ _ _ _ _ _ _ _ _ _ _ _ _ _ _ _ 16 _ [] (wH ha cA hA nA ed cI cJ cZ td pr up dn dv rw sd mc n mo sh co Ca Cz K St Ex Am Bi As BL AL He Co ++ EE)
    refine jj_iload_n C0 2 rfl dX3_dividend_16 ?_
    refine jj_iconst C0 dX3_dividend_17 ?_
    refine jj_sipush C0 dX3_dividend_18 (by decide) ?_
    by_cases g21 : 0 ≤ y ∧ y ≤ 1000
    · exact absurd hbad (by omega)
    · skip
      exact jj_callXS C0 hx0 (cx_X3_checkRange hl (by omega) (by omega) (by omega) (by omega)) (cwS 3 hw (lw_gS hU_329 hU_330 hU_60 hU_331) rfl rfl rfl (by decide +kernel) ⟨Nat.le_of_ble_eq_true rfl, Nat.le_of_ble_eq_true rfl⟩) rfl rfl (Nat.le_of_ble_eq_true rfl) ⟨by decide, by decide⟩ ⟨by decide, by decide⟩ dX3_dividend_21
  · skip
    exact jj_callXS C0 hx0 (cx_X3_checkRange hl (by omega) (by omega) (by omega) (by omega)) (cwS 3 hw (lw_gS hU_329 hU_330 hU_60 hU_331) rfl rfl rfl (by decide +kernel) ⟨Nat.le_of_ble_eq_true rfl, Nat.le_of_ble_eq_true rfl⟩) rfl rfl (Nat.le_of_ble_eq_true rfl) ⟨by decide, by decide⟩ ⟨by decide, by decide⟩ dX3_dividend_13
set_option maxHeartbeats 4000000 in
set_option maxRecDepth 100000 in
theorem cx_X3_contract (hl : l.stackTraces = false) {x y z v : Int} (hbad : ¬ (0 ≤ x ∧ x ≤ 1 ∧ 0 ≤ y ∧ y ≤ 20000 ∧ (td : Int) ≤ z ∧ z ≤ (td : Int) + 10 ∧ z ≤ 200)) (hrx : iR x) (hry : iR y) (hrz : iR z) (htd : td ≤ 200) : jj_X (EVT sa) (dC, dI) vwCl [(cI, .int), (cJ, .long), (cZ, .boolean), (cO, .object "java/lang/Object")] l yX3_contract (Cond.code yX3_contract cX3_contract 6 (some .int) :: lw_U) ({ frames := 7, cells := 1, slots := 6, locals := 122 } : Room) [.ref (ha 0), .int (iI x), .int (iI y), .int (iI z), .int (iI v)] (wH ha cA hA nA ed cI cJ cZ td pr up dn dv rw sd mc n mo sh co Ca Cz K St Ex Am Bi As BL AL He Co ++ EE) "java/lang/IllegalArgumentException" := by
  refine jj_startX (cc := cX3_contract) (nL := 6) (ret := (some .int)) (lv := [(0, .ref (ha 0)), (1, .int (iI x)), (2, .int (iI y)), (3, .int (iI z)), (4, .int (iI v))]) (hEVT sa) (by decide) rfl (Nat.le_of_ble_eq_true rfl) rfl ?_
  intro p9 e9 s9 m9 a9 b9 me9 c9 A9 C1 hx0
  have C0 : jj_C p9 s9 m9 a9 me9 c9 (dC, dI) vwCl A9 6 cX3_contract "Strikehall" lw_U _ (EVT sa) := jj_toU C1
  have hw := C0.2.2.2.2.1
  have hE := C0.2.2.2.2.2.2.2.1
  refine jj_iload_n C0 1 rfl dX3_contract_0 ?_
  refine jj_iconst C0 dX3_contract_1 ?_
  refine jj_iconst C0 dX3_contract_2 ?_
  by_cases g3 : 0 ≤ x ∧ x ≤ 1
  · skip
    refine jj_callSv C0 (jj_weakv (fun A U H h => h.1) (cc_X3_checkRange  (a := x) (b := 0) (d := 1) (by omega) (by omega) (by omega) (by omega))) (cwS 3 hw (lw_gS hU_329 hU_330 hU_60 hU_331) rfl rfl rfl (by decide +kernel) ⟨Nat.le_of_ble_eq_true rfl, Nat.le_of_ble_eq_true rfl⟩) rfl rfl (Nat.le_of_ble_eq_true rfl) ⟨by decide, by decide⟩ rfl rfl dX3_contract_3 ?_
    intro _ hu
    show jj_W _ _ _ _ _ _ _ _ _ _ _ _ _ _ _ _ _ 6 _ [] (wH ha cA hA nA ed cI cJ cZ td pr up dn dv rw sd mc n mo sh co Ca Cz K St Ex Am Bi As BL AL He Co ++ EE)
    refine jj_iload_n C0 2 rfl dX3_contract_6 ?_
    refine jj_iconst C0 dX3_contract_7 ?_
    refine jj_sipush C0 dX3_contract_8 (by decide) ?_
    by_cases g11 : 0 ≤ y ∧ y ≤ 20000
    · skip
      refine jj_callSv C0 (jj_weakv (fun A U H h => h.1) (cc_X3_checkRange  (a := y) (b := 0) (d := 20000) (by omega) (by omega) (by omega) (by omega))) (cwS 3 hw (lw_gS hU_329 hU_330 hU_60 hU_331) rfl rfl rfl (by decide +kernel) ⟨Nat.le_of_ble_eq_true rfl, Nat.le_of_ble_eq_true rfl⟩) rfl rfl (Nat.le_of_ble_eq_true rfl) ⟨by decide, by decide⟩ rfl rfl dX3_contract_11 ?_
      intro _ hu
      show jj_W _ _ _ _ _ _ _ _ _ _ _ _ _ _ _ _ _ 14 _ [] (wH ha cA hA nA ed cI cJ cZ td pr up dn dv rw sd mc n mo sh co Ca Cz K St Ex Am Bi As BL AL He Co ++ EE)
      refine jj_iload_n C0 3 rfl dX3_contract_14 ?_
      refine jj_aload_n C0 0 rfl dX3_contract_15 ?_
      refine jj_get C0 (ci := 4) (v := .ref (ha 1)) hin_X3 (0) (rfl) rfl 0 (by decide) (hw _ hU_156) (fun _ h9 => h9) rfl dX3_contract_16 ?_
      refine jj_getN C0 (ci := 3) (v := .int (iI (td : Int))) hin_X2 (1) (rfl) rfl 5 (by decide) (va_Nw.use rfl (hE.1.1 _ (hN_103))) (fun _ h9 => h9) rfl dX3_contract_19 ?_
      refine jj_aload_n C0 0 rfl dX3_contract_22 ?_
      refine jj_get C0 (ci := 4) (v := .ref (ha 1)) hin_X3 (0) (rfl) rfl 0 (by decide) (hw _ hU_156) (fun _ h9 => h9) rfl dX3_contract_23 ?_
      refine jj_getN C0 (ci := 3) (v := .int (iI (td : Int))) hin_X2 (1) (rfl) rfl 5 (by decide) (va_Nw.use rfl (hE.1.1 _ (hN_103))) (fun _ h9 => h9) rfl dX3_contract_26 ?_
      refine jj_bipush C0 dX3_contract_29 (by decide) ?_
      refine jj_iadd C0 dX3_contract_31 ?_
      refine jj_sipush C0 dX3_contract_32 (by decide) ?_
      refine jj_mmin C0 (by omega) (by omega) (hw _ hU_431) (List.forall_mem_cons.mpr ⟨hw _ hU_313, List.forall_mem_cons.mpr ⟨hw _ hU_73, List.forall_mem_cons.mpr ⟨hw _ hU_314, fun _ h => absurd h List.not_mem_nil⟩⟩⟩) (by decide) (Nat.le_of_ble_eq_true rfl) ⟨by decide, by decide⟩ dX3_contract_35 ?_
      by_cases g38 : (td : Int) ≤ z ∧ z ≤ (min ((td : Int) + 10) 200)
      · exact absurd hbad (by omega)
      · skip
        exact jj_callXS C0 hx0 (cx_X3_checkRange hl (by omega) (by omega) (by omega) (by omega)) (cwS 3 hw (lw_gS hU_329 hU_330 hU_60 hU_331) rfl rfl rfl (by decide +kernel) ⟨Nat.le_of_ble_eq_true rfl, Nat.le_of_ble_eq_true rfl⟩) rfl rfl (Nat.le_of_ble_eq_true rfl) ⟨by decide, by decide⟩ ⟨by decide, by decide⟩ dX3_contract_38
    · skip
      exact jj_callXS C0 hx0 (cx_X3_checkRange hl (by omega) (by omega) (by omega) (by omega)) (cwS 3 hw (lw_gS hU_329 hU_330 hU_60 hU_331) rfl rfl rfl (by decide +kernel) ⟨Nat.le_of_ble_eq_true rfl, Nat.le_of_ble_eq_true rfl⟩) rfl rfl (Nat.le_of_ble_eq_true rfl) ⟨by decide, by decide⟩ ⟨by decide, by decide⟩ dX3_contract_11
  · skip
    exact jj_callXS C0 hx0 (cx_X3_checkRange hl (by omega) (by omega) (by omega) (by omega)) (cwS 3 hw (lw_gS hU_329 hU_330 hU_60 hU_331) rfl rfl rfl (by decide +kernel) ⟨Nat.le_of_ble_eq_true rfl, Nat.le_of_ble_eq_true rfl⟩) rfl rfl (Nat.le_of_ble_eq_true rfl) ⟨by decide, by decide⟩ ⟨by decide, by decide⟩ dX3_contract_3
set_option maxHeartbeats 4000000 in
set_option maxRecDepth 100000 in
theorem cx_X3_contract_S (hl : l.stackTraces = false) {x y z v : Int} (hbad : 0 ≤ x ∧ x ≤ 1 ∧ 0 ≤ y ∧ y ≤ 20000 ∧ (td : Int) ≤ z ∧ z ≤ (td : Int) + 10 ∧ z ≤ 200) (hn12 : n = 12) (hrx : iR x) (hry : iR y) (hrz : iR z) (htd : td ≤ 200) : jj_X (EVT sa) (dC, dI) vwCl [(cI, .int), (cJ, .long), (cZ, .boolean), (cO, .object "java/lang/Object")] l yX3_contract (Cond.code yX3_contract cX3_contract 6 (some .int) :: lw_U) ({ frames := 6, cells := 1, slots := 6, locals := 100 } : Room) [.ref (ha 0), .int (iI x), .int (iI y), .int (iI z), .int (iI v)] (wH ha cA hA nA ed cI cJ cZ td pr up dn dv rw sd mc n mo sh co Ca Cz K St Ex Am Bi As BL AL He Co ++ EE) "java/lang/IllegalStateException" := by
  refine jj_startX (cc := cX3_contract) (nL := 6) (ret := (some .int)) (lv := [(0, .ref (ha 0)), (1, .int (iI x)), (2, .int (iI y)), (3, .int (iI z)), (4, .int (iI v))]) (hEVT sa) (by decide) rfl (Nat.le_of_ble_eq_true rfl) rfl ?_
  intro p9 e9 s9 m9 a9 b9 me9 c9 A9 C1 hx0
  have C0 : jj_C p9 s9 m9 a9 me9 c9 (dC, dI) vwCl A9 6 cX3_contract "Strikehall" lw_U _ (EVT sa) := jj_toU C1
  have hw := C0.2.2.2.2.1
  have hE := C0.2.2.2.2.2.2.2.1
  refine jj_iload_n C0 1 rfl dX3_contract_0 ?_
  refine jj_iconst C0 dX3_contract_1 ?_
  refine jj_iconst C0 dX3_contract_2 ?_
  refine jj_callSv C0 (jj_weakv (fun A U H h => h.1) (cc_X3_checkRange  (a := x) (b := 0) (d := 1) (by omega) (by omega) (by omega) (by omega))) (cwS 3 hw (lw_gS hU_329 hU_330 hU_60 hU_331) rfl rfl rfl (by decide +kernel) ⟨Nat.le_of_ble_eq_true rfl, Nat.le_of_ble_eq_true rfl⟩) rfl rfl (Nat.le_of_ble_eq_true rfl) ⟨by decide, by decide⟩ rfl rfl dX3_contract_3 ?_
  intro _ hu
  show jj_W _ _ _ _ _ _ _ _ _ _ _ _ _ _ _ _ _ 6 _ [] (wH ha cA hA nA ed cI cJ cZ td pr up dn dv rw sd mc n mo sh co Ca Cz K St Ex Am Bi As BL AL He Co ++ EE)
  refine jj_iload_n C0 2 rfl dX3_contract_6 ?_
  refine jj_iconst C0 dX3_contract_7 ?_
  refine jj_sipush C0 dX3_contract_8 (by decide) ?_
  refine jj_callSv C0 (jj_weakv (fun A U H h => h.1) (cc_X3_checkRange  (a := y) (b := 0) (d := 20000) (by omega) (by omega) (by omega) (by omega))) (cwS 3 hw (lw_gS hU_329 hU_330 hU_60 hU_331) rfl rfl rfl (by decide +kernel) ⟨Nat.le_of_ble_eq_true rfl, Nat.le_of_ble_eq_true rfl⟩) rfl rfl (Nat.le_of_ble_eq_true rfl) ⟨by decide, by decide⟩ rfl rfl dX3_contract_11 ?_
  intro _ hu
  show jj_W _ _ _ _ _ _ _ _ _ _ _ _ _ _ _ _ _ 14 _ [] (wH ha cA hA nA ed cI cJ cZ td pr up dn dv rw sd mc n mo sh co Ca Cz K St Ex Am Bi As BL AL He Co ++ EE)
  refine jj_iload_n C0 3 rfl dX3_contract_14 ?_
  refine jj_aload_n C0 0 rfl dX3_contract_15 ?_
  refine jj_get C0 (ci := 4) (v := .ref (ha 1)) hin_X3 (0) (rfl) rfl 0 (by decide) (hw _ hU_156) (fun _ h9 => h9) rfl dX3_contract_16 ?_
  refine jj_getN C0 (ci := 3) (v := .int (iI (td : Int))) hin_X2 (1) (rfl) rfl 5 (by decide) (va_Nw.use rfl (hE.1.1 _ (hN_103))) (fun _ h9 => h9) rfl dX3_contract_19 ?_
  refine jj_aload_n C0 0 rfl dX3_contract_22 ?_
  refine jj_get C0 (ci := 4) (v := .ref (ha 1)) hin_X3 (0) (rfl) rfl 0 (by decide) (hw _ hU_156) (fun _ h9 => h9) rfl dX3_contract_23 ?_
  refine jj_getN C0 (ci := 3) (v := .int (iI (td : Int))) hin_X2 (1) (rfl) rfl 5 (by decide) (va_Nw.use rfl (hE.1.1 _ (hN_103))) (fun _ h9 => h9) rfl dX3_contract_26 ?_
  refine jj_bipush C0 dX3_contract_29 (by decide) ?_
  refine jj_iadd C0 dX3_contract_31 ?_
  refine jj_sipush C0 dX3_contract_32 (by decide) ?_
  refine jj_mmin C0 (by omega) (by omega) (hw _ hU_431) (List.forall_mem_cons.mpr ⟨hw _ hU_313, List.forall_mem_cons.mpr ⟨hw _ hU_73, List.forall_mem_cons.mpr ⟨hw _ hU_314, fun _ h => absurd h List.not_mem_nil⟩⟩⟩) (by decide) (Nat.le_of_ble_eq_true rfl) ⟨by decide, by decide⟩ dX3_contract_35 ?_
  refine jj_callSv C0 (jj_weakv (fun A U H h => h.1) (cc_X3_checkRange  (a := z) (b := (td : Int)) (d := (min ((td : Int) + 10) 200)) (by omega) (by omega) (by omega) (by omega))) (cwS 3 hw (lw_gS hU_329 hU_330 hU_60 hU_331) rfl rfl rfl (by decide +kernel) ⟨Nat.le_of_ble_eq_true rfl, Nat.le_of_ble_eq_true rfl⟩) rfl rfl (Nat.le_of_ble_eq_true rfl) ⟨by decide, by decide⟩ rfl rfl dX3_contract_38 ?_
  intro _ hu
  show jj_W _ _ _ _ _ _ _ _ _ _ _ _ _ _ _ _ _ 41 _ [] (wH ha cA hA nA ed cI cJ cZ td pr up dn dv rw sd mc n mo sh co Ca Cz K St Ex Am Bi As BL AL He Co ++ EE)
  refine jj_aload_n C0 0 rfl dX3_contract_41 ?_
  refine jj_get C0 (ci := 4) (v := .ref (ha 5)) hin_X3 (0) (rfl) rfl 2 (by decide) (hw _ hU_158) (fun _ h9 => h9) rfl dX3_contract_42 ?_
  refine jj_callVi C0 (jj_weaki (fun A U H h => h.1) (cc_Jx4a65c_size_8abf5   )) (cwV 0 hw (lw_gV hU_185 hU_186 hU_187 hU_65 hU_188) rfl rfl rfl (by decide +kernel) ⟨Nat.le_of_ble_eq_true rfl, Nat.le_of_ble_eq_true rfl⟩) (ci := 0) (q0 := 5) rfl (rfl) rfl rfl (Nat.le_of_ble_eq_true rfl) ⟨by decide, by decide⟩ rfl rfl dX3_contract_45 ?_
  intro _ hu
  show jj_W _ _ _ _ _ _ _ _ _ _ _ _ _ _ _ _ _ 48 _ [.int (iI (n : Int))] (wH ha cA hA nA ed cI cJ cZ td pr up dn dv rw sd mc n mo sh co Ca Cz K St Ex Am Bi As BL AL He Co ++ EE)
  refine jj_istore C0 (lv' := [(5, .int (iI (n : Int))), (0, .ref (ha 0)), (1, .int (iI x)), (2, .int (iI y)), (3, .int (iI z)), (4, .int (iI v))]) (by decide) rfl dX3_contract_48 ?_
  refine jj_iload C0 0 rfl dX3_contract_50 ?_
  refine jj_bipush C0 dX3_contract_52 (by decide) ?_
  refine jj_icmp_lt C0 (by omega) (by omega) dX3_contract_54 (tgt := 67) (by decide) (fun c_1 => absurd c_1 (by omega)) (fun c_1 => ?_)
  exact jj_throwS (names := ["java/lang/RuntimeException", "java/lang/Exception"]) (text := "there are 12 contracts") (sa := sa 91) C0 hl hx0 (by decide +kernel) (by decide +kernel) (hw _ hU_432) (hw _ hU_74) (hE.2.1 (91, "there are 12 contracts") (by decide)) (wx_S_hat hw hE.2.2.1) wx_S_o hE.2.2.2.1 hE.2.2.2.2 dX3_contract_57 dX3_contract_60 dX3_contract_61 dX3_contract_63 dX3_contract_66 (by decide) (Nat.le_of_ble_eq_true rfl) (by decide) (by decide) (by decide) (by decide)
set_option maxHeartbeats 4000000 in
set_option maxRecDepth 100000 in
theorem cx_X3_quote (hl : l.stackTraces = false) {w x y z : Int} (hbad : ¬ (0 ≤ w ∧ w < (n : Int))) (hrw : iR w) (hn : n ≤ 12) : jj_X (EVT sa) (dC, dI) vwCl [(cI, .int), (cJ, .long), (cZ, .boolean), (cO, .object "java/lang/Object")] l yX3_quote (Cond.code yX3_quote cX3_quote 6 (some .int) :: lw_U) ({ frames := 7, cells := 1, slots := 6, locals := 121 } : Room) [.ref (ha 0), .int (iI w), .int (iI x), .int (iI y), .int (iI z)] (wH ha cA hA nA ed cI cJ cZ td pr up dn dv rw sd mc n mo sh co Ca Cz K St Ex Am Bi As BL AL He Co ++ EE) "java/lang/IndexOutOfBoundsException" := by
  refine jj_startX (cc := cX3_quote) (nL := 6) (ret := (some .int)) (lv := [(0, .ref (ha 0)), (1, .int (iI w)), (2, .int (iI x)), (3, .int (iI y)), (4, .int (iI z))]) (hEVT sa) (by decide) rfl (Nat.le_of_ble_eq_true rfl) rfl ?_
  intro p9 e9 s9 m9 a9 b9 me9 c9 A9 C1 hx0
  have C0 : jj_C p9 s9 m9 a9 me9 c9 (dC, dI) vwCl A9 6 cX3_quote "Strikehall" lw_U _ (EVT sa) := jj_toU C1
  have hw := C0.2.2.2.2.1
  have hE := C0.2.2.2.2.2.2.2.1
  refine jj_aload_n C0 0 rfl dX3_quote_0 ?_
  refine jj_iload_n C0 1 rfl dX3_quote_1 ?_
  by_cases g2 : 0 ≤ w ∧ w < (n : Int)
  · exact absurd hbad (by omega)
  · skip
    exact jj_callXV C0 hx0 (cx_X3_contractOf hl (by omega) (by omega) (by omega)) (cwV 1 hw (lw_gV hU_554 hU_556 hU_26 hU_60 hU_557) rfl rfl rfl (by decide +kernel) ⟨Nat.le_of_ble_eq_true rfl, Nat.le_of_ble_eq_true rfl⟩) (ci := 4) (q0 := 0) rfl (rfl) rfl rfl (Nat.le_of_ble_eq_true rfl) ⟨by decide, by decide⟩ ⟨by decide, by decide⟩ dX3_quote_2
set_option maxHeartbeats 4000000 in
set_option maxRecDepth 100000 in
theorem cx_X3_quote_A (hl : l.stackTraces = false) {c : Nat} {x y z : Int} (hbad : ¬ (0 ≤ x ∧ x ≤ 20000 ∧ 0 ≤ y ∧ y ≤ 20000 ∧ 0 ≤ z ∧ z ≤ 100)) (hrx : iR x) (hry : iR y) (hrz : iR z) (hcn : c < n) (hn : n ≤ 12) (hED : 0 < n → f_ED cA n ed cO EE) : jj_X (EVT sa) (dC, dI) vwCl [(cI, .int), (cJ, .long), (cZ, .boolean), (cO, .object "java/lang/Object")] l yX3_quote (Cond.code yX3_quote cX3_quote 6 (some .int) :: lw_U) ({ frames := 7, cells := 1, slots := 6, locals := 122 } : Room) [.ref (ha 0), .int (iI (c : Int)), .int (iI x), .int (iI y), .int (iI z)] (wH ha cA hA nA ed cI cJ cZ td pr up dn dv rw sd mc n mo sh co Ca Cz K St Ex Am Bi As BL AL He Co ++ EE) "java/lang/IllegalArgumentException" := by
  refine jj_startX (cc := cX3_quote) (nL := 6) (ret := (some .int)) (lv := [(0, .ref (ha 0)), (1, .int (iI (c : Int))), (2, .int (iI x)), (3, .int (iI y)), (4, .int (iI z))]) (hEVT sa) (by decide) rfl (Nat.le_of_ble_eq_true rfl) rfl ?_
  intro p9 e9 s9 m9 a9 b9 me9 c9 A9 C1 hx0
  have C0 : jj_C p9 s9 m9 a9 me9 c9 (dC, dI) vwCl A9 6 cX3_quote "Strikehall" lw_U _ (EVT sa) := jj_toU C1
  have hw := C0.2.2.2.2.1
  have hE := C0.2.2.2.2.2.2.2.1
  refine jj_aload_n C0 0 rfl dX3_quote_0 ?_
  refine jj_iload_n C0 1 rfl dX3_quote_1 ?_
  refine jj_callVr C0 (jj_weakr (fun A U H h => h.1) (cc_X3_contractOf  (c := c) (by first | exact hcn | omega) (by first | exact hn | omega) (by first | exact hED | omega))) (cwV 1 hw (lw_gV hU_554 hU_556 hU_26 hU_60 hU_557) rfl rfl rfl (by decide +kernel) ⟨Nat.le_of_ble_eq_true rfl, Nat.le_of_ble_eq_true rfl⟩) (ci := 4) (q0 := 0) rfl (rfl) rfl rfl (Nat.le_of_ble_eq_true rfl) ⟨by decide, by decide⟩ rfl rfl dX3_quote_2 ?_
  intro _ hu
  show jj_W _ _ _ _ _ _ _ _ _ _ _ _ _ _ _ _ _ 5 _ [.ref (cA c)] (wH ha cA hA nA ed cI cJ cZ td pr up dn dv rw sd mc n mo sh co Ca Cz K St Ex Am Bi As BL AL He Co ++ EE)
  refine jj_astore C0 (lv' := [(5, .ref (cA c)), (0, .ref (ha 0)), (1, .int (iI (c : Int))), (2, .int (iI x)), (3, .int (iI y)), (4, .int (iI z))]) (by decide) rfl dX3_quote_5 ?_
  refine jj_iload_n C0 3 rfl dX3_quote_7 ?_
  refine jj_iconst C0 dX3_quote_8 ?_
  refine jj_sipush C0 dX3_quote_9 (by decide) ?_
  by_cases g12 : 0 ≤ x ∧ x ≤ 20000
  · skip
    refine jj_callSv C0 (jj_weakv (fun A U H h => h.1) (cc_X3_checkRange  (a := x) (b := 0) (d := 20000) (by omega) (by omega) (by omega) (by omega))) (cwS 3 hw (lw_gS hU_329 hU_330 hU_60 hU_331) rfl rfl rfl (by decide +kernel) ⟨Nat.le_of_ble_eq_true rfl, Nat.le_of_ble_eq_true rfl⟩) rfl rfl (Nat.le_of_ble_eq_true rfl) ⟨by decide, by decide⟩ rfl rfl dX3_quote_12 ?_
    intro _ hu
    show jj_W _ _ _ _ _ _ _ _ _ _ _ _ _ _ _ _ _ 15 _ [] (wH ha cA hA nA ed cI cJ cZ td pr up dn dv rw sd mc n mo sh co Ca Cz K St Ex Am Bi As BL AL He Co ++ EE)
    refine jj_iload_n C0 4 rfl dX3_quote_15 ?_
    refine jj_iconst C0 dX3_quote_16 ?_
    refine jj_sipush C0 dX3_quote_17 (by decide) ?_
    by_cases g20 : 0 ≤ y ∧ y ≤ 20000
    · skip
      refine jj_callSv C0 (jj_weakv (fun A U H h => h.1) (cc_X3_checkRange  (a := y) (b := 0) (d := 20000) (by omega) (by omega) (by omega) (by omega))) (cwS 3 hw (lw_gS hU_329 hU_330 hU_60 hU_331) rfl rfl rfl (by decide +kernel) ⟨Nat.le_of_ble_eq_true rfl, Nat.le_of_ble_eq_true rfl⟩) rfl rfl (Nat.le_of_ble_eq_true rfl) ⟨by decide, by decide⟩ rfl rfl dX3_quote_20 ?_
      intro _ hu
      show jj_W _ _ _ _ _ _ _ _ _ _ _ _ _ _ _ _ _ 23 _ [] (wH ha cA hA nA ed cI cJ cZ td pr up dn dv rw sd mc n mo sh co Ca Cz K St Ex Am Bi As BL AL He Co ++ EE)
      refine jj_iload C0 5 rfl dX3_quote_23 ?_
      refine jj_iconst C0 dX3_quote_25 ?_
      refine jj_bipush C0 dX3_quote_26 (by decide) ?_
      by_cases g28 : 0 ≤ z ∧ z ≤ 100
      · exact absurd hbad (by omega)
      · skip
        exact jj_callXS C0 hx0 (cx_X3_checkRange hl (by omega) (by omega) (by omega) (by omega)) (cwS 3 hw (lw_gS hU_329 hU_330 hU_60 hU_331) rfl rfl rfl (by decide +kernel) ⟨Nat.le_of_ble_eq_true rfl, Nat.le_of_ble_eq_true rfl⟩) rfl rfl (Nat.le_of_ble_eq_true rfl) ⟨by decide, by decide⟩ ⟨by decide, by decide⟩ dX3_quote_28
    · skip
      exact jj_callXS C0 hx0 (cx_X3_checkRange hl (by omega) (by omega) (by omega) (by omega)) (cwS 3 hw (lw_gS hU_329 hU_330 hU_60 hU_331) rfl rfl rfl (by decide +kernel) ⟨Nat.le_of_ble_eq_true rfl, Nat.le_of_ble_eq_true rfl⟩) rfl rfl (Nat.le_of_ble_eq_true rfl) ⟨by decide, by decide⟩ ⟨by decide, by decide⟩ dX3_quote_20
  · skip
    exact jj_callXS C0 hx0 (cx_X3_checkRange hl (by omega) (by omega) (by omega) (by omega)) (cwS 3 hw (lw_gS hU_329 hU_330 hU_60 hU_331) rfl rfl rfl (by decide +kernel) ⟨Nat.le_of_ble_eq_true rfl, Nat.le_of_ble_eq_true rfl⟩) rfl rfl (Nat.le_of_ble_eq_true rfl) ⟨by decide, by decide⟩ ⟨by decide, by decide⟩ dX3_quote_12
set_option maxHeartbeats 4000000 in
set_option maxRecDepth 100000 in
theorem cx_X3_quote_S (hl : l.stackTraces = false) {c : Nat} {x y z : Int} (hbad : Ex c < (td : Int)) (hrq : 0 ≤ x ∧ x ≤ 20000 ∧ 0 ≤ y ∧ y ≤ 20000 ∧ 0 ≤ z ∧ z ≤ 100) (hcn : c < n) (hn : n ≤ 12) (hED : 0 < n → f_ED cA n ed cO EE) (hEx : ∀ j, 0 ≤ Ex j ∧ Ex j ≤ 200) (htd : td ≤ 200) : jj_X (EVT sa) (dC, dI) vwCl [(cI, .int), (cJ, .long), (cZ, .boolean), (cO, .object "java/lang/Object")] l yX3_quote (Cond.code yX3_quote cX3_quote 6 (some .int) :: lw_U) ({ frames := 7, cells := 1, slots := 6, locals := 121 } : Room) [.ref (ha 0), .int (iI (c : Int)), .int (iI x), .int (iI y), .int (iI z)] (wH ha cA hA nA ed cI cJ cZ td pr up dn dv rw sd mc n mo sh co Ca Cz K St Ex Am Bi As BL AL He Co ++ EE) "java/lang/IllegalStateException" := by
  refine jj_startX (cc := cX3_quote) (nL := 6) (ret := (some .int)) (lv := [(0, .ref (ha 0)), (1, .int (iI (c : Int))), (2, .int (iI x)), (3, .int (iI y)), (4, .int (iI z))]) (hEVT sa) (by decide) rfl (Nat.le_of_ble_eq_true rfl) rfl ?_
  intro p9 e9 s9 m9 a9 b9 me9 c9 A9 C1 hx0
  have C0 : jj_C p9 s9 m9 a9 me9 c9 (dC, dI) vwCl A9 6 cX3_quote "Strikehall" lw_U _ (EVT sa) := jj_toU C1
  have hw := C0.2.2.2.2.1
  have hE := C0.2.2.2.2.2.2.2.1
  refine jj_aload_n C0 0 rfl dX3_quote_0 ?_
  refine jj_iload_n C0 1 rfl dX3_quote_1 ?_
  refine jj_callVr C0 (jj_weakr (fun A U H h => h.1) (cc_X3_contractOf  (c := c) (by first | exact hcn | omega) (by first | exact hn | omega) (by first | exact hED | omega))) (cwV 1 hw (lw_gV hU_554 hU_556 hU_26 hU_60 hU_557) rfl rfl rfl (by decide +kernel) ⟨Nat.le_of_ble_eq_true rfl, Nat.le_of_ble_eq_true rfl⟩) (ci := 4) (q0 := 0) rfl (rfl) rfl rfl (Nat.le_of_ble_eq_true rfl) ⟨by decide, by decide⟩ rfl rfl dX3_quote_2 ?_
  intro _ hu
  show jj_W _ _ _ _ _ _ _ _ _ _ _ _ _ _ _ _ _ 5 _ [.ref (cA c)] (wH ha cA hA nA ed cI cJ cZ td pr up dn dv rw sd mc n mo sh co Ca Cz K St Ex Am Bi As BL AL He Co ++ EE)
  refine jj_astore C0 (lv' := [(5, .ref (cA c)), (0, .ref (ha 0)), (1, .int (iI (c : Int))), (2, .int (iI x)), (3, .int (iI y)), (4, .int (iI z))]) (by decide) rfl dX3_quote_5 ?_
  refine jj_iload_n C0 3 rfl dX3_quote_7 ?_
  refine jj_iconst C0 dX3_quote_8 ?_
  refine jj_sipush C0 dX3_quote_9 (by decide) ?_
  refine jj_callSv C0 (jj_weakv (fun A U H h => h.1) (cc_X3_checkRange  (a := x) (b := 0) (d := 20000) (by omega) (by omega) (by omega) (by omega))) (cwS 3 hw (lw_gS hU_329 hU_330 hU_60 hU_331) rfl rfl rfl (by decide +kernel) ⟨Nat.le_of_ble_eq_true rfl, Nat.le_of_ble_eq_true rfl⟩) rfl rfl (Nat.le_of_ble_eq_true rfl) ⟨by decide, by decide⟩ rfl rfl dX3_quote_12 ?_
  intro _ hu
  show jj_W _ _ _ _ _ _ _ _ _ _ _ _ _ _ _ _ _ 15 _ [] (wH ha cA hA nA ed cI cJ cZ td pr up dn dv rw sd mc n mo sh co Ca Cz K St Ex Am Bi As BL AL He Co ++ EE)
  refine jj_iload_n C0 4 rfl dX3_quote_15 ?_
  refine jj_iconst C0 dX3_quote_16 ?_
  refine jj_sipush C0 dX3_quote_17 (by decide) ?_
  refine jj_callSv C0 (jj_weakv (fun A U H h => h.1) (cc_X3_checkRange  (a := y) (b := 0) (d := 20000) (by omega) (by omega) (by omega) (by omega))) (cwS 3 hw (lw_gS hU_329 hU_330 hU_60 hU_331) rfl rfl rfl (by decide +kernel) ⟨Nat.le_of_ble_eq_true rfl, Nat.le_of_ble_eq_true rfl⟩) rfl rfl (Nat.le_of_ble_eq_true rfl) ⟨by decide, by decide⟩ rfl rfl dX3_quote_20 ?_
  intro _ hu
  show jj_W _ _ _ _ _ _ _ _ _ _ _ _ _ _ _ _ _ 23 _ [] (wH ha cA hA nA ed cI cJ cZ td pr up dn dv rw sd mc n mo sh co Ca Cz K St Ex Am Bi As BL AL He Co ++ EE)
  refine jj_iload C0 5 rfl dX3_quote_23 ?_
  refine jj_iconst C0 dX3_quote_25 ?_
  refine jj_bipush C0 dX3_quote_26 (by decide) ?_
  refine jj_callSv C0 (jj_weakv (fun A U H h => h.1) (cc_X3_checkRange  (a := z) (b := 0) (d := 100) (by omega) (by omega) (by omega) (by omega))) (cwS 3 hw (lw_gS hU_329 hU_330 hU_60 hU_331) rfl rfl rfl (by decide +kernel) ⟨Nat.le_of_ble_eq_true rfl, Nat.le_of_ble_eq_true rfl⟩) rfl rfl (Nat.le_of_ble_eq_true rfl) ⟨by decide, by decide⟩ rfl rfl dX3_quote_28 ?_
  intro _ hu
  show jj_W _ _ _ _ _ _ _ _ _ _ _ _ _ _ _ _ _ 31 _ [] (wH ha cA hA nA ed cI cJ cZ td pr up dn dv rw sd mc n mo sh co Ca Cz K St Ex Am Bi As BL AL He Co ++ EE)
  refine jj_aload_n C0 1 rfl dX3_quote_31 ?_
  refine jj_aload C0 0 rfl dX3_quote_32 ?_
  by_cases g34 : (td : Int) ≤ Ex c
  · exact absurd hbad (by omega)
  · skip
    exact jj_callXV C0 hx0 (cx_X3_checkNotOver hl (by omega) (by omega) (by omega) (by omega)) (cwV 1 hw (lw_gV hU_574 hU_576 hU_27 hU_60 hU_577) rfl rfl rfl (by decide +kernel) ⟨Nat.le_of_ble_eq_true rfl, Nat.le_of_ble_eq_true rfl⟩) (ci := 4) (q0 := 0) rfl (rfl) rfl rfl (Nat.le_of_ble_eq_true rfl) ⟨by decide, by decide⟩ ⟨by decide, by decide⟩ dX3_quote_34
set_option maxHeartbeats 4000000 in
set_option maxRecDepth 100000 in
theorem cx_X3_limit (hl : l.stackTraces = false) {x : Int} (hbad : ¬ (0 ≤ x ∧ x ≤ 1000)) (hrx : iR x) : jj_X (EVT sa) (dC, dI) vwCl [(cI, .int), (cJ, .long), (cZ, .boolean), (cO, .object "java/lang/Object")] l yX3_limit (Cond.code yX3_limit cX3_limit 3 (some .int) :: lw_U) ({ frames := 7, cells := 1, slots := 6, locals := 122 } : Room) [.ref (ha 0), .int (iI x)] (wH ha cA hA nA ed cI cJ cZ td pr up dn dv rw sd mc n mo sh co Ca Cz K St Ex Am Bi As BL AL He Co ++ EE) "java/lang/IllegalArgumentException" := by
  refine jj_startX (cc := cX3_limit) (nL := 3) (ret := (some .int)) (lv := [(0, .ref (ha 0)), (1, .int (iI x))]) (hEVT sa) (by decide) rfl (Nat.le_of_ble_eq_true rfl) rfl ?_
  intro p9 e9 s9 m9 a9 b9 me9 c9 A9 C1 hx0
  have C0 : jj_C p9 s9 m9 a9 me9 c9 (dC, dI) vwCl A9 3 cX3_limit "Strikehall" lw_U _ (EVT sa) := jj_toU C1
  have hw := C0.2.2.2.2.1
  have hE := C0.2.2.2.2.2.2.2.1
  refine jj_iload_n C0 1 rfl dX3_limit_0 ?_
  refine jj_iconst C0 dX3_limit_1 ?_
  refine jj_sipush C0 dX3_limit_2 (by decide) ?_
  by_cases g5 : 0 ≤ x ∧ x ≤ 1000
  · exact absurd hbad (by omega)
  · skip
    exact jj_callXS C0 hx0 (cx_X3_checkRange hl (by omega) (by omega) (by omega) (by omega)) (cwS 3 hw (lw_gS hU_329 hU_330 hU_60 hU_331) rfl rfl rfl (by decide +kernel) ⟨Nat.le_of_ble_eq_true rfl, Nat.le_of_ble_eq_true rfl⟩) rfl rfl (Nat.le_of_ble_eq_true rfl) ⟨by decide, by decide⟩ ⟨by decide, by decide⟩ dX3_limit_5
set_option maxHeartbeats 4000000 in
set_option maxRecDepth 100000 in
theorem cx_X3_order (hl : l.stackTraces = false) {w z x y : Int} (hbad : ¬ (0 ≤ w ∧ w ≤ 5 ∧ 0 ≤ z ∧ z < (n : Int))) (hrw : iR w) (hrz : iR z) (hn : n ≤ 12) : jj_X (EVT sa) (dC, dI) vwCl [(cI, .int), (cJ, .long), (cZ, .boolean), (cO, .object "java/lang/Object")] l yX3_order (Cond.code yX3_order cX3_order 9 (some .int) :: lw_U) ({ frames := 7, cells := 1, slots := 6, locals := 121 } : Room) [.ref (ha 0), .int (iI w), .int (iI z), .int (iI x), .int (iI y)] (wH ha cA hA nA ed cI cJ cZ td pr up dn dv rw sd mc n mo sh co Ca Cz K St Ex Am Bi As BL AL He Co ++ EE) "java/lang/IndexOutOfBoundsException" := by
  refine jj_startX (cc := cX3_order) (nL := 9) (ret := (some .int)) (lv := [(0, .ref (ha 0)), (1, .int (iI w)), (2, .int (iI z)), (3, .int (iI x)), (4, .int (iI y))]) (hEVT sa) (by decide) rfl (Nat.le_of_ble_eq_true rfl) rfl ?_
  intro p9 e9 s9 m9 a9 b9 me9 c9 A9 C1 hx0
  have C0 : jj_C p9 s9 m9 a9 me9 c9 (dC, dI) vwCl A9 9 cX3_order "Strikehall" lw_U _ (EVT sa) := jj_toU C1
  have hw := C0.2.2.2.2.1
  have hE := C0.2.2.2.2.2.2.2.1
  refine jj_iload_n C0 1 rfl dX3_order_0 ?_
  by_cases g1 : 0 ≤ w ∧ w ≤ 5
  · skip
    refine jj_callSv C0 (jj_weakv (fun A U H h => h.1) (cc_X3_checkCustomer  (z := w) (by omega))) (cwS 1 hw (lw_gS hU_594 hU_595 hU_60 hU_596) rfl rfl rfl (by decide +kernel) ⟨Nat.le_of_ble_eq_true rfl, Nat.le_of_ble_eq_true rfl⟩) rfl rfl (Nat.le_of_ble_eq_true rfl) ⟨by decide, by decide⟩ rfl rfl dX3_order_1 ?_
    intro _ hu
    show jj_W _ _ _ _ _ _ _ _ _ _ _ _ _ _ _ _ _ 4 _ [] (wH ha cA hA nA ed cI cJ cZ td pr up dn dv rw sd mc n mo sh co Ca Cz K St Ex Am Bi As BL AL He Co ++ EE)
    refine jj_aload_n C0 0 rfl dX3_order_4 ?_
    refine jj_iload_n C0 2 rfl dX3_order_5 ?_
    by_cases g6 : 0 ≤ z ∧ z < (n : Int)
    · exact absurd hbad (by omega)
    · skip
      exact jj_callXV C0 hx0 (cx_X3_contractOf hl (by omega) (by omega) (by omega)) (cwV 1 hw (lw_gV hU_554 hU_556 hU_26 hU_60 hU_557) rfl rfl rfl (by decide +kernel) ⟨Nat.le_of_ble_eq_true rfl, Nat.le_of_ble_eq_true rfl⟩) (ci := 4) (q0 := 0) rfl (rfl) rfl rfl (Nat.le_of_ble_eq_true rfl) ⟨by decide, by decide⟩ ⟨by decide, by decide⟩ dX3_order_6
  · skip
    exact jj_callXS C0 hx0 (cx_X3_checkCustomer hl (by omega) (by omega)) (cwS 1 hw (lw_gS hU_594 hU_595 hU_60 hU_596) rfl rfl rfl (by decide +kernel) ⟨Nat.le_of_ble_eq_true rfl, Nat.le_of_ble_eq_true rfl⟩) rfl rfl (Nat.le_of_ble_eq_true rfl) ⟨by decide, by decide⟩ ⟨by decide, by decide⟩ dX3_order_1
set_option maxHeartbeats 4000000 in
set_option maxRecDepth 100000 in
theorem cx_X3_order_A (hl : l.stackTraces = false) {c : Nat} {w x y : Int} (hbad : ¬ (-100 ≤ x ∧ x ≤ 100 ∧ x ≠ 0 ∧ 0 ≤ y ∧ y ≤ 20000)) (hw0 : 0 ≤ w ∧ w ≤ 5) (hrx : iR x) (hry : iR y) (hcn : c < n) (hn : n ≤ 12) (hED : 0 < n → f_ED cA n ed cO EE) : jj_X (EVT sa) (dC, dI) vwCl [(cI, .int), (cJ, .long), (cZ, .boolean), (cO, .object "java/lang/Object")] l yX3_order (Cond.code yX3_order cX3_order 9 (some .int) :: lw_U) ({ frames := 7, cells := 1, slots := 6, locals := 122 } : Room) [.ref (ha 0), .int (iI w), .int (iI (c : Int)), .int (iI x), .int (iI y)] (wH ha cA hA nA ed cI cJ cZ td pr up dn dv rw sd mc n mo sh co Ca Cz K St Ex Am Bi As BL AL He Co ++ EE) "java/lang/IllegalArgumentException" := by
  refine jj_startX (cc := cX3_order) (nL := 9) (ret := (some .int)) (lv := [(0, .ref (ha 0)), (1, .int (iI w)), (2, .int (iI (c : Int))), (3, .int (iI x)), (4, .int (iI y))]) (hEVT sa) (by decide) rfl (Nat.le_of_ble_eq_true rfl) rfl ?_
  intro p9 e9 s9 m9 a9 b9 me9 c9 A9 C1 hx0
  have C0 : jj_C p9 s9 m9 a9 me9 c9 (dC, dI) vwCl A9 9 cX3_order "Strikehall" lw_U _ (EVT sa) := jj_toU C1
  have hw := C0.2.2.2.2.1
  have hE := C0.2.2.2.2.2.2.2.1
  refine jj_iload_n C0 1 rfl dX3_order_0 ?_
  refine jj_callSv C0 (jj_weakv (fun A U H h => h.1) (cc_X3_checkCustomer  (z := w) (by omega))) (cwS 1 hw (lw_gS hU_594 hU_595 hU_60 hU_596) rfl rfl rfl (by decide +kernel) ⟨Nat.le_of_ble_eq_true rfl, Nat.le_of_ble_eq_true rfl⟩) rfl rfl (Nat.le_of_ble_eq_true rfl) ⟨by decide, by decide⟩ rfl rfl dX3_order_1 ?_
  intro _ hu
  show jj_W _ _ _ _ _ _ _ _ _ _ _ _ _ _ _ _ _ 4 _ [] (wH ha cA hA nA ed cI cJ cZ td pr up dn dv rw sd mc n mo sh co Ca Cz K St Ex Am Bi As BL AL He Co ++ EE)
  refine jj_aload_n C0 0 rfl dX3_order_4 ?_
  refine jj_iload_n C0 2 rfl dX3_order_5 ?_
  refine jj_callVr C0 (jj_weakr (fun A U H h => h.1) (cc_X3_contractOf  (c := c) (by first | exact hcn | omega) (by first | exact hn | omega) (by first | exact hED | omega))) (cwV 1 hw (lw_gV hU_554 hU_556 hU_26 hU_60 hU_557) rfl rfl rfl (by decide +kernel) ⟨Nat.le_of_ble_eq_true rfl, Nat.le_of_ble_eq_true rfl⟩) (ci := 4) (q0 := 0) rfl (rfl) rfl rfl (Nat.le_of_ble_eq_true rfl) ⟨by decide, by decide⟩ rfl rfl dX3_order_6 ?_
  intro _ hu
  show jj_W _ _ _ _ _ _ _ _ _ _ _ _ _ _ _ _ _ 9 _ [.ref (cA c)] (wH ha cA hA nA ed cI cJ cZ td pr up dn dv rw sd mc n mo sh co Ca Cz K St Ex Am Bi As BL AL He Co ++ EE)
  refine jj_astore C0 (lv' := [(5, .ref (cA c)), (0, .ref (ha 0)), (1, .int (iI w)), (2, .int (iI (c : Int))), (3, .int (iI x)), (4, .int (iI y))]) (by decide) rfl dX3_order_9 ?_
  refine jj_iload_n C0 4 rfl dX3_order_11 ?_
  refine jj_bipush C0 dX3_order_12 (by decide) ?_
  refine jj_bipush C0 dX3_order_14 (by decide) ?_
  by_cases g16 : (-100) ≤ x ∧ x ≤ 100
  · skip
    refine jj_callSv C0 (jj_weakv (fun A U H h => h.1) (cc_X3_checkRange  (a := x) (b := (-100)) (d := 100) (by omega) (by omega) (by omega) (by omega))) (cwS 3 hw (lw_gS hU_329 hU_330 hU_60 hU_331) rfl rfl rfl (by decide +kernel) ⟨Nat.le_of_ble_eq_true rfl, Nat.le_of_ble_eq_true rfl⟩) rfl rfl (Nat.le_of_ble_eq_true rfl) ⟨by decide, by decide⟩ rfl rfl dX3_order_16 ?_
    intro _ hu
    show jj_W _ _ _ _ _ _ _ _ _ _ _ _ _ _ _ _ _ 19 _ [] (wH ha cA hA nA ed cI cJ cZ td pr up dn dv rw sd mc n mo sh co Ca Cz K St Ex Am Bi As BL AL He Co ++ EE)
    refine jj_iload_n C0 4 rfl dX3_order_19 ?_
    refine jj_if_ne C0 (by omega) dX3_order_20 (tgt := 33) (by decide) (fun c_1 => ?_) (fun c_1 => ?_)
    · refine jj_iload C0 5 rfl dX3_order_33 ?_
      refine jj_iconst C0 dX3_order_35 ?_
      refine jj_sipush C0 dX3_order_36 (by decide) ?_
      by_cases g39 : 0 ≤ y ∧ y ≤ 20000
      · exact absurd hbad (by omega)
      · skip
        exact jj_callXS C0 hx0 (cx_X3_checkRange hl (by omega) (by omega) (by omega) (by omega)) (cwS 3 hw (lw_gS hU_329 hU_330 hU_60 hU_331) rfl rfl rfl (by decide +kernel) ⟨Nat.le_of_ble_eq_true rfl, Nat.le_of_ble_eq_true rfl⟩) rfl rfl (Nat.le_of_ble_eq_true rfl) ⟨by decide, by decide⟩ ⟨by decide, by decide⟩ dX3_order_39
    · exact jj_throwS (names := ["java/lang/RuntimeException", "java/lang/Exception"]) (text := "no lots are ordered") (sa := sa 136) C0 hl hx0 (by decide +kernel) (by decide +kernel) (hw _ hU_332) (hw _ hU_70) (hE.2.1 (136, "no lots are ordered") (by decide)) (wx_A_hat hw hE.2.2.1) wx_A_o hE.2.2.2.1 hE.2.2.2.2 dX3_order_23 dX3_order_26 dX3_order_27 dX3_order_29 dX3_order_32 (by decide) (Nat.le_of_ble_eq_true rfl) (by decide) (by decide) (by decide) (by decide)
  · skip
    exact jj_callXS C0 hx0 (cx_X3_checkRange hl (by omega) (by omega) (by omega) (by omega)) (cwS 3 hw (lw_gS hU_329 hU_330 hU_60 hU_331) rfl rfl rfl (by decide +kernel) ⟨Nat.le_of_ble_eq_true rfl, Nat.le_of_ble_eq_true rfl⟩) rfl rfl (Nat.le_of_ble_eq_true rfl) ⟨by decide, by decide⟩ ⟨by decide, by decide⟩ dX3_order_16
set_option maxHeartbeats 4000000 in
set_option maxRecDepth 100000 in
theorem cx_X3_order_S (hl : l.stackTraces = false) {c : Nat} {w x y : Int} (hbad : Ex c < (td : Int)) (hro : -100 ≤ x ∧ x ≤ 100 ∧ x ≠ 0 ∧ 0 ≤ y ∧ y ≤ 20000) (hw0 : 0 ≤ w ∧ w ≤ 5) (hcn : c < n) (hn : n ≤ 12) (hED : 0 < n → f_ED cA n ed cO EE) (hEx : ∀ j, 0 ≤ Ex j ∧ Ex j ≤ 200) (htd : td ≤ 200) : jj_X (EVT sa) (dC, dI) vwCl [(cI, .int), (cJ, .long), (cZ, .boolean), (cO, .object "java/lang/Object")] l yX3_order (Cond.code yX3_order cX3_order 9 (some .int) :: lw_U) ({ frames := 7, cells := 1, slots := 6, locals := 121 } : Room) [.ref (ha 0), .int (iI w), .int (iI (c : Int)), .int (iI x), .int (iI y)] (wH ha cA hA nA ed cI cJ cZ td pr up dn dv rw sd mc n mo sh co Ca Cz K St Ex Am Bi As BL AL He Co ++ EE) "java/lang/IllegalStateException" := by
  refine jj_startX (cc := cX3_order) (nL := 9) (ret := (some .int)) (lv := [(0, .ref (ha 0)), (1, .int (iI w)), (2, .int (iI (c : Int))), (3, .int (iI x)), (4, .int (iI y))]) (hEVT sa) (by decide) rfl (Nat.le_of_ble_eq_true rfl) rfl ?_
  intro p9 e9 s9 m9 a9 b9 me9 c9 A9 C1 hx0
  have C0 : jj_C p9 s9 m9 a9 me9 c9 (dC, dI) vwCl A9 9 cX3_order "Strikehall" lw_U _ (EVT sa) := jj_toU C1
  have hw := C0.2.2.2.2.1
  have hE := C0.2.2.2.2.2.2.2.1
  refine jj_iload_n C0 1 rfl dX3_order_0 ?_
  refine jj_callSv C0 (jj_weakv (fun A U H h => h.1) (cc_X3_checkCustomer  (z := w) (by omega))) (cwS 1 hw (lw_gS hU_594 hU_595 hU_60 hU_596) rfl rfl rfl (by decide +kernel) ⟨Nat.le_of_ble_eq_true rfl, Nat.le_of_ble_eq_true rfl⟩) rfl rfl (Nat.le_of_ble_eq_true rfl) ⟨by decide, by decide⟩ rfl rfl dX3_order_1 ?_
  intro _ hu
  show jj_W _ _ _ _ _ _ _ _ _ _ _ _ _ _ _ _ _ 4 _ [] (wH ha cA hA nA ed cI cJ cZ td pr up dn dv rw sd mc n mo sh co Ca Cz K St Ex Am Bi As BL AL He Co ++ EE)
  refine jj_aload_n C0 0 rfl dX3_order_4 ?_
  refine jj_iload_n C0 2 rfl dX3_order_5 ?_
  refine jj_callVr C0 (jj_weakr (fun A U H h => h.1) (cc_X3_contractOf  (c := c) (by first | exact hcn | omega) (by first | exact hn | omega) (by first | exact hED | omega))) (cwV 1 hw (lw_gV hU_554 hU_556 hU_26 hU_60 hU_557) rfl rfl rfl (by decide +kernel) ⟨Nat.le_of_ble_eq_true rfl, Nat.le_of_ble_eq_true rfl⟩) (ci := 4) (q0 := 0) rfl (rfl) rfl rfl (Nat.le_of_ble_eq_true rfl) ⟨by decide, by decide⟩ rfl rfl dX3_order_6 ?_
  intro _ hu
  show jj_W _ _ _ _ _ _ _ _ _ _ _ _ _ _ _ _ _ 9 _ [.ref (cA c)] (wH ha cA hA nA ed cI cJ cZ td pr up dn dv rw sd mc n mo sh co Ca Cz K St Ex Am Bi As BL AL He Co ++ EE)
  refine jj_astore C0 (lv' := [(5, .ref (cA c)), (0, .ref (ha 0)), (1, .int (iI w)), (2, .int (iI (c : Int))), (3, .int (iI x)), (4, .int (iI y))]) (by decide) rfl dX3_order_9 ?_
  refine jj_iload_n C0 4 rfl dX3_order_11 ?_
  refine jj_bipush C0 dX3_order_12 (by decide) ?_
  refine jj_bipush C0 dX3_order_14 (by decide) ?_
  refine jj_callSv C0 (jj_weakv (fun A U H h => h.1) (cc_X3_checkRange  (a := x) (b := (-100)) (d := 100) (by omega) (by omega) (by omega) (by omega))) (cwS 3 hw (lw_gS hU_329 hU_330 hU_60 hU_331) rfl rfl rfl (by decide +kernel) ⟨Nat.le_of_ble_eq_true rfl, Nat.le_of_ble_eq_true rfl⟩) rfl rfl (Nat.le_of_ble_eq_true rfl) ⟨by decide, by decide⟩ rfl rfl dX3_order_16 ?_
  intro _ hu
  show jj_W _ _ _ _ _ _ _ _ _ _ _ _ _ _ _ _ _ 19 _ [] (wH ha cA hA nA ed cI cJ cZ td pr up dn dv rw sd mc n mo sh co Ca Cz K St Ex Am Bi As BL AL He Co ++ EE)
  refine jj_iload_n C0 4 rfl dX3_order_19 ?_
  refine jj_if_ne C0 (by omega) dX3_order_20 (tgt := 33) (by decide) (fun c_1 => ?_) (fun c_1 => absurd c_1 (by omega))
  refine jj_iload C0 5 rfl dX3_order_33 ?_
  refine jj_iconst C0 dX3_order_35 ?_
  refine jj_sipush C0 dX3_order_36 (by decide) ?_
  refine jj_callSv C0 (jj_weakv (fun A U H h => h.1) (cc_X3_checkRange  (a := y) (b := 0) (d := 20000) (by omega) (by omega) (by omega) (by omega))) (cwS 3 hw (lw_gS hU_329 hU_330 hU_60 hU_331) rfl rfl rfl (by decide +kernel) ⟨Nat.le_of_ble_eq_true rfl, Nat.le_of_ble_eq_true rfl⟩) rfl rfl (Nat.le_of_ble_eq_true rfl) ⟨by decide, by decide⟩ rfl rfl dX3_order_39 ?_
  intro _ hu
  show jj_W _ _ _ _ _ _ _ _ _ _ _ _ _ _ _ _ _ 42 _ [] (wH ha cA hA nA ed cI cJ cZ td pr up dn dv rw sd mc n mo sh co Ca Cz K St Ex Am Bi As BL AL He Co ++ EE)
  refine jj_aload_n C0 1 rfl dX3_order_42 ?_
  refine jj_aload C0 0 rfl dX3_order_43 ?_
  by_cases g45 : (td : Int) ≤ Ex c
  · exact absurd hbad (by omega)
  · skip
    exact jj_callXV C0 hx0 (cx_X3_checkNotOver hl (by omega) (by omega) (by omega) (by omega)) (cwV 1 hw (lw_gV hU_574 hU_576 hU_27 hU_60 hU_577) rfl rfl rfl (by decide +kernel) ⟨Nat.le_of_ble_eq_true rfl, Nat.le_of_ble_eq_true rfl⟩) (ci := 4) (q0 := 0) rfl (rfl) rfl rfl (Nat.le_of_ble_eq_true rfl) ⟨by decide, by decide⟩ ⟨by decide, by decide⟩ dX3_order_45
set_option maxHeartbeats 4000000 in
set_option maxRecDepth 100000 in
theorem cx_X3_hedge (hl : l.stackTraces = false) {x y : Int} (hbad : ¬ (-10000 ≤ x ∧ x ≤ 10000 ∧ 0 ≤ y ∧ y ≤ 10000 ∧ -100000 ≤ sh + x ∧ sh + x ≤ 100000)) (hrx : iR x) (hry : iR y) (hsh : -100000 ≤ sh ∧ sh ≤ 100000) : jj_X (EVT sa) (dC, dI) vwCl [(cI, .int), (cJ, .long), (cZ, .boolean), (cO, .object "java/lang/Object")] l yX3_hedge (Cond.code yX3_hedge cX3_hedge 5 (some .int) :: lw_U) ({ frames := 7, cells := 1, slots := 6, locals := 122 } : Room) [.ref (ha 0), .int (iI x), .int (iI y)] (wH ha cA hA nA ed cI cJ cZ td pr up dn dv rw sd mc n mo sh co Ca Cz K St Ex Am Bi As BL AL He Co ++ EE) "java/lang/IllegalArgumentException" := by
  refine jj_startX (cc := cX3_hedge) (nL := 5) (ret := (some .int)) (lv := [(0, .ref (ha 0)), (1, .int (iI x)), (2, .int (iI y))]) (hEVT sa) (by decide) rfl (Nat.le_of_ble_eq_true rfl) rfl ?_
  intro p9 e9 s9 m9 a9 b9 me9 c9 A9 C1 hx0
  have C0 : jj_C p9 s9 m9 a9 me9 c9 (dC, dI) vwCl A9 5 cX3_hedge "Strikehall" lw_U _ (EVT sa) := jj_toU C1
  have hw := C0.2.2.2.2.1
  have hE := C0.2.2.2.2.2.2.2.1
  refine jj_iload_n C0 1 rfl dX3_hedge_0 ?_
  refine jj_sipush C0 dX3_hedge_1 (by decide) ?_
  refine jj_sipush C0 dX3_hedge_4 (by decide) ?_
  by_cases g7 : (-10000) ≤ x ∧ x ≤ 10000
  · skip
    refine jj_callSv C0 (jj_weakv (fun A U H h => h.1) (cc_X3_checkRange  (a := x) (b := (-10000)) (d := 10000) (by omega) (by omega) (by omega) (by omega))) (cwS 3 hw (lw_gS hU_329 hU_330 hU_60 hU_331) rfl rfl rfl (by decide +kernel) ⟨Nat.le_of_ble_eq_true rfl, Nat.le_of_ble_eq_true rfl⟩) rfl rfl (Nat.le_of_ble_eq_true rfl) ⟨by decide, by decide⟩ rfl rfl dX3_hedge_7 ?_
    intro _ hu
    show jj_W _ _ _ _ _ _ _ _ _ _ _ _ _ _ _ _ _ 10 _ [] (wH ha cA hA nA ed cI cJ cZ td pr up dn dv rw sd mc n mo sh co Ca Cz K St Ex Am Bi As BL AL He Co ++ EE)
    refine jj_iload_n C0 2 rfl dX3_hedge_10 ?_
    refine jj_iconst C0 dX3_hedge_11 ?_
    refine jj_sipush C0 dX3_hedge_12 (by decide) ?_
    by_cases g15 : 0 ≤ y ∧ y ≤ 10000
    · skip
      refine jj_callSv C0 (jj_weakv (fun A U H h => h.1) (cc_X3_checkRange  (a := y) (b := 0) (d := 10000) (by omega) (by omega) (by omega) (by omega))) (cwS 3 hw (lw_gS hU_329 hU_330 hU_60 hU_331) rfl rfl rfl (by decide +kernel) ⟨Nat.le_of_ble_eq_true rfl, Nat.le_of_ble_eq_true rfl⟩) rfl rfl (Nat.le_of_ble_eq_true rfl) ⟨by decide, by decide⟩ rfl rfl dX3_hedge_15 ?_
      intro _ hu
      show jj_W _ _ _ _ _ _ _ _ _ _ _ _ _ _ _ _ _ 18 _ [] (wH ha cA hA nA ed cI cJ cZ td pr up dn dv rw sd mc n mo sh co Ca Cz K St Ex Am Bi As BL AL He Co ++ EE)
      refine jj_aload_n C0 0 rfl dX3_hedge_18 ?_
      refine jj_get C0 (ci := 4) (v := .int (iI sh)) hin_X3 (0) (rfl) rfl 6 (by decide) (hw _ hU_162) (fun _ h9 => h9) rfl dX3_hedge_19 ?_
      refine jj_iload_n C0 1 rfl dX3_hedge_22 ?_
      refine jj_iadd C0 dX3_hedge_23 ?_
      refine jj_ldc C0 (z := -100000) (by decide) (hw _ hU_633) dX3_hedge_24 ?_
      refine jj_ldc C0 (z := 100000) (by decide) (hw _ hU_634) dX3_hedge_26 ?_
      by_cases g28 : (-100000) ≤ (sh + x) ∧ (sh + x) ≤ 100000
      · exact absurd hbad (by omega)
      · skip
        exact jj_callXS C0 hx0 (cx_X3_checkRange hl (by omega) (by omega) (by omega) (by omega)) (cwS 3 hw (lw_gS hU_329 hU_330 hU_60 hU_331) rfl rfl rfl (by decide +kernel) ⟨Nat.le_of_ble_eq_true rfl, Nat.le_of_ble_eq_true rfl⟩) rfl rfl (Nat.le_of_ble_eq_true rfl) ⟨by decide, by decide⟩ ⟨by decide, by decide⟩ dX3_hedge_28
    · skip
      exact jj_callXS C0 hx0 (cx_X3_checkRange hl (by omega) (by omega) (by omega) (by omega)) (cwS 3 hw (lw_gS hU_329 hU_330 hU_60 hU_331) rfl rfl rfl (by decide +kernel) ⟨Nat.le_of_ble_eq_true rfl, Nat.le_of_ble_eq_true rfl⟩) rfl rfl (Nat.le_of_ble_eq_true rfl) ⟨by decide, by decide⟩ ⟨by decide, by decide⟩ dX3_hedge_15
  · skip
    exact jj_callXS C0 hx0 (cx_X3_checkRange hl (by omega) (by omega) (by omega) (by omega)) (cwS 3 hw (lw_gS hU_329 hU_330 hU_60 hU_331) rfl rfl rfl (by decide +kernel) ⟨Nat.le_of_ble_eq_true rfl, Nat.le_of_ble_eq_true rfl⟩) rfl rfl (Nat.le_of_ble_eq_true rfl) ⟨by decide, by decide⟩ ⟨by decide, by decide⟩ dX3_hedge_7
set_option maxHeartbeats 4000000 in
set_option maxRecDepth 100000 in
theorem cx_X3_seed (hl : l.stackTraces = false) {x : Int} (hbad : x < 0) (hrx : iR x) : jj_X (EVT sa) (dC, dI) vwCl [(cI, .int), (cJ, .long), (cZ, .boolean), (cO, .object "java/lang/Object")] l yX3_seed (Cond.code yX3_seed cX3_seed 2 none :: lw_U) ({ frames := 6, cells := 1, slots := 6, locals := 100 } : Room) [.ref (ha 0), .int (iI x)] (wH ha cA hA nA ed cI cJ cZ td pr up dn dv rw sd mc n mo sh co Ca Cz K St Ex Am Bi As BL AL He Co ++ EE) "java/lang/IllegalArgumentException" := by
  refine jj_startX (cc := cX3_seed) (nL := 2) (ret := none) (lv := [(0, .ref (ha 0)), (1, .int (iI x))]) (hEVT sa) (by decide) rfl (Nat.le_of_ble_eq_true rfl) rfl ?_
  intro p9 e9 s9 m9 a9 b9 me9 c9 A9 C1 hx0
  have C0 : jj_C p9 s9 m9 a9 me9 c9 (dC, dI) vwCl A9 2 cX3_seed "Strikehall" lw_U _ (EVT sa) := jj_toU C1
  have hw := C0.2.2.2.2.1
  have hE := C0.2.2.2.2.2.2.2.1
  refine jj_iload_n C0 1 rfl dX3_seed_0 ?_
  refine jj_if_ge C0 (by omega) dX3_seed_1 (tgt := 14) (by decide) (fun c_1 => absurd c_1 (by omega)) (fun c_1 => ?_)
  exact jj_throwS (names := ["java/lang/RuntimeException", "java/lang/Exception"]) (text := "the seed is below 0") (sa := sa 159) C0 hl hx0 (by decide +kernel) (by decide +kernel) (hw _ hU_332) (hw _ hU_70) (hE.2.1 (159, "the seed is below 0") (by decide)) (wx_A_hat hw hE.2.2.1) wx_A_o hE.2.2.2.1 hE.2.2.2.2 dX3_seed_4 dX3_seed_7 dX3_seed_8 dX3_seed_10 dX3_seed_13 (by decide) (Nat.le_of_ble_eq_true rfl) (by decide) (by decide) (by decide) (by decide)
set_option maxHeartbeats 4000000 in
set_option maxRecDepth 100000 in
theorem cx_X3_exercise_1 (hl : l.stackTraces = false) {w z x : Int} (hbad : ¬ (-1 ≤ w ∧ w ≤ 5)) (hrw : iR w) : jj_X (EVT sa) (dC, dI) vwCl [(cI, .int), (cJ, .long), (cZ, .boolean), (cO, .object "java/lang/Object")] l yX3_exercise (Cond.code yX3_exercise cX3_exercise 8 (some .int) :: lw_U) ({ frames := 8, cells := 1, slots := 6, locals := 140 } : Room) [.ref (ha 0), .int (iI w), .int (iI z), .int (iI x)] (wH ha cA hA nA ed cI cJ cZ td pr up dn dv rw sd mc n mo sh co Ca Cz K St Ex Am Bi As BL AL He Co ++ EE) "java/lang/IndexOutOfBoundsException" := by
  refine jj_startX (cc := cX3_exercise) (nL := 8) (ret := (some .int)) (lv := [(0, .ref (ha 0)), (1, .int (iI w)), (2, .int (iI z)), (3, .int (iI x))]) (hEVT sa) (by decide) rfl (Nat.le_of_ble_eq_true rfl) rfl ?_
  intro p9 e9 s9 m9 a9 b9 me9 c9 A9 C1 hx0
  have C0 : jj_C p9 s9 m9 a9 me9 c9 (dC, dI) vwCl A9 8 cX3_exercise "Strikehall" lw_U _ (EVT sa) := jj_toU C1
  have hw := C0.2.2.2.2.1
  have hE := C0.2.2.2.2.2.2.2.1
  refine jj_iload_n C0 1 rfl dX3_exercise_0 ?_
  by_cases g1 : -1 ≤ w ∧ w ≤ 5
  · exact absurd hbad (by omega)
  · skip
    exact jj_callXS C0 hx0 (cx_X3_placeOf hl (by omega) (by omega)) (cwS 1 hw (lw_gS hU_654 hU_655 hU_60 hU_656) rfl rfl rfl (by decide +kernel) ⟨Nat.le_of_ble_eq_true rfl, Nat.le_of_ble_eq_true rfl⟩) rfl rfl (Nat.le_of_ble_eq_true rfl) ⟨by decide, by decide⟩ ⟨by decide, by decide⟩ dX3_exercise_1
set_option maxHeartbeats 4000000 in
set_option maxRecDepth 100000 in
theorem cx_X3_exercise_2 (hl : l.stackTraces = false) {k : Nat} {w z x : Int} (hbad : ¬ (0 ≤ z ∧ z < (n : Int))) (hzk : (w = -1 ∧ k = 6) ∨ (w = (k : Int) ∧ k ≤ 5)) (hrz : iR z) (hn : n ≤ 12) : jj_X (EVT sa) (dC, dI) vwCl [(cI, .int), (cJ, .long), (cZ, .boolean), (cO, .object "java/lang/Object")] l yX3_exercise (Cond.code yX3_exercise cX3_exercise 8 (some .int) :: lw_U) ({ frames := 7, cells := 1, slots := 6, locals := 121 } : Room) [.ref (ha 0), .int (iI w), .int (iI z), .int (iI x)] (wH ha cA hA nA ed cI cJ cZ td pr up dn dv rw sd mc n mo sh co Ca Cz K St Ex Am Bi As BL AL He Co ++ EE) "java/lang/IndexOutOfBoundsException" := by
  refine jj_startX (cc := cX3_exercise) (nL := 8) (ret := (some .int)) (lv := [(0, .ref (ha 0)), (1, .int (iI w)), (2, .int (iI z)), (3, .int (iI x))]) (hEVT sa) (by decide) rfl (Nat.le_of_ble_eq_true rfl) rfl ?_
  intro p9 e9 s9 m9 a9 b9 me9 c9 A9 C1 hx0
  have C0 : jj_C p9 s9 m9 a9 me9 c9 (dC, dI) vwCl A9 8 cX3_exercise "Strikehall" lw_U _ (EVT sa) := jj_toU C1
  have hw := C0.2.2.2.2.1
  have hE := C0.2.2.2.2.2.2.2.1
  refine jj_iload_n C0 1 rfl dX3_exercise_0 ?_
  refine jj_callSi C0 (jj_weaki (fun A U H h => h.1) (cc_X3_placeOf  (z := w) (k := k) (by first | exact hzk | omega))) (cwS 1 hw (lw_gS hU_654 hU_655 hU_60 hU_656) rfl rfl rfl (by decide +kernel) ⟨Nat.le_of_ble_eq_true rfl, Nat.le_of_ble_eq_true rfl⟩) rfl rfl (Nat.le_of_ble_eq_true rfl) ⟨by decide, by decide⟩ rfl rfl dX3_exercise_1 ?_
  intro _ hu
  show jj_W _ _ _ _ _ _ _ _ _ _ _ _ _ _ _ _ _ 4 _ [.int (iI (k : Int))] (wH ha cA hA nA ed cI cJ cZ td pr up dn dv rw sd mc n mo sh co Ca Cz K St Ex Am Bi As BL AL He Co ++ EE)
  refine jj_istore C0 (lv' := [(4, .int (iI (k : Int))), (0, .ref (ha 0)), (1, .int (iI w)), (2, .int (iI z)), (3, .int (iI x))]) (by decide) rfl dX3_exercise_4 ?_
  refine jj_aload_n C0 1 rfl dX3_exercise_6 ?_
  refine jj_iload_n C0 3 rfl dX3_exercise_7 ?_
  by_cases g8 : 0 ≤ z ∧ z < (n : Int)
  · exact absurd hbad (by omega)
  · skip
    exact jj_callXV C0 hx0 (cx_X3_contractOf hl (by omega) (by omega) (by omega)) (cwV 1 hw (lw_gV hU_554 hU_556 hU_26 hU_60 hU_557) rfl rfl rfl (by decide +kernel) ⟨Nat.le_of_ble_eq_true rfl, Nat.le_of_ble_eq_true rfl⟩) (ci := 4) (q0 := 0) rfl (rfl) rfl rfl (Nat.le_of_ble_eq_true rfl) ⟨by decide, by decide⟩ ⟨by decide, by decide⟩ dX3_exercise_8
set_option maxHeartbeats 4000000 in
set_option maxRecDepth 100000 in
theorem cx_X3_exercise_A (hl : l.stackTraces = false) {k c : Nat} {w x : Int} (hbad : ¬ (1 ≤ x ∧ x ≤ 1000)) (hzk : (w = -1 ∧ k = 6) ∨ (w = (k : Int) ∧ k ≤ 5)) (hrx : iR x) (hcn : c < n) (hn : n ≤ 12) (hED : 0 < n → f_ED cA n ed cO EE) : jj_X (EVT sa) (dC, dI) vwCl [(cI, .int), (cJ, .long), (cZ, .boolean), (cO, .object "java/lang/Object")] l yX3_exercise (Cond.code yX3_exercise cX3_exercise 8 (some .int) :: lw_U) ({ frames := 7, cells := 1, slots := 6, locals := 122 } : Room) [.ref (ha 0), .int (iI w), .int (iI (c : Int)), .int (iI x)] (wH ha cA hA nA ed cI cJ cZ td pr up dn dv rw sd mc n mo sh co Ca Cz K St Ex Am Bi As BL AL He Co ++ EE) "java/lang/IllegalArgumentException" := by
  refine jj_startX (cc := cX3_exercise) (nL := 8) (ret := (some .int)) (lv := [(0, .ref (ha 0)), (1, .int (iI w)), (2, .int (iI (c : Int))), (3, .int (iI x))]) (hEVT sa) (by decide) rfl (Nat.le_of_ble_eq_true rfl) rfl ?_
  intro p9 e9 s9 m9 a9 b9 me9 c9 A9 C1 hx0
  have C0 : jj_C p9 s9 m9 a9 me9 c9 (dC, dI) vwCl A9 8 cX3_exercise "Strikehall" lw_U _ (EVT sa) := jj_toU C1
  have hw := C0.2.2.2.2.1
  have hE := C0.2.2.2.2.2.2.2.1
  refine jj_iload_n C0 1 rfl dX3_exercise_0 ?_
  refine jj_callSi C0 (jj_weaki (fun A U H h => h.1) (cc_X3_placeOf  (z := w) (k := k) (by first | exact hzk | omega))) (cwS 1 hw (lw_gS hU_654 hU_655 hU_60 hU_656) rfl rfl rfl (by decide +kernel) ⟨Nat.le_of_ble_eq_true rfl, Nat.le_of_ble_eq_true rfl⟩) rfl rfl (Nat.le_of_ble_eq_true rfl) ⟨by decide, by decide⟩ rfl rfl dX3_exercise_1 ?_
  intro _ hu
  show jj_W _ _ _ _ _ _ _ _ _ _ _ _ _ _ _ _ _ 4 _ [.int (iI (k : Int))] (wH ha cA hA nA ed cI cJ cZ td pr up dn dv rw sd mc n mo sh co Ca Cz K St Ex Am Bi As BL AL He Co ++ EE)
  refine jj_istore C0 (lv' := [(4, .int (iI (k : Int))), (0, .ref (ha 0)), (1, .int (iI w)), (2, .int (iI (c : Int))), (3, .int (iI x))]) (by decide) rfl dX3_exercise_4 ?_
  refine jj_aload_n C0 1 rfl dX3_exercise_6 ?_
  refine jj_iload_n C0 3 rfl dX3_exercise_7 ?_
  refine jj_callVr C0 (jj_weakr (fun A U H h => h.1) (cc_X3_contractOf  (c := c) (by first | exact hcn | omega) (by first | exact hn | omega) (by first | exact hED | omega))) (cwV 1 hw (lw_gV hU_554 hU_556 hU_26 hU_60 hU_557) rfl rfl rfl (by decide +kernel) ⟨Nat.le_of_ble_eq_true rfl, Nat.le_of_ble_eq_true rfl⟩) (ci := 4) (q0 := 0) rfl (rfl) rfl rfl (Nat.le_of_ble_eq_true rfl) ⟨by decide, by decide⟩ rfl rfl dX3_exercise_8 ?_
  intro _ hu
  show jj_W _ _ _ _ _ _ _ _ _ _ _ _ _ _ _ _ _ 11 _ [.ref (cA c)] (wH ha cA hA nA ed cI cJ cZ td pr up dn dv rw sd mc n mo sh co Ca Cz K St Ex Am Bi As BL AL He Co ++ EE)
  refine jj_astore C0 (lv' := [(5, .ref (cA c)), (4, .int (iI (k : Int))), (0, .ref (ha 0)), (1, .int (iI w)), (2, .int (iI (c : Int))), (3, .int (iI x))]) (by decide) rfl dX3_exercise_11 ?_
  refine jj_iload_n C0 5 rfl dX3_exercise_13 ?_
  refine jj_iconst C0 dX3_exercise_14 ?_
  refine jj_sipush C0 dX3_exercise_15 (by decide) ?_
  by_cases g18 : 1 ≤ x ∧ x ≤ 1000
  · exact absurd hbad (by omega)
  · skip
    exact jj_callXS C0 hx0 (cx_X3_checkRange hl (by omega) (by omega) (by omega) (by omega)) (cwS 3 hw (lw_gS hU_329 hU_330 hU_60 hU_331) rfl rfl rfl (by decide +kernel) ⟨Nat.le_of_ble_eq_true rfl, Nat.le_of_ble_eq_true rfl⟩) rfl rfl (Nat.le_of_ble_eq_true rfl) ⟨by decide, by decide⟩ ⟨by decide, by decide⟩ dX3_exercise_18
set_option maxHeartbeats 4000000 in
set_option maxRecDepth 100000 in
theorem cx_X3_exercise_S (hl : l.stackTraces = false) {k c : Nat} {w x : Int} (hbad : ¬ (x ≤ He (7 * c + k) ∧ (td : Int) ≤ Ex c ∧ (Am c ≠ 0 ∨ Ex c = (td : Int)))) (hx1 : 1 ≤ x ∧ x ≤ 1000) (hzk : (w = -1 ∧ k = 6) ∨ (w = (k : Int) ∧ k ≤ 5)) (hcn : c < n) (hn : n ≤ 12) (hED : 0 < n → f_ED cA n ed cO EE) (hEx : ∀ j, 0 ≤ Ex j ∧ Ex j ≤ 200) (htd : td ≤ 200) (hHe : ∀ j, -1000000 ≤ He j ∧ He j ≤ 1000000) (hAm : ∀ j, 0 ≤ Am j ∧ Am j ≤ 1) : jj_X (EVT sa) (dC, dI) vwCl [(cI, .int), (cJ, .long), (cZ, .boolean), (cO, .object "java/lang/Object")] l yX3_exercise (Cond.code yX3_exercise cX3_exercise 8 (some .int) :: lw_U) ({ frames := 7, cells := 1, slots := 6, locals := 121 } : Room) [.ref (ha 0), .int (iI w), .int (iI (c : Int)), .int (iI x)] (wH ha cA hA nA ed cI cJ cZ td pr up dn dv rw sd mc n mo sh co Ca Cz K St Ex Am Bi As BL AL He Co ++ EE) "java/lang/IllegalStateException" := by
  refine jj_startX (cc := cX3_exercise) (nL := 8) (ret := (some .int)) (lv := [(0, .ref (ha 0)), (1, .int (iI w)), (2, .int (iI (c : Int))), (3, .int (iI x))]) (hEVT sa) (by decide) rfl (Nat.le_of_ble_eq_true rfl) rfl ?_
  intro p9 e9 s9 m9 a9 b9 me9 c9 A9 C1 hx0
  have C0 : jj_C p9 s9 m9 a9 me9 c9 (dC, dI) vwCl A9 8 cX3_exercise "Strikehall" lw_U _ (EVT sa) := jj_toU C1
  have hw := C0.2.2.2.2.1
  have hE := C0.2.2.2.2.2.2.2.1
  have hk6 : k ≤ 6 := by omega
  have hh1 := hHe (7 * c + k)
  refine jj_iload_n C0 1 rfl dX3_exercise_0 ?_
  refine jj_callSi C0 (jj_weaki (fun A U H h => h.1) (cc_X3_placeOf  (z := w) (k := k) (by first | exact hzk | omega))) (cwS 1 hw (lw_gS hU_654 hU_655 hU_60 hU_656) rfl rfl rfl (by decide +kernel) ⟨Nat.le_of_ble_eq_true rfl, Nat.le_of_ble_eq_true rfl⟩) rfl rfl (Nat.le_of_ble_eq_true rfl) ⟨by decide, by decide⟩ rfl rfl dX3_exercise_1 ?_
  intro _ hu
  show jj_W _ _ _ _ _ _ _ _ _ _ _ _ _ _ _ _ _ 4 _ [.int (iI (k : Int))] (wH ha cA hA nA ed cI cJ cZ td pr up dn dv rw sd mc n mo sh co Ca Cz K St Ex Am Bi As BL AL He Co ++ EE)
  refine jj_istore C0 (lv' := [(4, .int (iI (k : Int))), (0, .ref (ha 0)), (1, .int (iI w)), (2, .int (iI (c : Int))), (3, .int (iI x))]) (by decide) rfl dX3_exercise_4 ?_
  refine jj_aload_n C0 1 rfl dX3_exercise_6 ?_
  refine jj_iload_n C0 3 rfl dX3_exercise_7 ?_
  refine jj_callVr C0 (jj_weakr (fun A U H h => h.1) (cc_X3_contractOf  (c := c) (by first | exact hcn | omega) (by first | exact hn | omega) (by first | exact hED | omega))) (cwV 1 hw (lw_gV hU_554 hU_556 hU_26 hU_60 hU_557) rfl rfl rfl (by decide +kernel) ⟨Nat.le_of_ble_eq_true rfl, Nat.le_of_ble_eq_true rfl⟩) (ci := 4) (q0 := 0) rfl (rfl) rfl rfl (Nat.le_of_ble_eq_true rfl) ⟨by decide, by decide⟩ rfl rfl dX3_exercise_8 ?_
  intro _ hu
  show jj_W _ _ _ _ _ _ _ _ _ _ _ _ _ _ _ _ _ 11 _ [.ref (cA c)] (wH ha cA hA nA ed cI cJ cZ td pr up dn dv rw sd mc n mo sh co Ca Cz K St Ex Am Bi As BL AL He Co ++ EE)
  refine jj_astore C0 (lv' := [(5, .ref (cA c)), (4, .int (iI (k : Int))), (0, .ref (ha 0)), (1, .int (iI w)), (2, .int (iI (c : Int))), (3, .int (iI x))]) (by decide) rfl dX3_exercise_11 ?_
  refine jj_iload_n C0 5 rfl dX3_exercise_13 ?_
  refine jj_iconst C0 dX3_exercise_14 ?_
  refine jj_sipush C0 dX3_exercise_15 (by decide) ?_
  refine jj_callSv C0 (jj_weakv (fun A U H h => h.1) (cc_X3_checkRange  (a := x) (b := 1) (d := 1000) (by omega) (by omega) (by omega) (by omega))) (cwS 3 hw (lw_gS hU_329 hU_330 hU_60 hU_331) rfl rfl rfl (by decide +kernel) ⟨Nat.le_of_ble_eq_true rfl, Nat.le_of_ble_eq_true rfl⟩) rfl rfl (Nat.le_of_ble_eq_true rfl) ⟨by decide, by decide⟩ rfl rfl dX3_exercise_18 ?_
  intro _ hu
  show jj_W _ _ _ _ _ _ _ _ _ _ _ _ _ _ _ _ _ 21 _ [] (wH ha cA hA nA ed cI cJ cZ td pr up dn dv rw sd mc n mo sh co Ca Cz K St Ex Am Bi As BL AL He Co ++ EE)
  refine jj_aload_n C0 2 rfl dX3_exercise_21 ?_
  refine jj_aload C0 0 rfl dX3_exercise_22 ?_
  by_cases g24 : (td : Int) ≤ Ex c
  · skip
    refine jj_callVv C0 (jj_weakv (fun A U H h => h.1) (cc_X3_checkNotOver  (c := c) (by omega) (by first | exact hcn | omega) (by first | exact htd | omega) (by first | exact hEx | omega))) (cwV 1 hw (lw_gV hU_574 hU_576 hU_27 hU_60 hU_577) rfl rfl rfl (by decide +kernel) ⟨Nat.le_of_ble_eq_true rfl, Nat.le_of_ble_eq_true rfl⟩) (ci := 4) (q0 := 0) rfl (rfl) rfl rfl (Nat.le_of_ble_eq_true rfl) ⟨by decide, by decide⟩ rfl rfl dX3_exercise_24 ?_
    intro _ hu
    show jj_W _ _ _ _ _ _ _ _ _ _ _ _ _ _ _ _ _ 27 _ [] (wH ha cA hA nA ed cI cJ cZ td pr up dn dv rw sd mc n mo sh co Ca Cz K St Ex Am Bi As BL AL He Co ++ EE)
    refine jj_aload C0 0 rfl dX3_exercise_27 ?_
    refine jj_iload C0 1 rfl dX3_exercise_29 ?_
    refine jj_callVNi C0 (jj_weaki (fun A U H h => h.1) (cc_X0_lotsAt  (c := c) (k := k) (by omega) (by first | exact hcn | omega))) ⟨va_cnB 1 hw (lw_gc hU_281 lw_UU) rfl rfl rfl (hE.1.1 _ hN_278) (hw _ hU_75) (by decide +kernel) ⟨Nat.le_of_ble_eq_true rfl, Nat.le_of_ble_eq_true rfl⟩, hw _ hU_280, hw _ hU_13⟩ (ci := 1) (q0 := (8 + (3 * c + 0))) rfl ((wH_c (c := c) (by omega))) rfl rfl (Nat.le_of_ble_eq_true rfl) ⟨by decide, by decide⟩ rfl rfl dX3_exercise_31 ?_
    intro _ hu
    show jj_W _ _ _ _ _ _ _ _ _ _ _ _ _ _ _ _ _ 34 _ [.int (iI (He (7 * c + k)))] (wH ha cA hA nA ed cI cJ cZ td pr up dn dv rw sd mc n mo sh co Ca Cz K St Ex Am Bi As BL AL He Co ++ EE)
    refine jj_iload_n C0 5 rfl dX3_exercise_34 ?_
    refine jj_icmp_ge C0 (by omega) (by omega) dX3_exercise_35 (tgt := 48) (by decide) (fun c_1 => ?_) (fun c_1 => ?_)
    · refine jj_aload C0 0 rfl dX3_exercise_48 ?_
      refine jj_getN C0 (ci := 1) (v := .int (iI (Am c))) hin_X0 ((8 + (3 * c + 0))) ((wH_c (c := c) (by omega))) rfl 3 (by decide) (va_Nw.use rfl (hE.1.1 _ (hN_461))) (fun _ h9 => h9) rfl dX3_exercise_50 ?_
      have hb_Am_8303 := hAm c
      refine jj_if_ne C0 (by omega) dX3_exercise_53 (tgt := 81) (by decide) (fun c_2 => ?_) (fun c_2 => ?_)
      · exfalso
        omega
      · refine jj_aload C0 0 rfl dX3_exercise_56 ?_
        refine jj_getN C0 (ci := 1) (v := .int (iI (Ex c))) hin_X0 ((8 + (3 * c + 0))) ((wH_c (c := c) (by omega))) rfl 2 (by decide) (va_Nw.use rfl (hE.1.1 _ (hN_458))) (fun _ h9 => h9) rfl dX3_exercise_58 ?_
        have hb_Ex_47718 := hEx c
        refine jj_aload_n C0 2 rfl dX3_exercise_61 ?_
        refine jj_get C0 (ci := 4) (v := .ref (ha 1)) hin_X3 (0) (rfl) rfl 0 (by decide) (hw _ hU_156) (fun _ h9 => h9) rfl dX3_exercise_62 ?_
        refine jj_getN C0 (ci := 3) (v := .int (iI (td : Int))) hin_X2 (1) (rfl) rfl 5 (by decide) (va_Nw.use rfl (hE.1.1 _ (hN_103))) (fun _ h9 => h9) rfl dX3_exercise_65 ?_
        refine jj_icmp_eq C0 (by omega) (by omega) dX3_exercise_68 (tgt := 81) (by decide) (fun c_3 => ?_) (fun c_3 => ?_)
        · exfalso
          omega
        · exact jj_throwS (names := ["java/lang/RuntimeException", "java/lang/Exception"]) (text := "it may not be exercised today") (sa := sa 180) C0 hl hx0 (by decide +kernel) (by decide +kernel) (hw _ hU_432) (hw _ hU_74) (hE.2.1 (180, "it may not be exercised today") (by decide)) (wx_S_hat hw hE.2.2.1) wx_S_o hE.2.2.2.1 hE.2.2.2.2 dX3_exercise_71 dX3_exercise_74 dX3_exercise_75 dX3_exercise_77 dX3_exercise_80 (by decide) (Nat.le_of_ble_eq_true rfl) (by decide) (by decide) (by decide) (by decide)
    · exact jj_throwS (names := ["java/lang/RuntimeException", "java/lang/Exception"]) (text := "there are fewer lots") (sa := sa 171) C0 hl hx0 (by decide +kernel) (by decide +kernel) (hw _ hU_432) (hw _ hU_74) (hE.2.1 (171, "there are fewer lots") (by decide)) (wx_S_hat hw hE.2.2.1) wx_S_o hE.2.2.2.1 hE.2.2.2.2 dX3_exercise_38 dX3_exercise_41 dX3_exercise_42 dX3_exercise_44 dX3_exercise_47 (by decide) (Nat.le_of_ble_eq_true rfl) (by decide) (by decide) (by decide) (by decide)
  · skip
    exact jj_callXV C0 hx0 (cx_X3_checkNotOver hl (by omega) (by omega) (by omega) (by omega)) (cwV 1 hw (lw_gV hU_574 hU_576 hU_27 hU_60 hU_577) rfl rfl rfl (by decide +kernel) ⟨Nat.le_of_ble_eq_true rfl, Nat.le_of_ble_eq_true rfl⟩) (ci := 4) (q0 := 0) rfl (rfl) rfl rfl (Nat.le_of_ble_eq_true rfl) ⟨by decide, by decide⟩ ⟨by decide, by decide⟩ dX3_exercise_24
set_option maxHeartbeats 4000000 in
set_option maxRecDepth 100000 in
theorem cx_X3_contrary (hl : l.stackTraces = false) {w z v : Int} (hbad : ¬ (0 ≤ w ∧ w ≤ 5 ∧ 0 ≤ z ∧ z < (n : Int))) (hrw : iR w) (hrz : iR z) (hn : n ≤ 12) : jj_X (EVT sa) (dC, dI) vwCl [(cI, .int), (cJ, .long), (cZ, .boolean), (cO, .object "java/lang/Object")] l yX3_contrary (Cond.code yX3_contrary cX3_contrary 5 (some .boolean) :: lw_U) ({ frames := 7, cells := 1, slots := 6, locals := 121 } : Room) [.ref (ha 0), .int (iI w), .int (iI z), .int (iI v)] (wH ha cA hA nA ed cI cJ cZ td pr up dn dv rw sd mc n mo sh co Ca Cz K St Ex Am Bi As BL AL He Co ++ EE) "java/lang/IndexOutOfBoundsException" := by
  refine jj_startX (cc := cX3_contrary) (nL := 5) (ret := (some .boolean)) (lv := [(0, .ref (ha 0)), (1, .int (iI w)), (2, .int (iI z)), (3, .int (iI v))]) (hEVT sa) (by decide) rfl (Nat.le_of_ble_eq_true rfl) rfl ?_
  intro p9 e9 s9 m9 a9 b9 me9 c9 A9 C1 hx0
  have C0 : jj_C p9 s9 m9 a9 me9 c9 (dC, dI) vwCl A9 5 cX3_contrary "Strikehall" lw_U _ (EVT sa) := jj_toU C1
  have hw := C0.2.2.2.2.1
  have hE := C0.2.2.2.2.2.2.2.1
  refine jj_iload_n C0 1 rfl dX3_contrary_0 ?_
  by_cases g1 : 0 ≤ w ∧ w ≤ 5
  · skip
    refine jj_callSv C0 (jj_weakv (fun A U H h => h.1) (cc_X3_checkCustomer  (z := w) (by omega))) (cwS 1 hw (lw_gS hU_594 hU_595 hU_60 hU_596) rfl rfl rfl (by decide +kernel) ⟨Nat.le_of_ble_eq_true rfl, Nat.le_of_ble_eq_true rfl⟩) rfl rfl (Nat.le_of_ble_eq_true rfl) ⟨by decide, by decide⟩ rfl rfl dX3_contrary_1 ?_
    intro _ hu
    show jj_W _ _ _ _ _ _ _ _ _ _ _ _ _ _ _ _ _ 4 _ [] (wH ha cA hA nA ed cI cJ cZ td pr up dn dv rw sd mc n mo sh co Ca Cz K St Ex Am Bi As BL AL He Co ++ EE)
    refine jj_aload_n C0 0 rfl dX3_contrary_4 ?_
    refine jj_iload_n C0 2 rfl dX3_contrary_5 ?_
    by_cases g6 : 0 ≤ z ∧ z < (n : Int)
    · exact absurd hbad (by omega)
    · skip
      exact jj_callXV C0 hx0 (cx_X3_contractOf hl (by omega) (by omega) (by omega)) (cwV 1 hw (lw_gV hU_554 hU_556 hU_26 hU_60 hU_557) rfl rfl rfl (by decide +kernel) ⟨Nat.le_of_ble_eq_true rfl, Nat.le_of_ble_eq_true rfl⟩) (ci := 4) (q0 := 0) rfl (rfl) rfl rfl (Nat.le_of_ble_eq_true rfl) ⟨by decide, by decide⟩ ⟨by decide, by decide⟩ dX3_contrary_6
  · skip
    exact jj_callXS C0 hx0 (cx_X3_checkCustomer hl (by omega) (by omega)) (cwS 1 hw (lw_gS hU_594 hU_595 hU_60 hU_596) rfl rfl rfl (by decide +kernel) ⟨Nat.le_of_ble_eq_true rfl, Nat.le_of_ble_eq_true rfl⟩) rfl rfl (Nat.le_of_ble_eq_true rfl) ⟨by decide, by decide⟩ ⟨by decide, by decide⟩ dX3_contrary_1
set_option maxHeartbeats 4000000 in
set_option maxRecDepth 100000 in
theorem cx_X3_contrary_S (hl : l.stackTraces = false) {c : Nat} {w v : Int} (hbad : Ex c < (td : Int)) (hw0 : 0 ≤ w ∧ w ≤ 5) (hcn : c < n) (hn : n ≤ 12) (hED : 0 < n → f_ED cA n ed cO EE) (hEx : ∀ j, 0 ≤ Ex j ∧ Ex j ≤ 200) (htd : td ≤ 200) : jj_X (EVT sa) (dC, dI) vwCl [(cI, .int), (cJ, .long), (cZ, .boolean), (cO, .object "java/lang/Object")] l yX3_contrary (Cond.code yX3_contrary cX3_contrary 5 (some .boolean) :: lw_U) ({ frames := 7, cells := 1, slots := 6, locals := 121 } : Room) [.ref (ha 0), .int (iI w), .int (iI (c : Int)), .int (iI v)] (wH ha cA hA nA ed cI cJ cZ td pr up dn dv rw sd mc n mo sh co Ca Cz K St Ex Am Bi As BL AL He Co ++ EE) "java/lang/IllegalStateException" := by
  refine jj_startX (cc := cX3_contrary) (nL := 5) (ret := (some .boolean)) (lv := [(0, .ref (ha 0)), (1, .int (iI w)), (2, .int (iI (c : Int))), (3, .int (iI v))]) (hEVT sa) (by decide) rfl (Nat.le_of_ble_eq_true rfl) rfl ?_
  intro p9 e9 s9 m9 a9 b9 me9 c9 A9 C1 hx0
  have C0 : jj_C p9 s9 m9 a9 me9 c9 (dC, dI) vwCl A9 5 cX3_contrary "Strikehall" lw_U _ (EVT sa) := jj_toU C1
  have hw := C0.2.2.2.2.1
  have hE := C0.2.2.2.2.2.2.2.1
  refine jj_iload_n C0 1 rfl dX3_contrary_0 ?_
  refine jj_callSv C0 (jj_weakv (fun A U H h => h.1) (cc_X3_checkCustomer  (z := w) (by omega))) (cwS 1 hw (lw_gS hU_594 hU_595 hU_60 hU_596) rfl rfl rfl (by decide +kernel) ⟨Nat.le_of_ble_eq_true rfl, Nat.le_of_ble_eq_true rfl⟩) rfl rfl (Nat.le_of_ble_eq_true rfl) ⟨by decide, by decide⟩ rfl rfl dX3_contrary_1 ?_
  intro _ hu
  show jj_W _ _ _ _ _ _ _ _ _ _ _ _ _ _ _ _ _ 4 _ [] (wH ha cA hA nA ed cI cJ cZ td pr up dn dv rw sd mc n mo sh co Ca Cz K St Ex Am Bi As BL AL He Co ++ EE)
  refine jj_aload_n C0 0 rfl dX3_contrary_4 ?_
  refine jj_iload_n C0 2 rfl dX3_contrary_5 ?_
  refine jj_callVr C0 (jj_weakr (fun A U H h => h.1) (cc_X3_contractOf  (c := c) (by first | exact hcn | omega) (by first | exact hn | omega) (by first | exact hED | omega))) (cwV 1 hw (lw_gV hU_554 hU_556 hU_26 hU_60 hU_557) rfl rfl rfl (by decide +kernel) ⟨Nat.le_of_ble_eq_true rfl, Nat.le_of_ble_eq_true rfl⟩) (ci := 4) (q0 := 0) rfl (rfl) rfl rfl (Nat.le_of_ble_eq_true rfl) ⟨by decide, by decide⟩ rfl rfl dX3_contrary_6 ?_
  intro _ hu
  show jj_W _ _ _ _ _ _ _ _ _ _ _ _ _ _ _ _ _ 9 _ [.ref (cA c)] (wH ha cA hA nA ed cI cJ cZ td pr up dn dv rw sd mc n mo sh co Ca Cz K St Ex Am Bi As BL AL He Co ++ EE)
  refine jj_astore C0 (lv' := [(4, .ref (cA c)), (0, .ref (ha 0)), (1, .int (iI w)), (2, .int (iI (c : Int))), (3, .int (iI v))]) (by decide) rfl dX3_contrary_9 ?_
  refine jj_aload_n C0 1 rfl dX3_contrary_11 ?_
  refine jj_aload C0 0 rfl dX3_contrary_12 ?_
  by_cases g14 : (td : Int) ≤ Ex c
  · exact absurd hbad (by omega)
  · skip
    exact jj_callXV C0 hx0 (cx_X3_checkNotOver hl (by omega) (by omega) (by omega) (by omega)) (cwV 1 hw (lw_gV hU_574 hU_576 hU_27 hU_60 hU_577) rfl rfl rfl (by decide +kernel) ⟨Nat.le_of_ble_eq_true rfl, Nat.le_of_ble_eq_true rfl⟩) (ci := 4) (q0 := 0) rfl (rfl) rfl rfl (Nat.le_of_ble_eq_true rfl) ⟨by decide, by decide⟩ ⟨by decide, by decide⟩ dX3_contrary_14
set_option maxHeartbeats 4000000 in
set_option maxRecDepth 100000 in
theorem cx_X3_close (hl : l.stackTraces = false)  (hbad : td = 200) : jj_X (EVT sa) (dC, dI) vwCl [(cI, .int), (cJ, .long), (cZ, .boolean), (cO, .object "java/lang/Object")] l yX3_close (Cond.code yX3_close cX3_close 5 (some .int) :: lw_U) ({ frames := 6, cells := 1, slots := 6, locals := 100 } : Room) [.ref (ha 0)] (wH ha cA hA nA ed cI cJ cZ td pr up dn dv rw sd mc n mo sh co Ca Cz K St Ex Am Bi As BL AL He Co ++ EE) "java/lang/IllegalStateException" := by
  refine jj_startX (cc := cX3_close) (nL := 5) (ret := (some .int)) (lv := [(0, .ref (ha 0))]) (hEVT sa) (by decide) rfl (Nat.le_of_ble_eq_true rfl) rfl ?_
  intro p9 e9 s9 m9 a9 b9 me9 c9 A9 C1 hx0
  have C0 : jj_C p9 s9 m9 a9 me9 c9 (dC, dI) vwCl A9 5 cX3_close "Strikehall" lw_U _ (EVT sa) := jj_toU C1
  have hw := C0.2.2.2.2.1
  have hE := C0.2.2.2.2.2.2.2.1
  refine jj_aload_n C0 0 rfl dX3_close_0 ?_
  refine jj_get C0 (ci := 4) (v := .ref (ha 1)) hin_X3 (0) (rfl) rfl 0 (by decide) (hw _ hU_156) (fun _ h9 => h9) rfl dX3_close_1 ?_
  refine jj_getN C0 (ci := 3) (v := .int (iI (td : Int))) hin_X2 (1) (rfl) rfl 5 (by decide) (va_Nw.use rfl (hE.1.1 _ (hN_103))) (fun _ h9 => h9) rfl dX3_close_4 ?_
  refine jj_sipush C0 dX3_close_7 (by decide) ?_
  refine jj_icmp_lt C0 (by omega) (by omega) dX3_close_10 (tgt := 23) (by decide) (fun c_1 => absurd c_1 (by omega)) (fun c_1 => ?_)
  exact jj_throwS (names := ["java/lang/RuntimeException", "java/lang/Exception"]) (text := "today is the last day") (sa := sa 193) C0 hl hx0 (by decide +kernel) (by decide +kernel) (hw _ hU_432) (hw _ hU_74) (hE.2.1 (193, "today is the last day") (by decide)) (wx_S_hat hw hE.2.2.1) wx_S_o hE.2.2.2.1 hE.2.2.2.2 dX3_close_13 dX3_close_16 dX3_close_17 dX3_close_19 dX3_close_22 (by decide) (Nat.le_of_ble_eq_true rfl) (by decide) (by decide) (by decide) (by decide)
set_option maxHeartbeats 4000000 in
set_option maxRecDepth 100000 in
theorem cx_X3_value (hl : l.stackTraces = false) {z v : Int} (hbad : ¬ (0 ≤ z ∧ z < (n : Int))) (hrz : iR z) (hn : n ≤ 12) : jj_X (EVT sa) (dC, dI) vwCl [(cI, .int), (cJ, .long), (cZ, .boolean), (cO, .object "java/lang/Object")] l yX3_value (Cond.code yX3_value cX3_value 10 (some .long) :: lw_U) ({ frames := 7, cells := 1, slots := 6, locals := 121 } : Room) [.ref (ha 0), .int (iI z), .int (iI v)] (wH ha cA hA nA ed cI cJ cZ td pr up dn dv rw sd mc n mo sh co Ca Cz K St Ex Am Bi As BL AL He Co ++ EE) "java/lang/IndexOutOfBoundsException" := by
  refine jj_startX (cc := cX3_value) (nL := 10) (ret := (some .long)) (lv := [(0, .ref (ha 0)), (1, .int (iI z)), (2, .int (iI v))]) (hEVT sa) (by decide) rfl (Nat.le_of_ble_eq_true rfl) rfl ?_
  intro p9 e9 s9 m9 a9 b9 me9 c9 A9 C1 hx0
  have C0 : jj_C p9 s9 m9 a9 me9 c9 (dC, dI) vwCl A9 10 cX3_value "Strikehall" lw_U _ (EVT sa) := jj_toU C1
  have hw := C0.2.2.2.2.1
  have hE := C0.2.2.2.2.2.2.2.1
  refine jj_aload_n C0 0 rfl dX3_value_0 ?_
  refine jj_iload_n C0 1 rfl dX3_value_1 ?_
  by_cases g2 : 0 ≤ z ∧ z < (n : Int)
  · exact absurd hbad (by omega)
  · skip
    exact jj_callXV C0 hx0 (cx_X3_contractOf hl (by omega) (by omega) (by omega)) (cwV 1 hw (lw_gV hU_554 hU_556 hU_26 hU_60 hU_557) rfl rfl rfl (by decide +kernel) ⟨Nat.le_of_ble_eq_true rfl, Nat.le_of_ble_eq_true rfl⟩) (ci := 4) (q0 := 0) rfl (rfl) rfl rfl (Nat.le_of_ble_eq_true rfl) ⟨by decide, by decide⟩ ⟨by decide, by decide⟩ dX3_value_2
set_option maxHeartbeats 4000000 in
set_option maxRecDepth 100000 in
theorem cx_X3_mark (hl : l.stackTraces = false) {z : Int} (hbad : ¬ (0 ≤ z ∧ z < (n : Int))) (hrz : iR z) (hn : n ≤ 12) : jj_X (EVT sa) (dC, dI) vwCl [(cI, .int), (cJ, .long), (cZ, .boolean), (cO, .object "java/lang/Object")] l yX3_mark (Cond.code yX3_mark cX3_mark 2 (some .int) :: lw_U) ({ frames := 7, cells := 1, slots := 6, locals := 121 } : Room) [.ref (ha 0), .int (iI z)] (wH ha cA hA nA ed cI cJ cZ td pr up dn dv rw sd mc n mo sh co Ca Cz K St Ex Am Bi As BL AL He Co ++ EE) "java/lang/IndexOutOfBoundsException" := by
  refine jj_startX (cc := cX3_mark) (nL := 2) (ret := (some .int)) (lv := [(0, .ref (ha 0)), (1, .int (iI z))]) (hEVT sa) (by decide) rfl (Nat.le_of_ble_eq_true rfl) rfl ?_
  intro p9 e9 s9 m9 a9 b9 me9 c9 A9 C1 hx0
  have C0 : jj_C p9 s9 m9 a9 me9 c9 (dC, dI) vwCl A9 2 cX3_mark "Strikehall" lw_U _ (EVT sa) := jj_toU C1
  have hw := C0.2.2.2.2.1
  have hE := C0.2.2.2.2.2.2.2.1
  refine jj_aload_n C0 0 rfl dX3_mark_0 ?_
  refine jj_get C0 (ci := 4) (v := .ref (ha 1)) hin_X3 (0) (rfl) rfl 0 (by decide) (hw _ hU_156) (fun _ h9 => h9) rfl dX3_mark_1 ?_
  refine jj_aload_n C0 0 rfl dX3_mark_4 ?_
  refine jj_iload_n C0 1 rfl dX3_mark_5 ?_
  by_cases g6 : 0 ≤ z ∧ z < (n : Int)
  · exact absurd hbad (by omega)
  · skip
    exact jj_callXV C0 hx0 (cx_X3_contractOf hl (by omega) (by omega) (by omega)) (cwV 1 hw (lw_gV hU_554 hU_556 hU_26 hU_60 hU_557) rfl rfl rfl (by decide +kernel) ⟨Nat.le_of_ble_eq_true rfl, Nat.le_of_ble_eq_true rfl⟩) (ci := 4) (q0 := 0) rfl (rfl) rfl rfl (Nat.le_of_ble_eq_true rfl) ⟨by decide, by decide⟩ ⟨by decide, by decide⟩ dX3_mark_6
set_option maxHeartbeats 4000000 in
set_option maxRecDepth 100000 in
theorem cx_X3_markByWays (hl : l.stackTraces = false) {z : Int} (hbad : ¬ (0 ≤ z ∧ z < (n : Int))) (hrz : iR z) (hn : n ≤ 12) : jj_X (EVT sa) (dC, dI) vwCl [(cI, .int), (cJ, .long), (cZ, .boolean), (cO, .object "java/lang/Object")] l yX3_markByWays (Cond.code yX3_markByWays cX3_markByWays 5 (some .int) :: lw_U) ({ frames := 7, cells := 1, slots := 6, locals := 121 } : Room) [.ref (ha 0), .int (iI z)] (wH ha cA hA nA ed cI cJ cZ td pr up dn dv rw sd mc n mo sh co Ca Cz K St Ex Am Bi As BL AL He Co ++ EE) "java/lang/IndexOutOfBoundsException" := by
  refine jj_startX (cc := cX3_markByWays) (nL := 5) (ret := (some .int)) (lv := [(0, .ref (ha 0)), (1, .int (iI z))]) (hEVT sa) (by decide) rfl (Nat.le_of_ble_eq_true rfl) rfl ?_
  intro p9 e9 s9 m9 a9 b9 me9 c9 A9 C1 hx0
  have C0 : jj_C p9 s9 m9 a9 me9 c9 (dC, dI) vwCl A9 5 cX3_markByWays "Strikehall" lw_U _ (EVT sa) := jj_toU C1
  have hw := C0.2.2.2.2.1
  have hE := C0.2.2.2.2.2.2.2.1
  refine jj_aload_n C0 0 rfl dX3_markByWays_0 ?_
  refine jj_iload_n C0 1 rfl dX3_markByWays_1 ?_
  by_cases g2 : 0 ≤ z ∧ z < (n : Int)
  · exact absurd hbad (by omega)
  · skip
    exact jj_callXV C0 hx0 (cx_X3_contractOf hl (by omega) (by omega) (by omega)) (cwV 1 hw (lw_gV hU_554 hU_556 hU_26 hU_60 hU_557) rfl rfl rfl (by decide +kernel) ⟨Nat.le_of_ble_eq_true rfl, Nat.le_of_ble_eq_true rfl⟩) (ci := 4) (q0 := 0) rfl (rfl) rfl rfl (Nat.le_of_ble_eq_true rfl) ⟨by decide, by decide⟩ ⟨by decide, by decide⟩ dX3_markByWays_2
set_option maxHeartbeats 4000000 in
set_option maxRecDepth 100000 in
theorem cx_X3_quoted (hl : l.stackTraces = false) {z v : Int} (hbad : ¬ (0 ≤ z ∧ z < (n : Int))) (hrz : iR z) (hn : n ≤ 12) : jj_X (EVT sa) (dC, dI) vwCl [(cI, .int), (cJ, .long), (cZ, .boolean), (cO, .object "java/lang/Object")] l yX3_quoted (Cond.code yX3_quoted cX3_quoted 4 (some .int) :: lw_U) ({ frames := 7, cells := 1, slots := 6, locals := 121 } : Room) [.ref (ha 0), .int (iI z), .int (iI v)] (wH ha cA hA nA ed cI cJ cZ td pr up dn dv rw sd mc n mo sh co Ca Cz K St Ex Am Bi As BL AL He Co ++ EE) "java/lang/IndexOutOfBoundsException" := by
  refine jj_startX (cc := cX3_quoted) (nL := 4) (ret := (some .int)) (lv := [(0, .ref (ha 0)), (1, .int (iI z)), (2, .int (iI v))]) (hEVT sa) (by decide) rfl (Nat.le_of_ble_eq_true rfl) rfl ?_
  intro p9 e9 s9 m9 a9 b9 me9 c9 A9 C1 hx0
  have C0 : jj_C p9 s9 m9 a9 me9 c9 (dC, dI) vwCl A9 4 cX3_quoted "Strikehall" lw_U _ (EVT sa) := jj_toU C1
  have hw := C0.2.2.2.2.1
  have hE := C0.2.2.2.2.2.2.2.1
  refine jj_aload_n C0 0 rfl dX3_quoted_0 ?_
  refine jj_iload_n C0 1 rfl dX3_quoted_1 ?_
  by_cases g2 : 0 ≤ z ∧ z < (n : Int)
  · exact absurd hbad (by omega)
  · skip
    exact jj_callXV C0 hx0 (cx_X3_contractOf hl (by omega) (by omega) (by omega)) (cwV 1 hw (lw_gV hU_554 hU_556 hU_26 hU_60 hU_557) rfl rfl rfl (by decide +kernel) ⟨Nat.le_of_ble_eq_true rfl, Nat.le_of_ble_eq_true rfl⟩) (ci := 4) (q0 := 0) rfl (rfl) rfl rfl (Nat.le_of_ble_eq_true rfl) ⟨by decide, by decide⟩ ⟨by decide, by decide⟩ dX3_quoted_2
set_option maxHeartbeats 4000000 in
set_option maxRecDepth 100000 in
theorem cx_X3_quoted_A (hl : l.stackTraces = false) {c : Nat} {x : Int} (hbad : ¬ (0 ≤ x ∧ x ≤ 3)) (hrx : iR x) (hcn : c < n) (hn : n ≤ 12) (hED : 0 < n → f_ED cA n ed cO EE) : jj_X (EVT sa) (dC, dI) vwCl [(cI, .int), (cJ, .long), (cZ, .boolean), (cO, .object "java/lang/Object")] l yX3_quoted (Cond.code yX3_quoted cX3_quoted 4 (some .int) :: lw_U) ({ frames := 6, cells := 1, slots := 6, locals := 100 } : Room) [.ref (ha 0), .int (iI (c : Int)), .int (iI x)] (wH ha cA hA nA ed cI cJ cZ td pr up dn dv rw sd mc n mo sh co Ca Cz K St Ex Am Bi As BL AL He Co ++ EE) "java/lang/IllegalArgumentException" := by
  refine jj_startX (cc := cX3_quoted) (nL := 4) (ret := (some .int)) (lv := [(0, .ref (ha 0)), (1, .int (iI (c : Int))), (2, .int (iI x))]) (hEVT sa) (by decide) rfl (Nat.le_of_ble_eq_true rfl) rfl ?_
  intro p9 e9 s9 m9 a9 b9 me9 c9 A9 C1 hx0
  have C0 : jj_C p9 s9 m9 a9 me9 c9 (dC, dI) vwCl A9 4 cX3_quoted "Strikehall" lw_U _ (EVT sa) := jj_toU C1
  have hw := C0.2.2.2.2.1
  have hE := C0.2.2.2.2.2.2.2.1
  refine jj_aload_n C0 0 rfl dX3_quoted_0 ?_
  refine jj_iload_n C0 1 rfl dX3_quoted_1 ?_
  refine jj_callVr C0 (jj_weakr (fun A U H h => h.1) (cc_X3_contractOf  (c := c) (by first | exact hcn | omega) (by first | exact hn | omega) (by first | exact hED | omega))) (cwV 1 hw (lw_gV hU_554 hU_556 hU_26 hU_60 hU_557) rfl rfl rfl (by decide +kernel) ⟨Nat.le_of_ble_eq_true rfl, Nat.le_of_ble_eq_true rfl⟩) (ci := 4) (q0 := 0) rfl (rfl) rfl rfl (Nat.le_of_ble_eq_true rfl) ⟨by decide, by decide⟩ rfl rfl dX3_quoted_2 ?_
  intro _ hu
  show jj_W _ _ _ _ _ _ _ _ _ _ _ _ _ _ _ _ _ 5 _ [.ref (cA c)] (wH ha cA hA nA ed cI cJ cZ td pr up dn dv rw sd mc n mo sh co Ca Cz K St Ex Am Bi As BL AL He Co ++ EE)
  refine jj_astore_n C0 (i := 3) rfl (lv' := [(3, .ref (cA c)), (0, .ref (ha 0)), (1, .int (iI (c : Int))), (2, .int (iI x))]) (by decide) rfl dX3_quoted_5 ?_
  refine jj_iload_n C0 3 rfl dX3_quoted_6 ?_
  refine jj_tabD C0 (tgt := 56) (by omega) dX3_quoted_7 (by omega) (by decide) ?_
  exact jj_throwS (names := ["java/lang/RuntimeException", "java/lang/Exception"]) (text := "no such part of a quote") (sa := sa 234) C0 hl hx0 (by decide +kernel) (by decide +kernel) (hw _ hU_332) (hw _ hU_70) (hE.2.1 (234, "no such part of a quote") (by decide)) (wx_A_hat hw hE.2.2.1) wx_A_o hE.2.2.2.1 hE.2.2.2.2 dX3_quoted_56 dX3_quoted_59 dX3_quoted_60 dX3_quoted_62 dX3_quoted_65 (by decide) (Nat.le_of_ble_eq_true rfl) (by decide) (by decide) (by decide) (by decide)
set_option maxHeartbeats 4000000 in
set_option maxRecDepth 100000 in
theorem cx_X3_lots_1 (hl : l.stackTraces = false) {w z : Int} (hbad : ¬ (-1 ≤ w ∧ w ≤ 5)) (hrw : iR w) : jj_X (EVT sa) (dC, dI) vwCl [(cI, .int), (cJ, .long), (cZ, .boolean), (cO, .object "java/lang/Object")] l yX3_lots (Cond.code yX3_lots cX3_lots 4 (some .int) :: lw_U) ({ frames := 8, cells := 1, slots := 6, locals := 140 } : Room) [.ref (ha 0), .int (iI w), .int (iI z)] (wH ha cA hA nA ed cI cJ cZ td pr up dn dv rw sd mc n mo sh co Ca Cz K St Ex Am Bi As BL AL He Co ++ EE) "java/lang/IndexOutOfBoundsException" := by
  refine jj_startX (cc := cX3_lots) (nL := 4) (ret := (some .int)) (lv := [(0, .ref (ha 0)), (1, .int (iI w)), (2, .int (iI z))]) (hEVT sa) (by decide) rfl (Nat.le_of_ble_eq_true rfl) rfl ?_
  intro p9 e9 s9 m9 a9 b9 me9 c9 A9 C1 hx0
  have C0 : jj_C p9 s9 m9 a9 me9 c9 (dC, dI) vwCl A9 4 cX3_lots "Strikehall" lw_U _ (EVT sa) := jj_toU C1
  have hw := C0.2.2.2.2.1
  have hE := C0.2.2.2.2.2.2.2.1
  refine jj_iload_n C0 1 rfl dX3_lots_0 ?_
  by_cases g1 : -1 ≤ w ∧ w ≤ 5
  · exact absurd hbad (by omega)
  · skip
    exact jj_callXS C0 hx0 (cx_X3_placeOf hl (by omega) (by omega)) (cwS 1 hw (lw_gS hU_654 hU_655 hU_60 hU_656) rfl rfl rfl (by decide +kernel) ⟨Nat.le_of_ble_eq_true rfl, Nat.le_of_ble_eq_true rfl⟩) rfl rfl (Nat.le_of_ble_eq_true rfl) ⟨by decide, by decide⟩ ⟨by decide, by decide⟩ dX3_lots_1
set_option maxHeartbeats 4000000 in
set_option maxRecDepth 100000 in
theorem cx_X3_lots_2 (hl : l.stackTraces = false) {k : Nat} {w z : Int} (hbad : ¬ (0 ≤ z ∧ z < (n : Int))) (hzk : (w = -1 ∧ k = 6) ∨ (w = (k : Int) ∧ k ≤ 5)) (hrz : iR z) (hn : n ≤ 12) : jj_X (EVT sa) (dC, dI) vwCl [(cI, .int), (cJ, .long), (cZ, .boolean), (cO, .object "java/lang/Object")] l yX3_lots (Cond.code yX3_lots cX3_lots 4 (some .int) :: lw_U) ({ frames := 7, cells := 1, slots := 6, locals := 121 } : Room) [.ref (ha 0), .int (iI w), .int (iI z)] (wH ha cA hA nA ed cI cJ cZ td pr up dn dv rw sd mc n mo sh co Ca Cz K St Ex Am Bi As BL AL He Co ++ EE) "java/lang/IndexOutOfBoundsException" := by
  refine jj_startX (cc := cX3_lots) (nL := 4) (ret := (some .int)) (lv := [(0, .ref (ha 0)), (1, .int (iI w)), (2, .int (iI z))]) (hEVT sa) (by decide) rfl (Nat.le_of_ble_eq_true rfl) rfl ?_
  intro p9 e9 s9 m9 a9 b9 me9 c9 A9 C1 hx0
  have C0 : jj_C p9 s9 m9 a9 me9 c9 (dC, dI) vwCl A9 4 cX3_lots "Strikehall" lw_U _ (EVT sa) := jj_toU C1
  have hw := C0.2.2.2.2.1
  have hE := C0.2.2.2.2.2.2.2.1
  refine jj_iload_n C0 1 rfl dX3_lots_0 ?_
  refine jj_callSi C0 (jj_weaki (fun A U H h => h.1) (cc_X3_placeOf  (z := w) (k := k) (by first | exact hzk | omega))) (cwS 1 hw (lw_gS hU_654 hU_655 hU_60 hU_656) rfl rfl rfl (by decide +kernel) ⟨Nat.le_of_ble_eq_true rfl, Nat.le_of_ble_eq_true rfl⟩) rfl rfl (Nat.le_of_ble_eq_true rfl) ⟨by decide, by decide⟩ rfl rfl dX3_lots_1 ?_
  intro _ hu
  show jj_W _ _ _ _ _ _ _ _ _ _ _ _ _ _ _ _ _ 4 _ [.int (iI (k : Int))] (wH ha cA hA nA ed cI cJ cZ td pr up dn dv rw sd mc n mo sh co Ca Cz K St Ex Am Bi As BL AL He Co ++ EE)
  refine jj_istore_n C0 (i := 3) rfl (lv' := [(3, .int (iI (k : Int))), (0, .ref (ha 0)), (1, .int (iI w)), (2, .int (iI z))]) (by decide) rfl dX3_lots_4 ?_
  refine jj_aload_n C0 1 rfl dX3_lots_5 ?_
  refine jj_iload_n C0 3 rfl dX3_lots_6 ?_
  by_cases g7 : 0 ≤ z ∧ z < (n : Int)
  · exact absurd hbad (by omega)
  · skip
    exact jj_callXV C0 hx0 (cx_X3_contractOf hl (by omega) (by omega) (by omega)) (cwV 1 hw (lw_gV hU_554 hU_556 hU_26 hU_60 hU_557) rfl rfl rfl (by decide +kernel) ⟨Nat.le_of_ble_eq_true rfl, Nat.le_of_ble_eq_true rfl⟩) (ci := 4) (q0 := 0) rfl (rfl) rfl rfl (Nat.le_of_ble_eq_true rfl) ⟨by decide, by decide⟩ ⟨by decide, by decide⟩ dX3_lots_7
set_option maxHeartbeats 4000000 in
set_option maxRecDepth 100000 in
theorem cx_X3_cash (hl : l.stackTraces = false) {w : Int} (hbad : ¬ (-1 ≤ w ∧ w ≤ 5)) (hrw : iR w) : jj_X (EVT sa) (dC, dI) vwCl [(cI, .int), (cJ, .long), (cZ, .boolean), (cO, .object "java/lang/Object")] l yX3_cash (Cond.code yX3_cash cX3_cash 2 (some .long) :: lw_U) ({ frames := 8, cells := 1, slots := 6, locals := 140 } : Room) [.ref (ha 0), .int (iI w)] (wH ha cA hA nA ed cI cJ cZ td pr up dn dv rw sd mc n mo sh co Ca Cz K St Ex Am Bi As BL AL He Co ++ EE) "java/lang/IndexOutOfBoundsException" := by
  refine jj_startX (cc := cX3_cash) (nL := 2) (ret := (some .long)) (lv := [(0, .ref (ha 0)), (1, .int (iI w))]) (hEVT sa) (by decide) rfl (Nat.le_of_ble_eq_true rfl) rfl ?_
  intro p9 e9 s9 m9 a9 b9 me9 c9 A9 C1 hx0
  have C0 : jj_C p9 s9 m9 a9 me9 c9 (dC, dI) vwCl A9 2 cX3_cash "Strikehall" lw_U _ (EVT sa) := jj_toU C1
  have hw := C0.2.2.2.2.1
  have hE := C0.2.2.2.2.2.2.2.1
  refine jj_aload_n C0 0 rfl dX3_cash_0 ?_
  refine jj_iload_n C0 1 rfl dX3_cash_1 ?_
  by_cases g2 : -1 ≤ w ∧ w ≤ 5
  · exact absurd hbad (by omega)
  · skip
    exact jj_callXS C0 hx0 (cx_X3_placeOf hl (by omega) (by omega)) (cwS 1 hw (lw_gS hU_654 hU_655 hU_60 hU_656) rfl rfl rfl (by decide +kernel) ⟨Nat.le_of_ble_eq_true rfl, Nat.le_of_ble_eq_true rfl⟩) rfl rfl (Nat.le_of_ble_eq_true rfl) ⟨by decide, by decide⟩ ⟨by decide, by decide⟩ dX3_cash_2
set_option maxHeartbeats 4000000 in
set_option maxRecDepth 100000 in
theorem cx_X3_cause (hl : l.stackTraces = false) {x : Int} (hbad : ¬ (0 ≤ x ∧ x ≤ 5)) (hrx : iR x) : jj_X (EVT sa) (dC, dI) vwCl [(cI, .int), (cJ, .long), (cZ, .boolean), (cO, .object "java/lang/Object")] l yX3_cause (Cond.code yX3_cause cX3_cause 2 (some .long) :: lw_U) ({ frames := 6, cells := 1, slots := 6, locals := 100 } : Room) [.ref (ha 0), .int (iI x)] (wH ha cA hA nA ed cI cJ cZ td pr up dn dv rw sd mc n mo sh co Ca Cz K St Ex Am Bi As BL AL He Co ++ EE) "java/lang/IndexOutOfBoundsException" := by
  refine jj_startX (cc := cX3_cause) (nL := 2) (ret := (some .long)) (lv := [(0, .ref (ha 0)), (1, .int (iI x))]) (hEVT sa) (by decide) rfl (Nat.le_of_ble_eq_true rfl) rfl ?_
  intro p9 e9 s9 m9 a9 b9 me9 c9 A9 C1 hx0
  have C0 : jj_C p9 s9 m9 a9 me9 c9 (dC, dI) vwCl A9 2 cX3_cause "Strikehall" lw_U _ (EVT sa) := jj_toU C1
  have hw := C0.2.2.2.2.1
  have hE := C0.2.2.2.2.2.2.2.1
  refine jj_iload_n C0 1 rfl dX3_cause_0 ?_
  refine jj_if_lt C0 (by omega) dX3_cause_1 (tgt := 13) (by decide) (fun c_1 => ?_) (fun c_1 => ?_)
  · exact jj_throwS (names := ["java/lang/RuntimeException", "java/lang/Exception"]) (text := "no such cause") (sa := sa 242) C0 hl hx0 (by decide +kernel) (by decide +kernel) (hw _ hU_558) (hw _ hU_79) (hE.2.1 (242, "no such cause") (by decide)) (wx_I_hat hw hE.2.2.1) wx_I_o hE.2.2.2.1 hE.2.2.2.2 dX3_cause_13 dX3_cause_16 dX3_cause_17 dX3_cause_19 dX3_cause_22 (by decide) (Nat.le_of_ble_eq_true rfl) (by decide) (by decide) (by decide) (by decide)
  · refine jj_iload_n C0 1 rfl dX3_cause_4 ?_
    refine jj_aload_n C0 0 rfl dX3_cause_5 ?_
    refine jj_get C0 (ci := 4) (v := .ref (ha 7)) hin_X3 (0) (rfl) rfl 4 (by decide) (hw _ hU_160) (fun _ h9 => h9) rfl dX3_cause_6 ?_
    refine jj_alen C0 (q0 := 7) (t0 := 1) (z := 6) (rfl) rfl rfl dX3_cause_9 ?_
    refine jj_icmp_lt C0 (by omega) (by omega) dX3_cause_10 (tgt := 23) (by decide) (fun c_2 => ?_) (fun c_2 => ?_)
    · exfalso
      omega
    · exact jj_throwS (names := ["java/lang/RuntimeException", "java/lang/Exception"]) (text := "no such cause") (sa := sa 242) C0 hl hx0 (by decide +kernel) (by decide +kernel) (hw _ hU_558) (hw _ hU_79) (hE.2.1 (242, "no such cause") (by decide)) (wx_I_hat hw hE.2.2.1) wx_I_o hE.2.2.2.1 hE.2.2.2.2 dX3_cause_13 dX3_cause_16 dX3_cause_17 dX3_cause_19 dX3_cause_22 (by decide) (Nat.le_of_ble_eq_true rfl) (by decide) (by decide) (by decide) (by decide)
set_option maxHeartbeats 4000000 in
set_option maxRecDepth 100000 in
theorem cx_X3_worst (hl : l.stackTraces = false) {x : Int} (hbad : ¬ (0 ≤ x ∧ x ≤ 100)) (hrx : iR x) : jj_X (EVT sa) (dC, dI) vwCl [(cI, .int), (cJ, .long), (cZ, .boolean), (cO, .object "java/lang/Object")] l yX3_worst (Cond.code yX3_worst cX3_worst 7 (some .long) :: lw_U) ({ frames := 7, cells := 1, slots := 6, locals := 122 } : Room) [.ref (ha 0), .int (iI x)] (wH ha cA hA nA ed cI cJ cZ td pr up dn dv rw sd mc n mo sh co Ca Cz K St Ex Am Bi As BL AL He Co ++ EE) "java/lang/IllegalArgumentException" := by
  refine jj_startX (cc := cX3_worst) (nL := 7) (ret := (some .long)) (lv := [(0, .ref (ha 0)), (1, .int (iI x))]) (hEVT sa) (by decide) rfl (Nat.le_of_ble_eq_true rfl) rfl ?_
  intro p9 e9 s9 m9 a9 b9 me9 c9 A9 C1 hx0
  have C0 : jj_C p9 s9 m9 a9 me9 c9 (dC, dI) vwCl A9 7 cX3_worst "Strikehall" lw_U _ (EVT sa) := jj_toU C1
  have hw := C0.2.2.2.2.1
  have hE := C0.2.2.2.2.2.2.2.1
  refine jj_iload_n C0 1 rfl dX3_worst_0 ?_
  refine jj_iconst C0 dX3_worst_1 ?_
  refine jj_bipush C0 dX3_worst_2 (by decide) ?_
  by_cases g4 : 0 ≤ x ∧ x ≤ 100
  · exact absurd hbad (by omega)
  · skip
    exact jj_callXS C0 hx0 (cx_X3_checkRange hl (by omega) (by omega) (by omega) (by omega)) (cwS 3 hw (lw_gS hU_329 hU_330 hU_60 hU_331) rfl rfl rfl (by decide +kernel) ⟨Nat.le_of_ble_eq_true rfl, Nat.le_of_ble_eq_true rfl⟩) rfl rfl (Nat.le_of_ble_eq_true rfl) ⟨by decide, by decide⟩ ⟨by decide, by decide⟩ dX3_worst_4
end CC14
