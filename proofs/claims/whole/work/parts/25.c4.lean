section CC4
variable {l : Launch} {dC : Nat → ClassId} {dI : Nat → Nat → Nat} {cI cJ cZ cO : ClassId} {EE ws : va_W} {ha cA hA nA : Nat → Nat} {ed : Nat} {td : Nat} {pr up dn : Int} {dv rw : Nat → Int} {sd mc : Int} {n : Nat} {mo sh co : Int} {Ca Cz K St Ex Am Bi As BL AL He Co : Nat → Int}
set_option maxHeartbeats 4000000 in
set_option maxRecDepth 100000 in
theorem cc_X3_kill   (hn : n ≤ 12) (hED : 0 < n → f_ED cA n ed cO EE) (hBL : ∀ j, 0 ≤ BL j ∧ BL j ≤ 100) (hAL : ∀ j, 0 ≤ AL j ∧ AL j ≤ 100) : jj_Mi EVh (dC, dI) vwCl [(cI, .int), (cJ, .long), (cZ, .boolean), (cO, .object "java/lang/Object")] l yX3_kill (Cond.code yX3_kill cX3_kill 4 (some .int) :: lw_U) ({ frames := 3, cells := 0, slots := 0, locals := 64 } : Room) [.ref (ha 0)] (wH ha cA hA nA ed cI cJ cZ td pr up dn dv rw sd mc n mo sh co Ca Cz K St Ex Am Bi As BL AL He Co ++ EE) (S := Unit) (fun _ => (f_cnt BL AL n)) (fun _ => True) (fun _ => wH ha cA hA nA ed cI cJ cZ td pr up dn dv rw sd mc n mo sh co Ca Cz K St Ex Am (f_zero Bi n) (f_zero As n) (f_zero BL n) (f_zero AL n) He Co ++ EE) := by
  refine jj_start (cc := cX3_kill) (nL := 4) (ret := (some .int)) (lv := [(0, .ref (ha 0))]) (fun A => jj_Qi _ _ _ _ _ _ A) hEVh (by decide) rfl (Nat.le_of_ble_eq_true rfl) rfl ?_
  intro p9 e9 s9 m9 a9 b9 me9 c9 A9 C1 hr hin
  have C0 : jj_C p9 s9 m9 a9 me9 c9 (dC, dI) vwCl A9 4 cX3_kill "Strikehall" lw_U _ EVh := jj_toU C1
  have hw := C0.2.2.2.2.1
  have hE := C0.2.2.2.2.2.2.2.1
  refine jj_ws (ws' := wH ha cA hA nA ed cI cJ cZ td pr up dn dv rw sd mc n mo sh co Ca Cz K St Ex Am (f_zero Bi 0) (f_zero As 0) (f_zero BL 0) (f_zero AL 0) He Co ++ EE) (by rw [f_zero_0, f_zero_0, f_zero_0, f_zero_0]) ?_
  refine jj_iconst C0 dX3_kill_0 ?_
  refine jj_topi (b := (f_cnt BL AL 0)) (rfl) ?_
  refine jj_istore_n C0 (i := 1) rfl (lv' := [(1, .int (iI (f_cnt BL AL 0))), (0, .ref (ha 0))]) (by decide) rfl dX3_kill_1 ?_
  refine jj_iconst C0 dX3_kill_2 ?_
  refine jj_istore_n C0 (i := 2) rfl (lv' := [(2, .int (iI 0)), (1, .int (iI (f_cnt BL AL 0))), (0, .ref (ha 0))]) (by decide) rfl dX3_kill_3 ?_
  refine jj_ind (X := Nat) (fun q9 => match q9 with | i => (n + 1 - i : Nat)) (fun q9 => match q9 with | i => [(2, .int (iI (i : Int))), (1, .int (iI (f_cnt BL AL i))), (0, .ref (ha 0))]) (fun q9 => match q9 with | i => []) (fun q9 => match q9 with | i => wH ha cA hA nA ed cI cJ cZ td pr up dn dv rw sd mc n mo sh co Ca Cz K St Ex Am (f_zero Bi i) (f_zero As i) (f_zero BL i) (f_zero AL i) He Co ++ EE) (fun q9 => match q9 with | i => i ≤ n) ?_ 0 (Nat.zero_le _)
  intro q9 hq9 ih4
  obtain ⟨i, rfl⟩ : ∃ z, z = q9 := ⟨_, rfl⟩
  have hi : i ≤ n := hq9
  show jj_W _ _ _ _ _ _ _ _ _ _ _ _ _ _ _ _ _ 4 [(2, .int (iI (i : Int))), (1, .int (iI (f_cnt BL AL i))), (0, .ref (ha 0))] [] (wH ha cA hA nA ed cI cJ cZ td pr up dn dv rw sd mc n mo sh co Ca Cz K St Ex Am (f_zero Bi i) (f_zero As i) (f_zero BL i) (f_zero AL i) He Co ++ EE)
  refine jj_iload_n C0 0 rfl dX3_kill_4 ?_
  refine jj_aload_n C0 2 rfl dX3_kill_5 ?_
  refine jj_get C0 (ci := 4) (v := .ref (ha 5)) hin_X3 (0) (rfl) rfl 2 (by decide) (hw _ hU_158) (fun _ h9 => h9) rfl dX3_kill_6 ?_
  refine jj_callVi C0 (cc_Jx4a65c_size_8abf5   ) (cwV 0 hw (lw_gV hU_185 hU_186 hU_187 hU_65 hU_188) rfl rfl rfl (by decide +kernel) ⟨Nat.le_of_ble_eq_true rfl, Nat.le_of_ble_eq_true rfl⟩) (ci := 0) (q0 := 5) rfl (rfl) rfl rfl (Nat.le_of_ble_eq_true rfl) ⟨by decide, by decide⟩ rfl rfl dX3_kill_9 ?_
  intro _ hu
  show jj_W _ _ _ _ _ _ _ _ _ _ _ _ _ _ _ _ _ 12 _ [.int (iI (n : Int)), .int (iI (i : Int))] (wH ha cA hA nA ed cI cJ cZ td pr up dn dv rw sd mc n mo sh co Ca Cz K St Ex Am (f_zero Bi i) (f_zero As i) (f_zero BL i) (f_zero AL i) He Co ++ EE)
  refine jj_icmp_ge C0 (by omega) (by omega) dX3_kill_12 (tgt := 47) (by decide) (fun c_1 => ?_) (fun c_1 => ?_)
  · obtain rfl : i = n := by omega
    refine jj_iload_n C0 1 rfl dX3_kill_47 ?_
    exact jj_iret C0 hr () (trivial) (rfl) (rfl) (by decide) (by decide) dX3_kill_48
  · refine jj_aload_n C0 2 rfl dX3_kill_15 ?_
    refine jj_get C0 (ci := 4) (v := .ref (ha 5)) hin_X3 (0) (rfl) rfl 2 (by decide) (hw _ hU_158) (fun _ h9 => h9) rfl dX3_kill_16 ?_
    refine jj_iload_n C0 0 rfl dX3_kill_19 ?_
    refine jj_callVr C0 (cc_Jx4a65c_get_915e3  (i := i) (by omega) (by first | exact hn | omega) (by first | exact hED | omega)) (cwV 1 hw (lw_gV hU_189 hU_190 hU_191 hU_65 hU_192) rfl rfl rfl (by decide +kernel) ⟨Nat.le_of_ble_eq_true rfl, Nat.le_of_ble_eq_true rfl⟩) (ci := 0) (q0 := 5) rfl (rfl) rfl rfl (Nat.le_of_ble_eq_true rfl) ⟨by decide, by decide⟩ rfl rfl dX3_kill_20 ?_
    intro _ hu
    show jj_W _ _ _ _ _ _ _ _ _ _ _ _ _ _ _ _ _ 23 _ [.ref (cA i)] (wH ha cA hA nA ed cI cJ cZ td pr up dn dv rw sd mc n mo sh co Ca Cz K St Ex Am (f_zero Bi i) (f_zero As i) (f_zero BL i) (f_zero AL i) He Co ++ EE)
    refine jj_cast C0 (ci := 1) (q0 := (8 + (3 * i + 0))) rfl ((wH_c (c := i) (by omega))) (hw _ hU_203) dX3_kill_23 ?_
    refine jj_astore_n C0 (i := 3) rfl (lv' := [(3, .ref (cA i)), (2, .int (iI (i : Int))), (1, .int (iI (f_cnt BL AL i))), (0, .ref (ha 0))]) (by decide) rfl dX3_kill_26 ?_
    refine jj_aload_n C0 0 rfl dX3_kill_27 ?_
    refine jj_callVNi C0 (cc_X0_hasSomethingLeft  (c := i) (by omega) (f_zero_bd hBL (by decide) i) (f_zero_bd hAL (by decide) i)) ⟨va_cnB 0 hw (lw_gc hU_208 lw_UU) rfl rfl rfl (hE.1 _ hN_204) (hw _ hU_75) (by decide +kernel) ⟨Nat.le_of_ble_eq_true rfl, Nat.le_of_ble_eq_true rfl⟩, hw _ hU_206, hw _ hU_0⟩ (ci := 1) (q0 := (8 + (3 * i + 0))) rfl ((wH_c (c := i) (by omega))) rfl rfl (Nat.le_of_ble_eq_true rfl) ⟨by decide, by decide⟩ rfl rfl dX3_kill_28 ?_
    intro u_2 hu
    have hu_28 : (u_2 = 1 ∧ (0 < (f_zero BL i) i ∨ 0 < (f_zero AL i) i)) ∨ (u_2 = 0 ∧ ¬ (0 < (f_zero BL i) i ∨ 0 < (f_zero AL i) i)) := hu
    show jj_W _ _ _ _ _ _ _ _ _ _ _ _ _ _ _ _ _ 31 _ [.int (iI u_2)] (wH ha cA hA nA ed cI cJ cZ td pr up dn dv rw sd mc n mo sh co Ca Cz K St Ex Am (f_zero Bi i) (f_zero As i) (f_zero BL i) (f_zero AL i) He Co ++ EE)
    rw [f_zero_at, f_zero_at] at hu_28
    have hcb := f_cnt_bd BL AL i
    have hb1 := hBL i
    have hb2 := hAL i
    refine jj_if_eq C0 (by omega) dX3_kill_31 (tgt := 37) (by decide) (fun c_3 => ?_) (fun c_3 => ?_)
    · refine jj_lve (lv' := [(3, .ref (cA i)), (2, .int (iI (i : Int))), (1, .int (iI (f_cnt BL AL (i + 1)))), (0, .ref (ha 0))]) (by simp only [f_cnt]; first | rw [if_pos (by omega)] | (rw [if_neg (by omega)]; simp)) ?_
      refine jj_aload_n C0 0 rfl dX3_kill_37 ?_
      refine jj_callVNv C0 (cc_X0_takeQuoteAway  (c := i) (by omega) (f_zero_bd hBL (by decide) i) (f_zero_bd hAL (by decide) i)) ⟨va_cnB 0 hw (lw_gc hU_212 lw_UU) rfl rfl rfl (hE.1 _ hN_209) (hw _ hU_75) (by decide +kernel) ⟨Nat.le_of_ble_eq_true rfl, Nat.le_of_ble_eq_true rfl⟩, hw _ hU_211, hw _ hU_1⟩ (ci := 1) (q0 := (8 + (3 * i + 0))) rfl ((wH_c (c := i) (by omega))) rfl rfl (Nat.le_of_ble_eq_true rfl) ⟨by decide, by decide⟩ rfl rfl dX3_kill_38 ?_
      intro _ hu
      show jj_W _ _ _ _ _ _ _ _ _ _ _ _ _ _ _ _ _ 41 _ [] (wH ha cA hA nA ed cI cJ cZ td pr up dn dv rw sd mc n mo sh co Ca Cz K St Ex Am (va_up (f_zero Bi i) i 0) (va_up (f_zero As i) i 0) (va_up (f_zero BL i) i 0) (va_up (f_zero AL i) i 0) He Co ++ EE)
      refine jj_ws (ws' := wH ha cA hA nA ed cI cJ cZ td pr up dn dv rw sd mc n mo sh co Ca Cz K St Ex Am (f_zero Bi (i + 1)) (f_zero As (i + 1)) (f_zero BL (i + 1)) (f_zero AL (i + 1)) He Co ++ EE) (by simp only [f_zero_up]) ?_
      refine jj_iinc C0 (z := ((i + 1 : Nat) : Int)) (lv' := [(2, .int (iI ((i + 1 : Nat) : Int))), (3, .ref (cA i)), (1, .int (iI (f_cnt BL AL (i + 1)))), (0, .ref (ha 0))]) 1 rfl (by omega) (by decide) rfl dX3_kill_41 ?_
      refine jj_goto C0 (tgt := 4) dX3_kill_44 (by decide) ?_
      refine jj_lv [0, 2, 3] rfl ?_
      exact ih4 (i + 1) (by omega) (by dsimp only; omega)
    · refine jj_iinc C0 (z := ((f_cnt BL AL i) + 1)) (lv' := [(1, .int (iI ((f_cnt BL AL i) + 1))), (3, .ref (cA i)), (2, .int (iI (i : Int))), (0, .ref (ha 0))]) 2 rfl (by omega) (by decide) rfl dX3_kill_34 ?_
      refine jj_lve (lv' := [(1, .int (iI (f_cnt BL AL (i + 1)))), (3, .ref (cA i)), (2, .int (iI (i : Int))), (0, .ref (ha 0))]) (by simp only [f_cnt]; first | rw [if_pos (by omega)] | (rw [if_neg (by omega)]; simp)) ?_
      refine jj_aload_n C0 1 rfl dX3_kill_37 ?_
      refine jj_callVNv C0 (cc_X0_takeQuoteAway  (c := i) (by omega) (f_zero_bd hBL (by decide) i) (f_zero_bd hAL (by decide) i)) ⟨va_cnB 0 hw (lw_gc hU_212 lw_UU) rfl rfl rfl (hE.1 _ hN_209) (hw _ hU_75) (by decide +kernel) ⟨Nat.le_of_ble_eq_true rfl, Nat.le_of_ble_eq_true rfl⟩, hw _ hU_211, hw _ hU_1⟩ (ci := 1) (q0 := (8 + (3 * i + 0))) rfl ((wH_c (c := i) (by omega))) rfl rfl (Nat.le_of_ble_eq_true rfl) ⟨by decide, by decide⟩ rfl rfl dX3_kill_38 ?_
      intro _ hu
      show jj_W _ _ _ _ _ _ _ _ _ _ _ _ _ _ _ _ _ 41 _ [] (wH ha cA hA nA ed cI cJ cZ td pr up dn dv rw sd mc n mo sh co Ca Cz K St Ex Am (va_up (f_zero Bi i) i 0) (va_up (f_zero As i) i 0) (va_up (f_zero BL i) i 0) (va_up (f_zero AL i) i 0) He Co ++ EE)
      refine jj_ws (ws' := wH ha cA hA nA ed cI cJ cZ td pr up dn dv rw sd mc n mo sh co Ca Cz K St Ex Am (f_zero Bi (i + 1)) (f_zero As (i + 1)) (f_zero BL (i + 1)) (f_zero AL (i + 1)) He Co ++ EE) (by simp only [f_zero_up]) ?_
      refine jj_iinc C0 (z := ((i + 1 : Nat) : Int)) (lv' := [(2, .int (iI ((i + 1 : Nat) : Int))), (1, .int (iI (f_cnt BL AL (i + 1)))), (3, .ref (cA i)), (0, .ref (ha 0))]) 2 rfl (by omega) (by decide) rfl dX3_kill_41 ?_
      refine jj_goto C0 (tgt := 4) dX3_kill_44 (by decide) ?_
      refine jj_lv [0, 1, 3] rfl ?_
      exact ih4 (i + 1) (by omega) (by dsimp only; omega)
set_option maxHeartbeats 4000000 in
set_option maxRecDepth 100000 in
theorem cc_X3_isStrikePair  {i j : Nat} (hi : i < n) (hj : j < n) (hK : ∀ j, 0 ≤ K j ∧ K j ≤ 1) (hSt : ∀ j, 0 ≤ St j ∧ St j ≤ 20000) (hEx : ∀ j, 0 ≤ Ex j ∧ Ex j ≤ 200) (hAm : ∀ j, 0 ≤ Am j ∧ Am j ≤ 1) (hBL : ∀ j, 0 ≤ BL j ∧ BL j ≤ 100) (hAL : ∀ j, 0 ≤ AL j ∧ AL j ≤ 100) : jj_Mi EVh (dC, dI) vwCl [(cI, .int), (cJ, .long), (cZ, .boolean), (cO, .object "java/lang/Object")] l yX3_isStrikePair (Cond.code yX3_isStrikePair cX3_isStrikePair 2 (some .boolean) :: lw_U) ({ frames := 1, cells := 0, slots := 0, locals := 20 } : Room) [.ref (cA i), .ref (cA j)] (wH ha cA hA nA ed cI cJ cZ td pr up dn dv rw sd mc n mo sh co Ca Cz K St Ex Am Bi As BL AL He Co ++ EE) (S := Int) (fun u => u) (fun u => (u = 1 ∧ ((0 < BL i ∧ 0 < AL i) ∧ (0 < BL j ∧ 0 < AL j) ∧ St i < St j ∧ K i = K j ∧ Ex i = Ex j ∧ Am i = Am j)) ∨ (u = 0 ∧ ¬ ((0 < BL i ∧ 0 < AL i) ∧ (0 < BL j ∧ 0 < AL j) ∧ St i < St j ∧ K i = K j ∧ Ex i = Ex j ∧ Am i = Am j))) (fun u => wH ha cA hA nA ed cI cJ cZ td pr up dn dv rw sd mc n mo sh co Ca Cz K St Ex Am Bi As BL AL He Co ++ EE) := by
  refine jj_start (cc := cX3_isStrikePair) (nL := 2) (ret := (some .boolean)) (lv := [(0, .ref (cA i)), (1, .ref (cA j))]) (fun A => jj_Qi _ _ _ _ _ _ A) hEVh (by decide) rfl (Nat.le_of_ble_eq_true rfl) rfl ?_
  intro p9 e9 s9 m9 a9 b9 me9 c9 A9 C1 hr hin
  have C0 : jj_C p9 s9 m9 a9 me9 c9 (dC, dI) vwCl A9 2 cX3_isStrikePair "Strikehall" lw_U _ EVh := jj_toU C1
  have hw := C0.2.2.2.2.1
  have hE := C0.2.2.2.2.2.2.2.1
  refine jj_aload_n C0 0 rfl dX3_isStrikePair_0 ?_
  refine jj_callVNi C0 (cc_X0_isQuotedBoth  (c := i) (by omega) (by first | exact hBL | omega) (by first | exact hAL | omega)) ⟨va_cnB 0 hw (lw_gc hU_232 lw_UU) rfl rfl rfl (hE.1 _ hN_229) (hw _ hU_75) (by decide +kernel) ⟨Nat.le_of_ble_eq_true rfl, Nat.le_of_ble_eq_true rfl⟩, hw _ hU_231, hw _ hU_5⟩ (ci := 1) (q0 := (8 + (3 * i + 0))) rfl ((wH_c (c := i) (by omega))) rfl rfl (Nat.le_of_ble_eq_true rfl) ⟨by decide, by decide⟩ rfl rfl dX3_isStrikePair_1 ?_
  intro u_1 hu
  have hu_1 : (u_1 = 1 ∧ (0 < BL i ∧ 0 < AL i)) ∨ (u_1 = 0 ∧ ¬ (0 < BL i ∧ 0 < AL i)) := hu
  show jj_W _ _ _ _ _ _ _ _ _ _ _ _ _ _ _ _ _ 4 _ [.int (iI u_1)] (wH ha cA hA nA ed cI cJ cZ td pr up dn dv rw sd mc n mo sh co Ca Cz K St Ex Am Bi As BL AL He Co ++ EE)
  refine jj_if_eq C0 (by omega) dX3_isStrikePair_4 (tgt := 62) (by decide) (fun c_2 => ?_) (fun c_2 => ?_)
  · refine jj_iconst C0 dX3_isStrikePair_62 ?_
    exact jj_zret C0 hr 0 (by omega) (rfl) (by omega) (rfl) (by decide) (by decide) dX3_isStrikePair_63
  · refine jj_aload_n C0 1 rfl dX3_isStrikePair_7 ?_
    refine jj_callVNi C0 (cc_X0_isQuotedBoth  (c := j) (by omega) (by first | exact hBL | omega) (by first | exact hAL | omega)) ⟨va_cnB 0 hw (lw_gc hU_232 lw_UU) rfl rfl rfl (hE.1 _ hN_229) (hw _ hU_75) (by decide +kernel) ⟨Nat.le_of_ble_eq_true rfl, Nat.le_of_ble_eq_true rfl⟩, hw _ hU_231, hw _ hU_5⟩ (ci := 1) (q0 := (8 + (3 * j + 0))) rfl ((wH_c (c := j) (by omega))) rfl rfl (Nat.le_of_ble_eq_true rfl) ⟨by decide, by decide⟩ rfl rfl dX3_isStrikePair_8 ?_
    intro u_3 hu
    have hu_8 : (u_3 = 1 ∧ (0 < BL j ∧ 0 < AL j)) ∨ (u_3 = 0 ∧ ¬ (0 < BL j ∧ 0 < AL j)) := hu
    show jj_W _ _ _ _ _ _ _ _ _ _ _ _ _ _ _ _ _ 11 _ [.int (iI u_3)] (wH ha cA hA nA ed cI cJ cZ td pr up dn dv rw sd mc n mo sh co Ca Cz K St Ex Am Bi As BL AL He Co ++ EE)
    refine jj_if_eq C0 (by omega) dX3_isStrikePair_11 (tgt := 62) (by decide) (fun c_4 => ?_) (fun c_4 => ?_)
    · refine jj_iconst C0 dX3_isStrikePair_62 ?_
      exact jj_zret C0 hr 0 (by omega) (rfl) (by omega) (rfl) (by decide) (by decide) dX3_isStrikePair_63
    · refine jj_aload_n C0 0 rfl dX3_isStrikePair_14 ?_
      refine jj_getN C0 (ci := 1) (v := .int (iI (St i))) hin_X0 ((8 + (3 * i + 0))) ((wH_c (c := i) (by omega))) rfl 1 (by decide) (va_Nw.use rfl (hE.1 _ (hN_455))) (fun _ h9 => h9) rfl dX3_isStrikePair_15 ?_
      have hb_St_29799 := hSt i
      refine jj_aload_n C0 1 rfl dX3_isStrikePair_18 ?_
      refine jj_getN C0 (ci := 1) (v := .int (iI (St j))) hin_X0 ((8 + (3 * j + 0))) ((wH_c (c := j) (by omega))) rfl 1 (by decide) (va_Nw.use rfl (hE.1 _ (hN_455))) (fun _ h9 => h9) rfl dX3_isStrikePair_19 ?_
      have hb_St_76571 := hSt j
      refine jj_icmp_ge C0 (by omega) (by omega) dX3_isStrikePair_22 (tgt := 62) (by decide) (fun c_5 => ?_) (fun c_5 => ?_)
      · refine jj_iconst C0 dX3_isStrikePair_62 ?_
        exact jj_zret C0 hr 0 (by omega) (rfl) (by omega) (rfl) (by decide) (by decide) dX3_isStrikePair_63
      · refine jj_aload_n C0 0 rfl dX3_isStrikePair_25 ?_
        refine jj_getN C0 (ci := 1) (v := .int (iI (K i))) hin_X0 ((8 + (3 * i + 0))) ((wH_c (c := i) (by omega))) rfl 0 (by decide) (va_Nw.use rfl (hE.1 _ (hN_453))) (fun _ h9 => h9) rfl dX3_isStrikePair_26 ?_
        have hb_K_6264 := hK i
        refine jj_aload_n C0 1 rfl dX3_isStrikePair_29 ?_
        refine jj_getN C0 (ci := 1) (v := .int (iI (K j))) hin_X0 ((8 + (3 * j + 0))) ((wH_c (c := j) (by omega))) rfl 0 (by decide) (va_Nw.use rfl (hE.1 _ (hN_453))) (fun _ h9 => h9) rfl dX3_isStrikePair_30 ?_
        have hb_K_3093 := hK j
        refine jj_icmp_ne C0 (by omega) (by omega) dX3_isStrikePair_33 (tgt := 62) (by decide) (fun c_6 => ?_) (fun c_6 => ?_)
        · refine jj_iconst C0 dX3_isStrikePair_62 ?_
          exact jj_zret C0 hr 0 (by omega) (rfl) (by omega) (rfl) (by decide) (by decide) dX3_isStrikePair_63
        · refine jj_aload_n C0 0 rfl dX3_isStrikePair_36 ?_
          refine jj_getN C0 (ci := 1) (v := .int (iI (Ex i))) hin_X0 ((8 + (3 * i + 0))) ((wH_c (c := i) (by omega))) rfl 2 (by decide) (va_Nw.use rfl (hE.1 _ (hN_458))) (fun _ h9 => h9) rfl dX3_isStrikePair_37 ?_
          have hb_Ex_59312 := hEx i
          refine jj_aload_n C0 1 rfl dX3_isStrikePair_40 ?_
          refine jj_getN C0 (ci := 1) (v := .int (iI (Ex j))) hin_X0 ((8 + (3 * j + 0))) ((wH_c (c := j) (by omega))) rfl 2 (by decide) (va_Nw.use rfl (hE.1 _ (hN_458))) (fun _ h9 => h9) rfl dX3_isStrikePair_41 ?_
          have hb_Ex_65854 := hEx j
          refine jj_icmp_ne C0 (by omega) (by omega) dX3_isStrikePair_44 (tgt := 62) (by decide) (fun c_7 => ?_) (fun c_7 => ?_)
          · refine jj_iconst C0 dX3_isStrikePair_62 ?_
            exact jj_zret C0 hr 0 (by omega) (rfl) (by omega) (rfl) (by decide) (by decide) dX3_isStrikePair_63
          · refine jj_aload_n C0 0 rfl dX3_isStrikePair_47 ?_
            refine jj_getN C0 (ci := 1) (v := .int (iI (Am i))) hin_X0 ((8 + (3 * i + 0))) ((wH_c (c := i) (by omega))) rfl 3 (by decide) (va_Nw.use rfl (hE.1 _ (hN_461))) (fun _ h9 => h9) rfl dX3_isStrikePair_48 ?_
            have hb_Am_21622 := hAm i
            refine jj_aload_n C0 1 rfl dX3_isStrikePair_51 ?_
            refine jj_getN C0 (ci := 1) (v := .int (iI (Am j))) hin_X0 ((8 + (3 * j + 0))) ((wH_c (c := j) (by omega))) rfl 3 (by decide) (va_Nw.use rfl (hE.1 _ (hN_461))) (fun _ h9 => h9) rfl dX3_isStrikePair_52 ?_
            have hb_Am_6924 := hAm j
            refine jj_icmp_ne C0 (by omega) (by omega) dX3_isStrikePair_55 (tgt := 62) (by decide) (fun c_8 => ?_) (fun c_8 => ?_)
            · refine jj_iconst C0 dX3_isStrikePair_62 ?_
              exact jj_zret C0 hr 0 (by omega) (rfl) (by omega) (rfl) (by decide) (by decide) dX3_isStrikePair_63
            · refine jj_iconst C0 dX3_isStrikePair_58 ?_
              refine jj_goto C0 (tgt := 63) dX3_isStrikePair_59 (by decide) ?_
              exact jj_zret C0 hr 1 (by omega) (rfl) (by omega) (rfl) (by decide) (by decide) dX3_isStrikePair_63
set_option maxHeartbeats 4000000 in
set_option maxRecDepth 100000 in
theorem cc_X3_isStrikesFault  {i j : Nat} (hi : i < n) (hj : j < n) (hK : ∀ j, 0 ≤ K j ∧ K j ≤ 1) (hSt : ∀ j, 0 ≤ St j ∧ St j ≤ 20000) (hEx : ∀ j, 0 ≤ Ex j ∧ Ex j ≤ 200) (hAm : ∀ j, 0 ≤ Am j ∧ Am j ≤ 1) (hBi : ∀ j, 0 ≤ Bi j ∧ Bi j ≤ 20000) (hAs : ∀ j, 0 ≤ As j ∧ As j ≤ 20000) (hBL : ∀ j, 0 ≤ BL j ∧ BL j ≤ 100) (hAL : ∀ j, 0 ≤ AL j ∧ AL j ≤ 100) : jj_Mi EVh (dC, dI) vwCl [(cI, .int), (cJ, .long), (cZ, .boolean), (cO, .object "java/lang/Object")] l yX3_isStrikesFault (Cond.code yX3_isStrikesFault cX3_isStrikesFault 2 (some .boolean) :: lw_U) ({ frames := 2, cells := 0, slots := 0, locals := 41 } : Room) [.ref (cA i), .ref (cA j)] (wH ha cA hA nA ed cI cJ cZ td pr up dn dv rw sd mc n mo sh co Ca Cz K St Ex Am Bi As BL AL He Co ++ EE) (S := Int) (fun u => u) (fun u => (u = 1 ∧ (((0 < BL i ∧ 0 < AL i) ∧ (0 < BL j ∧ 0 < AL j) ∧ St i < St j ∧ K i = K j ∧ Ex i = Ex j ∧ Am i = Am j) ∧ ((K i = 0 ∧ As i < Bi j) ∨ (K i ≠ 0 ∧ As j < Bi i)))) ∨ (u = 0 ∧ ¬ (((0 < BL i ∧ 0 < AL i) ∧ (0 < BL j ∧ 0 < AL j) ∧ St i < St j ∧ K i = K j ∧ Ex i = Ex j ∧ Am i = Am j) ∧ ((K i = 0 ∧ As i < Bi j) ∨ (K i ≠ 0 ∧ As j < Bi i))))) (fun u => wH ha cA hA nA ed cI cJ cZ td pr up dn dv rw sd mc n mo sh co Ca Cz K St Ex Am Bi As BL AL He Co ++ EE) := by
  refine jj_start (cc := cX3_isStrikesFault) (nL := 2) (ret := (some .boolean)) (lv := [(0, .ref (cA i)), (1, .ref (cA j))]) (fun A => jj_Qi _ _ _ _ _ _ A) hEVh (by decide) rfl (Nat.le_of_ble_eq_true rfl) rfl ?_
  intro p9 e9 s9 m9 a9 b9 me9 c9 A9 C1 hr hin
  have C0 : jj_C p9 s9 m9 a9 me9 c9 (dC, dI) vwCl A9 2 cX3_isStrikesFault "Strikehall" lw_U _ EVh := jj_toU C1
  have hw := C0.2.2.2.2.1
  have hE := C0.2.2.2.2.2.2.2.1
  refine jj_aload_n C0 0 rfl dX3_isStrikesFault_0 ?_
  refine jj_aload_n C0 1 rfl dX3_isStrikesFault_1 ?_
  refine jj_callSi C0 (cc_X3_isStrikePair  (i := i) (j := j) (by first | exact hi | omega) (by first | exact hj | omega) (by first | exact hK | omega) (by first | exact hSt | omega) (by first | exact hEx | omega) (by first | exact hAm | omega) (by first | exact hBL | omega) (by first | exact hAL | omega)) (cwS 2 hw (lw_gS hU_240 hU_241 hU_60 hU_242) rfl rfl rfl (by decide +kernel) ⟨Nat.le_of_ble_eq_true rfl, Nat.le_of_ble_eq_true rfl⟩) rfl rfl (Nat.le_of_ble_eq_true rfl) ⟨by decide, by decide⟩ rfl rfl dX3_isStrikesFault_2 ?_
  intro u_1 hu
  have hu_2 : (u_1 = 1 ∧ ((0 < BL i ∧ 0 < AL i) ∧ (0 < BL j ∧ 0 < AL j) ∧ St i < St j ∧ K i = K j ∧ Ex i = Ex j ∧ Am i = Am j)) ∨ (u_1 = 0 ∧ ¬ ((0 < BL i ∧ 0 < AL i) ∧ (0 < BL j ∧ 0 < AL j) ∧ St i < St j ∧ K i = K j ∧ Ex i = Ex j ∧ Am i = Am j)) := hu
  show jj_W _ _ _ _ _ _ _ _ _ _ _ _ _ _ _ _ _ 5 _ [.int (iI u_1)] (wH ha cA hA nA ed cI cJ cZ td pr up dn dv rw sd mc n mo sh co Ca Cz K St Ex Am Bi As BL AL He Co ++ EE)
  refine jj_if_ne C0 (by omega) dX3_isStrikesFault_5 (tgt := 10) (by decide) (fun c_2 => ?_) (fun c_2 => ?_)
  · refine jj_aload_n C0 0 rfl dX3_isStrikesFault_10 ?_
    refine jj_getN C0 (ci := 1) (v := .int (iI (K i))) hin_X0 ((8 + (3 * i + 0))) ((wH_c (c := i) (by omega))) rfl 0 (by decide) (va_Nw.use rfl (hE.1 _ (hN_453))) (fun _ h9 => h9) rfl dX3_isStrikesFault_11 ?_
    have hb_K_6264 := hK i
    refine jj_if_ne C0 (by omega) dX3_isStrikesFault_14 (tgt := 36) (by decide) (fun c_3 => ?_) (fun c_3 => ?_)
    · refine jj_aload_n C0 0 rfl dX3_isStrikesFault_36 ?_
      refine jj_getN C0 (ci := 1) (v := .int (iI (Bi i))) hin_X0 ((8 + (3 * i + 0))) ((wH_c (c := i) (by omega))) rfl 6 (by decide) (va_Nw.use rfl (hE.1 _ (hN_465))) (fun _ h9 => h9) rfl dX3_isStrikesFault_37 ?_
      have hb_Bi_97559 := hBi i
      refine jj_aload_n C0 1 rfl dX3_isStrikesFault_40 ?_
      refine jj_getN C0 (ci := 1) (v := .int (iI (As j))) hin_X0 ((8 + (3 * j + 0))) ((wH_c (c := j) (by omega))) rfl 7 (by decide) (va_Nw.use rfl (hE.1 _ (hN_467))) (fun _ h9 => h9) rfl dX3_isStrikesFault_41 ?_
      have hb_As_39947 := hAs j
      refine jj_icmp_le C0 (by omega) (by omega) dX3_isStrikesFault_44 (tgt := 51) (by decide) (fun c_4 => ?_) (fun c_4 => ?_)
      · refine jj_iconst C0 dX3_isStrikesFault_51 ?_
        exact jj_zret C0 hr 0 (by omega) (rfl) (by omega) (rfl) (by decide) (by decide) dX3_isStrikesFault_52
      · refine jj_iconst C0 dX3_isStrikesFault_47 ?_
        refine jj_goto C0 (tgt := 52) dX3_isStrikesFault_48 (by decide) ?_
        exact jj_zret C0 hr 1 (by omega) (rfl) (by omega) (rfl) (by decide) (by decide) dX3_isStrikesFault_52
    · refine jj_aload_n C0 1 rfl dX3_isStrikesFault_17 ?_
      refine jj_getN C0 (ci := 1) (v := .int (iI (Bi j))) hin_X0 ((8 + (3 * j + 0))) ((wH_c (c := j) (by omega))) rfl 6 (by decide) (va_Nw.use rfl (hE.1 _ (hN_465))) (fun _ h9 => h9) rfl dX3_isStrikesFault_18 ?_
      have hb_Bi_11549 := hBi j
      refine jj_aload_n C0 0 rfl dX3_isStrikesFault_21 ?_
      refine jj_getN C0 (ci := 1) (v := .int (iI (As i))) hin_X0 ((8 + (3 * i + 0))) ((wH_c (c := i) (by omega))) rfl 7 (by decide) (va_Nw.use rfl (hE.1 _ (hN_467))) (fun _ h9 => h9) rfl dX3_isStrikesFault_22 ?_
      have hb_As_40499 := hAs i
      refine jj_icmp_le C0 (by omega) (by omega) dX3_isStrikesFault_25 (tgt := 32) (by decide) (fun c_5 => ?_) (fun c_5 => ?_)
      · refine jj_iconst C0 dX3_isStrikesFault_32 ?_
        refine jj_goto C0 (tgt := 52) dX3_isStrikesFault_33 (by decide) ?_
        exact jj_zret C0 hr 0 (by omega) (rfl) (by omega) (rfl) (by decide) (by decide) dX3_isStrikesFault_52
      · refine jj_iconst C0 dX3_isStrikesFault_28 ?_
        refine jj_goto C0 (tgt := 52) dX3_isStrikesFault_29 (by decide) ?_
        exact jj_zret C0 hr 1 (by omega) (rfl) (by omega) (rfl) (by decide) (by decide) dX3_isStrikesFault_52
  · refine jj_iconst C0 dX3_isStrikesFault_8 ?_
    exact jj_zret C0 hr 0 (by omega) (rfl) (by omega) (rfl) (by decide) (by decide) dX3_isStrikesFault_9
set_option maxHeartbeats 4000000 in
set_option maxRecDepth 100000 in
theorem cc_X3_isMiddleFault  {i j k : Nat} (hi : i < n) (hj : j < n) (hk : k < n) (hK : ∀ j, 0 ≤ K j ∧ K j ≤ 1) (hSt : ∀ j, 0 ≤ St j ∧ St j ≤ 20000) (hEx : ∀ j, 0 ≤ Ex j ∧ Ex j ≤ 200) (hAm : ∀ j, 0 ≤ Am j ∧ Am j ≤ 1) (hBi : ∀ j, 0 ≤ Bi j ∧ Bi j ≤ 20000) (hAs : ∀ j, 0 ≤ As j ∧ As j ≤ 20000) (hBL : ∀ j, 0 ≤ BL j ∧ BL j ≤ 100) (hAL : ∀ j, 0 ≤ AL j ∧ AL j ≤ 100) : jj_Mi EVh (dC, dI) vwCl [(cI, .int), (cJ, .long), (cZ, .boolean), (cO, .object "java/lang/Object")] l yX3_isMiddleFault (Cond.code yX3_isMiddleFault cX3_isMiddleFault 3 (some .boolean) :: lw_U) ({ frames := 2, cells := 0, slots := 0, locals := 41 } : Room) [.ref (cA i), .ref (cA j), .ref (cA k)] (wH ha cA hA nA ed cI cJ cZ td pr up dn dv rw sd mc n mo sh co Ca Cz K St Ex Am Bi As BL AL He Co ++ EE) (S := Int) (fun u => u) (fun u => (u = 1 ∧ (((0 < BL i ∧ 0 < AL i) ∧ (0 < BL j ∧ 0 < AL j) ∧ St i < St j ∧ K i = K j ∧ Ex i = Ex j ∧ Am i = Am j) ∧ ((0 < BL j ∧ 0 < AL j) ∧ (0 < BL k ∧ 0 < AL k) ∧ St j < St k ∧ K j = K k ∧ Ex j = Ex k ∧ Am j = Am k) ∧ St j - St i = St k - St j ∧ As i + As k < 2 * Bi j)) ∨ (u = 0 ∧ ¬ (((0 < BL i ∧ 0 < AL i) ∧ (0 < BL j ∧ 0 < AL j) ∧ St i < St j ∧ K i = K j ∧ Ex i = Ex j ∧ Am i = Am j) ∧ ((0 < BL j ∧ 0 < AL j) ∧ (0 < BL k ∧ 0 < AL k) ∧ St j < St k ∧ K j = K k ∧ Ex j = Ex k ∧ Am j = Am k) ∧ St j - St i = St k - St j ∧ As i + As k < 2 * Bi j))) (fun u => wH ha cA hA nA ed cI cJ cZ td pr up dn dv rw sd mc n mo sh co Ca Cz K St Ex Am Bi As BL AL He Co ++ EE) := by
  refine jj_start (cc := cX3_isMiddleFault) (nL := 3) (ret := (some .boolean)) (lv := [(0, .ref (cA i)), (1, .ref (cA j)), (2, .ref (cA k))]) (fun A => jj_Qi _ _ _ _ _ _ A) hEVh (by decide) rfl (Nat.le_of_ble_eq_true rfl) rfl ?_
  intro p9 e9 s9 m9 a9 b9 me9 c9 A9 C1 hr hin
  have C0 : jj_C p9 s9 m9 a9 me9 c9 (dC, dI) vwCl A9 3 cX3_isMiddleFault "Strikehall" lw_U _ EVh := jj_toU C1
  have hw := C0.2.2.2.2.1
  have hE := C0.2.2.2.2.2.2.2.1
  refine jj_aload_n C0 0 rfl dX3_isMiddleFault_0 ?_
  refine jj_aload_n C0 1 rfl dX3_isMiddleFault_1 ?_
  refine jj_callSi C0 (cc_X3_isStrikePair  (i := i) (j := j) (by first | exact hi | omega) (by first | exact hj | omega) (by first | exact hK | omega) (by first | exact hSt | omega) (by first | exact hEx | omega) (by first | exact hAm | omega) (by first | exact hBL | omega) (by first | exact hAL | omega)) (cwS 2 hw (lw_gS hU_240 hU_241 hU_60 hU_242) rfl rfl rfl (by decide +kernel) ⟨Nat.le_of_ble_eq_true rfl, Nat.le_of_ble_eq_true rfl⟩) rfl rfl (Nat.le_of_ble_eq_true rfl) ⟨by decide, by decide⟩ rfl rfl dX3_isMiddleFault_2 ?_
  intro u_1 hu
  have hu_2 : (u_1 = 1 ∧ ((0 < BL i ∧ 0 < AL i) ∧ (0 < BL j ∧ 0 < AL j) ∧ St i < St j ∧ K i = K j ∧ Ex i = Ex j ∧ Am i = Am j)) ∨ (u_1 = 0 ∧ ¬ ((0 < BL i ∧ 0 < AL i) ∧ (0 < BL j ∧ 0 < AL j) ∧ St i < St j ∧ K i = K j ∧ Ex i = Ex j ∧ Am i = Am j)) := hu
  show jj_W _ _ _ _ _ _ _ _ _ _ _ _ _ _ _ _ _ 5 _ [.int (iI u_1)] (wH ha cA hA nA ed cI cJ cZ td pr up dn dv rw sd mc n mo sh co Ca Cz K St Ex Am Bi As BL AL He Co ++ EE)
  refine jj_if_eq C0 (by omega) dX3_isMiddleFault_5 (tgt := 59) (by decide) (fun c_2 => ?_) (fun c_2 => ?_)
  · refine jj_iconst C0 dX3_isMiddleFault_59 ?_
    exact jj_zret C0 hr 0 (by omega) (rfl) (by omega) (rfl) (by decide) (by decide) dX3_isMiddleFault_60
  · refine jj_aload_n C0 1 rfl dX3_isMiddleFault_8 ?_
    refine jj_aload_n C0 2 rfl dX3_isMiddleFault_9 ?_
    refine jj_callSi C0 (cc_X3_isStrikePair  (i := j) (j := k) (by first | exact hi | omega) (by first | exact hj | omega) (by first | exact hK | omega) (by first | exact hSt | omega) (by first | exact hEx | omega) (by first | exact hAm | omega) (by first | exact hBL | omega) (by first | exact hAL | omega)) (cwS 2 hw (lw_gS hU_240 hU_241 hU_60 hU_242) rfl rfl rfl (by decide +kernel) ⟨Nat.le_of_ble_eq_true rfl, Nat.le_of_ble_eq_true rfl⟩) rfl rfl (Nat.le_of_ble_eq_true rfl) ⟨by decide, by decide⟩ rfl rfl dX3_isMiddleFault_10 ?_
    intro u_3 hu
    have hu_10 : (u_3 = 1 ∧ ((0 < BL j ∧ 0 < AL j) ∧ (0 < BL k ∧ 0 < AL k) ∧ St j < St k ∧ K j = K k ∧ Ex j = Ex k ∧ Am j = Am k)) ∨ (u_3 = 0 ∧ ¬ ((0 < BL j ∧ 0 < AL j) ∧ (0 < BL k ∧ 0 < AL k) ∧ St j < St k ∧ K j = K k ∧ Ex j = Ex k ∧ Am j = Am k)) := hu
    show jj_W _ _ _ _ _ _ _ _ _ _ _ _ _ _ _ _ _ 13 _ [.int (iI u_3)] (wH ha cA hA nA ed cI cJ cZ td pr up dn dv rw sd mc n mo sh co Ca Cz K St Ex Am Bi As BL AL He Co ++ EE)
    refine jj_if_eq C0 (by omega) dX3_isMiddleFault_13 (tgt := 59) (by decide) (fun c_4 => ?_) (fun c_4 => ?_)
    · refine jj_iconst C0 dX3_isMiddleFault_59 ?_
      exact jj_zret C0 hr 0 (by omega) (rfl) (by omega) (rfl) (by decide) (by decide) dX3_isMiddleFault_60
    · refine jj_aload_n C0 1 rfl dX3_isMiddleFault_16 ?_
      refine jj_getN C0 (ci := 1) (v := .int (iI (St j))) hin_X0 ((8 + (3 * j + 0))) ((wH_c (c := j) (by omega))) rfl 1 (by decide) (va_Nw.use rfl (hE.1 _ (hN_455))) (fun _ h9 => h9) rfl dX3_isMiddleFault_17 ?_
      have hb_St_76571 := hSt j
      refine jj_aload_n C0 0 rfl dX3_isMiddleFault_20 ?_
      refine jj_getN C0 (ci := 1) (v := .int (iI (St i))) hin_X0 ((8 + (3 * i + 0))) ((wH_c (c := i) (by omega))) rfl 1 (by decide) (va_Nw.use rfl (hE.1 _ (hN_455))) (fun _ h9 => h9) rfl dX3_isMiddleFault_21 ?_
      have hb_St_29799 := hSt i
      refine jj_isub C0 dX3_isMiddleFault_24 ?_
      refine jj_aload_n C0 2 rfl dX3_isMiddleFault_25 ?_
      refine jj_getN C0 (ci := 1) (v := .int (iI (St k))) hin_X0 ((8 + (3 * k + 0))) ((wH_c (c := k) (by omega))) rfl 1 (by decide) (va_Nw.use rfl (hE.1 _ (hN_455))) (fun _ h9 => h9) rfl dX3_isMiddleFault_26 ?_
      have hb_St_28445 := hSt k
      refine jj_aload_n C0 1 rfl dX3_isMiddleFault_29 ?_
      refine jj_getN C0 (ci := 1) (v := .int (iI (St j))) hin_X0 ((8 + (3 * j + 0))) ((wH_c (c := j) (by omega))) rfl 1 (by decide) (va_Nw.use rfl (hE.1 _ (hN_455))) (fun _ h9 => h9) rfl dX3_isMiddleFault_30 ?_
      have hb_St_76571 := hSt j
      refine jj_isub C0 dX3_isMiddleFault_33 ?_
      refine jj_icmp_ne C0 (by omega) (by omega) dX3_isMiddleFault_34 (tgt := 59) (by decide) (fun c_5 => ?_) (fun c_5 => ?_)
      · refine jj_iconst C0 dX3_isMiddleFault_59 ?_
        exact jj_zret C0 hr 0 (by omega) (rfl) (by omega) (rfl) (by decide) (by decide) dX3_isMiddleFault_60
      · refine jj_iconst C0 dX3_isMiddleFault_37 ?_
        refine jj_aload_n C0 1 rfl dX3_isMiddleFault_38 ?_
        refine jj_getN C0 (ci := 1) (v := .int (iI (Bi j))) hin_X0 ((8 + (3 * j + 0))) ((wH_c (c := j) (by omega))) rfl 6 (by decide) (va_Nw.use rfl (hE.1 _ (hN_465))) (fun _ h9 => h9) rfl dX3_isMiddleFault_39 ?_
        have hb_Bi_11549 := hBi j
        refine jj_imul C0 dX3_isMiddleFault_42 ?_
        refine jj_aload_n C0 0 rfl dX3_isMiddleFault_43 ?_
        refine jj_getN C0 (ci := 1) (v := .int (iI (As i))) hin_X0 ((8 + (3 * i + 0))) ((wH_c (c := i) (by omega))) rfl 7 (by decide) (va_Nw.use rfl (hE.1 _ (hN_467))) (fun _ h9 => h9) rfl dX3_isMiddleFault_44 ?_
        have hb_As_40499 := hAs i
        refine jj_aload_n C0 2 rfl dX3_isMiddleFault_47 ?_
        refine jj_getN C0 (ci := 1) (v := .int (iI (As k))) hin_X0 ((8 + (3 * k + 0))) ((wH_c (c := k) (by omega))) rfl 7 (by decide) (va_Nw.use rfl (hE.1 _ (hN_467))) (fun _ h9 => h9) rfl dX3_isMiddleFault_48 ?_
        have hb_As_473 := hAs k
        refine jj_iadd C0 dX3_isMiddleFault_51 ?_
        refine jj_icmp_le C0 (by omega) (by omega) dX3_isMiddleFault_52 (tgt := 59) (by decide) (fun c_6 => ?_) (fun c_6 => ?_)
        · refine jj_iconst C0 dX3_isMiddleFault_59 ?_
          exact jj_zret C0 hr 0 (by omega) (rfl) (by omega) (rfl) (by decide) (by decide) dX3_isMiddleFault_60
        · refine jj_iconst C0 dX3_isMiddleFault_55 ?_
          refine jj_goto C0 (tgt := 60) dX3_isMiddleFault_56 (by decide) ?_
          exact jj_zret C0 hr 1 (by omega) (rfl) (by omega) (rfl) (by decide) (by decide) dX3_isMiddleFault_60
set_option maxHeartbeats 4000000 in
set_option maxRecDepth 100000 in
theorem cc_X3_isExpiriesFault  {i j : Nat} (hi : i < n) (hj : j < n) (hK : ∀ j, 0 ≤ K j ∧ K j ≤ 1) (hSt : ∀ j, 0 ≤ St j ∧ St j ≤ 20000) (hEx : ∀ j, 0 ≤ Ex j ∧ Ex j ≤ 200) (hAm : ∀ j, 0 ≤ Am j ∧ Am j ≤ 1) (hBi : ∀ j, 0 ≤ Bi j ∧ Bi j ≤ 20000) (hAs : ∀ j, 0 ≤ As j ∧ As j ≤ 20000) (hBL : ∀ j, 0 ≤ BL j ∧ BL j ≤ 100) (hAL : ∀ j, 0 ≤ AL j ∧ AL j ≤ 100) : jj_Mi EVh (dC, dI) vwCl [(cI, .int), (cJ, .long), (cZ, .boolean), (cO, .object "java/lang/Object")] l yX3_isExpiriesFault (Cond.code yX3_isExpiriesFault cX3_isExpiriesFault 2 (some .boolean) :: lw_U) ({ frames := 1, cells := 0, slots := 0, locals := 20 } : Room) [.ref (cA i), .ref (cA j)] (wH ha cA hA nA ed cI cJ cZ td pr up dn dv rw sd mc n mo sh co Ca Cz K St Ex Am Bi As BL AL He Co ++ EE) (S := Int) (fun u => u) (fun u => (u = 1 ∧ ((0 < BL i ∧ 0 < AL i) ∧ (0 < BL j ∧ 0 < AL j) ∧ Ex i < Ex j ∧ Am i ≠ 0 ∧ Am j ≠ 0 ∧ K i = K j ∧ St i = St j ∧ As j < Bi i)) ∨ (u = 0 ∧ ¬ ((0 < BL i ∧ 0 < AL i) ∧ (0 < BL j ∧ 0 < AL j) ∧ Ex i < Ex j ∧ Am i ≠ 0 ∧ Am j ≠ 0 ∧ K i = K j ∧ St i = St j ∧ As j < Bi i))) (fun u => wH ha cA hA nA ed cI cJ cZ td pr up dn dv rw sd mc n mo sh co Ca Cz K St Ex Am Bi As BL AL He Co ++ EE) := by
  refine jj_start (cc := cX3_isExpiriesFault) (nL := 2) (ret := (some .boolean)) (lv := [(0, .ref (cA i)), (1, .ref (cA j))]) (fun A => jj_Qi _ _ _ _ _ _ A) hEVh (by decide) rfl (Nat.le_of_ble_eq_true rfl) rfl ?_
  intro p9 e9 s9 m9 a9 b9 me9 c9 A9 C1 hr hin
  have C0 : jj_C p9 s9 m9 a9 me9 c9 (dC, dI) vwCl A9 2 cX3_isExpiriesFault "Strikehall" lw_U _ EVh := jj_toU C1
  have hw := C0.2.2.2.2.1
  have hE := C0.2.2.2.2.2.2.2.1
  refine jj_aload_n C0 0 rfl dX3_isExpiriesFault_0 ?_
  refine jj_callVNi C0 (cc_X0_isQuotedBoth  (c := i) (by omega) (by first | exact hBL | omega) (by first | exact hAL | omega)) ⟨va_cnB 0 hw (lw_gc hU_232 lw_UU) rfl rfl rfl (hE.1 _ hN_229) (hw _ hU_75) (by decide +kernel) ⟨Nat.le_of_ble_eq_true rfl, Nat.le_of_ble_eq_true rfl⟩, hw _ hU_231, hw _ hU_5⟩ (ci := 1) (q0 := (8 + (3 * i + 0))) rfl ((wH_c (c := i) (by omega))) rfl rfl (Nat.le_of_ble_eq_true rfl) ⟨by decide, by decide⟩ rfl rfl dX3_isExpiriesFault_1 ?_
  intro u_1 hu
  have hu_1 : (u_1 = 1 ∧ (0 < BL i ∧ 0 < AL i)) ∨ (u_1 = 0 ∧ ¬ (0 < BL i ∧ 0 < AL i)) := hu
  show jj_W _ _ _ _ _ _ _ _ _ _ _ _ _ _ _ _ _ 4 _ [.int (iI u_1)] (wH ha cA hA nA ed cI cJ cZ td pr up dn dv rw sd mc n mo sh co Ca Cz K St Ex Am Bi As BL AL He Co ++ EE)
  refine jj_if_eq C0 (by omega) dX3_isExpiriesFault_4 (tgt := 76) (by decide) (fun c_2 => ?_) (fun c_2 => ?_)
  · refine jj_iconst C0 dX3_isExpiriesFault_76 ?_
    exact jj_zret C0 hr 0 (by omega) (rfl) (by omega) (rfl) (by decide) (by decide) dX3_isExpiriesFault_77
  · refine jj_aload_n C0 1 rfl dX3_isExpiriesFault_7 ?_
    refine jj_callVNi C0 (cc_X0_isQuotedBoth  (c := j) (by omega) (by first | exact hBL | omega) (by first | exact hAL | omega)) ⟨va_cnB 0 hw (lw_gc hU_232 lw_UU) rfl rfl rfl (hE.1 _ hN_229) (hw _ hU_75) (by decide +kernel) ⟨Nat.le_of_ble_eq_true rfl, Nat.le_of_ble_eq_true rfl⟩, hw _ hU_231, hw _ hU_5⟩ (ci := 1) (q0 := (8 + (3 * j + 0))) rfl ((wH_c (c := j) (by omega))) rfl rfl (Nat.le_of_ble_eq_true rfl) ⟨by decide, by decide⟩ rfl rfl dX3_isExpiriesFault_8 ?_
    intro u_3 hu
    have hu_8 : (u_3 = 1 ∧ (0 < BL j ∧ 0 < AL j)) ∨ (u_3 = 0 ∧ ¬ (0 < BL j ∧ 0 < AL j)) := hu
    show jj_W _ _ _ _ _ _ _ _ _ _ _ _ _ _ _ _ _ 11 _ [.int (iI u_3)] (wH ha cA hA nA ed cI cJ cZ td pr up dn dv rw sd mc n mo sh co Ca Cz K St Ex Am Bi As BL AL He Co ++ EE)
    refine jj_if_eq C0 (by omega) dX3_isExpiriesFault_11 (tgt := 76) (by decide) (fun c_4 => ?_) (fun c_4 => ?_)
    · refine jj_iconst C0 dX3_isExpiriesFault_76 ?_
      exact jj_zret C0 hr 0 (by omega) (rfl) (by omega) (rfl) (by decide) (by decide) dX3_isExpiriesFault_77
    · refine jj_aload_n C0 0 rfl dX3_isExpiriesFault_14 ?_
      refine jj_getN C0 (ci := 1) (v := .int (iI (Ex i))) hin_X0 ((8 + (3 * i + 0))) ((wH_c (c := i) (by omega))) rfl 2 (by decide) (va_Nw.use rfl (hE.1 _ (hN_458))) (fun _ h9 => h9) rfl dX3_isExpiriesFault_15 ?_
      have hb_Ex_59312 := hEx i
      refine jj_aload_n C0 1 rfl dX3_isExpiriesFault_18 ?_
      refine jj_getN C0 (ci := 1) (v := .int (iI (Ex j))) hin_X0 ((8 + (3 * j + 0))) ((wH_c (c := j) (by omega))) rfl 2 (by decide) (va_Nw.use rfl (hE.1 _ (hN_458))) (fun _ h9 => h9) rfl dX3_isExpiriesFault_19 ?_
      have hb_Ex_65854 := hEx j
      refine jj_icmp_ge C0 (by omega) (by omega) dX3_isExpiriesFault_22 (tgt := 76) (by decide) (fun c_5 => ?_) (fun c_5 => ?_)
      · refine jj_iconst C0 dX3_isExpiriesFault_76 ?_
        exact jj_zret C0 hr 0 (by omega) (rfl) (by omega) (rfl) (by decide) (by decide) dX3_isExpiriesFault_77
      · refine jj_aload_n C0 0 rfl dX3_isExpiriesFault_25 ?_
        refine jj_getN C0 (ci := 1) (v := .int (iI (Am i))) hin_X0 ((8 + (3 * i + 0))) ((wH_c (c := i) (by omega))) rfl 3 (by decide) (va_Nw.use rfl (hE.1 _ (hN_461))) (fun _ h9 => h9) rfl dX3_isExpiriesFault_26 ?_
        have hb_Am_21622 := hAm i
        refine jj_if_eq C0 (by omega) dX3_isExpiriesFault_29 (tgt := 76) (by decide) (fun c_6 => ?_) (fun c_6 => ?_)
        · refine jj_iconst C0 dX3_isExpiriesFault_76 ?_
          exact jj_zret C0 hr 0 (by omega) (rfl) (by omega) (rfl) (by decide) (by decide) dX3_isExpiriesFault_77
        · refine jj_aload_n C0 1 rfl dX3_isExpiriesFault_32 ?_
          refine jj_getN C0 (ci := 1) (v := .int (iI (Am j))) hin_X0 ((8 + (3 * j + 0))) ((wH_c (c := j) (by omega))) rfl 3 (by decide) (va_Nw.use rfl (hE.1 _ (hN_461))) (fun _ h9 => h9) rfl dX3_isExpiriesFault_33 ?_
          have hb_Am_6924 := hAm j
          refine jj_if_eq C0 (by omega) dX3_isExpiriesFault_36 (tgt := 76) (by decide) (fun c_7 => ?_) (fun c_7 => ?_)
          · refine jj_iconst C0 dX3_isExpiriesFault_76 ?_
            exact jj_zret C0 hr 0 (by omega) (rfl) (by omega) (rfl) (by decide) (by decide) dX3_isExpiriesFault_77
          · refine jj_aload_n C0 0 rfl dX3_isExpiriesFault_39 ?_
            refine jj_getN C0 (ci := 1) (v := .int (iI (K i))) hin_X0 ((8 + (3 * i + 0))) ((wH_c (c := i) (by omega))) rfl 0 (by decide) (va_Nw.use rfl (hE.1 _ (hN_453))) (fun _ h9 => h9) rfl dX3_isExpiriesFault_40 ?_
            have hb_K_6264 := hK i
            refine jj_aload_n C0 1 rfl dX3_isExpiriesFault_43 ?_
            refine jj_getN C0 (ci := 1) (v := .int (iI (K j))) hin_X0 ((8 + (3 * j + 0))) ((wH_c (c := j) (by omega))) rfl 0 (by decide) (va_Nw.use rfl (hE.1 _ (hN_453))) (fun _ h9 => h9) rfl dX3_isExpiriesFault_44 ?_
            have hb_K_3093 := hK j
            refine jj_icmp_ne C0 (by omega) (by omega) dX3_isExpiriesFault_47 (tgt := 76) (by decide) (fun c_8 => ?_) (fun c_8 => ?_)
            · refine jj_iconst C0 dX3_isExpiriesFault_76 ?_
              exact jj_zret C0 hr 0 (by omega) (rfl) (by omega) (rfl) (by decide) (by decide) dX3_isExpiriesFault_77
            · refine jj_aload_n C0 0 rfl dX3_isExpiriesFault_50 ?_
              refine jj_getN C0 (ci := 1) (v := .int (iI (St i))) hin_X0 ((8 + (3 * i + 0))) ((wH_c (c := i) (by omega))) rfl 1 (by decide) (va_Nw.use rfl (hE.1 _ (hN_455))) (fun _ h9 => h9) rfl dX3_isExpiriesFault_51 ?_
              have hb_St_29799 := hSt i
              refine jj_aload_n C0 1 rfl dX3_isExpiriesFault_54 ?_
              refine jj_getN C0 (ci := 1) (v := .int (iI (St j))) hin_X0 ((8 + (3 * j + 0))) ((wH_c (c := j) (by omega))) rfl 1 (by decide) (va_Nw.use rfl (hE.1 _ (hN_455))) (fun _ h9 => h9) rfl dX3_isExpiriesFault_55 ?_
              have hb_St_76571 := hSt j
              refine jj_icmp_ne C0 (by omega) (by omega) dX3_isExpiriesFault_58 (tgt := 76) (by decide) (fun c_9 => ?_) (fun c_9 => ?_)
              · refine jj_iconst C0 dX3_isExpiriesFault_76 ?_
                exact jj_zret C0 hr 0 (by omega) (rfl) (by omega) (rfl) (by decide) (by decide) dX3_isExpiriesFault_77
              · refine jj_aload_n C0 0 rfl dX3_isExpiriesFault_61 ?_
                refine jj_getN C0 (ci := 1) (v := .int (iI (Bi i))) hin_X0 ((8 + (3 * i + 0))) ((wH_c (c := i) (by omega))) rfl 6 (by decide) (va_Nw.use rfl (hE.1 _ (hN_465))) (fun _ h9 => h9) rfl dX3_isExpiriesFault_62 ?_
                have hb_Bi_97559 := hBi i
                refine jj_aload_n C0 1 rfl dX3_isExpiriesFault_65 ?_
                refine jj_getN C0 (ci := 1) (v := .int (iI (As j))) hin_X0 ((8 + (3 * j + 0))) ((wH_c (c := j) (by omega))) rfl 7 (by decide) (va_Nw.use rfl (hE.1 _ (hN_467))) (fun _ h9 => h9) rfl dX3_isExpiriesFault_66 ?_
                have hb_As_39947 := hAs j
                refine jj_icmp_le C0 (by omega) (by omega) dX3_isExpiriesFault_69 (tgt := 76) (by decide) (fun c_10 => ?_) (fun c_10 => ?_)
                · refine jj_iconst C0 dX3_isExpiriesFault_76 ?_
                  exact jj_zret C0 hr 0 (by omega) (rfl) (by omega) (rfl) (by decide) (by decide) dX3_isExpiriesFault_77
                · refine jj_iconst C0 dX3_isExpiriesFault_72 ?_
                  refine jj_goto C0 (tgt := 77) dX3_isExpiriesFault_73 (by decide) ?_
                  exact jj_zret C0 hr 1 (by omega) (rfl) (by omega) (rfl) (by decide) (by decide) dX3_isExpiriesFault_77
set_option maxHeartbeats 4000000 in
set_option maxRecDepth 100000 in
theorem cc_X3_hasCrossedQuote   (hn : n ≤ 12) (hED : 0 < n → f_ED cA n ed cO EE) (hK : ∀ j, 0 ≤ K j ∧ K j ≤ 1) (hSt : ∀ j, 0 ≤ St j ∧ St j ≤ 20000) (hEx : ∀ j, 0 ≤ Ex j ∧ Ex j ≤ 200) (hAm : ∀ j, 0 ≤ Am j ∧ Am j ≤ 1) (hBi : ∀ j, 0 ≤ Bi j ∧ Bi j ≤ 20000) (hAs : ∀ j, 0 ≤ As j ∧ As j ≤ 20000) (hBL : ∀ j, 0 ≤ BL j ∧ BL j ≤ 100) (hAL : ∀ j, 0 ≤ AL j ∧ AL j ≤ 100) : jj_Mi EVh (dC, dI) vwCl [(cI, .int), (cJ, .long), (cZ, .boolean), (cO, .object "java/lang/Object")] l yX3_hasCrossedQuote (Cond.code yX3_hasCrossedQuote cX3_hasCrossedQuote 3 (some .boolean) :: lw_U) ({ frames := 3, cells := 0, slots := 0, locals := 64 } : Room) [.ref (ha 0)] (wH ha cA hA nA ed cI cJ cZ td pr up dn dv rw sd mc n mo sh co Ca Cz K St Ex Am Bi As BL AL He Co ++ EE) (S := Int) (fun u => u) (fun u => (u = 1 ∧ (∃ a, a < n ∧ ((0 < BL a ∧ 0 < AL a) ∧ As a ≤ Bi a))) ∨ (u = 0 ∧ ¬ (∃ a, a < n ∧ ((0 < BL a ∧ 0 < AL a) ∧ As a ≤ Bi a)))) (fun u => wH ha cA hA nA ed cI cJ cZ td pr up dn dv rw sd mc n mo sh co Ca Cz K St Ex Am Bi As BL AL He Co ++ EE) := by
  refine jj_start (cc := cX3_hasCrossedQuote) (nL := 3) (ret := (some .boolean)) (lv := [(0, .ref (ha 0))]) (fun A => jj_Qi _ _ _ _ _ _ A) hEVh (by decide) rfl (Nat.le_of_ble_eq_true rfl) rfl ?_
  intro p9 e9 s9 m9 a9 b9 me9 c9 A9 C1 hr hin
  have C0 : jj_C p9 s9 m9 a9 me9 c9 (dC, dI) vwCl A9 3 cX3_hasCrossedQuote "Strikehall" lw_U _ EVh := jj_toU C1
  have hw := C0.2.2.2.2.1
  have hE := C0.2.2.2.2.2.2.2.1
  refine jj_iconst C0 dX3_hasCrossedQuote_0 ?_
  refine jj_istore_n C0 (i := 1) rfl (lv' := [(1, .int (iI 0)), (0, .ref (ha 0))]) (by decide) rfl dX3_hasCrossedQuote_1 ?_
  refine jj_ind (X := Nat) (fun q9 => match q9 with | i => (n + 1 - i : Nat)) (fun q9 => match q9 with | i => [(1, .int (iI (i : Int))), (0, .ref (ha 0))]) (fun q9 => match q9 with | i => []) (fun q9 => match q9 with | i => wH ha cA hA nA ed cI cJ cZ td pr up dn dv rw sd mc n mo sh co Ca Cz K St Ex Am Bi As BL AL He Co ++ EE) (fun q9 => match q9 with | i => i ≤ n ∧ ∀ a, a < i → ¬ ((0 < BL a ∧ 0 < AL a) ∧ As a ≤ Bi a)) ?_ 0 ⟨Nat.zero_le _, fun a h => absurd h (Nat.not_lt_zero _)⟩
  intro q9 hq9 ih2
  obtain ⟨i, rfl⟩ : ∃ z, z = q9 := ⟨_, rfl⟩
  obtain ⟨hi, hno⟩ : i ≤ n ∧ ∀ a, a < i → ¬ ((0 < BL a ∧ 0 < AL a) ∧ As a ≤ Bi a) := hq9
  show jj_W _ _ _ _ _ _ _ _ _ _ _ _ _ _ _ _ _ 2 [(1, .int (iI (i : Int))), (0, .ref (ha 0))] [] (wH ha cA hA nA ed cI cJ cZ td pr up dn dv rw sd mc n mo sh co Ca Cz K St Ex Am Bi As BL AL He Co ++ EE)
  refine jj_iload_n C0 0 rfl dX3_hasCrossedQuote_2 ?_
  refine jj_aload_n C0 1 rfl dX3_hasCrossedQuote_3 ?_
  refine jj_get C0 (ci := 4) (v := .ref (ha 5)) hin_X3 (0) (rfl) rfl 2 (by decide) (hw _ hU_158) (fun _ h9 => h9) rfl dX3_hasCrossedQuote_4 ?_
  refine jj_callVi C0 (cc_Jx4a65c_size_8abf5   ) (cwV 0 hw (lw_gV hU_185 hU_186 hU_187 hU_65 hU_188) rfl rfl rfl (by decide +kernel) ⟨Nat.le_of_ble_eq_true rfl, Nat.le_of_ble_eq_true rfl⟩) (ci := 0) (q0 := 5) rfl (rfl) rfl rfl (Nat.le_of_ble_eq_true rfl) ⟨by decide, by decide⟩ rfl rfl dX3_hasCrossedQuote_7 ?_
  intro _ hu
  show jj_W _ _ _ _ _ _ _ _ _ _ _ _ _ _ _ _ _ 10 _ [.int (iI (n : Int)), .int (iI (i : Int))] (wH ha cA hA nA ed cI cJ cZ td pr up dn dv rw sd mc n mo sh co Ca Cz K St Ex Am Bi As BL AL He Co ++ EE)
  refine jj_icmp_ge C0 (by omega) (by omega) dX3_hasCrossedQuote_10 (tgt := 51) (by decide) (fun c_1 => ?_) (fun c_1 => ?_)
  · refine jj_iconst C0 dX3_hasCrossedQuote_51 ?_
    exact jj_zret C0 hr 0 (by exact Or.inr ⟨rfl, fun ⟨a, ha, hf⟩ => hno a (by omega) hf⟩) (rfl) (by omega) (rfl) (by decide) (by decide) dX3_hasCrossedQuote_52
  · refine jj_aload_n C0 1 rfl dX3_hasCrossedQuote_13 ?_
    refine jj_get C0 (ci := 4) (v := .ref (ha 5)) hin_X3 (0) (rfl) rfl 2 (by decide) (hw _ hU_158) (fun _ h9 => h9) rfl dX3_hasCrossedQuote_14 ?_
    refine jj_iload_n C0 0 rfl dX3_hasCrossedQuote_17 ?_
    refine jj_callVr C0 (cc_Jx4a65c_get_915e3  (i := i) (by omega) (by first | exact hn | omega) (by first | exact hED | omega)) (cwV 1 hw (lw_gV hU_189 hU_190 hU_191 hU_65 hU_192) rfl rfl rfl (by decide +kernel) ⟨Nat.le_of_ble_eq_true rfl, Nat.le_of_ble_eq_true rfl⟩) (ci := 0) (q0 := 5) rfl (rfl) rfl rfl (Nat.le_of_ble_eq_true rfl) ⟨by decide, by decide⟩ rfl rfl dX3_hasCrossedQuote_18 ?_
    intro _ hu
    show jj_W _ _ _ _ _ _ _ _ _ _ _ _ _ _ _ _ _ 21 _ [.ref (cA i)] (wH ha cA hA nA ed cI cJ cZ td pr up dn dv rw sd mc n mo sh co Ca Cz K St Ex Am Bi As BL AL He Co ++ EE)
    refine jj_cast C0 (ci := 1) (q0 := (8 + (3 * i + 0))) rfl ((wH_c (c := i) (by omega))) (hw _ hU_203) dX3_hasCrossedQuote_21 ?_
    refine jj_astore_n C0 (i := 2) rfl (lv' := [(2, .ref (cA i)), (1, .int (iI (i : Int))), (0, .ref (ha 0))]) (by decide) rfl dX3_hasCrossedQuote_24 ?_
    refine jj_aload_n C0 0 rfl dX3_hasCrossedQuote_25 ?_
    refine jj_callVNi C0 (cc_X0_isQuotedBoth  (c := i) (by omega) (by first | exact hBL | omega) (by first | exact hAL | omega)) ⟨va_cnB 0 hw (lw_gc hU_232 lw_UU) rfl rfl rfl (hE.1 _ hN_229) (hw _ hU_75) (by decide +kernel) ⟨Nat.le_of_ble_eq_true rfl, Nat.le_of_ble_eq_true rfl⟩, hw _ hU_231, hw _ hU_5⟩ (ci := 1) (q0 := (8 + (3 * i + 0))) rfl ((wH_c (c := i) (by omega))) rfl rfl (Nat.le_of_ble_eq_true rfl) ⟨by decide, by decide⟩ rfl rfl dX3_hasCrossedQuote_26 ?_
    intro u_2 hu
    have hu_26 : (u_2 = 1 ∧ (0 < BL i ∧ 0 < AL i)) ∨ (u_2 = 0 ∧ ¬ (0 < BL i ∧ 0 < AL i)) := hu
    show jj_W _ _ _ _ _ _ _ _ _ _ _ _ _ _ _ _ _ 29 _ [.int (iI u_2)] (wH ha cA hA nA ed cI cJ cZ td pr up dn dv rw sd mc n mo sh co Ca Cz K St Ex Am Bi As BL AL He Co ++ EE)
    refine jj_if_eq C0 (by omega) dX3_hasCrossedQuote_29 (tgt := 45) (by decide) (fun c_3 => ?_) (fun c_3 => ?_)
    · refine jj_iinc C0 (z := ((i + 1 : Nat) : Int)) (lv' := [(1, .int (iI ((i + 1 : Nat) : Int))), (2, .ref (cA i)), (0, .ref (ha 0))]) 1 rfl (by omega) (by decide) rfl dX3_hasCrossedQuote_45 ?_
      refine jj_goto C0 (tgt := 2) dX3_hasCrossedQuote_48 (by decide) ?_
      refine jj_lv [0, 2] rfl ?_
      exact ih2 (i + 1) ⟨by omega, fun a ha => by by_cases e : a = i; subst e; omega; exact hno a (by omega)⟩ (by dsimp only; omega)
    · refine jj_aload_n C0 0 rfl dX3_hasCrossedQuote_32 ?_
      refine jj_getN C0 (ci := 1) (v := .int (iI (Bi i))) hin_X0 ((8 + (3 * i + 0))) ((wH_c (c := i) (by omega))) rfl 6 (by decide) (va_Nw.use rfl (hE.1 _ (hN_465))) (fun _ h9 => h9) rfl dX3_hasCrossedQuote_33 ?_
      have hb_Bi_97559 := hBi i
      refine jj_aload_n C0 0 rfl dX3_hasCrossedQuote_36 ?_
      refine jj_getN C0 (ci := 1) (v := .int (iI (As i))) hin_X0 ((8 + (3 * i + 0))) ((wH_c (c := i) (by omega))) rfl 7 (by decide) (va_Nw.use rfl (hE.1 _ (hN_467))) (fun _ h9 => h9) rfl dX3_hasCrossedQuote_37 ?_
      have hb_As_40499 := hAs i
      refine jj_icmp_lt C0 (by omega) (by omega) dX3_hasCrossedQuote_40 (tgt := 45) (by decide) (fun c_4 => ?_) (fun c_4 => ?_)
      · refine jj_iinc C0 (z := ((i + 1 : Nat) : Int)) (lv' := [(1, .int (iI ((i + 1 : Nat) : Int))), (2, .ref (cA i)), (0, .ref (ha 0))]) 1 rfl (by omega) (by decide) rfl dX3_hasCrossedQuote_45 ?_
        refine jj_goto C0 (tgt := 2) dX3_hasCrossedQuote_48 (by decide) ?_
        refine jj_lv [0, 2] rfl ?_
        exact ih2 (i + 1) ⟨by omega, fun a ha => by by_cases e : a = i; subst e; omega; exact hno a (by omega)⟩ (by dsimp only; omega)
      · refine jj_iconst C0 dX3_hasCrossedQuote_43 ?_
        exact jj_zret C0 hr 1 (by exact Or.inl ⟨rfl, i, by omega, by omega⟩) (rfl) (by omega) (rfl) (by decide) (by decide) dX3_hasCrossedQuote_44
set_option maxHeartbeats 4000000 in
set_option maxRecDepth 100000 in
theorem cc_X3_hasStrikesFault   (hn : n ≤ 12) (hED : 0 < n → f_ED cA n ed cO EE) (hK : ∀ j, 0 ≤ K j ∧ K j ≤ 1) (hSt : ∀ j, 0 ≤ St j ∧ St j ≤ 20000) (hEx : ∀ j, 0 ≤ Ex j ∧ Ex j ≤ 200) (hAm : ∀ j, 0 ≤ Am j ∧ Am j ≤ 1) (hBi : ∀ j, 0 ≤ Bi j ∧ Bi j ≤ 20000) (hAs : ∀ j, 0 ≤ As j ∧ As j ≤ 20000) (hBL : ∀ j, 0 ≤ BL j ∧ BL j ≤ 100) (hAL : ∀ j, 0 ≤ AL j ∧ AL j ≤ 100) : jj_Mi EVh (dC, dI) vwCl [(cI, .int), (cJ, .long), (cZ, .boolean), (cO, .object "java/lang/Object")] l yX3_hasStrikesFault (Cond.code yX3_hasStrikesFault cX3_hasStrikesFault 3 (some .boolean) :: lw_U) ({ frames := 3, cells := 0, slots := 0, locals := 64 } : Room) [.ref (ha 0)] (wH ha cA hA nA ed cI cJ cZ td pr up dn dv rw sd mc n mo sh co Ca Cz K St Ex Am Bi As BL AL He Co ++ EE) (S := Int) (fun u => u) (fun u => (u = 1 ∧ (∃ a b, a < n ∧ b < n ∧ (((0 < BL a ∧ 0 < AL a) ∧ (0 < BL b ∧ 0 < AL b) ∧ St a < St b ∧ K a = K b ∧ Ex a = Ex b ∧ Am a = Am b) ∧ ((K a = 0 ∧ As a < Bi b) ∨ (K a ≠ 0 ∧ As b < Bi a))))) ∨ (u = 0 ∧ ¬ (∃ a b, a < n ∧ b < n ∧ (((0 < BL a ∧ 0 < AL a) ∧ (0 < BL b ∧ 0 < AL b) ∧ St a < St b ∧ K a = K b ∧ Ex a = Ex b ∧ Am a = Am b) ∧ ((K a = 0 ∧ As a < Bi b) ∨ (K a ≠ 0 ∧ As b < Bi a)))))) (fun u => wH ha cA hA nA ed cI cJ cZ td pr up dn dv rw sd mc n mo sh co Ca Cz K St Ex Am Bi As BL AL He Co ++ EE) := by
  refine jj_start (cc := cX3_hasStrikesFault) (nL := 3) (ret := (some .boolean)) (lv := [(0, .ref (ha 0))]) (fun A => jj_Qi _ _ _ _ _ _ A) hEVh (by decide) rfl (Nat.le_of_ble_eq_true rfl) rfl ?_
  intro p9 e9 s9 m9 a9 b9 me9 c9 A9 C1 hr hin
  have C0 : jj_C p9 s9 m9 a9 me9 c9 (dC, dI) vwCl A9 3 cX3_hasStrikesFault "Strikehall" lw_U _ EVh := jj_toU C1
  have hw := C0.2.2.2.2.1
  have hE := C0.2.2.2.2.2.2.2.1
  refine jj_iconst C0 dX3_hasStrikesFault_0 ?_
  refine jj_istore_n C0 (i := 1) rfl (lv' := [(1, .int (iI 0)), (0, .ref (ha 0))]) (by decide) rfl dX3_hasStrikesFault_1 ?_
  refine jj_ind (X := Nat) (fun q9 => match q9 with | i => (n + 1 - i : Nat)) (fun q9 => match q9 with | i => [(1, .int (iI (i : Int))), (0, .ref (ha 0))]) (fun q9 => match q9 with | i => []) (fun q9 => match q9 with | i => wH ha cA hA nA ed cI cJ cZ td pr up dn dv rw sd mc n mo sh co Ca Cz K St Ex Am Bi As BL AL He Co ++ EE) (fun q9 => match q9 with | i => i ≤ n ∧ ∀ a b, a < i → b < n → ¬ (((0 < BL a ∧ 0 < AL a) ∧ (0 < BL b ∧ 0 < AL b) ∧ St a < St b ∧ K a = K b ∧ Ex a = Ex b ∧ Am a = Am b) ∧ ((K a = 0 ∧ As a < Bi b) ∨ (K a ≠ 0 ∧ As b < Bi a)))) ?_ 0 ⟨Nat.zero_le _, fun a b h => absurd h (Nat.not_lt_zero _)⟩
  intro q9 hq9 ih2
  obtain ⟨i, rfl⟩ : ∃ z, z = q9 := ⟨_, rfl⟩
  obtain ⟨hi, hno⟩ : i ≤ n ∧ ∀ a b, a < i → b < n → ¬ (((0 < BL a ∧ 0 < AL a) ∧ (0 < BL b ∧ 0 < AL b) ∧ St a < St b ∧ K a = K b ∧ Ex a = Ex b ∧ Am a = Am b) ∧ ((K a = 0 ∧ As a < Bi b) ∨ (K a ≠ 0 ∧ As b < Bi a))) := hq9
  show jj_W _ _ _ _ _ _ _ _ _ _ _ _ _ _ _ _ _ 2 [(1, .int (iI (i : Int))), (0, .ref (ha 0))] [] (wH ha cA hA nA ed cI cJ cZ td pr up dn dv rw sd mc n mo sh co Ca Cz K St Ex Am Bi As BL AL He Co ++ EE)
  refine jj_iload_n C0 0 rfl dX3_hasStrikesFault_2 ?_
  refine jj_aload_n C0 1 rfl dX3_hasStrikesFault_3 ?_
  refine jj_get C0 (ci := 4) (v := .ref (ha 5)) hin_X3 (0) (rfl) rfl 2 (by decide) (hw _ hU_158) (fun _ h9 => h9) rfl dX3_hasStrikesFault_4 ?_
  refine jj_callVi C0 (cc_Jx4a65c_size_8abf5   ) (cwV 0 hw (lw_gV hU_185 hU_186 hU_187 hU_65 hU_188) rfl rfl rfl (by decide +kernel) ⟨Nat.le_of_ble_eq_true rfl, Nat.le_of_ble_eq_true rfl⟩) (ci := 0) (q0 := 5) rfl (rfl) rfl rfl (Nat.le_of_ble_eq_true rfl) ⟨by decide, by decide⟩ rfl rfl dX3_hasStrikesFault_7 ?_
  intro _ hu
  show jj_W _ _ _ _ _ _ _ _ _ _ _ _ _ _ _ _ _ 10 _ [.int (iI (n : Int)), .int (iI (i : Int))] (wH ha cA hA nA ed cI cJ cZ td pr up dn dv rw sd mc n mo sh co Ca Cz K St Ex Am Bi As BL AL He Co ++ EE)
  refine jj_icmp_ge C0 (by omega) (by omega) dX3_hasStrikesFault_10 (tgt := 68) (by decide) (fun c_1 => ?_) (fun c_1 => ?_)
  · refine jj_iconst C0 dX3_hasStrikesFault_68 ?_
    exact jj_zret C0 hr 0 (by exact Or.inr ⟨rfl, fun ⟨a, b, ha, hb, hf⟩ => hno a b (by omega) hb hf⟩) (rfl) (by omega) (rfl) (by decide) (by decide) dX3_hasStrikesFault_69
  · refine jj_iconst C0 dX3_hasStrikesFault_13 ?_
    refine jj_istore_n C0 (i := 2) rfl (lv' := [(2, .int (iI 0)), (1, .int (iI (i : Int))), (0, .ref (ha 0))]) (by decide) rfl dX3_hasStrikesFault_14 ?_
    refine jj_ind (X := Nat) (fun q9 => match q9 with | j => (n + 1 - j : Nat)) (fun q9 => match q9 with | j => [(2, .int (iI (j : Int))), (1, .int (iI (i : Int))), (0, .ref (ha 0))]) (fun q9 => match q9 with | j => []) (fun q9 => match q9 with | j => wH ha cA hA nA ed cI cJ cZ td pr up dn dv rw sd mc n mo sh co Ca Cz K St Ex Am Bi As BL AL He Co ++ EE) (fun q9 => match q9 with | j => j ≤ n ∧ ∀ b, b < j → ¬ (((0 < BL i ∧ 0 < AL i) ∧ (0 < BL b ∧ 0 < AL b) ∧ St i < St b ∧ K i = K b ∧ Ex i = Ex b ∧ Am i = Am b) ∧ ((K i = 0 ∧ As i < Bi b) ∨ (K i ≠ 0 ∧ As b < Bi i)))) ?_ 0 ⟨Nat.zero_le _, fun b h => absurd h (Nat.not_lt_zero _)⟩
    intro q9 hq9 ih15
    obtain ⟨j, rfl⟩ : ∃ z, z = q9 := ⟨_, rfl⟩
    obtain ⟨hj, hno2⟩ : j ≤ n ∧ ∀ b, b < j → ¬ (((0 < BL i ∧ 0 < AL i) ∧ (0 < BL b ∧ 0 < AL b) ∧ St i < St b ∧ K i = K b ∧ Ex i = Ex b ∧ Am i = Am b) ∧ ((K i = 0 ∧ As i < Bi b) ∨ (K i ≠ 0 ∧ As b < Bi i))) := hq9
    show jj_W _ _ _ _ _ _ _ _ _ _ _ _ _ _ _ _ _ 15 [(2, .int (iI (j : Int))), (1, .int (iI (i : Int))), (0, .ref (ha 0))] [] (wH ha cA hA nA ed cI cJ cZ td pr up dn dv rw sd mc n mo sh co Ca Cz K St Ex Am Bi As BL AL He Co ++ EE)
    refine jj_iload_n C0 0 rfl dX3_hasStrikesFault_15 ?_
    refine jj_aload_n C0 2 rfl dX3_hasStrikesFault_16 ?_
    refine jj_get C0 (ci := 4) (v := .ref (ha 5)) hin_X3 (0) (rfl) rfl 2 (by decide) (hw _ hU_158) (fun _ h9 => h9) rfl dX3_hasStrikesFault_17 ?_
    refine jj_callVi C0 (cc_Jx4a65c_size_8abf5   ) (cwV 0 hw (lw_gV hU_185 hU_186 hU_187 hU_65 hU_188) rfl rfl rfl (by decide +kernel) ⟨Nat.le_of_ble_eq_true rfl, Nat.le_of_ble_eq_true rfl⟩) (ci := 0) (q0 := 5) rfl (rfl) rfl rfl (Nat.le_of_ble_eq_true rfl) ⟨by decide, by decide⟩ rfl rfl dX3_hasStrikesFault_20 ?_
    intro _ hu
    show jj_W _ _ _ _ _ _ _ _ _ _ _ _ _ _ _ _ _ 23 _ [.int (iI (n : Int)), .int (iI (j : Int))] (wH ha cA hA nA ed cI cJ cZ td pr up dn dv rw sd mc n mo sh co Ca Cz K St Ex Am Bi As BL AL He Co ++ EE)
    refine jj_icmp_ge C0 (by omega) (by omega) dX3_hasStrikesFault_23 (tgt := 62) (by decide) (fun c_2 => ?_) (fun c_2 => ?_)
    · refine jj_iinc C0 (z := ((i + 1 : Nat) : Int)) (lv' := [(1, .int (iI ((i + 1 : Nat) : Int))), (2, .int (iI (j : Int))), (0, .ref (ha 0))]) 1 rfl (by omega) (by decide) rfl dX3_hasStrikesFault_62 ?_
      refine jj_goto C0 (tgt := 2) dX3_hasStrikesFault_65 (by decide) ?_
      refine jj_lv [0, 2] rfl ?_
      exact ih2 (i + 1) ⟨by omega, fun a b ha hb => by by_cases e : a = i; subst e; exact hno2 b (by omega); exact hno a b (by omega) hb⟩ (by dsimp only; omega)
    · refine jj_aload_n C0 2 rfl dX3_hasStrikesFault_26 ?_
      refine jj_get C0 (ci := 4) (v := .ref (ha 5)) hin_X3 (0) (rfl) rfl 2 (by decide) (hw _ hU_158) (fun _ h9 => h9) rfl dX3_hasStrikesFault_27 ?_
      refine jj_iload_n C0 1 rfl dX3_hasStrikesFault_30 ?_
      refine jj_callVr C0 (cc_Jx4a65c_get_915e3  (i := i) (by omega) (by first | exact hn | omega) (by first | exact hED | omega)) (cwV 1 hw (lw_gV hU_189 hU_190 hU_191 hU_65 hU_192) rfl rfl rfl (by decide +kernel) ⟨Nat.le_of_ble_eq_true rfl, Nat.le_of_ble_eq_true rfl⟩) (ci := 0) (q0 := 5) rfl (rfl) rfl rfl (Nat.le_of_ble_eq_true rfl) ⟨by decide, by decide⟩ rfl rfl dX3_hasStrikesFault_31 ?_
      intro _ hu
      show jj_W _ _ _ _ _ _ _ _ _ _ _ _ _ _ _ _ _ 34 _ [.ref (cA i)] (wH ha cA hA nA ed cI cJ cZ td pr up dn dv rw sd mc n mo sh co Ca Cz K St Ex Am Bi As BL AL He Co ++ EE)
      refine jj_cast C0 (ci := 1) (q0 := (8 + (3 * i + 0))) rfl ((wH_c (c := i) (by omega))) (hw _ hU_203) dX3_hasStrikesFault_34 ?_
      refine jj_aload_n C0 2 rfl dX3_hasStrikesFault_37 ?_
      refine jj_get C0 (ci := 4) (v := .ref (ha 5)) hin_X3 (0) (rfl) rfl 2 (by decide) (hw _ hU_158) (fun _ h9 => h9) rfl dX3_hasStrikesFault_38 ?_
      refine jj_iload_n C0 0 rfl dX3_hasStrikesFault_41 ?_
      refine jj_callVr C0 (cc_Jx4a65c_get_915e3  (i := j) (by omega) (by first | exact hn | omega) (by first | exact hED | omega)) (cwV 1 hw (lw_gV hU_189 hU_190 hU_191 hU_65 hU_192) rfl rfl rfl (by decide +kernel) ⟨Nat.le_of_ble_eq_true rfl, Nat.le_of_ble_eq_true rfl⟩) (ci := 0) (q0 := 5) rfl (rfl) rfl rfl (Nat.le_of_ble_eq_true rfl) ⟨by decide, by decide⟩ rfl rfl dX3_hasStrikesFault_42 ?_
      intro _ hu
      show jj_W _ _ _ _ _ _ _ _ _ _ _ _ _ _ _ _ _ 45 _ [.ref (cA j), .ref (cA i)] (wH ha cA hA nA ed cI cJ cZ td pr up dn dv rw sd mc n mo sh co Ca Cz K St Ex Am Bi As BL AL He Co ++ EE)
      refine jj_cast C0 (ci := 1) (q0 := (8 + (3 * j + 0))) rfl ((wH_c (c := j) (by omega))) (hw _ hU_203) dX3_hasStrikesFault_45 ?_
      refine jj_callSi C0 (cc_X3_isStrikesFault  (i := i) (j := j) (by omega) (by omega) (by first | exact hK | omega) (by first | exact hSt | omega) (by first | exact hEx | omega) (by first | exact hAm | omega) (by first | exact hBi | omega) (by first | exact hAs | omega) (by first | exact hBL | omega) (by first | exact hAL | omega)) (cwS 2 hw (lw_gS hU_237 hU_238 hU_60 hU_239) rfl rfl rfl (by decide +kernel) ⟨Nat.le_of_ble_eq_true rfl, Nat.le_of_ble_eq_true rfl⟩) rfl rfl (Nat.le_of_ble_eq_true rfl) ⟨by decide, by decide⟩ rfl rfl dX3_hasStrikesFault_48 ?_
      intro u_3 hu
      have hu_48 : (u_3 = 1 ∧ (((0 < BL i ∧ 0 < AL i) ∧ (0 < BL j ∧ 0 < AL j) ∧ St i < St j ∧ K i = K j ∧ Ex i = Ex j ∧ Am i = Am j) ∧ ((K i = 0 ∧ As i < Bi j) ∨ (K i ≠ 0 ∧ As j < Bi i)))) ∨ (u_3 = 0 ∧ ¬ (((0 < BL i ∧ 0 < AL i) ∧ (0 < BL j ∧ 0 < AL j) ∧ St i < St j ∧ K i = K j ∧ Ex i = Ex j ∧ Am i = Am j) ∧ ((K i = 0 ∧ As i < Bi j) ∨ (K i ≠ 0 ∧ As j < Bi i)))) := hu
      show jj_W _ _ _ _ _ _ _ _ _ _ _ _ _ _ _ _ _ 51 _ [.int (iI u_3)] (wH ha cA hA nA ed cI cJ cZ td pr up dn dv rw sd mc n mo sh co Ca Cz K St Ex Am Bi As BL AL He Co ++ EE)
      refine jj_if_eq C0 (by omega) dX3_hasStrikesFault_51 (tgt := 56) (by decide) (fun c_4 => ?_) (fun c_4 => ?_)
      · refine jj_iinc C0 (z := ((j + 1 : Nat) : Int)) (lv' := [(2, .int (iI ((j + 1 : Nat) : Int))), (1, .int (iI (i : Int))), (0, .ref (ha 0))]) 0 rfl (by omega) (by decide) rfl dX3_hasStrikesFault_56 ?_
        refine jj_goto C0 (tgt := 15) dX3_hasStrikesFault_59 (by decide) ?_
        exact ih15 (j + 1) ⟨by omega, fun b hb => by by_cases e : b = j; subst e; omega; exact hno2 b (by omega)⟩ (by dsimp only; omega)
      · refine jj_iconst C0 dX3_hasStrikesFault_54 ?_
        exact jj_zret C0 hr 1 (by exact Or.inl ⟨rfl, i, j, by omega, by omega, by omega⟩) (rfl) (by omega) (rfl) (by decide) (by decide) dX3_hasStrikesFault_55
set_option maxHeartbeats 4000000 in
set_option maxRecDepth 100000 in
theorem cc_X3_hasExpiriesFault   (hn : n ≤ 12) (hED : 0 < n → f_ED cA n ed cO EE) (hK : ∀ j, 0 ≤ K j ∧ K j ≤ 1) (hSt : ∀ j, 0 ≤ St j ∧ St j ≤ 20000) (hEx : ∀ j, 0 ≤ Ex j ∧ Ex j ≤ 200) (hAm : ∀ j, 0 ≤ Am j ∧ Am j ≤ 1) (hBi : ∀ j, 0 ≤ Bi j ∧ Bi j ≤ 20000) (hAs : ∀ j, 0 ≤ As j ∧ As j ≤ 20000) (hBL : ∀ j, 0 ≤ BL j ∧ BL j ≤ 100) (hAL : ∀ j, 0 ≤ AL j ∧ AL j ≤ 100) : jj_Mi EVh (dC, dI) vwCl [(cI, .int), (cJ, .long), (cZ, .boolean), (cO, .object "java/lang/Object")] l yX3_hasExpiriesFault (Cond.code yX3_hasExpiriesFault cX3_hasExpiriesFault 3 (some .boolean) :: lw_U) ({ frames := 3, cells := 0, slots := 0, locals := 64 } : Room) [.ref (ha 0)] (wH ha cA hA nA ed cI cJ cZ td pr up dn dv rw sd mc n mo sh co Ca Cz K St Ex Am Bi As BL AL He Co ++ EE) (S := Int) (fun u => u) (fun u => (u = 1 ∧ (∃ a b, a < n ∧ b < n ∧ ((0 < BL a ∧ 0 < AL a) ∧ (0 < BL b ∧ 0 < AL b) ∧ Ex a < Ex b ∧ Am a ≠ 0 ∧ Am b ≠ 0 ∧ K a = K b ∧ St a = St b ∧ As b < Bi a))) ∨ (u = 0 ∧ ¬ (∃ a b, a < n ∧ b < n ∧ ((0 < BL a ∧ 0 < AL a) ∧ (0 < BL b ∧ 0 < AL b) ∧ Ex a < Ex b ∧ Am a ≠ 0 ∧ Am b ≠ 0 ∧ K a = K b ∧ St a = St b ∧ As b < Bi a)))) (fun u => wH ha cA hA nA ed cI cJ cZ td pr up dn dv rw sd mc n mo sh co Ca Cz K St Ex Am Bi As BL AL He Co ++ EE) := by
  refine jj_start (cc := cX3_hasExpiriesFault) (nL := 3) (ret := (some .boolean)) (lv := [(0, .ref (ha 0))]) (fun A => jj_Qi _ _ _ _ _ _ A) hEVh (by decide) rfl (Nat.le_of_ble_eq_true rfl) rfl ?_
  intro p9 e9 s9 m9 a9 b9 me9 c9 A9 C1 hr hin
  have C0 : jj_C p9 s9 m9 a9 me9 c9 (dC, dI) vwCl A9 3 cX3_hasExpiriesFault "Strikehall" lw_U _ EVh := jj_toU C1
  have hw := C0.2.2.2.2.1
  have hE := C0.2.2.2.2.2.2.2.1
  refine jj_iconst C0 dX3_hasExpiriesFault_0 ?_
  refine jj_istore_n C0 (i := 1) rfl (lv' := [(1, .int (iI 0)), (0, .ref (ha 0))]) (by decide) rfl dX3_hasExpiriesFault_1 ?_
  refine jj_ind (X := Nat) (fun q9 => match q9 with | i => (n + 1 - i : Nat)) (fun q9 => match q9 with | i => [(1, .int (iI (i : Int))), (0, .ref (ha 0))]) (fun q9 => match q9 with | i => []) (fun q9 => match q9 with | i => wH ha cA hA nA ed cI cJ cZ td pr up dn dv rw sd mc n mo sh co Ca Cz K St Ex Am Bi As BL AL He Co ++ EE) (fun q9 => match q9 with | i => i ≤ n ∧ ∀ a b, a < i → b < n → ¬ ((0 < BL a ∧ 0 < AL a) ∧ (0 < BL b ∧ 0 < AL b) ∧ Ex a < Ex b ∧ Am a ≠ 0 ∧ Am b ≠ 0 ∧ K a = K b ∧ St a = St b ∧ As b < Bi a)) ?_ 0 ⟨Nat.zero_le _, fun a b h => absurd h (Nat.not_lt_zero _)⟩
  intro q9 hq9 ih2
  obtain ⟨i, rfl⟩ : ∃ z, z = q9 := ⟨_, rfl⟩
  obtain ⟨hi, hno⟩ : i ≤ n ∧ ∀ a b, a < i → b < n → ¬ ((0 < BL a ∧ 0 < AL a) ∧ (0 < BL b ∧ 0 < AL b) ∧ Ex a < Ex b ∧ Am a ≠ 0 ∧ Am b ≠ 0 ∧ K a = K b ∧ St a = St b ∧ As b < Bi a) := hq9
  show jj_W _ _ _ _ _ _ _ _ _ _ _ _ _ _ _ _ _ 2 [(1, .int (iI (i : Int))), (0, .ref (ha 0))] [] (wH ha cA hA nA ed cI cJ cZ td pr up dn dv rw sd mc n mo sh co Ca Cz K St Ex Am Bi As BL AL He Co ++ EE)
  refine jj_iload_n C0 0 rfl dX3_hasExpiriesFault_2 ?_
  refine jj_aload_n C0 1 rfl dX3_hasExpiriesFault_3 ?_
  refine jj_get C0 (ci := 4) (v := .ref (ha 5)) hin_X3 (0) (rfl) rfl 2 (by decide) (hw _ hU_158) (fun _ h9 => h9) rfl dX3_hasExpiriesFault_4 ?_
  refine jj_callVi C0 (cc_Jx4a65c_size_8abf5   ) (cwV 0 hw (lw_gV hU_185 hU_186 hU_187 hU_65 hU_188) rfl rfl rfl (by decide +kernel) ⟨Nat.le_of_ble_eq_true rfl, Nat.le_of_ble_eq_true rfl⟩) (ci := 0) (q0 := 5) rfl (rfl) rfl rfl (Nat.le_of_ble_eq_true rfl) ⟨by decide, by decide⟩ rfl rfl dX3_hasExpiriesFault_7 ?_
  intro _ hu
  show jj_W _ _ _ _ _ _ _ _ _ _ _ _ _ _ _ _ _ 10 _ [.int (iI (n : Int)), .int (iI (i : Int))] (wH ha cA hA nA ed cI cJ cZ td pr up dn dv rw sd mc n mo sh co Ca Cz K St Ex Am Bi As BL AL He Co ++ EE)
  refine jj_icmp_ge C0 (by omega) (by omega) dX3_hasExpiriesFault_10 (tgt := 68) (by decide) (fun c_1 => ?_) (fun c_1 => ?_)
  · refine jj_iconst C0 dX3_hasExpiriesFault_68 ?_
    exact jj_zret C0 hr 0 (by exact Or.inr ⟨rfl, fun ⟨a, b, ha, hb, hf⟩ => hno a b (by omega) hb hf⟩) (rfl) (by omega) (rfl) (by decide) (by decide) dX3_hasExpiriesFault_69
  · refine jj_iconst C0 dX3_hasExpiriesFault_13 ?_
    refine jj_istore_n C0 (i := 2) rfl (lv' := [(2, .int (iI 0)), (1, .int (iI (i : Int))), (0, .ref (ha 0))]) (by decide) rfl dX3_hasExpiriesFault_14 ?_
    refine jj_ind (X := Nat) (fun q9 => match q9 with | j => (n + 1 - j : Nat)) (fun q9 => match q9 with | j => [(2, .int (iI (j : Int))), (1, .int (iI (i : Int))), (0, .ref (ha 0))]) (fun q9 => match q9 with | j => []) (fun q9 => match q9 with | j => wH ha cA hA nA ed cI cJ cZ td pr up dn dv rw sd mc n mo sh co Ca Cz K St Ex Am Bi As BL AL He Co ++ EE) (fun q9 => match q9 with | j => j ≤ n ∧ ∀ b, b < j → ¬ ((0 < BL i ∧ 0 < AL i) ∧ (0 < BL b ∧ 0 < AL b) ∧ Ex i < Ex b ∧ Am i ≠ 0 ∧ Am b ≠ 0 ∧ K i = K b ∧ St i = St b ∧ As b < Bi i)) ?_ 0 ⟨Nat.zero_le _, fun b h => absurd h (Nat.not_lt_zero _)⟩
    intro q9 hq9 ih15
    obtain ⟨j, rfl⟩ : ∃ z, z = q9 := ⟨_, rfl⟩
    obtain ⟨hj, hno2⟩ : j ≤ n ∧ ∀ b, b < j → ¬ ((0 < BL i ∧ 0 < AL i) ∧ (0 < BL b ∧ 0 < AL b) ∧ Ex i < Ex b ∧ Am i ≠ 0 ∧ Am b ≠ 0 ∧ K i = K b ∧ St i = St b ∧ As b < Bi i) := hq9
    show jj_W _ _ _ _ _ _ _ _ _ _ _ _ _ _ _ _ _ 15 [(2, .int (iI (j : Int))), (1, .int (iI (i : Int))), (0, .ref (ha 0))] [] (wH ha cA hA nA ed cI cJ cZ td pr up dn dv rw sd mc n mo sh co Ca Cz K St Ex Am Bi As BL AL He Co ++ EE)
    refine jj_iload_n C0 0 rfl dX3_hasExpiriesFault_15 ?_
    refine jj_aload_n C0 2 rfl dX3_hasExpiriesFault_16 ?_
    refine jj_get C0 (ci := 4) (v := .ref (ha 5)) hin_X3 (0) (rfl) rfl 2 (by decide) (hw _ hU_158) (fun _ h9 => h9) rfl dX3_hasExpiriesFault_17 ?_
    refine jj_callVi C0 (cc_Jx4a65c_size_8abf5   ) (cwV 0 hw (lw_gV hU_185 hU_186 hU_187 hU_65 hU_188) rfl rfl rfl (by decide +kernel) ⟨Nat.le_of_ble_eq_true rfl, Nat.le_of_ble_eq_true rfl⟩) (ci := 0) (q0 := 5) rfl (rfl) rfl rfl (Nat.le_of_ble_eq_true rfl) ⟨by decide, by decide⟩ rfl rfl dX3_hasExpiriesFault_20 ?_
    intro _ hu
    show jj_W _ _ _ _ _ _ _ _ _ _ _ _ _ _ _ _ _ 23 _ [.int (iI (n : Int)), .int (iI (j : Int))] (wH ha cA hA nA ed cI cJ cZ td pr up dn dv rw sd mc n mo sh co Ca Cz K St Ex Am Bi As BL AL He Co ++ EE)
    refine jj_icmp_ge C0 (by omega) (by omega) dX3_hasExpiriesFault_23 (tgt := 62) (by decide) (fun c_2 => ?_) (fun c_2 => ?_)
    · refine jj_iinc C0 (z := ((i + 1 : Nat) : Int)) (lv' := [(1, .int (iI ((i + 1 : Nat) : Int))), (2, .int (iI (j : Int))), (0, .ref (ha 0))]) 1 rfl (by omega) (by decide) rfl dX3_hasExpiriesFault_62 ?_
      refine jj_goto C0 (tgt := 2) dX3_hasExpiriesFault_65 (by decide) ?_
      refine jj_lv [0, 2] rfl ?_
      exact ih2 (i + 1) ⟨by omega, fun a b ha hb => by by_cases e : a = i; subst e; exact hno2 b (by omega); exact hno a b (by omega) hb⟩ (by dsimp only; omega)
    · refine jj_aload_n C0 2 rfl dX3_hasExpiriesFault_26 ?_
      refine jj_get C0 (ci := 4) (v := .ref (ha 5)) hin_X3 (0) (rfl) rfl 2 (by decide) (hw _ hU_158) (fun _ h9 => h9) rfl dX3_hasExpiriesFault_27 ?_
      refine jj_iload_n C0 1 rfl dX3_hasExpiriesFault_30 ?_
      refine jj_callVr C0 (cc_Jx4a65c_get_915e3  (i := i) (by omega) (by first | exact hn | omega) (by first | exact hED | omega)) (cwV 1 hw (lw_gV hU_189 hU_190 hU_191 hU_65 hU_192) rfl rfl rfl (by decide +kernel) ⟨Nat.le_of_ble_eq_true rfl, Nat.le_of_ble_eq_true rfl⟩) (ci := 0) (q0 := 5) rfl (rfl) rfl rfl (Nat.le_of_ble_eq_true rfl) ⟨by decide, by decide⟩ rfl rfl dX3_hasExpiriesFault_31 ?_
      intro _ hu
      show jj_W _ _ _ _ _ _ _ _ _ _ _ _ _ _ _ _ _ 34 _ [.ref (cA i)] (wH ha cA hA nA ed cI cJ cZ td pr up dn dv rw sd mc n mo sh co Ca Cz K St Ex Am Bi As BL AL He Co ++ EE)
      refine jj_cast C0 (ci := 1) (q0 := (8 + (3 * i + 0))) rfl ((wH_c (c := i) (by omega))) (hw _ hU_203) dX3_hasExpiriesFault_34 ?_
      refine jj_aload_n C0 2 rfl dX3_hasExpiriesFault_37 ?_
      refine jj_get C0 (ci := 4) (v := .ref (ha 5)) hin_X3 (0) (rfl) rfl 2 (by decide) (hw _ hU_158) (fun _ h9 => h9) rfl dX3_hasExpiriesFault_38 ?_
      refine jj_iload_n C0 0 rfl dX3_hasExpiriesFault_41 ?_
      refine jj_callVr C0 (cc_Jx4a65c_get_915e3  (i := j) (by omega) (by first | exact hn | omega) (by first | exact hED | omega)) (cwV 1 hw (lw_gV hU_189 hU_190 hU_191 hU_65 hU_192) rfl rfl rfl (by decide +kernel) ⟨Nat.le_of_ble_eq_true rfl, Nat.le_of_ble_eq_true rfl⟩) (ci := 0) (q0 := 5) rfl (rfl) rfl rfl (Nat.le_of_ble_eq_true rfl) ⟨by decide, by decide⟩ rfl rfl dX3_hasExpiriesFault_42 ?_
      intro _ hu
      show jj_W _ _ _ _ _ _ _ _ _ _ _ _ _ _ _ _ _ 45 _ [.ref (cA j), .ref (cA i)] (wH ha cA hA nA ed cI cJ cZ td pr up dn dv rw sd mc n mo sh co Ca Cz K St Ex Am Bi As BL AL He Co ++ EE)
      refine jj_cast C0 (ci := 1) (q0 := (8 + (3 * j + 0))) rfl ((wH_c (c := j) (by omega))) (hw _ hU_203) dX3_hasExpiriesFault_45 ?_
      refine jj_callSi C0 (cc_X3_isExpiriesFault  (i := i) (j := j) (by omega) (by omega) (by first | exact hK | omega) (by first | exact hSt | omega) (by first | exact hEx | omega) (by first | exact hAm | omega) (by first | exact hBi | omega) (by first | exact hAs | omega) (by first | exact hBL | omega) (by first | exact hAL | omega)) (cwS 2 hw (lw_gS hU_258 hU_259 hU_60 hU_260) rfl rfl rfl (by decide +kernel) ⟨Nat.le_of_ble_eq_true rfl, Nat.le_of_ble_eq_true rfl⟩) rfl rfl (Nat.le_of_ble_eq_true rfl) ⟨by decide, by decide⟩ rfl rfl dX3_hasExpiriesFault_48 ?_
      intro u_3 hu
      have hu_48 : (u_3 = 1 ∧ ((0 < BL i ∧ 0 < AL i) ∧ (0 < BL j ∧ 0 < AL j) ∧ Ex i < Ex j ∧ Am i ≠ 0 ∧ Am j ≠ 0 ∧ K i = K j ∧ St i = St j ∧ As j < Bi i)) ∨ (u_3 = 0 ∧ ¬ ((0 < BL i ∧ 0 < AL i) ∧ (0 < BL j ∧ 0 < AL j) ∧ Ex i < Ex j ∧ Am i ≠ 0 ∧ Am j ≠ 0 ∧ K i = K j ∧ St i = St j ∧ As j < Bi i)) := hu
      show jj_W _ _ _ _ _ _ _ _ _ _ _ _ _ _ _ _ _ 51 _ [.int (iI u_3)] (wH ha cA hA nA ed cI cJ cZ td pr up dn dv rw sd mc n mo sh co Ca Cz K St Ex Am Bi As BL AL He Co ++ EE)
      refine jj_if_eq C0 (by omega) dX3_hasExpiriesFault_51 (tgt := 56) (by decide) (fun c_4 => ?_) (fun c_4 => ?_)
      · refine jj_iinc C0 (z := ((j + 1 : Nat) : Int)) (lv' := [(2, .int (iI ((j + 1 : Nat) : Int))), (1, .int (iI (i : Int))), (0, .ref (ha 0))]) 0 rfl (by omega) (by decide) rfl dX3_hasExpiriesFault_56 ?_
        refine jj_goto C0 (tgt := 15) dX3_hasExpiriesFault_59 (by decide) ?_
        exact ih15 (j + 1) ⟨by omega, fun b hb => by by_cases e : b = j; subst e; omega; exact hno2 b (by omega)⟩ (by dsimp only; omega)
      · refine jj_iconst C0 dX3_hasExpiriesFault_54 ?_
        exact jj_zret C0 hr 1 (by exact Or.inl ⟨rfl, i, j, by omega, by omega, by omega⟩) (rfl) (by omega) (rfl) (by decide) (by decide) dX3_hasExpiriesFault_55
set_option maxHeartbeats 4000000 in
set_option maxRecDepth 100000 in
theorem cc_X3_hasMiddleFaultWith  {i j : Nat} (hi : i < n) (hj : j < n) (hn : n ≤ 12) (hED : 0 < n → f_ED cA n ed cO EE) (hK : ∀ j, 0 ≤ K j ∧ K j ≤ 1) (hSt : ∀ j, 0 ≤ St j ∧ St j ≤ 20000) (hEx : ∀ j, 0 ≤ Ex j ∧ Ex j ≤ 200) (hAm : ∀ j, 0 ≤ Am j ∧ Am j ≤ 1) (hBi : ∀ j, 0 ≤ Bi j ∧ Bi j ≤ 20000) (hAs : ∀ j, 0 ≤ As j ∧ As j ≤ 20000) (hBL : ∀ j, 0 ≤ BL j ∧ BL j ≤ 100) (hAL : ∀ j, 0 ≤ AL j ∧ AL j ≤ 100) : jj_Mi EVh (dC, dI) vwCl [(cI, .int), (cJ, .long), (cZ, .boolean), (cO, .object "java/lang/Object")] l yX3_hasMiddleFaultWith (Cond.code yX3_hasMiddleFaultWith cX3_hasMiddleFaultWith 4 (some .boolean) :: lw_U) ({ frames := 3, cells := 0, slots := 0, locals := 64 } : Room) [.ref (ha 0), .ref (cA i), .ref (cA j)] (wH ha cA hA nA ed cI cJ cZ td pr up dn dv rw sd mc n mo sh co Ca Cz K St Ex Am Bi As BL AL He Co ++ EE) (S := Int) (fun u => u) (fun u => (u = 1 ∧ (∃ a, a < n ∧ (((0 < BL i ∧ 0 < AL i) ∧ (0 < BL j ∧ 0 < AL j) ∧ St i < St j ∧ K i = K j ∧ Ex i = Ex j ∧ Am i = Am j) ∧ ((0 < BL j ∧ 0 < AL j) ∧ (0 < BL a ∧ 0 < AL a) ∧ St j < St a ∧ K j = K a ∧ Ex j = Ex a ∧ Am j = Am a) ∧ St j - St i = St a - St j ∧ As i + As a < 2 * Bi j))) ∨ (u = 0 ∧ ¬ (∃ a, a < n ∧ (((0 < BL i ∧ 0 < AL i) ∧ (0 < BL j ∧ 0 < AL j) ∧ St i < St j ∧ K i = K j ∧ Ex i = Ex j ∧ Am i = Am j) ∧ ((0 < BL j ∧ 0 < AL j) ∧ (0 < BL a ∧ 0 < AL a) ∧ St j < St a ∧ K j = K a ∧ Ex j = Ex a ∧ Am j = Am a) ∧ St j - St i = St a - St j ∧ As i + As a < 2 * Bi j)))) (fun u => wH ha cA hA nA ed cI cJ cZ td pr up dn dv rw sd mc n mo sh co Ca Cz K St Ex Am Bi As BL AL He Co ++ EE) := by
  refine jj_start (cc := cX3_hasMiddleFaultWith) (nL := 4) (ret := (some .boolean)) (lv := [(0, .ref (ha 0)), (1, .ref (cA i)), (2, .ref (cA j))]) (fun A => jj_Qi _ _ _ _ _ _ A) hEVh (by decide) rfl (Nat.le_of_ble_eq_true rfl) rfl ?_
  intro p9 e9 s9 m9 a9 b9 me9 c9 A9 C1 hr hin
  have C0 : jj_C p9 s9 m9 a9 me9 c9 (dC, dI) vwCl A9 4 cX3_hasMiddleFaultWith "Strikehall" lw_U _ EVh := jj_toU C1
  have hw := C0.2.2.2.2.1
  have hE := C0.2.2.2.2.2.2.2.1
  refine jj_iconst C0 dX3_hasMiddleFaultWith_0 ?_
  refine jj_istore_n C0 (i := 3) rfl (lv' := [(3, .int (iI 0)), (0, .ref (ha 0)), (1, .ref (cA i)), (2, .ref (cA j))]) (by decide) rfl dX3_hasMiddleFaultWith_1 ?_
  refine jj_ind (X := Nat) (fun q9 => match q9 with | k => (n + 1 - k : Nat)) (fun q9 => match q9 with | k => [(3, .int (iI (k : Int))), (0, .ref (ha 0)), (1, .ref (cA i)), (2, .ref (cA j))]) (fun q9 => match q9 with | k => []) (fun q9 => match q9 with | k => wH ha cA hA nA ed cI cJ cZ td pr up dn dv rw sd mc n mo sh co Ca Cz K St Ex Am Bi As BL AL He Co ++ EE) (fun q9 => match q9 with | k => k ≤ n ∧ ∀ a, a < k → ¬ (((0 < BL i ∧ 0 < AL i) ∧ (0 < BL j ∧ 0 < AL j) ∧ St i < St j ∧ K i = K j ∧ Ex i = Ex j ∧ Am i = Am j) ∧ ((0 < BL j ∧ 0 < AL j) ∧ (0 < BL a ∧ 0 < AL a) ∧ St j < St a ∧ K j = K a ∧ Ex j = Ex a ∧ Am j = Am a) ∧ St j - St i = St a - St j ∧ As i + As a < 2 * Bi j)) ?_ 0 ⟨Nat.zero_le _, fun a h => absurd h (Nat.not_lt_zero _)⟩
  intro q9 hq9 ih2
  obtain ⟨k, rfl⟩ : ∃ z, z = q9 := ⟨_, rfl⟩
  obtain ⟨hk, hno⟩ : k ≤ n ∧ ∀ a, a < k → ¬ (((0 < BL i ∧ 0 < AL i) ∧ (0 < BL j ∧ 0 < AL j) ∧ St i < St j ∧ K i = K j ∧ Ex i = Ex j ∧ Am i = Am j) ∧ ((0 < BL j ∧ 0 < AL j) ∧ (0 < BL a ∧ 0 < AL a) ∧ St j < St a ∧ K j = K a ∧ Ex j = Ex a ∧ Am j = Am a) ∧ St j - St i = St a - St j ∧ As i + As a < 2 * Bi j) := hq9
  show jj_W _ _ _ _ _ _ _ _ _ _ _ _ _ _ _ _ _ 2 [(3, .int (iI (k : Int))), (0, .ref (ha 0)), (1, .ref (cA i)), (2, .ref (cA j))] [] (wH ha cA hA nA ed cI cJ cZ td pr up dn dv rw sd mc n mo sh co Ca Cz K St Ex Am Bi As BL AL He Co ++ EE)
  refine jj_iload_n C0 0 rfl dX3_hasMiddleFaultWith_2 ?_
  refine jj_aload_n C0 1 rfl dX3_hasMiddleFaultWith_3 ?_
  refine jj_get C0 (ci := 4) (v := .ref (ha 5)) hin_X3 (0) (rfl) rfl 2 (by decide) (hw _ hU_158) (fun _ h9 => h9) rfl dX3_hasMiddleFaultWith_4 ?_
  refine jj_callVi C0 (cc_Jx4a65c_size_8abf5   ) (cwV 0 hw (lw_gV hU_185 hU_186 hU_187 hU_65 hU_188) rfl rfl rfl (by decide +kernel) ⟨Nat.le_of_ble_eq_true rfl, Nat.le_of_ble_eq_true rfl⟩) (ci := 0) (q0 := 5) rfl (rfl) rfl rfl (Nat.le_of_ble_eq_true rfl) ⟨by decide, by decide⟩ rfl rfl dX3_hasMiddleFaultWith_7 ?_
  intro _ hu
  show jj_W _ _ _ _ _ _ _ _ _ _ _ _ _ _ _ _ _ 10 _ [.int (iI (n : Int)), .int (iI (k : Int))] (wH ha cA hA nA ed cI cJ cZ td pr up dn dv rw sd mc n mo sh co Ca Cz K St Ex Am Bi As BL AL He Co ++ EE)
  refine jj_icmp_ge C0 (by omega) (by omega) dX3_hasMiddleFaultWith_10 (tgt := 40) (by decide) (fun c_1 => ?_) (fun c_1 => ?_)
  · refine jj_iconst C0 dX3_hasMiddleFaultWith_40 ?_
    exact jj_zret C0 hr 0 (by exact Or.inr ⟨rfl, fun ⟨a, ha, hf⟩ => hno a (by omega) hf⟩) (rfl) (by omega) (rfl) (by decide) (by decide) dX3_hasMiddleFaultWith_41
  · refine jj_aload_n C0 2 rfl dX3_hasMiddleFaultWith_13 ?_
    refine jj_aload_n C0 3 rfl dX3_hasMiddleFaultWith_14 ?_
    refine jj_aload_n C0 1 rfl dX3_hasMiddleFaultWith_15 ?_
    refine jj_get C0 (ci := 4) (v := .ref (ha 5)) hin_X3 (0) (rfl) rfl 2 (by decide) (hw _ hU_158) (fun _ h9 => h9) rfl dX3_hasMiddleFaultWith_16 ?_
    refine jj_iload_n C0 0 rfl dX3_hasMiddleFaultWith_19 ?_
    refine jj_callVr C0 (cc_Jx4a65c_get_915e3  (i := k) (by first | exact hi | omega) (by first | exact hn | omega) (by first | exact hED | omega)) (cwV 1 hw (lw_gV hU_189 hU_190 hU_191 hU_65 hU_192) rfl rfl rfl (by decide +kernel) ⟨Nat.le_of_ble_eq_true rfl, Nat.le_of_ble_eq_true rfl⟩) (ci := 0) (q0 := 5) rfl (rfl) rfl rfl (Nat.le_of_ble_eq_true rfl) ⟨by decide, by decide⟩ rfl rfl dX3_hasMiddleFaultWith_20 ?_
    intro _ hu
    show jj_W _ _ _ _ _ _ _ _ _ _ _ _ _ _ _ _ _ 23 _ [.ref (cA k), .ref (cA j), .ref (cA i)] (wH ha cA hA nA ed cI cJ cZ td pr up dn dv rw sd mc n mo sh co Ca Cz K St Ex Am Bi As BL AL He Co ++ EE)
    refine jj_cast C0 (ci := 1) (q0 := (8 + (3 * k + 0))) rfl ((wH_c (c := k) (by omega))) (hw _ hU_203) dX3_hasMiddleFaultWith_23 ?_
    refine jj_callSi C0 (cc_X3_isMiddleFault  (i := i) (j := j) (k := k) (by first | exact hi | omega) (by first | exact hj | omega) (by omega) (by first | exact hK | omega) (by first | exact hSt | omega) (by first | exact hEx | omega) (by first | exact hAm | omega) (by first | exact hBi | omega) (by first | exact hAs | omega) (by first | exact hBL | omega) (by first | exact hAL | omega)) (cwS 3 hw (lw_gS hU_251 hU_252 hU_60 hU_253) rfl rfl rfl (by decide +kernel) ⟨Nat.le_of_ble_eq_true rfl, Nat.le_of_ble_eq_true rfl⟩) rfl rfl (Nat.le_of_ble_eq_true rfl) ⟨by decide, by decide⟩ rfl rfl dX3_hasMiddleFaultWith_26 ?_
    intro u_2 hu
    have hu_26 : (u_2 = 1 ∧ (((0 < BL i ∧ 0 < AL i) ∧ (0 < BL j ∧ 0 < AL j) ∧ St i < St j ∧ K i = K j ∧ Ex i = Ex j ∧ Am i = Am j) ∧ ((0 < BL j ∧ 0 < AL j) ∧ (0 < BL k ∧ 0 < AL k) ∧ St j < St k ∧ K j = K k ∧ Ex j = Ex k ∧ Am j = Am k) ∧ St j - St i = St k - St j ∧ As i + As k < 2 * Bi j)) ∨ (u_2 = 0 ∧ ¬ (((0 < BL i ∧ 0 < AL i) ∧ (0 < BL j ∧ 0 < AL j) ∧ St i < St j ∧ K i = K j ∧ Ex i = Ex j ∧ Am i = Am j) ∧ ((0 < BL j ∧ 0 < AL j) ∧ (0 < BL k ∧ 0 < AL k) ∧ St j < St k ∧ K j = K k ∧ Ex j = Ex k ∧ Am j = Am k) ∧ St j - St i = St k - St j ∧ As i + As k < 2 * Bi j)) := hu
    show jj_W _ _ _ _ _ _ _ _ _ _ _ _ _ _ _ _ _ 29 _ [.int (iI u_2)] (wH ha cA hA nA ed cI cJ cZ td pr up dn dv rw sd mc n mo sh co Ca Cz K St Ex Am Bi As BL AL He Co ++ EE)
    refine jj_if_eq C0 (by omega) dX3_hasMiddleFaultWith_29 (tgt := 34) (by decide) (fun c_3 => ?_) (fun c_3 => ?_)
    · refine jj_iinc C0 (z := ((k + 1 : Nat) : Int)) (lv' := [(3, .int (iI ((k + 1 : Nat) : Int))), (0, .ref (ha 0)), (1, .ref (cA i)), (2, .ref (cA j))]) 0 rfl (by omega) (by decide) rfl dX3_hasMiddleFaultWith_34 ?_
      refine jj_goto C0 (tgt := 2) dX3_hasMiddleFaultWith_37 (by decide) ?_
      exact ih2 (k + 1) ⟨by omega, fun a ha => by by_cases e : a = k; subst e; omega; exact hno a (by omega)⟩ (by dsimp only; omega)
    · refine jj_iconst C0 dX3_hasMiddleFaultWith_32 ?_
      exact jj_zret C0 hr 1 (by exact Or.inl ⟨rfl, k, by omega, by omega⟩) (rfl) (by omega) (rfl) (by decide) (by decide) dX3_hasMiddleFaultWith_33
set_option maxHeartbeats 4000000 in
set_option maxRecDepth 100000 in
theorem cc_X3_hasMiddleFault   (hn : n ≤ 12) (hED : 0 < n → f_ED cA n ed cO EE) (hK : ∀ j, 0 ≤ K j ∧ K j ≤ 1) (hSt : ∀ j, 0 ≤ St j ∧ St j ≤ 20000) (hEx : ∀ j, 0 ≤ Ex j ∧ Ex j ≤ 200) (hAm : ∀ j, 0 ≤ Am j ∧ Am j ≤ 1) (hBi : ∀ j, 0 ≤ Bi j ∧ Bi j ≤ 20000) (hAs : ∀ j, 0 ≤ As j ∧ As j ≤ 20000) (hBL : ∀ j, 0 ≤ BL j ∧ BL j ≤ 100) (hAL : ∀ j, 0 ≤ AL j ∧ AL j ≤ 100) : jj_Mi EVh (dC, dI) vwCl [(cI, .int), (cJ, .long), (cZ, .boolean), (cO, .object "java/lang/Object")] l yX3_hasMiddleFault (Cond.code yX3_hasMiddleFault cX3_hasMiddleFault 3 (some .boolean) :: lw_U) ({ frames := 4, cells := 0, slots := 0, locals := 87 } : Room) [.ref (ha 0)] (wH ha cA hA nA ed cI cJ cZ td pr up dn dv rw sd mc n mo sh co Ca Cz K St Ex Am Bi As BL AL He Co ++ EE) (S := Int) (fun u => u) (fun u => (u = 1 ∧ (∃ a b, a < n ∧ b < n ∧ ∃ d, d < n ∧ (((0 < BL a ∧ 0 < AL a) ∧ (0 < BL b ∧ 0 < AL b) ∧ St a < St b ∧ K a = K b ∧ Ex a = Ex b ∧ Am a = Am b) ∧ ((0 < BL b ∧ 0 < AL b) ∧ (0 < BL d ∧ 0 < AL d) ∧ St b < St d ∧ K b = K d ∧ Ex b = Ex d ∧ Am b = Am d) ∧ St b - St a = St d - St b ∧ As a + As d < 2 * Bi b))) ∨ (u = 0 ∧ ¬ (∃ a b, a < n ∧ b < n ∧ ∃ d, d < n ∧ (((0 < BL a ∧ 0 < AL a) ∧ (0 < BL b ∧ 0 < AL b) ∧ St a < St b ∧ K a = K b ∧ Ex a = Ex b ∧ Am a = Am b) ∧ ((0 < BL b ∧ 0 < AL b) ∧ (0 < BL d ∧ 0 < AL d) ∧ St b < St d ∧ K b = K d ∧ Ex b = Ex d ∧ Am b = Am d) ∧ St b - St a = St d - St b ∧ As a + As d < 2 * Bi b)))) (fun u => wH ha cA hA nA ed cI cJ cZ td pr up dn dv rw sd mc n mo sh co Ca Cz K St Ex Am Bi As BL AL He Co ++ EE) := by
  refine jj_start (cc := cX3_hasMiddleFault) (nL := 3) (ret := (some .boolean)) (lv := [(0, .ref (ha 0))]) (fun A => jj_Qi _ _ _ _ _ _ A) hEVh (by decide) rfl (Nat.le_of_ble_eq_true rfl) rfl ?_
  intro p9 e9 s9 m9 a9 b9 me9 c9 A9 C1 hr hin
  have C0 : jj_C p9 s9 m9 a9 me9 c9 (dC, dI) vwCl A9 3 cX3_hasMiddleFault "Strikehall" lw_U _ EVh := jj_toU C1
  have hw := C0.2.2.2.2.1
  have hE := C0.2.2.2.2.2.2.2.1
  refine jj_iconst C0 dX3_hasMiddleFault_0 ?_
  refine jj_istore_n C0 (i := 1) rfl (lv' := [(1, .int (iI 0)), (0, .ref (ha 0))]) (by decide) rfl dX3_hasMiddleFault_1 ?_
  refine jj_ind (X := Nat) (fun q9 => match q9 with | i => (n + 1 - i : Nat)) (fun q9 => match q9 with | i => [(1, .int (iI (i : Int))), (0, .ref (ha 0))]) (fun q9 => match q9 with | i => []) (fun q9 => match q9 with | i => wH ha cA hA nA ed cI cJ cZ td pr up dn dv rw sd mc n mo sh co Ca Cz K St Ex Am Bi As BL AL He Co ++ EE) (fun q9 => match q9 with | i => i ≤ n ∧ ∀ a b d, a < i → b < n → d < n → ¬ (((0 < BL a ∧ 0 < AL a) ∧ (0 < BL b ∧ 0 < AL b) ∧ St a < St b ∧ K a = K b ∧ Ex a = Ex b ∧ Am a = Am b) ∧ ((0 < BL b ∧ 0 < AL b) ∧ (0 < BL d ∧ 0 < AL d) ∧ St b < St d ∧ K b = K d ∧ Ex b = Ex d ∧ Am b = Am d) ∧ St b - St a = St d - St b ∧ As a + As d < 2 * Bi b)) ?_ 0 ⟨Nat.zero_le _, fun a b d h => absurd h (Nat.not_lt_zero _)⟩
  intro q9 hq9 ih2
  obtain ⟨i, rfl⟩ : ∃ z, z = q9 := ⟨_, rfl⟩
  obtain ⟨hi, hno⟩ : i ≤ n ∧ ∀ a b d, a < i → b < n → d < n → ¬ (((0 < BL a ∧ 0 < AL a) ∧ (0 < BL b ∧ 0 < AL b) ∧ St a < St b ∧ K a = K b ∧ Ex a = Ex b ∧ Am a = Am b) ∧ ((0 < BL b ∧ 0 < AL b) ∧ (0 < BL d ∧ 0 < AL d) ∧ St b < St d ∧ K b = K d ∧ Ex b = Ex d ∧ Am b = Am d) ∧ St b - St a = St d - St b ∧ As a + As d < 2 * Bi b) := hq9
  show jj_W _ _ _ _ _ _ _ _ _ _ _ _ _ _ _ _ _ 2 [(1, .int (iI (i : Int))), (0, .ref (ha 0))] [] (wH ha cA hA nA ed cI cJ cZ td pr up dn dv rw sd mc n mo sh co Ca Cz K St Ex Am Bi As BL AL He Co ++ EE)
  refine jj_iload_n C0 0 rfl dX3_hasMiddleFault_2 ?_
  refine jj_aload_n C0 1 rfl dX3_hasMiddleFault_3 ?_
  refine jj_get C0 (ci := 4) (v := .ref (ha 5)) hin_X3 (0) (rfl) rfl 2 (by decide) (hw _ hU_158) (fun _ h9 => h9) rfl dX3_hasMiddleFault_4 ?_
  refine jj_callVi C0 (cc_Jx4a65c_size_8abf5   ) (cwV 0 hw (lw_gV hU_185 hU_186 hU_187 hU_65 hU_188) rfl rfl rfl (by decide +kernel) ⟨Nat.le_of_ble_eq_true rfl, Nat.le_of_ble_eq_true rfl⟩) (ci := 0) (q0 := 5) rfl (rfl) rfl rfl (Nat.le_of_ble_eq_true rfl) ⟨by decide, by decide⟩ rfl rfl dX3_hasMiddleFault_7 ?_
  intro _ hu
  show jj_W _ _ _ _ _ _ _ _ _ _ _ _ _ _ _ _ _ 10 _ [.int (iI (n : Int)), .int (iI (i : Int))] (wH ha cA hA nA ed cI cJ cZ td pr up dn dv rw sd mc n mo sh co Ca Cz K St Ex Am Bi As BL AL He Co ++ EE)
  refine jj_icmp_ge C0 (by omega) (by omega) dX3_hasMiddleFault_10 (tgt := 97) (by decide) (fun c_1 => ?_) (fun c_1 => ?_)
  · refine jj_iconst C0 dX3_hasMiddleFault_97 ?_
    exact jj_zret C0 hr 0 (by exact Or.inr ⟨rfl, fun ⟨a, b, ha, hb, d, hd, hf⟩ => hno a b d (by omega) hb hd hf⟩) (rfl) (by omega) (rfl) (by decide) (by decide) dX3_hasMiddleFault_98
  · refine jj_iconst C0 dX3_hasMiddleFault_13 ?_
    refine jj_istore_n C0 (i := 2) rfl (lv' := [(2, .int (iI 0)), (1, .int (iI (i : Int))), (0, .ref (ha 0))]) (by decide) rfl dX3_hasMiddleFault_14 ?_
    refine jj_ind (X := Nat) (fun q9 => match q9 with | j => (n + 1 - j : Nat)) (fun q9 => match q9 with | j => [(2, .int (iI (j : Int))), (1, .int (iI (i : Int))), (0, .ref (ha 0))]) (fun q9 => match q9 with | j => []) (fun q9 => match q9 with | j => wH ha cA hA nA ed cI cJ cZ td pr up dn dv rw sd mc n mo sh co Ca Cz K St Ex Am Bi As BL AL He Co ++ EE) (fun q9 => match q9 with | j => j ≤ n ∧ ∀ b d, b < j → d < n → ¬ (((0 < BL i ∧ 0 < AL i) ∧ (0 < BL b ∧ 0 < AL b) ∧ St i < St b ∧ K i = K b ∧ Ex i = Ex b ∧ Am i = Am b) ∧ ((0 < BL b ∧ 0 < AL b) ∧ (0 < BL d ∧ 0 < AL d) ∧ St b < St d ∧ K b = K d ∧ Ex b = Ex d ∧ Am b = Am d) ∧ St b - St i = St d - St b ∧ As i + As d < 2 * Bi b)) ?_ 0 ⟨Nat.zero_le _, fun b d h => absurd h (Nat.not_lt_zero _)⟩
    intro q9 hq9 ih15
    obtain ⟨j, rfl⟩ : ∃ z, z = q9 := ⟨_, rfl⟩
    obtain ⟨hj, hno2⟩ : j ≤ n ∧ ∀ b d, b < j → d < n → ¬ (((0 < BL i ∧ 0 < AL i) ∧ (0 < BL b ∧ 0 < AL b) ∧ St i < St b ∧ K i = K b ∧ Ex i = Ex b ∧ Am i = Am b) ∧ ((0 < BL b ∧ 0 < AL b) ∧ (0 < BL d ∧ 0 < AL d) ∧ St b < St d ∧ K b = K d ∧ Ex b = Ex d ∧ Am b = Am d) ∧ St b - St i = St d - St b ∧ As i + As d < 2 * Bi b) := hq9
    show jj_W _ _ _ _ _ _ _ _ _ _ _ _ _ _ _ _ _ 15 [(2, .int (iI (j : Int))), (1, .int (iI (i : Int))), (0, .ref (ha 0))] [] (wH ha cA hA nA ed cI cJ cZ td pr up dn dv rw sd mc n mo sh co Ca Cz K St Ex Am Bi As BL AL He Co ++ EE)
    refine jj_iload_n C0 0 rfl dX3_hasMiddleFault_15 ?_
    refine jj_aload_n C0 2 rfl dX3_hasMiddleFault_16 ?_
    refine jj_get C0 (ci := 4) (v := .ref (ha 5)) hin_X3 (0) (rfl) rfl 2 (by decide) (hw _ hU_158) (fun _ h9 => h9) rfl dX3_hasMiddleFault_17 ?_
    refine jj_callVi C0 (cc_Jx4a65c_size_8abf5   ) (cwV 0 hw (lw_gV hU_185 hU_186 hU_187 hU_65 hU_188) rfl rfl rfl (by decide +kernel) ⟨Nat.le_of_ble_eq_true rfl, Nat.le_of_ble_eq_true rfl⟩) (ci := 0) (q0 := 5) rfl (rfl) rfl rfl (Nat.le_of_ble_eq_true rfl) ⟨by decide, by decide⟩ rfl rfl dX3_hasMiddleFault_20 ?_
    intro _ hu
    show jj_W _ _ _ _ _ _ _ _ _ _ _ _ _ _ _ _ _ 23 _ [.int (iI (n : Int)), .int (iI (j : Int))] (wH ha cA hA nA ed cI cJ cZ td pr up dn dv rw sd mc n mo sh co Ca Cz K St Ex Am Bi As BL AL He Co ++ EE)
    refine jj_icmp_ge C0 (by omega) (by omega) dX3_hasMiddleFault_23 (tgt := 91) (by decide) (fun c_2 => ?_) (fun c_2 => ?_)
    · refine jj_iinc C0 (z := ((i + 1 : Nat) : Int)) (lv' := [(1, .int (iI ((i + 1 : Nat) : Int))), (2, .int (iI (j : Int))), (0, .ref (ha 0))]) 1 rfl (by omega) (by decide) rfl dX3_hasMiddleFault_91 ?_
      refine jj_goto C0 (tgt := 2) dX3_hasMiddleFault_94 (by decide) ?_
      refine jj_lv [0, 2] rfl ?_
      exact ih2 (i + 1) ⟨by omega, fun a b d ha hb hd => by by_cases e : a = i; subst e; exact hno2 b d (by omega) hd; exact hno a b d (by omega) hb hd⟩ (by dsimp only; omega)
    · refine jj_aload_n C0 2 rfl dX3_hasMiddleFault_26 ?_
      refine jj_get C0 (ci := 4) (v := .ref (ha 5)) hin_X3 (0) (rfl) rfl 2 (by decide) (hw _ hU_158) (fun _ h9 => h9) rfl dX3_hasMiddleFault_27 ?_
      refine jj_iload_n C0 1 rfl dX3_hasMiddleFault_30 ?_
      refine jj_callVr C0 (cc_Jx4a65c_get_915e3  (i := i) (by omega) (by first | exact hn | omega) (by first | exact hED | omega)) (cwV 1 hw (lw_gV hU_189 hU_190 hU_191 hU_65 hU_192) rfl rfl rfl (by decide +kernel) ⟨Nat.le_of_ble_eq_true rfl, Nat.le_of_ble_eq_true rfl⟩) (ci := 0) (q0 := 5) rfl (rfl) rfl rfl (Nat.le_of_ble_eq_true rfl) ⟨by decide, by decide⟩ rfl rfl dX3_hasMiddleFault_31 ?_
      intro _ hu
      show jj_W _ _ _ _ _ _ _ _ _ _ _ _ _ _ _ _ _ 34 _ [.ref (cA i)] (wH ha cA hA nA ed cI cJ cZ td pr up dn dv rw sd mc n mo sh co Ca Cz K St Ex Am Bi As BL AL He Co ++ EE)
      refine jj_cast C0 (ci := 1) (q0 := (8 + (3 * i + 0))) rfl ((wH_c (c := i) (by omega))) (hw _ hU_203) dX3_hasMiddleFault_34 ?_
      refine jj_aload_n C0 2 rfl dX3_hasMiddleFault_37 ?_
      refine jj_get C0 (ci := 4) (v := .ref (ha 5)) hin_X3 (0) (rfl) rfl 2 (by decide) (hw _ hU_158) (fun _ h9 => h9) rfl dX3_hasMiddleFault_38 ?_
      refine jj_iload_n C0 0 rfl dX3_hasMiddleFault_41 ?_
      refine jj_callVr C0 (cc_Jx4a65c_get_915e3  (i := j) (by omega) (by first | exact hn | omega) (by first | exact hED | omega)) (cwV 1 hw (lw_gV hU_189 hU_190 hU_191 hU_65 hU_192) rfl rfl rfl (by decide +kernel) ⟨Nat.le_of_ble_eq_true rfl, Nat.le_of_ble_eq_true rfl⟩) (ci := 0) (q0 := 5) rfl (rfl) rfl rfl (Nat.le_of_ble_eq_true rfl) ⟨by decide, by decide⟩ rfl rfl dX3_hasMiddleFault_42 ?_
      intro _ hu
      show jj_W _ _ _ _ _ _ _ _ _ _ _ _ _ _ _ _ _ 45 _ [.ref (cA j), .ref (cA i)] (wH ha cA hA nA ed cI cJ cZ td pr up dn dv rw sd mc n mo sh co Ca Cz K St Ex Am Bi As BL AL He Co ++ EE)
      refine jj_cast C0 (ci := 1) (q0 := (8 + (3 * j + 0))) rfl ((wH_c (c := j) (by omega))) (hw _ hU_203) dX3_hasMiddleFault_45 ?_
      refine jj_callSi C0 (cc_X3_isStrikePair  (i := i) (j := j) (by omega) (by omega) (by first | exact hK | omega) (by first | exact hSt | omega) (by first | exact hEx | omega) (by first | exact hAm | omega) (by first | exact hBL | omega) (by first | exact hAL | omega)) (cwS 2 hw (lw_gS hU_240 hU_241 hU_60 hU_242) rfl rfl rfl (by decide +kernel) ⟨Nat.le_of_ble_eq_true rfl, Nat.le_of_ble_eq_true rfl⟩) rfl rfl (Nat.le_of_ble_eq_true rfl) ⟨by decide, by decide⟩ rfl rfl dX3_hasMiddleFault_48 ?_
      intro u_3 hu
      have hu_48 : (u_3 = 1 ∧ ((0 < BL i ∧ 0 < AL i) ∧ (0 < BL j ∧ 0 < AL j) ∧ St i < St j ∧ K i = K j ∧ Ex i = Ex j ∧ Am i = Am j)) ∨ (u_3 = 0 ∧ ¬ ((0 < BL i ∧ 0 < AL i) ∧ (0 < BL j ∧ 0 < AL j) ∧ St i < St j ∧ K i = K j ∧ Ex i = Ex j ∧ Am i = Am j)) := hu
      show jj_W _ _ _ _ _ _ _ _ _ _ _ _ _ _ _ _ _ 51 _ [.int (iI u_3)] (wH ha cA hA nA ed cI cJ cZ td pr up dn dv rw sd mc n mo sh co Ca Cz K St Ex Am Bi As BL AL He Co ++ EE)
      refine jj_if_eq C0 (by omega) dX3_hasMiddleFault_51 (tgt := 85) (by decide) (fun c_4 => ?_) (fun c_4 => ?_)
      · refine jj_iinc C0 (z := ((j + 1 : Nat) : Int)) (lv' := [(2, .int (iI ((j + 1 : Nat) : Int))), (1, .int (iI (i : Int))), (0, .ref (ha 0))]) 0 rfl (by omega) (by decide) rfl dX3_hasMiddleFault_85 ?_
        refine jj_goto C0 (tgt := 15) dX3_hasMiddleFault_88 (by decide) ?_
        exact ih15 (j + 1) ⟨by omega, fun b d hb hd => by by_cases e : b = j; subst e; (first | (exact fun h => hmw ⟨d, hd, h⟩) | (exact fun h => by omega)); exact hno2 b d (by omega) hd⟩ (by dsimp only; omega)
      · refine jj_aload_n C0 2 rfl dX3_hasMiddleFault_54 ?_
        refine jj_aload_n C0 2 rfl dX3_hasMiddleFault_55 ?_
        refine jj_get C0 (ci := 4) (v := .ref (ha 5)) hin_X3 (0) (rfl) rfl 2 (by decide) (hw _ hU_158) (fun _ h9 => h9) rfl dX3_hasMiddleFault_56 ?_
        refine jj_iload_n C0 1 rfl dX3_hasMiddleFault_59 ?_
        refine jj_callVr C0 (cc_Jx4a65c_get_915e3  (i := i) (by omega) (by first | exact hn | omega) (by first | exact hED | omega)) (cwV 1 hw (lw_gV hU_189 hU_190 hU_191 hU_65 hU_192) rfl rfl rfl (by decide +kernel) ⟨Nat.le_of_ble_eq_true rfl, Nat.le_of_ble_eq_true rfl⟩) (ci := 0) (q0 := 5) rfl (rfl) rfl rfl (Nat.le_of_ble_eq_true rfl) ⟨by decide, by decide⟩ rfl rfl dX3_hasMiddleFault_60 ?_
        intro _ hu
        show jj_W _ _ _ _ _ _ _ _ _ _ _ _ _ _ _ _ _ 63 _ [.ref (cA i), .ref (ha 0)] (wH ha cA hA nA ed cI cJ cZ td pr up dn dv rw sd mc n mo sh co Ca Cz K St Ex Am Bi As BL AL He Co ++ EE)
        refine jj_cast C0 (ci := 1) (q0 := (8 + (3 * i + 0))) rfl ((wH_c (c := i) (by omega))) (hw _ hU_203) dX3_hasMiddleFault_63 ?_
        refine jj_aload_n C0 2 rfl dX3_hasMiddleFault_66 ?_
        refine jj_get C0 (ci := 4) (v := .ref (ha 5)) hin_X3 (0) (rfl) rfl 2 (by decide) (hw _ hU_158) (fun _ h9 => h9) rfl dX3_hasMiddleFault_67 ?_
        refine jj_iload_n C0 0 rfl dX3_hasMiddleFault_70 ?_
        refine jj_callVr C0 (cc_Jx4a65c_get_915e3  (i := j) (by omega) (by first | exact hn | omega) (by first | exact hED | omega)) (cwV 1 hw (lw_gV hU_189 hU_190 hU_191 hU_65 hU_192) rfl rfl rfl (by decide +kernel) ⟨Nat.le_of_ble_eq_true rfl, Nat.le_of_ble_eq_true rfl⟩) (ci := 0) (q0 := 5) rfl (rfl) rfl rfl (Nat.le_of_ble_eq_true rfl) ⟨by decide, by decide⟩ rfl rfl dX3_hasMiddleFault_71 ?_
        intro _ hu
        show jj_W _ _ _ _ _ _ _ _ _ _ _ _ _ _ _ _ _ 74 _ [.ref (cA j), .ref (cA i), .ref (ha 0)] (wH ha cA hA nA ed cI cJ cZ td pr up dn dv rw sd mc n mo sh co Ca Cz K St Ex Am Bi As BL AL He Co ++ EE)
        refine jj_cast C0 (ci := 1) (q0 := (8 + (3 * j + 0))) rfl ((wH_c (c := j) (by omega))) (hw _ hU_203) dX3_hasMiddleFault_74 ?_
        refine jj_callVi C0 (cc_X3_hasMiddleFaultWith  (i := i) (j := j) (by omega) (by omega) (by first | exact hn | omega) (by first | exact hED | omega) (by first | exact hK | omega) (by first | exact hSt | omega) (by first | exact hEx | omega) (by first | exact hAm | omega) (by first | exact hBi | omega) (by first | exact hAs | omega) (by first | exact hBL | omega) (by first | exact hAL | omega)) (cwV 2 hw (lw_gV hU_247 hU_249 hU_8 hU_60 hU_250) rfl rfl rfl (by decide +kernel) ⟨Nat.le_of_ble_eq_true rfl, Nat.le_of_ble_eq_true rfl⟩) (ci := 4) (q0 := 0) rfl (rfl) rfl rfl (Nat.le_of_ble_eq_true rfl) ⟨by decide, by decide⟩ rfl rfl dX3_hasMiddleFault_77 ?_
        intro u_5 hu
        have hu_77 : (u_5 = 1 ∧ (∃ a, a < n ∧ (((0 < BL i ∧ 0 < AL i) ∧ (0 < BL j ∧ 0 < AL j) ∧ St i < St j ∧ K i = K j ∧ Ex i = Ex j ∧ Am i = Am j) ∧ ((0 < BL j ∧ 0 < AL j) ∧ (0 < BL a ∧ 0 < AL a) ∧ St j < St a ∧ K j = K a ∧ Ex j = Ex a ∧ Am j = Am a) ∧ St j - St i = St a - St j ∧ As i + As a < 2 * Bi j))) ∨ (u_5 = 0 ∧ ¬ (∃ a, a < n ∧ (((0 < BL i ∧ 0 < AL i) ∧ (0 < BL j ∧ 0 < AL j) ∧ St i < St j ∧ K i = K j ∧ Ex i = Ex j ∧ Am i = Am j) ∧ ((0 < BL j ∧ 0 < AL j) ∧ (0 < BL a ∧ 0 < AL a) ∧ St j < St a ∧ K j = K a ∧ Ex j = Ex a ∧ Am j = Am a) ∧ St j - St i = St a - St j ∧ As i + As a < 2 * Bi j))) := hu
        show jj_W _ _ _ _ _ _ _ _ _ _ _ _ _ _ _ _ _ 80 _ [.int (iI u_5)] (wH ha cA hA nA ed cI cJ cZ td pr up dn dv rw sd mc n mo sh co Ca Cz K St Ex Am Bi As BL AL He Co ++ EE)
        refine jj_if_eq C0 (by omega) dX3_hasMiddleFault_80 (tgt := 85) (by decide) (fun c_6 => ?_) (fun c_6 => ?_)
        · have hmw : ¬ (∃ a, a < n ∧ (((0 < BL i ∧ 0 < AL i) ∧ (0 < BL j ∧ 0 < AL j) ∧ St i < St j ∧ K i = K j ∧ Ex i = Ex j ∧ Am i = Am j) ∧ ((0 < BL j ∧ 0 < AL j) ∧ (0 < BL a ∧ 0 < AL a) ∧ St j < St a ∧ K j = K a ∧ Ex j = Ex a ∧ Am j = Am a) ∧ St j - St i = St a - St j ∧ As i + As a < 2 * Bi j)) := by rcases hu_77 with h | h; omega; exact h.2
          refine jj_iinc C0 (z := ((j + 1 : Nat) : Int)) (lv' := [(2, .int (iI ((j + 1 : Nat) : Int))), (1, .int (iI (i : Int))), (0, .ref (ha 0))]) 0 rfl (by omega) (by decide) rfl dX3_hasMiddleFault_85 ?_
          refine jj_goto C0 (tgt := 15) dX3_hasMiddleFault_88 (by decide) ?_
          exact ih15 (j + 1) ⟨by omega, fun b d hb hd => by by_cases e : b = j; subst e; (first | (exact fun h => hmw ⟨d, hd, h⟩) | (exact fun h => by omega)); exact hno2 b d (by omega) hd⟩ (by dsimp only; omega)
        · refine jj_iconst C0 dX3_hasMiddleFault_83 ?_
          have hmx : (∃ a, a < n ∧ (((0 < BL i ∧ 0 < AL i) ∧ (0 < BL j ∧ 0 < AL j) ∧ St i < St j ∧ K i = K j ∧ Ex i = Ex j ∧ Am i = Am j) ∧ ((0 < BL j ∧ 0 < AL j) ∧ (0 < BL a ∧ 0 < AL a) ∧ St j < St a ∧ K j = K a ∧ Ex j = Ex a ∧ Am j = Am a) ∧ St j - St i = St a - St j ∧ As i + As a < 2 * Bi j)) := by rcases hu_77 with h | h; exact h.2; omega
          exact jj_zret C0 hr 1 (by exact Or.inl ⟨rfl, i, j, by omega, by omega, hmx⟩) (rfl) (by omega) (rfl) (by decide) (by decide) dX3_hasMiddleFault_84
set_option maxHeartbeats 4000000 in
set_option maxRecDepth 100000 in
theorem cc_X3_firstFault   (hn : n ≤ 12) (hED : 0 < n → f_ED cA n ed cO EE) (hK : ∀ j, 0 ≤ K j ∧ K j ≤ 1) (hSt : ∀ j, 0 ≤ St j ∧ St j ≤ 20000) (hEx : ∀ j, 0 ≤ Ex j ∧ Ex j ≤ 200) (hAm : ∀ j, 0 ≤ Am j ∧ Am j ≤ 1) (hBi : ∀ j, 0 ≤ Bi j ∧ Bi j ≤ 20000) (hAs : ∀ j, 0 ≤ As j ∧ As j ≤ 20000) (hBL : ∀ j, 0 ≤ BL j ∧ BL j ≤ 100) (hAL : ∀ j, 0 ≤ AL j ∧ AL j ≤ 100) : jj_Mi EVh (dC, dI) vwCl [(cI, .int), (cJ, .long), (cZ, .boolean), (cO, .object "java/lang/Object")] l yX3_firstFault (Cond.code yX3_firstFault cX3_firstFault 1 (some .int) :: lw_U) ({ frames := 5, cells := 0, slots := 0, locals := 109 } : Room) [.ref (ha 0)] (wH ha cA hA nA ed cI cJ cZ td pr up dn dv rw sd mc n mo sh co Ca Cz K St Ex Am Bi As BL AL He Co ++ EE) (S := Int) (fun u => u) (fun u => (u = 1 ∧ (∃ a, a < n ∧ ((0 < BL a ∧ 0 < AL a) ∧ As a ≤ Bi a))) ∨ (u = 2 ∧ ¬ (∃ a, a < n ∧ ((0 < BL a ∧ 0 < AL a) ∧ As a ≤ Bi a)) ∧ (∃ a b, a < n ∧ b < n ∧ (((0 < BL a ∧ 0 < AL a) ∧ (0 < BL b ∧ 0 < AL b) ∧ St a < St b ∧ K a = K b ∧ Ex a = Ex b ∧ Am a = Am b) ∧ ((K a = 0 ∧ As a < Bi b) ∨ (K a ≠ 0 ∧ As b < Bi a))))) ∨ (u = 3 ∧ ¬ (∃ a, a < n ∧ ((0 < BL a ∧ 0 < AL a) ∧ As a ≤ Bi a)) ∧ ¬ (∃ a b, a < n ∧ b < n ∧ (((0 < BL a ∧ 0 < AL a) ∧ (0 < BL b ∧ 0 < AL b) ∧ St a < St b ∧ K a = K b ∧ Ex a = Ex b ∧ Am a = Am b) ∧ ((K a = 0 ∧ As a < Bi b) ∨ (K a ≠ 0 ∧ As b < Bi a)))) ∧ (∃ a b, a < n ∧ b < n ∧ ∃ d, d < n ∧ (((0 < BL a ∧ 0 < AL a) ∧ (0 < BL b ∧ 0 < AL b) ∧ St a < St b ∧ K a = K b ∧ Ex a = Ex b ∧ Am a = Am b) ∧ ((0 < BL b ∧ 0 < AL b) ∧ (0 < BL d ∧ 0 < AL d) ∧ St b < St d ∧ K b = K d ∧ Ex b = Ex d ∧ Am b = Am d) ∧ St b - St a = St d - St b ∧ As a + As d < 2 * Bi b))) ∨ (u = 4 ∧ ¬ (∃ a, a < n ∧ ((0 < BL a ∧ 0 < AL a) ∧ As a ≤ Bi a)) ∧ ¬ (∃ a b, a < n ∧ b < n ∧ (((0 < BL a ∧ 0 < AL a) ∧ (0 < BL b ∧ 0 < AL b) ∧ St a < St b ∧ K a = K b ∧ Ex a = Ex b ∧ Am a = Am b) ∧ ((K a = 0 ∧ As a < Bi b) ∨ (K a ≠ 0 ∧ As b < Bi a)))) ∧ ¬ (∃ a b, a < n ∧ b < n ∧ ∃ d, d < n ∧ (((0 < BL a ∧ 0 < AL a) ∧ (0 < BL b ∧ 0 < AL b) ∧ St a < St b ∧ K a = K b ∧ Ex a = Ex b ∧ Am a = Am b) ∧ ((0 < BL b ∧ 0 < AL b) ∧ (0 < BL d ∧ 0 < AL d) ∧ St b < St d ∧ K b = K d ∧ Ex b = Ex d ∧ Am b = Am d) ∧ St b - St a = St d - St b ∧ As a + As d < 2 * Bi b)) ∧ (∃ a b, a < n ∧ b < n ∧ ((0 < BL a ∧ 0 < AL a) ∧ (0 < BL b ∧ 0 < AL b) ∧ Ex a < Ex b ∧ Am a ≠ 0 ∧ Am b ≠ 0 ∧ K a = K b ∧ St a = St b ∧ As b < Bi a))) ∨ (u = 0 ∧ ¬ (∃ a, a < n ∧ ((0 < BL a ∧ 0 < AL a) ∧ As a ≤ Bi a)) ∧ ¬ (∃ a b, a < n ∧ b < n ∧ (((0 < BL a ∧ 0 < AL a) ∧ (0 < BL b ∧ 0 < AL b) ∧ St a < St b ∧ K a = K b ∧ Ex a = Ex b ∧ Am a = Am b) ∧ ((K a = 0 ∧ As a < Bi b) ∨ (K a ≠ 0 ∧ As b < Bi a)))) ∧ ¬ (∃ a b, a < n ∧ b < n ∧ ∃ d, d < n ∧ (((0 < BL a ∧ 0 < AL a) ∧ (0 < BL b ∧ 0 < AL b) ∧ St a < St b ∧ K a = K b ∧ Ex a = Ex b ∧ Am a = Am b) ∧ ((0 < BL b ∧ 0 < AL b) ∧ (0 < BL d ∧ 0 < AL d) ∧ St b < St d ∧ K b = K d ∧ Ex b = Ex d ∧ Am b = Am d) ∧ St b - St a = St d - St b ∧ As a + As d < 2 * Bi b)) ∧ ¬ (∃ a b, a < n ∧ b < n ∧ ((0 < BL a ∧ 0 < AL a) ∧ (0 < BL b ∧ 0 < AL b) ∧ Ex a < Ex b ∧ Am a ≠ 0 ∧ Am b ≠ 0 ∧ K a = K b ∧ St a = St b ∧ As b < Bi a)))) (fun u => wH ha cA hA nA ed cI cJ cZ td pr up dn dv rw sd mc n mo sh co Ca Cz K St Ex Am Bi As BL AL He Co ++ EE) := by
  refine jj_start (cc := cX3_firstFault) (nL := 1) (ret := (some .int)) (lv := [(0, .ref (ha 0))]) (fun A => jj_Qi _ _ _ _ _ _ A) hEVh (by decide) rfl (Nat.le_of_ble_eq_true rfl) rfl ?_
  intro p9 e9 s9 m9 a9 b9 me9 c9 A9 C1 hr hin
  have C0 : jj_C p9 s9 m9 a9 me9 c9 (dC, dI) vwCl A9 1 cX3_firstFault "Strikehall" lw_U _ EVh := jj_toU C1
  have hw := C0.2.2.2.2.1
  have hE := C0.2.2.2.2.2.2.2.1
  refine jj_aload_n C0 0 rfl dX3_firstFault_0 ?_
  refine jj_callVi C0 (cc_X3_hasCrossedQuote   (by first | exact hn | omega) (by first | exact hED | omega) (by first | exact hK | omega) (by first | exact hSt | omega) (by first | exact hEx | omega) (by first | exact hAm | omega) (by first | exact hBi | omega) (by first | exact hAs | omega) (by first | exact hBL | omega) (by first | exact hAL | omega)) (cwV 0 hw (lw_gV hU_225 hU_227 hU_4 hU_60 hU_228) rfl rfl rfl (by decide +kernel) ⟨Nat.le_of_ble_eq_true rfl, Nat.le_of_ble_eq_true rfl⟩) (ci := 4) (q0 := 0) rfl (rfl) rfl rfl (Nat.le_of_ble_eq_true rfl) ⟨by decide, by decide⟩ rfl rfl dX3_firstFault_1 ?_
  intro u_1 hu
  have hu_1 : (u_1 = 1 ∧ (∃ a, a < n ∧ ((0 < BL a ∧ 0 < AL a) ∧ As a ≤ Bi a))) ∨ (u_1 = 0 ∧ ¬ (∃ a, a < n ∧ ((0 < BL a ∧ 0 < AL a) ∧ As a ≤ Bi a))) := hu
  show jj_W _ _ _ _ _ _ _ _ _ _ _ _ _ _ _ _ _ 4 _ [.int (iI u_1)] (wH ha cA hA nA ed cI cJ cZ td pr up dn dv rw sd mc n mo sh co Ca Cz K St Ex Am Bi As BL AL He Co ++ EE)
  refine jj_if_eq C0 (by omega) dX3_firstFault_4 (tgt := 9) (by decide) (fun c_2 => ?_) (fun c_2 => ?_)
  · have g1 : ¬ (∃ a, a < n ∧ ((0 < BL a ∧ 0 < AL a) ∧ As a ≤ Bi a)) := by rcases hu_1 with h | h; omega; exact h.2
    refine jj_aload_n C0 0 rfl dX3_firstFault_9 ?_
    refine jj_callVi C0 (cc_X3_hasStrikesFault   (by first | exact hn | omega) (by first | exact hED | omega) (by first | exact hK | omega) (by first | exact hSt | omega) (by first | exact hEx | omega) (by first | exact hAm | omega) (by first | exact hBi | omega) (by first | exact hAs | omega) (by first | exact hBL | omega) (by first | exact hAL | omega)) (cwV 0 hw (lw_gV hU_233 hU_235 hU_6 hU_60 hU_236) rfl rfl rfl (by decide +kernel) ⟨Nat.le_of_ble_eq_true rfl, Nat.le_of_ble_eq_true rfl⟩) (ci := 4) (q0 := 0) rfl (rfl) rfl rfl (Nat.le_of_ble_eq_true rfl) ⟨by decide, by decide⟩ rfl rfl dX3_firstFault_10 ?_
    intro u_3 hu
    have hu_10 : (u_3 = 1 ∧ (∃ a b, a < n ∧ b < n ∧ (((0 < BL a ∧ 0 < AL a) ∧ (0 < BL b ∧ 0 < AL b) ∧ St a < St b ∧ K a = K b ∧ Ex a = Ex b ∧ Am a = Am b) ∧ ((K a = 0 ∧ As a < Bi b) ∨ (K a ≠ 0 ∧ As b < Bi a))))) ∨ (u_3 = 0 ∧ ¬ (∃ a b, a < n ∧ b < n ∧ (((0 < BL a ∧ 0 < AL a) ∧ (0 < BL b ∧ 0 < AL b) ∧ St a < St b ∧ K a = K b ∧ Ex a = Ex b ∧ Am a = Am b) ∧ ((K a = 0 ∧ As a < Bi b) ∨ (K a ≠ 0 ∧ As b < Bi a))))) := hu
    show jj_W _ _ _ _ _ _ _ _ _ _ _ _ _ _ _ _ _ 13 _ [.int (iI u_3)] (wH ha cA hA nA ed cI cJ cZ td pr up dn dv rw sd mc n mo sh co Ca Cz K St Ex Am Bi As BL AL He Co ++ EE)
    refine jj_if_eq C0 (by omega) dX3_firstFault_13 (tgt := 18) (by decide) (fun c_4 => ?_) (fun c_4 => ?_)
    · have g2 : ¬ (∃ a b, a < n ∧ b < n ∧ (((0 < BL a ∧ 0 < AL a) ∧ (0 < BL b ∧ 0 < AL b) ∧ St a < St b ∧ K a = K b ∧ Ex a = Ex b ∧ Am a = Am b) ∧ ((K a = 0 ∧ As a < Bi b) ∨ (K a ≠ 0 ∧ As b < Bi a)))) := by rcases hu_10 with h | h; omega; exact h.2
      refine jj_aload_n C0 0 rfl dX3_firstFault_18 ?_
      refine jj_callVi C0 (cc_X3_hasMiddleFault   (by first | exact hn | omega) (by first | exact hED | omega) (by first | exact hK | omega) (by first | exact hSt | omega) (by first | exact hEx | omega) (by first | exact hAm | omega) (by first | exact hBi | omega) (by first | exact hAs | omega) (by first | exact hBL | omega) (by first | exact hAL | omega)) (cwV 0 hw (lw_gV hU_243 hU_245 hU_7 hU_60 hU_246) rfl rfl rfl (by decide +kernel) ⟨Nat.le_of_ble_eq_true rfl, Nat.le_of_ble_eq_true rfl⟩) (ci := 4) (q0 := 0) rfl (rfl) rfl rfl (Nat.le_of_ble_eq_true rfl) ⟨by decide, by decide⟩ rfl rfl dX3_firstFault_19 ?_
      intro u_5 hu
      have hu_19 : (u_5 = 1 ∧ (∃ a b, a < n ∧ b < n ∧ ∃ d, d < n ∧ (((0 < BL a ∧ 0 < AL a) ∧ (0 < BL b ∧ 0 < AL b) ∧ St a < St b ∧ K a = K b ∧ Ex a = Ex b ∧ Am a = Am b) ∧ ((0 < BL b ∧ 0 < AL b) ∧ (0 < BL d ∧ 0 < AL d) ∧ St b < St d ∧ K b = K d ∧ Ex b = Ex d ∧ Am b = Am d) ∧ St b - St a = St d - St b ∧ As a + As d < 2 * Bi b))) ∨ (u_5 = 0 ∧ ¬ (∃ a b, a < n ∧ b < n ∧ ∃ d, d < n ∧ (((0 < BL a ∧ 0 < AL a) ∧ (0 < BL b ∧ 0 < AL b) ∧ St a < St b ∧ K a = K b ∧ Ex a = Ex b ∧ Am a = Am b) ∧ ((0 < BL b ∧ 0 < AL b) ∧ (0 < BL d ∧ 0 < AL d) ∧ St b < St d ∧ K b = K d ∧ Ex b = Ex d ∧ Am b = Am d) ∧ St b - St a = St d - St b ∧ As a + As d < 2 * Bi b))) := hu
      show jj_W _ _ _ _ _ _ _ _ _ _ _ _ _ _ _ _ _ 22 _ [.int (iI u_5)] (wH ha cA hA nA ed cI cJ cZ td pr up dn dv rw sd mc n mo sh co Ca Cz K St Ex Am Bi As BL AL He Co ++ EE)
      refine jj_if_eq C0 (by omega) dX3_firstFault_22 (tgt := 27) (by decide) (fun c_6 => ?_) (fun c_6 => ?_)
      · have g3 : ¬ (∃ a b, a < n ∧ b < n ∧ ∃ d, d < n ∧ (((0 < BL a ∧ 0 < AL a) ∧ (0 < BL b ∧ 0 < AL b) ∧ St a < St b ∧ K a = K b ∧ Ex a = Ex b ∧ Am a = Am b) ∧ ((0 < BL b ∧ 0 < AL b) ∧ (0 < BL d ∧ 0 < AL d) ∧ St b < St d ∧ K b = K d ∧ Ex b = Ex d ∧ Am b = Am d) ∧ St b - St a = St d - St b ∧ As a + As d < 2 * Bi b)) := by rcases hu_19 with h | h; omega; exact h.2
        refine jj_aload_n C0 0 rfl dX3_firstFault_27 ?_
        refine jj_callVi C0 (cc_X3_hasExpiriesFault   (by first | exact hn | omega) (by first | exact hED | omega) (by first | exact hK | omega) (by first | exact hSt | omega) (by first | exact hEx | omega) (by first | exact hAm | omega) (by first | exact hBi | omega) (by first | exact hAs | omega) (by first | exact hBL | omega) (by first | exact hAL | omega)) (cwV 0 hw (lw_gV hU_254 hU_256 hU_9 hU_60 hU_257) rfl rfl rfl (by decide +kernel) ⟨Nat.le_of_ble_eq_true rfl, Nat.le_of_ble_eq_true rfl⟩) (ci := 4) (q0 := 0) rfl (rfl) rfl rfl (Nat.le_of_ble_eq_true rfl) ⟨by decide, by decide⟩ rfl rfl dX3_firstFault_28 ?_
        intro u_7 hu
        have hu_28 : (u_7 = 1 ∧ (∃ a b, a < n ∧ b < n ∧ ((0 < BL a ∧ 0 < AL a) ∧ (0 < BL b ∧ 0 < AL b) ∧ Ex a < Ex b ∧ Am a ≠ 0 ∧ Am b ≠ 0 ∧ K a = K b ∧ St a = St b ∧ As b < Bi a))) ∨ (u_7 = 0 ∧ ¬ (∃ a b, a < n ∧ b < n ∧ ((0 < BL a ∧ 0 < AL a) ∧ (0 < BL b ∧ 0 < AL b) ∧ Ex a < Ex b ∧ Am a ≠ 0 ∧ Am b ≠ 0 ∧ K a = K b ∧ St a = St b ∧ As b < Bi a))) := hu
        show jj_W _ _ _ _ _ _ _ _ _ _ _ _ _ _ _ _ _ 31 _ [.int (iI u_7)] (wH ha cA hA nA ed cI cJ cZ td pr up dn dv rw sd mc n mo sh co Ca Cz K St Ex Am Bi As BL AL He Co ++ EE)
        refine jj_if_eq C0 (by omega) dX3_firstFault_31 (tgt := 38) (by decide) (fun c_8 => ?_) (fun c_8 => ?_)
        · have g4 : ¬ (∃ a b, a < n ∧ b < n ∧ ((0 < BL a ∧ 0 < AL a) ∧ (0 < BL b ∧ 0 < AL b) ∧ Ex a < Ex b ∧ Am a ≠ 0 ∧ Am b ≠ 0 ∧ K a = K b ∧ St a = St b ∧ As b < Bi a)) := by rcases hu_28 with h | h; omega; exact h.2
          refine jj_iconst C0 dX3_firstFault_38 ?_
          exact jj_iret C0 hr 0 (by first | exact Or.inr (Or.inr (Or.inr (Or.inl ⟨rfl, g1, g2, g3, g4⟩))) | exact Or.inr (Or.inr (Or.inr (Or.inr ⟨rfl, g1, g2, g3, g4⟩)))) (rfl) (rfl) (by decide) (by decide) dX3_firstFault_39
        · have g4 : (∃ a b, a < n ∧ b < n ∧ ((0 < BL a ∧ 0 < AL a) ∧ (0 < BL b ∧ 0 < AL b) ∧ Ex a < Ex b ∧ Am a ≠ 0 ∧ Am b ≠ 0 ∧ K a = K b ∧ St a = St b ∧ As b < Bi a)) := by rcases hu_28 with h | h; exact h.2; omega
          refine jj_iconst C0 dX3_firstFault_34 ?_
          refine jj_goto C0 (tgt := 39) dX3_firstFault_35 (by decide) ?_
          exact jj_iret C0 hr 4 (by first | exact Or.inr (Or.inr (Or.inr (Or.inl ⟨rfl, g1, g2, g3, g4⟩))) | exact Or.inr (Or.inr (Or.inr (Or.inr ⟨rfl, g1, g2, g3, g4⟩)))) (rfl) (rfl) (by decide) (by decide) dX3_firstFault_39
      · have g3 : (∃ a b, a < n ∧ b < n ∧ ∃ d, d < n ∧ (((0 < BL a ∧ 0 < AL a) ∧ (0 < BL b ∧ 0 < AL b) ∧ St a < St b ∧ K a = K b ∧ Ex a = Ex b ∧ Am a = Am b) ∧ ((0 < BL b ∧ 0 < AL b) ∧ (0 < BL d ∧ 0 < AL d) ∧ St b < St d ∧ K b = K d ∧ Ex b = Ex d ∧ Am b = Am d) ∧ St b - St a = St d - St b ∧ As a + As d < 2 * Bi b)) := by rcases hu_19 with h | h; exact h.2; omega
        refine jj_iconst C0 dX3_firstFault_25 ?_
        exact jj_iret C0 hr 3 (by exact Or.inr (Or.inr (Or.inl ⟨rfl, g1, g2, g3⟩))) (rfl) (rfl) (by decide) (by decide) dX3_firstFault_26
    · have g2 : (∃ a b, a < n ∧ b < n ∧ (((0 < BL a ∧ 0 < AL a) ∧ (0 < BL b ∧ 0 < AL b) ∧ St a < St b ∧ K a = K b ∧ Ex a = Ex b ∧ Am a = Am b) ∧ ((K a = 0 ∧ As a < Bi b) ∨ (K a ≠ 0 ∧ As b < Bi a)))) := by rcases hu_10 with h | h; exact h.2; omega
      refine jj_iconst C0 dX3_firstFault_16 ?_
      exact jj_iret C0 hr 2 (by exact Or.inr (Or.inl ⟨rfl, g1, g2⟩)) (rfl) (rfl) (by decide) (by decide) dX3_firstFault_17
  · have g1 : (∃ a, a < n ∧ ((0 < BL a ∧ 0 < AL a) ∧ As a ≤ Bi a)) := by rcases hu_1 with h | h; exact h.2; omega
    refine jj_iconst C0 dX3_firstFault_7 ?_
    exact jj_iret C0 hr 1 (by exact Or.inl ⟨rfl, g1⟩) (rfl) (rfl) (by decide) (by decide) dX3_firstFault_8
end CC4
