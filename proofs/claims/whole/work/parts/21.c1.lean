section CC1
variable {l : Launch} {dC : Nat → ClassId} {dI : Nat → Nat → Nat} {cI cJ cZ cO : ClassId} {EE ws : va_W} {ha cA hA nA : Nat → Nat} {ed : Nat} {td : Nat} {pr up dn : Int} {dv rw : Nat → Int} {sd mc : Int} {n : Nat} {mo sh co : Int} {Ca Cz K St Ex Am Bi As BL AL He Co : Nat → Int}
set_option maxHeartbeats 4000000 in
set_option maxRecDepth 100000 in
theorem cc_X0_paysAt  {c : Nat} {z : Int} (hcn : c < n) (hz5 : -100000 ≤ z ∧ z ≤ 100000) (hK : ∀ j, 0 ≤ K j ∧ K j ≤ 1) (hSt : ∀ j, 0 ≤ St j ∧ St j ≤ 20000) : jj_Mi EVh (dC, dI) vwCl [(cI, .int), (cJ, .long), (cZ, .boolean), (cO, .object "java/lang/Object")] l yX0_paysAt (Cond.code yX0_paysAt cX0_paysAt 2 (some .int) :: lw_U) ({ frames := 1, cells := 0, slots := 0, locals := 13 } : Room) [.ref (cA c), .int (iI z)] (wH ha cA hA nA ed cI cJ cZ td pr up dn dv rw sd mc n mo sh co Ca Cz K St Ex Am Bi As BL AL He Co ++ EE) (S := Unit) (fun _ => (f_pays (K c) (St c) z)) (fun _ => True) (fun _ => wH ha cA hA nA ed cI cJ cZ td pr up dn dv rw sd mc n mo sh co Ca Cz K St Ex Am Bi As BL AL He Co ++ EE) := by
  refine jj_start (cc := cX0_paysAt) (nL := 2) (ret := (some .int)) (lv := [(0, .ref (cA c)), (1, .int (iI z))]) (fun A => jj_Qi _ _ _ _ _ _ A) hEVh (by decide) rfl (Nat.le_of_ble_eq_true rfl) rfl ?_
  intro p9 e9 s9 m9 a9 b9 me9 c9 A9 C1 hr hin
  have C0 : jj_C p9 s9 m9 a9 me9 c9 (dC, dI) vwCl A9 2 cX0_paysAt "Strikehall$Contract" lw_U _ EVh := jj_toU C1
  have hw := C0.2.2.2.2.1
  have hE := C0.2.2.2.2.2.2.2.1
  refine jj_iconst C0 dX0_paysAt_0 ?_
  refine jj_aload_n C0 0 rfl dX0_paysAt_1 ?_
  refine jj_get C0 (ci := 1) (v := .int (iI (K c))) hin_X0 ((8 + (3 * c + 0))) ((wH_c (c := c) (by omega))) rfl 0 (by decide) (hw _ hU_452) (fun _ h9 => h9) rfl dX0_paysAt_2 ?_
  have hb_K_87714 := hK c
  refine jj_if_ne C0 (by omega) dX0_paysAt_5 (tgt := 17) (by decide) (fun c_1 => ?_) (fun c_1 => ?_)
  · refine jj_aload_n C0 0 rfl dX0_paysAt_17 ?_
    refine jj_get C0 (ci := 1) (v := .int (iI (St c))) hin_X0 ((8 + (3 * c + 0))) ((wH_c (c := c) (by omega))) rfl 1 (by decide) (hw _ hU_454) (fun _ h9 => h9) rfl dX0_paysAt_18 ?_
    have hb_St_41094 := hSt c
    refine jj_iload_n C0 1 rfl dX0_paysAt_21 ?_
    refine jj_isub C0 dX0_paysAt_22 ?_
    refine jj_mmax C0 (by omega) (by omega) (hw _ hU_302) (List.forall_mem_cons.mpr ⟨hw _ hU_303, List.forall_mem_cons.mpr ⟨hw _ hU_73, List.forall_mem_cons.mpr ⟨hw _ hU_304, fun _ h => absurd h List.not_mem_nil⟩⟩⟩) (by decide) (Nat.le_of_ble_eq_true rfl) ⟨by decide, by decide⟩ dX0_paysAt_23 ?_
    exact jj_iret C0 hr () (trivial) (by unfold f_pays; first | rw [if_pos (by omega)] | rw [if_neg (by omega)]) (rfl) (by decide) (by decide) dX0_paysAt_26
  · refine jj_iload_n C0 1 rfl dX0_paysAt_8 ?_
    refine jj_aload_n C0 0 rfl dX0_paysAt_9 ?_
    refine jj_get C0 (ci := 1) (v := .int (iI (St c))) hin_X0 ((8 + (3 * c + 0))) ((wH_c (c := c) (by omega))) rfl 1 (by decide) (hw _ hU_454) (fun _ h9 => h9) rfl dX0_paysAt_10 ?_
    have hb_St_41094 := hSt c
    refine jj_isub C0 dX0_paysAt_13 ?_
    refine jj_goto C0 (tgt := 23) dX0_paysAt_14 (by decide) ?_
    refine jj_mmax C0 (by omega) (by omega) (hw _ hU_302) (List.forall_mem_cons.mpr ⟨hw _ hU_303, List.forall_mem_cons.mpr ⟨hw _ hU_73, List.forall_mem_cons.mpr ⟨hw _ hU_304, fun _ h => absurd h List.not_mem_nil⟩⟩⟩) (by decide) (Nat.le_of_ble_eq_true rfl) ⟨by decide, by decide⟩ dX0_paysAt_23 ?_
    exact jj_iret C0 hr () (trivial) (by unfold f_pays; first | rw [if_pos (by omega)] | rw [if_neg (by omega)]) (rfl) (by decide) (by decide) dX0_paysAt_26
set_option maxHeartbeats 4000000 in
set_option maxRecDepth 100000 in
theorem cc_X0_hasSomethingLeft  {c : Nat} (hcn : c < n) (hBL : ∀ j, 0 ≤ BL j ∧ BL j ≤ 100) (hAL : ∀ j, 0 ≤ AL j ∧ AL j ≤ 100) : jj_Mi EVh (dC, dI) vwCl [(cI, .int), (cJ, .long), (cZ, .boolean), (cO, .object "java/lang/Object")] l yX0_hasSomethingLeft (Cond.code yX0_hasSomethingLeft cX0_hasSomethingLeft 1 (some .boolean) :: lw_U) ({ frames := 0, cells := 0, slots := 0, locals := 0 } : Room) [.ref (cA c)] (wH ha cA hA nA ed cI cJ cZ td pr up dn dv rw sd mc n mo sh co Ca Cz K St Ex Am Bi As BL AL He Co ++ EE) (S := Int) (fun u => u) (fun u => (u = 1 ∧ (0 < BL c ∨ 0 < AL c)) ∨ (u = 0 ∧ ¬ (0 < BL c ∨ 0 < AL c))) (fun u => wH ha cA hA nA ed cI cJ cZ td pr up dn dv rw sd mc n mo sh co Ca Cz K St Ex Am Bi As BL AL He Co ++ EE) := by
  refine jj_start (cc := cX0_hasSomethingLeft) (nL := 1) (ret := (some .boolean)) (lv := [(0, .ref (cA c))]) (fun A => jj_Qi _ _ _ _ _ _ A) hEVh (by decide) rfl (Nat.le_of_ble_eq_true rfl) rfl ?_
  intro p9 e9 s9 m9 a9 b9 me9 c9 A9 C1 hr hin
  have C0 : jj_C p9 s9 m9 a9 me9 c9 (dC, dI) vwCl A9 1 cX0_hasSomethingLeft "Strikehall$Contract" lw_U _ EVh := jj_toU C1
  have hw := C0.2.2.2.2.1
  have hE := C0.2.2.2.2.2.2.2.1
  refine jj_aload_n C0 0 rfl dX0_hasSomethingLeft_0 ?_
  refine jj_get C0 (ci := 1) (v := .int (iI (BL c))) hin_X0 ((8 + (3 * c + 0))) ((wH_c (c := c) (by omega))) rfl 8 (by decide) (hw _ hU_468) (fun _ h9 => h9) rfl dX0_hasSomethingLeft_1 ?_
  have hb_BL_58307 := hBL c
  refine jj_if_gt C0 (by omega) dX0_hasSomethingLeft_4 (tgt := 14) (by decide) (fun c_1 => ?_) (fun c_1 => ?_)
  · refine jj_iconst C0 dX0_hasSomethingLeft_14 ?_
    refine jj_goto C0 (tgt := 19) dX0_hasSomethingLeft_15 (by decide) ?_
    exact jj_zret C0 hr 1 (by omega) (rfl) (by omega) (rfl) (by decide) (by decide) dX0_hasSomethingLeft_19
  · refine jj_aload_n C0 0 rfl dX0_hasSomethingLeft_7 ?_
    refine jj_get C0 (ci := 1) (v := .int (iI (AL c))) hin_X0 ((8 + (3 * c + 0))) ((wH_c (c := c) (by omega))) rfl 9 (by decide) (hw _ hU_470) (fun _ h9 => h9) rfl dX0_hasSomethingLeft_8 ?_
    have hb_AL_87852 := hAL c
    refine jj_if_le C0 (by omega) dX0_hasSomethingLeft_11 (tgt := 18) (by decide) (fun c_2 => ?_) (fun c_2 => ?_)
    · refine jj_iconst C0 dX0_hasSomethingLeft_18 ?_
      exact jj_zret C0 hr 0 (by omega) (rfl) (by omega) (rfl) (by decide) (by decide) dX0_hasSomethingLeft_19
    · refine jj_iconst C0 dX0_hasSomethingLeft_14 ?_
      refine jj_goto C0 (tgt := 19) dX0_hasSomethingLeft_15 (by decide) ?_
      exact jj_zret C0 hr 1 (by omega) (rfl) (by omega) (rfl) (by decide) (by decide) dX0_hasSomethingLeft_19
set_option maxHeartbeats 4000000 in
set_option maxRecDepth 100000 in
theorem cc_X0_isQuotedBoth  {c : Nat} (hcn : c < n) (hBL : ∀ j, 0 ≤ BL j ∧ BL j ≤ 100) (hAL : ∀ j, 0 ≤ AL j ∧ AL j ≤ 100) : jj_Mi EVh (dC, dI) vwCl [(cI, .int), (cJ, .long), (cZ, .boolean), (cO, .object "java/lang/Object")] l yX0_isQuotedBoth (Cond.code yX0_isQuotedBoth cX0_isQuotedBoth 1 (some .boolean) :: lw_U) ({ frames := 0, cells := 0, slots := 0, locals := 0 } : Room) [.ref (cA c)] (wH ha cA hA nA ed cI cJ cZ td pr up dn dv rw sd mc n mo sh co Ca Cz K St Ex Am Bi As BL AL He Co ++ EE) (S := Int) (fun u => u) (fun u => (u = 1 ∧ (0 < BL c ∧ 0 < AL c)) ∨ (u = 0 ∧ ¬ (0 < BL c ∧ 0 < AL c))) (fun u => wH ha cA hA nA ed cI cJ cZ td pr up dn dv rw sd mc n mo sh co Ca Cz K St Ex Am Bi As BL AL He Co ++ EE) := by
  refine jj_start (cc := cX0_isQuotedBoth) (nL := 1) (ret := (some .boolean)) (lv := [(0, .ref (cA c))]) (fun A => jj_Qi _ _ _ _ _ _ A) hEVh (by decide) rfl (Nat.le_of_ble_eq_true rfl) rfl ?_
  intro p9 e9 s9 m9 a9 b9 me9 c9 A9 C1 hr hin
  have C0 : jj_C p9 s9 m9 a9 me9 c9 (dC, dI) vwCl A9 1 cX0_isQuotedBoth "Strikehall$Contract" lw_U _ EVh := jj_toU C1
  have hw := C0.2.2.2.2.1
  have hE := C0.2.2.2.2.2.2.2.1
  refine jj_aload_n C0 0 rfl dX0_isQuotedBoth_0 ?_
  refine jj_get C0 (ci := 1) (v := .int (iI (BL c))) hin_X0 ((8 + (3 * c + 0))) ((wH_c (c := c) (by omega))) rfl 8 (by decide) (hw _ hU_468) (fun _ h9 => h9) rfl dX0_isQuotedBoth_1 ?_
  have hb_BL_58307 := hBL c
  refine jj_if_le C0 (by omega) dX0_isQuotedBoth_4 (tgt := 18) (by decide) (fun c_1 => ?_) (fun c_1 => ?_)
  · refine jj_iconst C0 dX0_isQuotedBoth_18 ?_
    exact jj_zret C0 hr 0 (by omega) (rfl) (by omega) (rfl) (by decide) (by decide) dX0_isQuotedBoth_19
  · refine jj_aload_n C0 0 rfl dX0_isQuotedBoth_7 ?_
    refine jj_get C0 (ci := 1) (v := .int (iI (AL c))) hin_X0 ((8 + (3 * c + 0))) ((wH_c (c := c) (by omega))) rfl 9 (by decide) (hw _ hU_470) (fun _ h9 => h9) rfl dX0_isQuotedBoth_8 ?_
    have hb_AL_87852 := hAL c
    refine jj_if_le C0 (by omega) dX0_isQuotedBoth_11 (tgt := 18) (by decide) (fun c_2 => ?_) (fun c_2 => ?_)
    · refine jj_iconst C0 dX0_isQuotedBoth_18 ?_
      exact jj_zret C0 hr 0 (by omega) (rfl) (by omega) (rfl) (by decide) (by decide) dX0_isQuotedBoth_19
    · refine jj_iconst C0 dX0_isQuotedBoth_14 ?_
      refine jj_goto C0 (tgt := 19) dX0_isQuotedBoth_15 (by decide) ?_
      exact jj_zret C0 hr 1 (by omega) (rfl) (by omega) (rfl) (by decide) (by decide) dX0_isQuotedBoth_19
set_option maxHeartbeats 4000000 in
set_option maxRecDepth 100000 in
theorem cc_X0_tellQuote  {c : Nat} {x y z : Int} (hz : 0 ≤ z ∧ z ≤ 100) (hcn : c < n) (hBL : ∀ j, 0 ≤ BL j ∧ BL j ≤ 100) (hAL : ∀ j, 0 ≤ AL j ∧ AL j ≤ 100) : jj_Mv EVh (dC, dI) vwCl [(cI, .int), (cJ, .long), (cZ, .boolean), (cO, .object "java/lang/Object")] l yX0_tellQuote (Cond.code yX0_tellQuote cX0_tellQuote 4 none :: lw_U) ({ frames := 0, cells := 0, slots := 0, locals := 0 } : Room) [.ref (cA c), .int (iI x), .int (iI y), .int (iI z)] (wH ha cA hA nA ed cI cJ cZ td pr up dn dv rw sd mc n mo sh co Ca Cz K St Ex Am Bi As BL AL He Co ++ EE) (S := Unit)  (fun _ => True) (fun _ => wH ha cA hA nA ed cI cJ cZ td pr up dn dv rw sd mc n mo sh co Ca Cz K St Ex Am (va_up Bi c (if 0 < z then x else 0)) (va_up As c (if 0 < z then y else 0)) (va_up BL c z) (va_up AL c z) He Co ++ EE) := by
  refine jj_start (cc := cX0_tellQuote) (nL := 4) (ret := none) (lv := [(0, .ref (cA c)), (1, .int (iI x)), (2, .int (iI y)), (3, .int (iI z))]) (fun A => jj_Qv _ _ _ _ _ A) hEVh (by decide) rfl (Nat.le_of_ble_eq_true rfl) rfl ?_
  intro p9 e9 s9 m9 a9 b9 me9 c9 A9 C1 hr hin
  have C0 : jj_C p9 s9 m9 a9 me9 c9 (dC, dI) vwCl A9 4 cX0_tellQuote "Strikehall$Contract" lw_U _ EVh := jj_toU C1
  have hw := C0.2.2.2.2.1
  have hE := C0.2.2.2.2.2.2.2.1
  refine jj_aload_n C0 0 rfl dX0_tellQuote_0 ?_
  refine jj_join (X := Unit) (pcj := 10) (fun q9 => match q9 with | () => [(0, .ref (cA c)), (1, .int (iI x)), (2, .int (iI y)), (3, .int (iI z))]) (fun q9 => match q9 with | () => [.int (iI (if 0 < z then x else 0)), .ref (cA c)]) (fun q9 => match q9 with | () => wH ha cA hA nA ed cI cJ cZ td pr up dn dv rw sd mc n mo sh co Ca Cz K St Ex Am Bi As BL AL He Co ++ EE) (fun q9 => match q9 with | () => True) ?_ ?_
  · intro q9 hq9
    obtain ⟨⟩ := q9
    have _ : True := hq9
    refine jj_put C0 (ci := 1) (v := .int (iI (if 0 < z then x else 0))) (ty := .int) hin_X0 tyX0 tyX0_ok nmX0 ((8 + (3 * c + 0))) ((wH_c (c := c) (by omega))) rfl 6 (by decide) (hw _ hU_464) (fun _ h9 => h9) rfl (by decide +kernel) (rfl) rfl (Nat.le_of_ble_eq_true rfl) (ws' := wH ha cA hA nA ed cI cJ cZ td pr up dn dv rw sd mc n mo sh co Ca Cz K St Ex Am (va_up Bi c (if 0 < z then x else 0)) As BL AL He Co ++ EE) (wH_Bi (by omega)) dX0_tellQuote_10 ?_
    refine jj_aload_n C0 0 rfl dX0_tellQuote_13 ?_
    refine jj_join (X := Unit) (pcj := 23) (fun q9 => match q9 with | () => [(0, .ref (cA c)), (1, .int (iI x)), (2, .int (iI y)), (3, .int (iI z))]) (fun q9 => match q9 with | () => [.int (iI (if 0 < z then y else 0)), .ref (cA c)]) (fun q9 => match q9 with | () => wH ha cA hA nA ed cI cJ cZ td pr up dn dv rw sd mc n mo sh co Ca Cz K St Ex Am (va_up Bi c (if 0 < z then x else 0)) As BL AL He Co ++ EE) (fun q9 => match q9 with | () => True) ?_ ?_
    · intro q9 hq9
      obtain ⟨⟩ := q9
      have _ : True := hq9
      refine jj_put C0 (ci := 1) (v := .int (iI (if 0 < z then y else 0))) (ty := .int) hin_X0 tyX0 tyX0_ok nmX0 ((8 + (3 * c + 0))) ((wH_c (c := c) (by omega))) rfl 7 (by decide) (hw _ hU_466) (fun _ h9 => h9) rfl (by decide +kernel) (rfl) rfl (Nat.le_of_ble_eq_true rfl) (ws' := wH ha cA hA nA ed cI cJ cZ td pr up dn dv rw sd mc n mo sh co Ca Cz K St Ex Am (va_up Bi c (if 0 < z then x else 0)) (va_up As c (if 0 < z then y else 0)) BL AL He Co ++ EE) (wH_As (by omega)) dX0_tellQuote_23 ?_
      refine jj_aload_n C0 0 rfl dX0_tellQuote_26 ?_
      refine jj_iload_n C0 3 rfl dX0_tellQuote_27 ?_
      refine jj_put C0 (ci := 1) (v := .int (iI z)) (ty := .int) hin_X0 tyX0 tyX0_ok nmX0 ((8 + (3 * c + 0))) ((wH_c (c := c) (by omega))) rfl 8 (by decide) (hw _ hU_468) (fun _ h9 => h9) rfl (by decide +kernel) (rfl) rfl (Nat.le_of_ble_eq_true rfl) (ws' := wH ha cA hA nA ed cI cJ cZ td pr up dn dv rw sd mc n mo sh co Ca Cz K St Ex Am (va_up Bi c (if 0 < z then x else 0)) (va_up As c (if 0 < z then y else 0)) (va_up BL c z) AL He Co ++ EE) (wH_BL (by omega)) dX0_tellQuote_28 ?_
      refine jj_aload_n C0 0 rfl dX0_tellQuote_31 ?_
      refine jj_iload_n C0 3 rfl dX0_tellQuote_32 ?_
      refine jj_put C0 (ci := 1) (v := .int (iI z)) (ty := .int) hin_X0 tyX0 tyX0_ok nmX0 ((8 + (3 * c + 0))) ((wH_c (c := c) (by omega))) rfl 9 (by decide) (hw _ hU_470) (fun _ h9 => h9) rfl (by decide +kernel) (rfl) rfl (Nat.le_of_ble_eq_true rfl) (ws' := wH ha cA hA nA ed cI cJ cZ td pr up dn dv rw sd mc n mo sh co Ca Cz K St Ex Am (va_up Bi c (if 0 < z then x else 0)) (va_up As c (if 0 < z then y else 0)) (va_up BL c z) (va_up AL c z) He Co ++ EE) (wH_AL (by omega)) dX0_tellQuote_33 ?_
      exact jj_vret C0 hr () (trivial) (rfl) (by decide) (by decide) dX0_tellQuote_36
    intro j23
    refine jj_iload_n C0 3 rfl dX0_tellQuote_14 ?_
    refine jj_if_le C0 (by omega) dX0_tellQuote_15 (tgt := 22) (by decide) (fun c_1 => ?_) (fun c_1 => ?_)
    · refine jj_iconst C0 dX0_tellQuote_22 ?_
      refine jj_topi (b := (if 0 < z then y else 0)) (by first | rw [if_pos (by omega)] | rw [if_neg (by omega)]) ?_
      exact j23 () trivial
    · refine jj_iload_n C0 2 rfl dX0_tellQuote_18 ?_
      refine jj_goto C0 (tgt := 23) dX0_tellQuote_19 (by decide) ?_
      refine jj_topi (b := (if 0 < z then y else 0)) (by first | rw [if_pos (by omega)] | rw [if_neg (by omega)]) ?_
      exact j23 () trivial
  intro j10
  refine jj_iload_n C0 3 rfl dX0_tellQuote_1 ?_
  refine jj_if_le C0 (by omega) dX0_tellQuote_2 (tgt := 9) (by decide) (fun c_2 => ?_) (fun c_2 => ?_)
  · refine jj_iconst C0 dX0_tellQuote_9 ?_
    refine jj_topi (b := (if 0 < z then x else 0)) (by first | rw [if_pos (by omega)] | rw [if_neg (by omega)]) ?_
    exact j10 () trivial
  · refine jj_iload_n C0 1 rfl dX0_tellQuote_5 ?_
    refine jj_goto C0 (tgt := 10) dX0_tellQuote_6 (by decide) ?_
    refine jj_topi (b := (if 0 < z then x else 0)) (by first | rw [if_pos (by omega)] | rw [if_neg (by omega)]) ?_
    exact j10 () trivial
set_option maxHeartbeats 4000000 in
set_option maxRecDepth 100000 in
theorem cc_X0_takeQuoteAway  {c : Nat} (hcn : c < n) (hBL : ∀ j, 0 ≤ BL j ∧ BL j ≤ 100) (hAL : ∀ j, 0 ≤ AL j ∧ AL j ≤ 100) : jj_Mv EVh (dC, dI) vwCl [(cI, .int), (cJ, .long), (cZ, .boolean), (cO, .object "java/lang/Object")] l yX0_takeQuoteAway (Cond.code yX0_takeQuoteAway cX0_takeQuoteAway 1 none :: lw_U) ({ frames := 1, cells := 0, slots := 0, locals := 23 } : Room) [.ref (cA c)] (wH ha cA hA nA ed cI cJ cZ td pr up dn dv rw sd mc n mo sh co Ca Cz K St Ex Am Bi As BL AL He Co ++ EE) (S := Unit)  (fun _ => True) (fun _ => wH ha cA hA nA ed cI cJ cZ td pr up dn dv rw sd mc n mo sh co Ca Cz K St Ex Am (va_up Bi c 0) (va_up As c 0) (va_up BL c 0) (va_up AL c 0) He Co ++ EE) := by
  refine jj_start (cc := cX0_takeQuoteAway) (nL := 1) (ret := none) (lv := [(0, .ref (cA c))]) (fun A => jj_Qv _ _ _ _ _ A) hEVh (by decide) rfl (Nat.le_of_ble_eq_true rfl) rfl ?_
  intro p9 e9 s9 m9 a9 b9 me9 c9 A9 C1 hr hin
  have C0 : jj_C p9 s9 m9 a9 me9 c9 (dC, dI) vwCl A9 1 cX0_takeQuoteAway "Strikehall$Contract" lw_U _ EVh := jj_toU C1
  have hw := C0.2.2.2.2.1
  have hE := C0.2.2.2.2.2.2.2.1
  refine jj_aload_n C0 0 rfl dX0_takeQuoteAway_0 ?_
  refine jj_iconst C0 dX0_takeQuoteAway_1 ?_
  refine jj_iconst C0 dX0_takeQuoteAway_2 ?_
  refine jj_iconst C0 dX0_takeQuoteAway_3 ?_
  refine jj_callVv C0 (cc_X0_tellQuote  (c := c) (x := 0) (y := 0) (z := 0) (by omega) (by first | exact hcn | omega) (by first | exact hBL | omega) (by first | exact hAL | omega)) (cwV 3 hw (lw_gV hU_213 hU_215 hU_2 hU_75 hU_216) rfl rfl rfl (by decide +kernel) ⟨Nat.le_of_ble_eq_true rfl, Nat.le_of_ble_eq_true rfl⟩) (ci := 1) (q0 := (8 + (3 * c + 0))) rfl ((wH_c (c := c) (by omega))) rfl rfl (Nat.le_of_ble_eq_true rfl) ⟨by decide, by decide⟩ rfl rfl dX0_takeQuoteAway_4 ?_
  intro _ hu
  show jj_W _ _ _ _ _ _ _ _ _ _ _ _ _ _ _ _ _ 7 _ [] (wH ha cA hA nA ed cI cJ cZ td pr up dn dv rw sd mc n mo sh co Ca Cz K St Ex Am (va_up Bi c (if 0 < 0 then 0 else 0)) (va_up As c (if 0 < 0 then 0 else 0)) (va_up BL c 0) (va_up AL c 0) He Co ++ EE)
  exact jj_vret C0 hr () (trivial) (by simp) (by decide) (by decide) dX0_takeQuoteAway_7
set_option maxHeartbeats 4000000 in
set_option maxRecDepth 100000 in
theorem cc_X0_endQuoteUsedUp  {c : Nat} (hcn : c < n) (hBL : ∀ j, 0 ≤ BL j ∧ BL j ≤ 100) (hAL : ∀ j, 0 ≤ AL j ∧ AL j ≤ 100) : jj_Mv EVh (dC, dI) vwCl [(cI, .int), (cJ, .long), (cZ, .boolean), (cO, .object "java/lang/Object")] l yX0_endQuoteUsedUp (Cond.code yX0_endQuoteUsedUp cX0_endQuoteUsedUp 1 none :: lw_U) ({ frames := 2, cells := 0, slots := 0, locals := 43 } : Room) [.ref (cA c)] (wH ha cA hA nA ed cI cJ cZ td pr up dn dv rw sd mc n mo sh co Ca Cz K St Ex Am Bi As BL AL He Co ++ EE) (S := Unit)  (fun _ => True) (fun _ => wH ha cA hA nA ed cI cJ cZ td pr up dn dv rw sd mc n mo sh co Ca Cz K St Ex Am (va_up Bi c (if 0 < BL c ∨ 0 < AL c then Bi c else 0)) (va_up As c (if 0 < BL c ∨ 0 < AL c then As c else 0)) BL AL He Co ++ EE) := by
  refine jj_start (cc := cX0_endQuoteUsedUp) (nL := 1) (ret := none) (lv := [(0, .ref (cA c))]) (fun A => jj_Qv _ _ _ _ _ A) hEVh (by decide) rfl (Nat.le_of_ble_eq_true rfl) rfl ?_
  intro p9 e9 s9 m9 a9 b9 me9 c9 A9 C1 hr hin
  have C0 : jj_C p9 s9 m9 a9 me9 c9 (dC, dI) vwCl A9 1 cX0_endQuoteUsedUp "Strikehall$Contract" lw_U _ EVh := jj_toU C1
  have hw := C0.2.2.2.2.1
  have hE := C0.2.2.2.2.2.2.2.1
  refine jj_aload_n C0 0 rfl dX0_endQuoteUsedUp_0 ?_
  refine jj_callVi C0 (cc_X0_hasSomethingLeft  (c := c) (by first | exact hcn | omega) (by first | exact hBL | omega) (by first | exact hAL | omega)) (cwV 0 hw (lw_gV hU_624 hU_206 hU_0 hU_75 hU_208) rfl rfl rfl (by decide +kernel) ⟨Nat.le_of_ble_eq_true rfl, Nat.le_of_ble_eq_true rfl⟩) (ci := 1) (q0 := (8 + (3 * c + 0))) rfl ((wH_c (c := c) (by omega))) rfl rfl (Nat.le_of_ble_eq_true rfl) ⟨by decide, by decide⟩ rfl rfl dX0_endQuoteUsedUp_1 ?_
  intro u_1 hu
  have hu_1 : (u_1 = 1 ∧ (0 < BL c ∨ 0 < AL c)) ∨ (u_1 = 0 ∧ ¬ (0 < BL c ∨ 0 < AL c)) := hu
  show jj_W _ _ _ _ _ _ _ _ _ _ _ _ _ _ _ _ _ 4 _ [.int (iI u_1)] (wH ha cA hA nA ed cI cJ cZ td pr up dn dv rw sd mc n mo sh co Ca Cz K St Ex Am Bi As BL AL He Co ++ EE)
  have hq := hu_1
  have hb1 := hBL c
  have hb2 := hAL c
  refine jj_if_ne C0 (by omega) dX0_endQuoteUsedUp_4 (tgt := 11) (by decide) (fun c_2 => ?_) (fun c_2 => ?_)
  · exact jj_vret C0 hr () (trivial) (by first | rw [if_pos (by omega), if_pos (by omega), up_id, up_id] | rw [if_neg (by omega), if_neg (by omega), up_z (f := BL) (by omega), up_z (f := AL) (by omega)]) (by decide) (by decide) dX0_endQuoteUsedUp_11
  · refine jj_aload_n C0 0 rfl dX0_endQuoteUsedUp_7 ?_
    refine jj_callVv C0 (cc_X0_takeQuoteAway  (c := c) (by first | exact hcn | omega) (by first | exact hBL | omega) (by first | exact hAL | omega)) (cwV 0 hw (lw_gV hU_625 hU_211 hU_1 hU_75 hU_212) rfl rfl rfl (by decide +kernel) ⟨Nat.le_of_ble_eq_true rfl, Nat.le_of_ble_eq_true rfl⟩) (ci := 1) (q0 := (8 + (3 * c + 0))) rfl ((wH_c (c := c) (by omega))) rfl rfl (Nat.le_of_ble_eq_true rfl) ⟨by decide, by decide⟩ rfl rfl dX0_endQuoteUsedUp_8 ?_
    intro _ hu
    show jj_W _ _ _ _ _ _ _ _ _ _ _ _ _ _ _ _ _ 11 _ [] (wH ha cA hA nA ed cI cJ cZ td pr up dn dv rw sd mc n mo sh co Ca Cz K St Ex Am (va_up Bi c 0) (va_up As c 0) (va_up BL c 0) (va_up AL c 0) He Co ++ EE)
    exact jj_vret C0 hr () (trivial) (by first | rw [if_pos (by omega), if_pos (by omega), up_id, up_id] | rw [if_neg (by omega), if_neg (by omega), up_z (f := BL) (by omega), up_z (f := AL) (by omega)]) (by decide) (by decide) dX0_endQuoteUsedUp_11
set_option maxHeartbeats 4000000 in
set_option maxRecDepth 100000 in
theorem cc_X0_lotsAt  {c k : Nat} (hkk : k ≤ 6) (hcn : c < n) : jj_Mi EVh (dC, dI) vwCl [(cI, .int), (cJ, .long), (cZ, .boolean), (cO, .object "java/lang/Object")] l yX0_lotsAt (Cond.code yX0_lotsAt cX0_lotsAt 2 (some .int) :: lw_U) ({ frames := 0, cells := 0, slots := 0, locals := 0 } : Room) [.ref (cA c), .int (iI (k : Int))] (wH ha cA hA nA ed cI cJ cZ td pr up dn dv rw sd mc n mo sh co Ca Cz K St Ex Am Bi As BL AL He Co ++ EE) (S := Unit) (fun _ => (He (7 * c + k))) (fun _ => True) (fun _ => wH ha cA hA nA ed cI cJ cZ td pr up dn dv rw sd mc n mo sh co Ca Cz K St Ex Am Bi As BL AL He Co ++ EE) := by
  refine jj_start (cc := cX0_lotsAt) (nL := 2) (ret := (some .int)) (lv := [(0, .ref (cA c)), (1, .int (iI (k : Int)))]) (fun A => jj_Qi _ _ _ _ _ _ A) hEVh (by decide) rfl (Nat.le_of_ble_eq_true rfl) rfl ?_
  intro p9 e9 s9 m9 a9 b9 me9 c9 A9 C1 hr hin
  have C0 : jj_C p9 s9 m9 a9 me9 c9 (dC, dI) vwCl A9 2 cX0_lotsAt "Strikehall$Contract" lw_U _ EVh := jj_toU C1
  have hw := C0.2.2.2.2.1
  have hE := C0.2.2.2.2.2.2.2.1
  refine jj_iload_n C0 1 rfl dX0_lotsAt_0 ?_
  refine jj_if_lt C0 (by omega) dX0_lotsAt_1 (tgt := 22) (by decide) (fun c_1 => absurd c_1 (by omega)) (fun c_1 => ?_)
  refine jj_iload_n C0 1 rfl dX0_lotsAt_4 ?_
  refine jj_aload_n C0 0 rfl dX0_lotsAt_5 ?_
  refine jj_get C0 (ci := 1) (v := .ref (hA c)) hin_X0 ((8 + (3 * c + 0))) ((wH_c (c := c) (by omega))) rfl 4 (by decide) (hw _ hU_462) (fun _ h9 => h9) rfl dX0_lotsAt_6 ?_
  refine jj_alen C0 (q0 := (8 + (3 * c + 1))) (t0 := 0) (z := 7) ((wH_h (c := c) (by omega))) rfl rfl dX0_lotsAt_9 ?_
  refine jj_icmp_ge C0 (by omega) (by omega) dX0_lotsAt_10 (tgt := 22) (by decide) (fun c_2 => absurd c_2 (by omega)) (fun c_2 => ?_)
  refine jj_aload_n C0 0 rfl dX0_lotsAt_13 ?_
  refine jj_get C0 (ci := 1) (v := .ref (hA c)) hin_X0 ((8 + (3 * c + 0))) ((wH_c (c := c) (by omega))) rfl 4 (by decide) (hw _ hU_462) (fun _ h9 => h9) rfl dX0_lotsAt_14 ?_
  refine jj_iload_n C0 1 rfl dX0_lotsAt_17 ?_
  refine jj_iald C0 (q0 := (8 + (3 * c + 1))) (t0 := 0) (f := (f_row He c)) ((wH_h (c := c) (by omega))) rfl (k := k) (by omega) (by omega) (by decide) dX0_lotsAt_18 ?_
  refine jj_topi (b := (He (7 * c + k))) (f_row_at (by omega)) ?_
  refine jj_goto C0 (tgt := 23) dX0_lotsAt_19 (by decide) ?_
  exact jj_iret C0 hr () (trivial) (rfl) (rfl) (by decide) (by decide) dX0_lotsAt_23
set_option maxHeartbeats 4000000 in
set_option maxRecDepth 100000 in
theorem cc_X0_addLots  {c k : Nat} {q : Int} (hkk : k ≤ 6) (hcn : c < n) : jj_Mv EVh (dC, dI) vwCl [(cI, .int), (cJ, .long), (cZ, .boolean), (cO, .object "java/lang/Object")] l yX0_addLots (Cond.code yX0_addLots cX0_addLots 3 none :: lw_U) ({ frames := 0, cells := 0, slots := 0, locals := 0 } : Room) [.ref (cA c), .int (iI (k : Int)), .int (iI q)] (wH ha cA hA nA ed cI cJ cZ td pr up dn dv rw sd mc n mo sh co Ca Cz K St Ex Am Bi As BL AL He Co ++ EE) (S := Unit)  (fun _ => True) (fun _ => wH ha cA hA nA ed cI cJ cZ td pr up dn dv rw sd mc n mo sh co Ca Cz K St Ex Am Bi As BL AL (va_up He (7 * c + k) (He (7 * c + k) + q)) Co ++ EE) := by
  refine jj_start (cc := cX0_addLots) (nL := 3) (ret := none) (lv := [(0, .ref (cA c)), (1, .int (iI (k : Int))), (2, .int (iI q))]) (fun A => jj_Qv _ _ _ _ _ A) hEVh (by decide) rfl (Nat.le_of_ble_eq_true rfl) rfl ?_
  intro p9 e9 s9 m9 a9 b9 me9 c9 A9 C1 hr hin
  have C0 : jj_C p9 s9 m9 a9 me9 c9 (dC, dI) vwCl A9 3 cX0_addLots "Strikehall$Contract" lw_U _ EVh := jj_toU C1
  have hw := C0.2.2.2.2.1
  have hE := C0.2.2.2.2.2.2.2.1
  refine jj_iload_n C0 1 rfl dX0_addLots_0 ?_
  refine jj_if_lt C0 (by omega) dX0_addLots_1 (tgt := 23) (by decide) (fun c_1 => absurd c_1 (by omega)) (fun c_1 => ?_)
  refine jj_iload_n C0 1 rfl dX0_addLots_4 ?_
  refine jj_aload_n C0 0 rfl dX0_addLots_5 ?_
  refine jj_get C0 (ci := 1) (v := .ref (hA c)) hin_X0 ((8 + (3 * c + 0))) ((wH_c (c := c) (by omega))) rfl 4 (by decide) (hw _ hU_462) (fun _ h9 => h9) rfl dX0_addLots_6 ?_
  refine jj_alen C0 (q0 := (8 + (3 * c + 1))) (t0 := 0) (z := 7) ((wH_h (c := c) (by omega))) rfl rfl dX0_addLots_9 ?_
  refine jj_icmp_ge C0 (by omega) (by omega) dX0_addLots_10 (tgt := 23) (by decide) (fun c_2 => absurd c_2 (by omega)) (fun c_2 => ?_)
  refine jj_aload_n C0 0 rfl dX0_addLots_13 ?_
  refine jj_get C0 (ci := 1) (v := .ref (hA c)) hin_X0 ((8 + (3 * c + 0))) ((wH_c (c := c) (by omega))) rfl 4 (by decide) (hw _ hU_462) (fun _ h9 => h9) rfl dX0_addLots_14 ?_
  refine jj_iload_n C0 1 rfl dX0_addLots_17 ?_
  refine jj_dup2_11 C0 dX0_addLots_18 rfl rfl ?_
  refine jj_iald C0 (q0 := (8 + (3 * c + 1))) (t0 := 0) (f := (f_row He c)) ((wH_h (c := c) (by omega))) rfl (k := k) (by omega) (by omega) (by decide) dX0_addLots_19 ?_
  refine jj_topi (b := (He (7 * c + k))) (f_row_at (by omega)) ?_
  refine jj_iload_n C0 2 rfl dX0_addLots_20 ?_
  refine jj_iadd C0 dX0_addLots_21 ?_
  refine jj_iast C0 (q0 := (8 + (3 * c + 1))) (t0 := 0) (f := (f_row He c)) ((wH_h (c := c) (by omega))) rfl (k := k) (by omega) (by omega) (by decide) (ws' := wH ha cA hA nA ed cI cJ cZ td pr up dn dv rw sd mc n mo sh co Ca Cz K St Ex Am Bi As BL AL (va_up He (7 * c + k) ((He (7 * c + k)) + q)) Co ++ EE) (wH_He (by omega) (by omega)) dX0_addLots_22 ?_
  exact jj_vret C0 hr () (trivial) (rfl) (by decide) (by decide) dX0_addLots_23
set_option maxHeartbeats 4000000 in
set_option maxRecDepth 100000 in
theorem cc_X0_dropLots  {c : Nat} (hcn : c < n) : jj_Mv EVh (dC, dI) vwCl [(cI, .int), (cJ, .long), (cZ, .boolean), (cO, .object "java/lang/Object")] l yX0_dropLots (Cond.code yX0_dropLots cX0_dropLots 2 none :: lw_U) ({ frames := 0, cells := 0, slots := 0, locals := 0 } : Room) [.ref (cA c)] (wH ha cA hA nA ed cI cJ cZ td pr up dn dv rw sd mc n mo sh co Ca Cz K St Ex Am Bi As BL AL He Co ++ EE) (S := Unit)  (fun _ => True) (fun _ => wH ha cA hA nA ed cI cJ cZ td pr up dn dv rw sd mc n mo sh co Ca Cz K St Ex Am Bi As BL AL (f_z7 He c 7) Co ++ EE) := by
  refine jj_start (cc := cX0_dropLots) (nL := 2) (ret := none) (lv := [(0, .ref (cA c))]) (fun A => jj_Qv _ _ _ _ _ A) hEVh (by decide) rfl (Nat.le_of_ble_eq_true rfl) rfl ?_
  intro p9 e9 s9 m9 a9 b9 me9 c9 A9 C1 hr hin
  have C0 : jj_C p9 s9 m9 a9 me9 c9 (dC, dI) vwCl A9 2 cX0_dropLots "Strikehall$Contract" lw_U _ EVh := jj_toU C1
  have hw := C0.2.2.2.2.1
  have hE := C0.2.2.2.2.2.2.2.1
  refine jj_ws (ws' := wH ha cA hA nA ed cI cJ cZ td pr up dn dv rw sd mc n mo sh co Ca Cz K St Ex Am Bi As BL AL (f_z7 He c 0) Co ++ EE) (by rw [f_z7_0]) ?_
  refine jj_iconst C0 dX0_dropLots_0 ?_
  refine jj_istore_n C0 (i := 1) rfl (lv' := [(1, .int (iI 0)), (0, .ref (cA c))]) (by decide) rfl dX0_dropLots_1 ?_
  refine jj_ind (X := Nat) (fun q9 => match q9 with | j => (8 - j : Nat)) (fun q9 => match q9 with | j => [(1, .int (iI (j : Int))), (0, .ref (cA c))]) (fun q9 => match q9 with | j => []) (fun q9 => match q9 with | j => wH ha cA hA nA ed cI cJ cZ td pr up dn dv rw sd mc n mo sh co Ca Cz K St Ex Am Bi As BL AL (f_z7 He c j) Co ++ EE) (fun q9 => match q9 with | j => j ≤ 7) ?_ 0 (Nat.zero_le _)
  intro q9 hq9 ih2
  obtain ⟨j, rfl⟩ : ∃ z, z = q9 := ⟨_, rfl⟩
  have hj : j ≤ 7 := hq9
  show jj_W _ _ _ _ _ _ _ _ _ _ _ _ _ _ _ _ _ 2 [(1, .int (iI (j : Int))), (0, .ref (cA c))] [] (wH ha cA hA nA ed cI cJ cZ td pr up dn dv rw sd mc n mo sh co Ca Cz K St Ex Am Bi As BL AL (f_z7 He c j) Co ++ EE)
  refine jj_iload_n C0 0 rfl dX0_dropLots_2 ?_
  refine jj_aload_n C0 1 rfl dX0_dropLots_3 ?_
  refine jj_get C0 (ci := 1) (v := .ref (hA c)) hin_X0 ((8 + (3 * c + 0))) ((wH_c (c := c) (by omega))) rfl 4 (by decide) (hw _ hU_462) (fun _ h9 => h9) rfl dX0_dropLots_4 ?_
  refine jj_alen C0 (q0 := (8 + (3 * c + 1))) (t0 := 0) (z := 7) ((wH_h (c := c) (by omega))) rfl rfl dX0_dropLots_7 ?_
  refine jj_icmp_ge C0 (by omega) (by omega) dX0_dropLots_8 (tgt := 24) (by decide) (fun c_1 => ?_) (fun c_1 => ?_)
  · exact jj_vret C0 hr () (trivial) (by rw [show j = 7 by omega]) (by decide) (by decide) dX0_dropLots_24
  · refine jj_aload_n C0 1 rfl dX0_dropLots_11 ?_
    refine jj_get C0 (ci := 1) (v := .ref (hA c)) hin_X0 ((8 + (3 * c + 0))) ((wH_c (c := c) (by omega))) rfl 4 (by decide) (hw _ hU_462) (fun _ h9 => h9) rfl dX0_dropLots_12 ?_
    refine jj_iload_n C0 0 rfl dX0_dropLots_15 ?_
    refine jj_iconst C0 dX0_dropLots_16 ?_
    refine jj_iast C0 (q0 := (8 + (3 * c + 1))) (t0 := 0) (f := (f_row (f_z7 He c j) c)) ((wH_h (c := c) (by omega))) rfl (k := j) (by omega) (by omega) (by decide) (ws' := wH ha cA hA nA ed cI cJ cZ td pr up dn dv rw sd mc n mo sh co Ca Cz K St Ex Am Bi As BL AL (va_up (f_z7 He c j) (7 * c + j) 0) Co ++ EE) (wH_He (by omega) (by omega)) dX0_dropLots_17 ?_
    refine jj_ws (ws' := wH ha cA hA nA ed cI cJ cZ td pr up dn dv rw sd mc n mo sh co Ca Cz K St Ex Am Bi As BL AL (f_z7 He c (j + 1)) Co ++ EE) (by rw [f_z7_up]) ?_
    refine jj_iinc C0 (z := ((j + 1 : Nat) : Int)) (lv' := [(1, .int (iI ((j + 1 : Nat) : Int))), (0, .ref (cA c))]) 0 rfl (by omega) (by decide) rfl dX0_dropLots_18 ?_
    refine jj_goto C0 (tgt := 2) dX0_dropLots_21 (by decide) ?_
    exact ih2 (j + 1) (by omega) (by dsimp only; omega)
set_option maxHeartbeats 4000000 in
set_option maxRecDepth 100000 in
theorem cc_X0_hasNotice  {c k : Nat} (hkk : k ≤ 6) (hcn : c < n) (hCo : ∀ j, 0 ≤ Co j ∧ Co j ≤ 1) : jj_Mi EVh (dC, dI) vwCl [(cI, .int), (cJ, .long), (cZ, .boolean), (cO, .object "java/lang/Object")] l yX0_hasNotice (Cond.code yX0_hasNotice cX0_hasNotice 2 (some .boolean) :: lw_U) ({ frames := 0, cells := 0, slots := 0, locals := 0 } : Room) [.ref (cA c), .int (iI (k : Int))] (wH ha cA hA nA ed cI cJ cZ td pr up dn dv rw sd mc n mo sh co Ca Cz K St Ex Am Bi As BL AL He Co ++ EE) (S := Unit) (fun _ => (Co (7 * c + k))) (fun _ => True) (fun _ => wH ha cA hA nA ed cI cJ cZ td pr up dn dv rw sd mc n mo sh co Ca Cz K St Ex Am Bi As BL AL He Co ++ EE) := by
  refine jj_start (cc := cX0_hasNotice) (nL := 2) (ret := (some .boolean)) (lv := [(0, .ref (cA c)), (1, .int (iI (k : Int)))]) (fun A => jj_Qi _ _ _ _ _ _ A) hEVh (by decide) rfl (Nat.le_of_ble_eq_true rfl) rfl ?_
  intro p9 e9 s9 m9 a9 b9 me9 c9 A9 C1 hr hin
  have C0 : jj_C p9 s9 m9 a9 me9 c9 (dC, dI) vwCl A9 2 cX0_hasNotice "Strikehall$Contract" lw_U _ EVh := jj_toU C1
  have hw := C0.2.2.2.2.1
  have hE := C0.2.2.2.2.2.2.2.1
  refine jj_iload_n C0 1 rfl dX0_hasNotice_0 ?_
  refine jj_if_lt C0 (by omega) dX0_hasNotice_1 (tgt := 26) (by decide) (fun c_1 => absurd c_1 (by omega)) (fun c_1 => ?_)
  refine jj_iload_n C0 1 rfl dX0_hasNotice_4 ?_
  refine jj_aload_n C0 0 rfl dX0_hasNotice_5 ?_
  refine jj_get C0 (ci := 1) (v := .ref (nA c)) hin_X0 ((8 + (3 * c + 0))) ((wH_c (c := c) (by omega))) rfl 5 (by decide) (hw _ hU_463) (fun _ h9 => h9) rfl dX0_hasNotice_6 ?_
  refine jj_alen C0 (q0 := (8 + (3 * c + 2))) (t0 := 2) (z := 7) ((wH_n (c := c) (by omega))) rfl rfl dX0_hasNotice_9 ?_
  refine jj_icmp_ge C0 (by omega) (by omega) dX0_hasNotice_10 (tgt := 26) (by decide) (fun c_2 => absurd c_2 (by omega)) (fun c_2 => ?_)
  refine jj_aload_n C0 0 rfl dX0_hasNotice_13 ?_
  refine jj_get C0 (ci := 1) (v := .ref (nA c)) hin_X0 ((8 + (3 * c + 0))) ((wH_c (c := c) (by omega))) rfl 5 (by decide) (hw _ hU_463) (fun _ h9 => h9) rfl dX0_hasNotice_14 ?_
  refine jj_iload_n C0 1 rfl dX0_hasNotice_17 ?_
  refine jj_zald C0 (q0 := (8 + (3 * c + 2))) (t0 := 2) (f := (f_row Co c)) ((wH_n (c := c) (by omega))) rfl (k := k) (by omega) (by omega) (by decide) dX0_hasNotice_18 ?_
  have hb_Co_23019 := hCo (7 * c + k)
  refine jj_topi (b := (Co (7 * c + k))) (f_row_at (by omega)) ?_
  refine jj_if_eq C0 (by omega) dX0_hasNotice_19 (tgt := 26) (by decide) (fun c_3 => ?_) (fun c_3 => ?_)
  · refine jj_iconst C0 dX0_hasNotice_26 ?_
    exact jj_zret C0 hr () (trivial) (by omega) (by omega) (rfl) (by decide) (by decide) dX0_hasNotice_27
  · refine jj_iconst C0 dX0_hasNotice_22 ?_
    refine jj_goto C0 (tgt := 27) dX0_hasNotice_23 (by decide) ?_
    exact jj_zret C0 hr () (trivial) (by omega) (by omega) (rfl) (by decide) (by decide) dX0_hasNotice_27
set_option maxHeartbeats 4000000 in
set_option maxRecDepth 100000 in
theorem cc_X0_setNotice  {c k : Nat} {v : Int} (hkk : k ≤ 6) (hv : v = 0 ∨ v = 1) (hcn : c < n) (hCo : ∀ j, 0 ≤ Co j ∧ Co j ≤ 1) : jj_Mi EVh (dC, dI) vwCl [(cI, .int), (cJ, .long), (cZ, .boolean), (cO, .object "java/lang/Object")] l yX0_setNotice (Cond.code yX0_setNotice cX0_setNotice 3 (some .boolean) :: lw_U) ({ frames := 0, cells := 0, slots := 0, locals := 0 } : Room) [.ref (cA c), .int (iI (k : Int)), .int (iI v)] (wH ha cA hA nA ed cI cJ cZ td pr up dn dv rw sd mc n mo sh co Ca Cz K St Ex Am Bi As BL AL He Co ++ EE) (S := Unit) (fun _ => (if Co (7 * c + k) = v then 0 else 1)) (fun _ => True) (fun _ => wH ha cA hA nA ed cI cJ cZ td pr up dn dv rw sd mc n mo sh co Ca Cz K St Ex Am Bi As BL AL He (va_up Co (7 * c + k) v) ++ EE) := by
  refine jj_start (cc := cX0_setNotice) (nL := 3) (ret := (some .boolean)) (lv := [(0, .ref (cA c)), (1, .int (iI (k : Int))), (2, .int (iI v))]) (fun A => jj_Qi _ _ _ _ _ _ A) hEVh (by decide) rfl (Nat.le_of_ble_eq_true rfl) rfl ?_
  intro p9 e9 s9 m9 a9 b9 me9 c9 A9 C1 hr hin
  have C0 : jj_C p9 s9 m9 a9 me9 c9 (dC, dI) vwCl A9 3 cX0_setNotice "Strikehall$Contract" lw_U _ EVh := jj_toU C1
  have hw := C0.2.2.2.2.1
  have hE := C0.2.2.2.2.2.2.2.1
  refine jj_iload_n C0 1 rfl dX0_setNotice_0 ?_
  refine jj_if_lt C0 (by omega) dX0_setNotice_1 (tgt := 23) (by decide) (fun c_1 => absurd c_1 (by omega)) (fun c_1 => ?_)
  refine jj_iload_n C0 1 rfl dX0_setNotice_4 ?_
  refine jj_aload_n C0 0 rfl dX0_setNotice_5 ?_
  refine jj_get C0 (ci := 1) (v := .ref (nA c)) hin_X0 ((8 + (3 * c + 0))) ((wH_c (c := c) (by omega))) rfl 5 (by decide) (hw _ hU_463) (fun _ h9 => h9) rfl dX0_setNotice_6 ?_
  refine jj_alen C0 (q0 := (8 + (3 * c + 2))) (t0 := 2) (z := 7) ((wH_n (c := c) (by omega))) rfl rfl dX0_setNotice_9 ?_
  refine jj_icmp_ge C0 (by omega) (by omega) dX0_setNotice_10 (tgt := 23) (by decide) (fun c_2 => absurd c_2 (by omega)) (fun c_2 => ?_)
  refine jj_aload_n C0 0 rfl dX0_setNotice_13 ?_
  refine jj_get C0 (ci := 1) (v := .ref (nA c)) hin_X0 ((8 + (3 * c + 0))) ((wH_c (c := c) (by omega))) rfl 5 (by decide) (hw _ hU_463) (fun _ h9 => h9) rfl dX0_setNotice_14 ?_
  refine jj_iload_n C0 1 rfl dX0_setNotice_17 ?_
  refine jj_zald C0 (q0 := (8 + (3 * c + 2))) (t0 := 2) (f := (f_row Co c)) ((wH_n (c := c) (by omega))) rfl (k := k) (by omega) (by omega) (by decide) dX0_setNotice_18 ?_
  have hb_Co_23019 := hCo (7 * c + k)
  refine jj_topi (b := (Co (7 * c + k))) (f_row_at (by omega)) ?_
  refine jj_iload_n C0 2 rfl dX0_setNotice_19 ?_
  refine jj_icmp_ne C0 (by omega) (by omega) dX0_setNotice_20 (tgt := 25) (by decide) (fun c_3 => ?_) (fun c_3 => ?_)
  · refine jj_aload_n C0 0 rfl dX0_setNotice_25 ?_
    refine jj_get C0 (ci := 1) (v := .ref (nA c)) hin_X0 ((8 + (3 * c + 0))) ((wH_c (c := c) (by omega))) rfl 5 (by decide) (hw _ hU_463) (fun _ h9 => h9) rfl dX0_setNotice_26 ?_
    refine jj_iload_n C0 1 rfl dX0_setNotice_29 ?_
    refine jj_iload_n C0 2 rfl dX0_setNotice_30 ?_
    refine jj_zast C0 (q0 := (8 + (3 * c + 2))) (t0 := 2) (f := (f_row Co c)) ((wH_n (c := c) (by omega))) rfl (k := k) (by omega) (by omega) (by decide) (by omega) (ws' := wH ha cA hA nA ed cI cJ cZ td pr up dn dv rw sd mc n mo sh co Ca Cz K St Ex Am Bi As BL AL He (va_up Co (7 * c + k) v) ++ EE) (wH_Co (by omega) (by omega)) dX0_setNotice_31 ?_
    refine jj_iconst C0 dX0_setNotice_32 ?_
    exact jj_zret C0 hr () (trivial) (by rw [if_neg (by omega)]) (by split <;> simp) (rfl) (by decide) (by decide) dX0_setNotice_33
  · refine jj_iconst C0 dX0_setNotice_23 ?_
    exact jj_zret C0 hr () (trivial) (by rw [if_pos (by omega)]) (by split <;> simp) (by rw [show v = Co (7 * c + k) by omega, up_id]) (by decide) (by decide) dX0_setNotice_24
set_option maxHeartbeats 4000000 in
set_option maxRecDepth 100000 in
theorem cc_X0_owed  {c : Nat} (hcn : c < n) (hHe : ∀ j, -1000000 ≤ He j ∧ He j ≤ 1000000) : jj_Mi EVh (dC, dI) vwCl [(cI, .int), (cJ, .long), (cZ, .boolean), (cO, .object "java/lang/Object")] l yX0_owed (Cond.code yX0_owed cX0_owed 3 (some .int) :: lw_U) ({ frames := 1, cells := 0, slots := 0, locals := 14 } : Room) [.ref (cA c)] (wH ha cA hA nA ed cI cJ cZ td pr up dn dv rw sd mc n mo sh co Ca Cz K St Ex Am Bi As BL AL He Co ++ EE) (S := Unit) (fun _ => (f_ow He c 7)) (fun _ => True) (fun _ => wH ha cA hA nA ed cI cJ cZ td pr up dn dv rw sd mc n mo sh co Ca Cz K St Ex Am Bi As BL AL He Co ++ EE) := by
  refine jj_start (cc := cX0_owed) (nL := 3) (ret := (some .int)) (lv := [(0, .ref (cA c))]) (fun A => jj_Qi _ _ _ _ _ _ A) hEVh (by decide) rfl (Nat.le_of_ble_eq_true rfl) rfl ?_
  intro p9 e9 s9 m9 a9 b9 me9 c9 A9 C1 hr hin
  have C0 : jj_C p9 s9 m9 a9 me9 c9 (dC, dI) vwCl A9 3 cX0_owed "Strikehall$Contract" lw_U _ EVh := jj_toU C1
  have hw := C0.2.2.2.2.1
  have hE := C0.2.2.2.2.2.2.2.1
  refine jj_iconst C0 dX0_owed_0 ?_
  refine jj_topi (b := (f_ow He c 0)) (rfl) ?_
  refine jj_istore_n C0 (i := 1) rfl (lv' := [(1, .int (iI (f_ow He c 0))), (0, .ref (cA c))]) (by decide) rfl dX0_owed_1 ?_
  refine jj_iconst C0 dX0_owed_2 ?_
  refine jj_istore_n C0 (i := 2) rfl (lv' := [(2, .int (iI 0)), (1, .int (iI (f_ow He c 0))), (0, .ref (cA c))]) (by decide) rfl dX0_owed_3 ?_
  refine jj_ind (X := Nat) (fun q9 => match q9 with | h => (8 - h : Nat)) (fun q9 => match q9 with | h => [(2, .int (iI (h : Int))), (1, .int (iI (f_ow He c h))), (0, .ref (cA c))]) (fun q9 => match q9 with | h => []) (fun q9 => match q9 with | h => wH ha cA hA nA ed cI cJ cZ td pr up dn dv rw sd mc n mo sh co Ca Cz K St Ex Am Bi As BL AL He Co ++ EE) (fun q9 => match q9 with | h => h ≤ 7) ?_ 0 (Nat.zero_le _)
  intro q9 hq9 ih4
  obtain ⟨h, rfl⟩ : ∃ z, z = q9 := ⟨_, rfl⟩
  have hh : h ≤ 7 := hq9
  show jj_W _ _ _ _ _ _ _ _ _ _ _ _ _ _ _ _ _ 4 [(2, .int (iI (h : Int))), (1, .int (iI (f_ow He c h))), (0, .ref (cA c))] [] (wH ha cA hA nA ed cI cJ cZ td pr up dn dv rw sd mc n mo sh co Ca Cz K St Ex Am Bi As BL AL He Co ++ EE)
  refine jj_iload_n C0 0 rfl dX0_owed_4 ?_
  refine jj_aload_n C0 2 rfl dX0_owed_5 ?_
  refine jj_get C0 (ci := 1) (v := .ref (hA c)) hin_X0 ((8 + (3 * c + 0))) ((wH_c (c := c) (by omega))) rfl 4 (by decide) (hw _ hU_462) (fun _ h9 => h9) rfl dX0_owed_6 ?_
  refine jj_alen C0 (q0 := (8 + (3 * c + 1))) (t0 := 0) (z := 7) ((wH_h (c := c) (by omega))) rfl rfl dX0_owed_9 ?_
  refine jj_icmp_ge C0 (by omega) (by omega) dX0_owed_10 (tgt := 33) (by decide) (fun c_1 => ?_) (fun c_1 => ?_)
  · obtain rfl : h = 7 := by omega
    refine jj_iload_n C0 1 rfl dX0_owed_33 ?_
    exact jj_iret C0 hr () (trivial) (rfl) (rfl) (by decide) (by decide) dX0_owed_34
  · refine jj_iload_n C0 1 rfl dX0_owed_13 ?_
    refine jj_iconst C0 dX0_owed_14 ?_
    refine jj_aload_n C0 2 rfl dX0_owed_15 ?_
    refine jj_get C0 (ci := 1) (v := .ref (hA c)) hin_X0 ((8 + (3 * c + 0))) ((wH_c (c := c) (by omega))) rfl 4 (by decide) (hw _ hU_462) (fun _ h9 => h9) rfl dX0_owed_16 ?_
    refine jj_iload_n C0 0 rfl dX0_owed_19 ?_
    refine jj_iald C0 (q0 := (8 + (3 * c + 1))) (t0 := 0) (f := (f_row He c)) ((wH_h (c := c) (by omega))) rfl (k := h) (by omega) (by omega) (by decide) dX0_owed_20 ?_
    have hb_He_30027 := hHe (7 * c + h)
    refine jj_topi (b := (He (7 * c + h))) (f_row_at (by omega)) ?_
    refine jj_ineg C0 dX0_owed_21 ?_
    refine jj_mmax C0 (by omega) (by omega) (hw _ hU_302) (List.forall_mem_cons.mpr ⟨hw _ hU_303, List.forall_mem_cons.mpr ⟨hw _ hU_73, List.forall_mem_cons.mpr ⟨hw _ hU_304, fun _ h => absurd h List.not_mem_nil⟩⟩⟩) (by decide) (Nat.le_of_ble_eq_true rfl) ⟨by decide, by decide⟩ dX0_owed_22 ?_
    refine jj_iadd C0 dX0_owed_25 ?_
    refine jj_topi (b := (f_ow He c (h + 1))) (by rw [f_ow_max]) ?_
    refine jj_istore_n C0 (i := 1) rfl (lv' := [(1, .int (iI (f_ow He c (h + 1)))), (2, .int (iI (h : Int))), (0, .ref (cA c))]) (by decide) rfl dX0_owed_26 ?_
    refine jj_iinc C0 (z := ((h + 1 : Nat) : Int)) (lv' := [(2, .int (iI ((h + 1 : Nat) : Int))), (1, .int (iI (f_ow He c (h + 1)))), (0, .ref (cA c))]) 1 rfl (by omega) (by decide) rfl dX0_owed_27 ?_
    refine jj_goto C0 (tgt := 4) dX0_owed_30 (by decide) ?_
    exact ih4 (h + 1) (by omega) (by dsimp only; omega)
set_option maxHeartbeats 4000000 in
set_option maxRecDepth 100000 in
theorem cc_X0_owerOf  {c : Nat} {pk : Int} (hpk : 0 ≤ pk ∧ pk < f_ow He c 7 ∧ f_ow He c 7 ≤ 7000000) (hcn : c < n) (hHe : ∀ j, -1000000 ≤ He j ∧ He j ≤ 1000000) : jj_Mi EVh (dC, dI) vwCl [(cI, .int), (cJ, .long), (cZ, .boolean), (cO, .object "java/lang/Object")] l yX0_owerOf (Cond.code yX0_owerOf cX0_owerOf 4 (some .int) :: lw_U) ({ frames := 1, cells := 0, slots := 0, locals := 14 } : Room) [.ref (cA c), .int (iI pk)] (wH ha cA hA nA ed cI cJ cZ td pr up dn dv rw sd mc n mo sh co Ca Cz K St Ex Am Bi As BL AL He Co ++ EE) (S := Unit) (fun _ => ((f_py He c pk : Nat) : Int)) (fun _ => True) (fun _ => wH ha cA hA nA ed cI cJ cZ td pr up dn dv rw sd mc n mo sh co Ca Cz K St Ex Am Bi As BL AL He Co ++ EE) := by
  refine jj_start (cc := cX0_owerOf) (nL := 4) (ret := (some .int)) (lv := [(0, .ref (cA c)), (1, .int (iI pk))]) (fun A => jj_Qi _ _ _ _ _ _ A) hEVh (by decide) rfl (Nat.le_of_ble_eq_true rfl) rfl ?_
  intro p9 e9 s9 m9 a9 b9 me9 c9 A9 C1 hr hin
  have C0 : jj_C p9 s9 m9 a9 me9 c9 (dC, dI) vwCl A9 4 cX0_owerOf "Strikehall$Contract" lw_U _ EVh := jj_toU C1
  have hw := C0.2.2.2.2.1
  have hE := C0.2.2.2.2.2.2.2.1
  refine jj_iload_n C0 1 rfl dX0_owerOf_0 ?_
  refine jj_topi (b := (pk - f_ow He c 0)) (by simp only [f_ow, Int.sub_zero]) ?_
  refine jj_istore_n C0 (i := 2) rfl (lv' := [(2, .int (iI (pk - f_ow He c 0))), (0, .ref (cA c)), (1, .int (iI pk))]) (by decide) rfl dX0_owerOf_1 ?_
  refine jj_iconst C0 dX0_owerOf_2 ?_
  refine jj_istore_n C0 (i := 3) rfl (lv' := [(3, .int (iI 0)), (2, .int (iI (pk - f_ow He c 0))), (0, .ref (cA c)), (1, .int (iI pk))]) (by decide) rfl dX0_owerOf_3 ?_
  refine jj_ind (X := Nat) (fun q9 => match q9 with | h => (8 - h : Nat)) (fun q9 => match q9 with | h => [(3, .int (iI (h : Int))), (2, .int (iI (pk - f_ow He c h))), (0, .ref (cA c)), (1, .int (iI pk))]) (fun q9 => match q9 with | h => []) (fun q9 => match q9 with | h => wH ha cA hA nA ed cI cJ cZ td pr up dn dv rw sd mc n mo sh co Ca Cz K St Ex Am Bi As BL AL He Co ++ EE) (fun q9 => match q9 with | h => h ≤ 7 ∧ f_ow He c h ≤ pk) ?_ 0 ⟨Nat.zero_le _, hpk.1⟩
  intro q9 hq9 ih4
  obtain ⟨h, rfl⟩ : ∃ z, z = q9 := ⟨_, rfl⟩
  obtain ⟨hh, hI⟩ : h ≤ 7 ∧ f_ow He c h ≤ pk := hq9
  have hon := f_ow_nn He c h
  have hon1 := f_ow_nn He c (h + 1)
  show jj_W _ _ _ _ _ _ _ _ _ _ _ _ _ _ _ _ _ 4 [(3, .int (iI (h : Int))), (2, .int (iI (pk - f_ow He c h))), (0, .ref (cA c)), (1, .int (iI pk))] [] (wH ha cA hA nA ed cI cJ cZ td pr up dn dv rw sd mc n mo sh co Ca Cz K St Ex Am Bi As BL AL He Co ++ EE)
  refine jj_iload_n C0 0 rfl dX0_owerOf_4 ?_
  refine jj_aload_n C0 2 rfl dX0_owerOf_5 ?_
  refine jj_get C0 (ci := 1) (v := .ref (hA c)) hin_X0 ((8 + (3 * c + 0))) ((wH_c (c := c) (by omega))) rfl 4 (by decide) (hw _ hU_462) (fun _ h9 => h9) rfl dX0_owerOf_6 ?_
  refine jj_alen C0 (q0 := (8 + (3 * c + 1))) (t0 := 0) (z := 7) ((wH_h (c := c) (by omega))) rfl rfl dX0_owerOf_9 ?_
  refine jj_icmp_ge C0 (by omega) (by omega) dX0_owerOf_10 (tgt := 39) (by decide) (fun c_1 => ?_) (fun c_1 => ?_)
  · exfalso
    have h77 : f_ow He c h = f_ow He c 7 := by rw [show h = 7 by omega]
    omega
  · refine jj_iload_n C0 1 rfl dX0_owerOf_13 ?_
    refine jj_iconst C0 dX0_owerOf_14 ?_
    refine jj_aload_n C0 2 rfl dX0_owerOf_15 ?_
    refine jj_get C0 (ci := 1) (v := .ref (hA c)) hin_X0 ((8 + (3 * c + 0))) ((wH_c (c := c) (by omega))) rfl 4 (by decide) (hw _ hU_462) (fun _ h9 => h9) rfl dX0_owerOf_16 ?_
    refine jj_iload_n C0 0 rfl dX0_owerOf_19 ?_
    refine jj_iald C0 (q0 := (8 + (3 * c + 1))) (t0 := 0) (f := (f_row He c)) ((wH_h (c := c) (by omega))) rfl (k := h) (by omega) (by omega) (by decide) dX0_owerOf_20 ?_
    have hb_He_30027 := hHe (7 * c + h)
    refine jj_topi (b := (He (7 * c + h))) (f_row_at (by omega)) ?_
    refine jj_ineg C0 dX0_owerOf_21 ?_
    refine jj_mmax C0 (by omega) (by omega) (hw _ hU_302) (List.forall_mem_cons.mpr ⟨hw _ hU_303, List.forall_mem_cons.mpr ⟨hw _ hU_73, List.forall_mem_cons.mpr ⟨hw _ hU_304, fun _ h => absurd h List.not_mem_nil⟩⟩⟩) (by decide) (Nat.le_of_ble_eq_true rfl) ⟨by decide, by decide⟩ dX0_owerOf_22 ?_
    refine jj_isub C0 dX0_owerOf_25 ?_
    refine jj_topi (b := (pk - f_ow He c (h + 1))) (by rw [f_ow_max]; omega) ?_
    refine jj_istore_n C0 (i := 2) rfl (lv' := [(2, .int (iI (pk - f_ow He c (h + 1)))), (3, .int (iI (h : Int))), (0, .ref (cA c)), (1, .int (iI pk))]) (by decide) rfl dX0_owerOf_26 ?_
    have hmo := f_ow_mono He c (show h + 1 ≤ 7 by omega)
    refine jj_iload_n C0 0 rfl dX0_owerOf_27 ?_
    refine jj_if_ge C0 (by omega) dX0_owerOf_28 (tgt := 33) (by decide) (fun c_2 => ?_) (fun c_2 => ?_)
    · refine jj_iinc C0 (z := ((h + 1 : Nat) : Int)) (lv' := [(3, .int (iI ((h + 1 : Nat) : Int))), (2, .int (iI (pk - f_ow He c (h + 1)))), (0, .ref (cA c)), (1, .int (iI pk))]) 1 rfl (by omega) (by decide) rfl dX0_owerOf_33 ?_
      refine jj_goto C0 (tgt := 4) dX0_owerOf_36 (by decide) ?_
      exact ih4 (h + 1) ⟨by omega, by omega⟩ (by dsimp only; omega)
    · refine jj_iload_n C0 1 rfl dX0_owerOf_31 ?_
      exact jj_iret C0 hr () (trivial) (by rw [f_py_eq (by omega) hI (by omega)]) (rfl) (by decide) (by decide) dX0_owerOf_32
set_option maxHeartbeats 4000000 in
set_option maxRecDepth 100000 in
theorem cc_X1_drawOf  {w : Int} (hw1 : 1 ≤ w ∧ w ≤ 7000000) (hsd : 0 ≤ sd ∧ sd ≤ 2147483647) : jj_Mi EVh (dC, dI) vwCl [(cI, .int), (cJ, .long), (cZ, .boolean), (cO, .object "java/lang/Object")] l yX1_drawOf (Cond.code yX1_drawOf cX1_drawOf 2 (some .int) :: lw_U) ({ frames := 0, cells := 0, slots := 0, locals := 0 } : Room) [.ref (ha 4), .int (iI w)] (wH ha cA hA nA ed cI cJ cZ td pr up dn dv rw sd mc n mo sh co Ca Cz K St Ex Am Bi As BL AL He Co ++ EE) (S := Unit) (fun _ => (f_sd sd / 65536 % w)) (fun _ => True) (fun _ => wH ha cA hA nA ed cI cJ cZ td pr up dn dv rw (f_sd sd) mc n mo sh co Ca Cz K St Ex Am Bi As BL AL He Co ++ EE) := by
  refine jj_start (cc := cX1_drawOf) (nL := 2) (ret := (some .int)) (lv := [(0, .ref (ha 4)), (1, .int (iI w))]) (fun A => jj_Qi _ _ _ _ _ _ A) hEVh (by decide) rfl (Nat.le_of_ble_eq_true rfl) rfl ?_
  intro p9 e9 s9 m9 a9 b9 me9 c9 A9 C1 hr hin
  have C0 : jj_C p9 s9 m9 a9 me9 c9 (dC, dI) vwCl A9 2 cX1_drawOf "Strikehall$Lottery" lw_U _ EVh := jj_toU C1
  have hw := C0.2.2.2.2.1
  have hE := C0.2.2.2.2.2.2.2.1
  refine jj_aload_n C0 0 rfl dX1_drawOf_0 ?_
  refine jj_ldc2 C0 (z := 1103515245) (by decide) (hw _ hU_672) dX1_drawOf_1 ?_
  refine jj_aload_n C0 0 rfl dX1_drawOf_4 ?_
  refine jj_get C0 (ci := 2) (v := .long (lI sd)) hin_X1 (4) (rfl) rfl 0 (by decide) (hw _ hU_125) (fun _ h9 => h9) rfl dX1_drawOf_5 ?_
  refine jj_lmul C0 dX1_drawOf_8 ?_
  refine jj_ldc2 C0 (z := 12345) (by decide) (hw _ hU_673) dX1_drawOf_9 ?_
  refine jj_ladd C0 dX1_drawOf_12 ?_
  refine jj_ldc2 C0 (z := 2147483648) (by decide) (hw _ hU_674) dX1_drawOf_13 ?_
  refine jj_lrem C0 (by omega) (by omega) (by omega) (by omega) dX1_drawOf_16 ?_
  refine jj_topl (b := (f_sd sd)) (rfl) ?_
  refine jj_put C0 (ci := 2) (v := .long (lI (f_sd sd))) (ty := .long) hin_X1 tyX1 tyX1_ok nmX1 (4) (rfl) rfl 0 (by decide) (hw _ hU_125) (fun _ h9 => h9) rfl (by decide +kernel) (rfl) rfl (Nat.le_of_ble_eq_true rfl) (ws' := wH ha cA hA nA ed cI cJ cZ td pr up dn dv rw (f_sd sd) mc n mo sh co Ca Cz K St Ex Am Bi As BL AL He Co ++ EE) (rfl) dX1_drawOf_17 ?_
  refine jj_iload_n C0 1 rfl dX1_drawOf_20 ?_
  refine jj_if_le C0 (by omega) dX1_drawOf_21 (tgt := 39) (by decide) (fun c_1 => absurd c_1 (by omega)) (fun c_1 => ?_)
  have hs1 := f_sd_bd sd
  refine jj_aload_n C0 0 rfl dX1_drawOf_24 ?_
  refine jj_get C0 (ci := 2) (v := .long (lI (f_sd sd))) hin_X1 (4) (rfl) rfl 0 (by decide) (hw _ hU_125) (fun _ h9 => h9) rfl dX1_drawOf_25 ?_
  refine jj_ldc2 C0 (z := 65536) (by decide) (hw _ hU_675) dX1_drawOf_28 ?_
  refine jj_ldiv C0 (by omega) (by omega) (by omega) (by omega) dX1_drawOf_31 ?_
  have hs2 : 0 ≤ f_sd sd / 65536 := Int.ediv_nonneg hs1.1 (by omega)
  refine jj_iload_n C0 1 rfl dX1_drawOf_32 ?_
  refine jj_i2l C0 (by omega) dX1_drawOf_33 ?_
  refine jj_lrem C0 (by omega) (by omega) (by omega) (by omega) dX1_drawOf_34 ?_
  refine jj_l2i C0 dX1_drawOf_35 ?_
  refine jj_goto C0 (tgt := 40) dX1_drawOf_36 (by decide) ?_
  exact jj_iret C0 hr () (trivial) (rfl) (rfl) (by decide) (by decide) dX1_drawOf_40
set_option maxHeartbeats 4000000 in
set_option maxRecDepth 100000 in
theorem cc_X2_dividendOn  {d : Nat} (hd : d ≤ 200) : jj_Mi EVh (dC, dI) vwCl [(cI, .int), (cJ, .long), (cZ, .boolean), (cO, .object "java/lang/Object")] l yX2_dividendOn (Cond.code yX2_dividendOn cX2_dividendOn 2 (some .int) :: lw_U) ({ frames := 0, cells := 0, slots := 0, locals := 0 } : Room) [.ref (ha 1), .int (iI (d : Int))] (wH ha cA hA nA ed cI cJ cZ td pr up dn dv rw sd mc n mo sh co Ca Cz K St Ex Am Bi As BL AL He Co ++ EE) (S := Unit) (fun _ => (dv d)) (fun _ => True) (fun _ => wH ha cA hA nA ed cI cJ cZ td pr up dn dv rw sd mc n mo sh co Ca Cz K St Ex Am Bi As BL AL He Co ++ EE) := by
  refine jj_start (cc := cX2_dividendOn) (nL := 2) (ret := (some .int)) (lv := [(0, .ref (ha 1)), (1, .int (iI (d : Int)))]) (fun A => jj_Qi _ _ _ _ _ _ A) hEVh (by decide) rfl (Nat.le_of_ble_eq_true rfl) rfl ?_
  intro p9 e9 s9 m9 a9 b9 me9 c9 A9 C1 hr hin
  have C0 : jj_C p9 s9 m9 a9 me9 c9 (dC, dI) vwCl A9 2 cX2_dividendOn "Strikehall$Share" lw_U _ EVh := jj_toU C1
  have hw := C0.2.2.2.2.1
  have hE := C0.2.2.2.2.2.2.2.1
  refine jj_iload_n C0 1 rfl dX2_dividendOn_0 ?_
  refine jj_if_lt C0 (by omega) dX2_dividendOn_1 (tgt := 22) (by decide) (fun c_1 => absurd c_1 (by omega)) (fun c_1 => ?_)
  refine jj_iload_n C0 1 rfl dX2_dividendOn_4 ?_
  refine jj_aload_n C0 0 rfl dX2_dividendOn_5 ?_
  refine jj_get C0 (ci := 3) (v := .ref (ha 2)) hin_X2 (1) (rfl) rfl 0 (by decide) (hw _ hU_94) (fun _ h9 => h9) rfl dX2_dividendOn_6 ?_
  refine jj_alen C0 (q0 := 2) (t0 := 0) (z := 201) (rfl) rfl rfl dX2_dividendOn_9 ?_
  refine jj_icmp_ge C0 (by omega) (by omega) dX2_dividendOn_10 (tgt := 22) (by decide) (fun c_2 => absurd c_2 (by omega)) (fun c_2 => ?_)
  refine jj_aload_n C0 0 rfl dX2_dividendOn_13 ?_
  refine jj_get C0 (ci := 3) (v := .ref (ha 2)) hin_X2 (1) (rfl) rfl 0 (by decide) (hw _ hU_94) (fun _ h9 => h9) rfl dX2_dividendOn_14 ?_
  refine jj_iload_n C0 1 rfl dX2_dividendOn_17 ?_
  refine jj_iald C0 (q0 := 2) (t0 := 0) (f := dv) (rfl) rfl (k := d) (by omega) (by omega) (by decide) dX2_dividendOn_18 ?_
  refine jj_goto C0 (tgt := 23) dX2_dividendOn_19 (by decide) ?_
  exact jj_iret C0 hr () (trivial) (rfl) (rfl) (by decide) (by decide) dX2_dividendOn_23
set_option maxHeartbeats 4000000 in
set_option maxRecDepth 100000 in
theorem cc_X2_tellDividend  {d : Nat} {y : Int} (hd : d ≤ 200) : jj_Mv EVh (dC, dI) vwCl [(cI, .int), (cJ, .long), (cZ, .boolean), (cO, .object "java/lang/Object")] l yX2_tellDividend (Cond.code yX2_tellDividend cX2_tellDividend 3 none :: lw_U) ({ frames := 0, cells := 0, slots := 0, locals := 0 } : Room) [.ref (ha 1), .int (iI (d : Int)), .int (iI y)] (wH ha cA hA nA ed cI cJ cZ td pr up dn dv rw sd mc n mo sh co Ca Cz K St Ex Am Bi As BL AL He Co ++ EE) (S := Unit)  (fun _ => True) (fun _ => wH ha cA hA nA ed cI cJ cZ td pr up dn (va_up dv d y) rw sd mc n mo sh co Ca Cz K St Ex Am Bi As BL AL He Co ++ EE) := by
  refine jj_start (cc := cX2_tellDividend) (nL := 3) (ret := none) (lv := [(0, .ref (ha 1)), (1, .int (iI (d : Int))), (2, .int (iI y))]) (fun A => jj_Qv _ _ _ _ _ A) hEVh (by decide) rfl (Nat.le_of_ble_eq_true rfl) rfl ?_
  intro p9 e9 s9 m9 a9 b9 me9 c9 A9 C1 hr hin
  have C0 : jj_C p9 s9 m9 a9 me9 c9 (dC, dI) vwCl A9 3 cX2_tellDividend "Strikehall$Share" lw_U _ EVh := jj_toU C1
  have hw := C0.2.2.2.2.1
  have hE := C0.2.2.2.2.2.2.2.1
  refine jj_iload_n C0 1 rfl dX2_tellDividend_0 ?_
  refine jj_if_lt C0 (by omega) dX2_tellDividend_1 (tgt := 20) (by decide) (fun c_1 => absurd c_1 (by omega)) (fun c_1 => ?_)
  refine jj_iload_n C0 1 rfl dX2_tellDividend_4 ?_
  refine jj_aload_n C0 0 rfl dX2_tellDividend_5 ?_
  refine jj_get C0 (ci := 3) (v := .ref (ha 2)) hin_X2 (1) (rfl) rfl 0 (by decide) (hw _ hU_94) (fun _ h9 => h9) rfl dX2_tellDividend_6 ?_
  refine jj_alen C0 (q0 := 2) (t0 := 0) (z := 201) (rfl) rfl rfl dX2_tellDividend_9 ?_
  refine jj_icmp_ge C0 (by omega) (by omega) dX2_tellDividend_10 (tgt := 20) (by decide) (fun c_2 => absurd c_2 (by omega)) (fun c_2 => ?_)
  refine jj_aload_n C0 0 rfl dX2_tellDividend_13 ?_
  refine jj_get C0 (ci := 3) (v := .ref (ha 2)) hin_X2 (1) (rfl) rfl 0 (by decide) (hw _ hU_94) (fun _ h9 => h9) rfl dX2_tellDividend_14 ?_
  refine jj_iload_n C0 1 rfl dX2_tellDividend_17 ?_
  refine jj_iload_n C0 2 rfl dX2_tellDividend_18 ?_
  refine jj_iast C0 (q0 := 2) (t0 := 0) (f := dv) (rfl) rfl (k := d) (by omega) (by omega) (by decide) (ws' := wH ha cA hA nA ed cI cJ cZ td pr up dn (va_up dv d y) rw sd mc n mo sh co Ca Cz K St Ex Am Bi As BL AL He Co ++ EE) (rfl) dX2_tellDividend_19 ?_
  exact jj_vret C0 hr () (trivial) (rfl) (by decide) (by decide) dX2_tellDividend_20
set_option maxHeartbeats 4000000 in
set_option maxRecDepth 100000 in
theorem cc_X2_lowestAfter  {fr : Int} {j : Nat} (hj : j ≤ 10) (htj : td + j ≤ 200) (hfr : -30000 ≤ fr ∧ fr ≤ 30000) (hup : 1 ≤ up ∧ up ≤ 10) (hdn : 1 ≤ dn ∧ dn ≤ 10) (hdv : ∀ j, 0 ≤ dv j ∧ dv j ≤ 1000) : jj_Mi EVh (dC, dI) vwCl [(cI, .int), (cJ, .long), (cZ, .boolean), (cO, .object "java/lang/Object")] l yX2_lowestAfter (Cond.code yX2_lowestAfter cX2_lowestAfter 5 (some .int) :: lw_U) ({ frames := 1, cells := 0, slots := 0, locals := 21 } : Room) [.ref (ha 1), .int (iI (j : Int)), .int (iI fr)] (wH ha cA hA nA ed cI cJ cZ td pr up dn dv rw sd mc n mo sh co Ca Cz K St Ex Am Bi As BL AL He Co ++ EE) (S := Unit) (fun _ => (f_price up dn dv td fr j 0)) (fun _ => True) (fun _ => wH ha cA hA nA ed cI cJ cZ td pr up dn dv rw sd mc n mo sh co Ca Cz K St Ex Am Bi As BL AL He Co ++ EE) := by
  refine jj_start (cc := cX2_lowestAfter) (nL := 5) (ret := (some .int)) (lv := [(0, .ref (ha 1)), (1, .int (iI (j : Int))), (2, .int (iI fr))]) (fun A => jj_Qi _ _ _ _ _ _ A) hEVh (by decide) rfl (Nat.le_of_ble_eq_true rfl) rfl ?_
  intro p9 e9 s9 m9 a9 b9 me9 c9 A9 C1 hr hin
  have C0 : jj_C p9 s9 m9 a9 me9 c9 (dC, dI) vwCl A9 5 cX2_lowestAfter "Strikehall$Share" lw_U _ EVh := jj_toU C1
  have hw := C0.2.2.2.2.1
  have hE := C0.2.2.2.2.2.2.2.1
  refine jj_iload_n C0 2 rfl dX2_lowestAfter_0 ?_
  refine jj_topi (b := (f_price up dn dv td fr 0 0)) ((f_price_00 _ _ _ _ _).symm) ?_
  refine jj_istore_n C0 (i := 3) rfl (lv' := [(3, .int (iI (f_price up dn dv td fr 0 0))), (0, .ref (ha 1)), (1, .int (iI (j : Int))), (2, .int (iI fr))]) (by decide) rfl dX2_lowestAfter_1 ?_
  refine jj_iconst C0 dX2_lowestAfter_2 ?_
  refine jj_istore C0 (lv' := [(4, .int (iI 1)), (3, .int (iI (f_price up dn dv td fr 0 0))), (0, .ref (ha 1)), (1, .int (iI (j : Int))), (2, .int (iI fr))]) (by decide) rfl dX2_lowestAfter_3 ?_
  refine jj_ind (X := Nat) (fun q9 => match q9 with | i => (j + 1 - i : Nat)) (fun q9 => match q9 with | i => [(4, .int (iI ((i + 1 : Nat) : Int))), (3, .int (iI (f_price up dn dv td fr i 0))), (0, .ref (ha 1)), (1, .int (iI (j : Int))), (2, .int (iI fr))]) (fun q9 => match q9 with | i => []) (fun q9 => match q9 with | i => wH ha cA hA nA ed cI cJ cZ td pr up dn dv rw sd mc n mo sh co Ca Cz K St Ex Am Bi As BL AL He Co ++ EE) (fun q9 => match q9 with | i => i ≤ j) ?_ 0 (Nat.zero_le _)
  intro q9 hq9 ih5
  obtain ⟨i, rfl⟩ : ∃ z, z = q9 := ⟨_, rfl⟩
  have hi : i ≤ j := hq9
  show jj_W _ _ _ _ _ _ _ _ _ _ _ _ _ _ _ _ _ 5 [(4, .int (iI ((i + 1 : Nat) : Int))), (3, .int (iI (f_price up dn dv td fr i 0))), (0, .ref (ha 1)), (1, .int (iI (j : Int))), (2, .int (iI fr))] [] (wH ha cA hA nA ed cI cJ cZ td pr up dn dv rw sd mc n mo sh co Ca Cz K St Ex Am Bi As BL AL He Co ++ EE)
  refine jj_iload C0 0 rfl dX2_lowestAfter_5 ?_
  refine jj_iload_n C0 3 rfl dX2_lowestAfter_7 ?_
  refine jj_icmp_gt C0 (by omega) (by omega) dX2_lowestAfter_8 (tgt := 39) (by decide) (fun c_1 => ?_) (fun c_1 => ?_)
  · refine jj_iload_n C0 1 rfl dX2_lowestAfter_39 ?_
    exact jj_iret C0 hr () (trivial) (by rw [show i = j by omega]) (rfl) (by decide) (by decide) dX2_lowestAfter_40
  · refine jj_iload_n C0 1 rfl dX2_lowestAfter_11 ?_
    refine jj_bipush C0 dX2_lowestAfter_12 (by decide) ?_
    refine jj_aload_n C0 2 rfl dX2_lowestAfter_14 ?_
    refine jj_get C0 (ci := 3) (v := .int (iI dn)) hin_X2 (1) (rfl) rfl 4 (by decide) (hw _ hU_100) (fun _ h9 => h9) rfl dX2_lowestAfter_15 ?_
    refine jj_imul C0 dX2_lowestAfter_18 ?_
    refine jj_aload_n C0 2 rfl dX2_lowestAfter_19 ?_
    refine jj_aload_n C0 2 rfl dX2_lowestAfter_20 ?_
    refine jj_get C0 (ci := 3) (v := .int (iI (td : Int))) hin_X2 (1) (rfl) rfl 5 (by decide) (hw _ hU_102) (fun _ h9 => h9) rfl dX2_lowestAfter_21 ?_
    refine jj_iload C0 0 rfl dX2_lowestAfter_24 ?_
    refine jj_iadd C0 dX2_lowestAfter_26 ?_
    refine jj_topi (b := ((td + 1 + i : Nat) : Int)) (by omega) ?_
    refine jj_callVi C0 (cc_X2_dividendOn  (d := (td + 1 + i)) (by omega)) (cwV 1 hw (lw_gV hU_294 hU_296 hU_17 hU_61 hU_297) rfl rfl rfl (by decide +kernel) ⟨Nat.le_of_ble_eq_true rfl, Nat.le_of_ble_eq_true rfl⟩) (ci := 3) (q0 := 1) rfl (rfl) rfl rfl (Nat.le_of_ble_eq_true rfl) ⟨by decide, by decide⟩ rfl rfl dX2_lowestAfter_27 ?_
    intro _ hu
    show jj_W _ _ _ _ _ _ _ _ _ _ _ _ _ _ _ _ _ 30 _ [.int (iI (dv (td + 1 + i))), .int (iI (10 * dn)), .int (iI (f_price up dn dv td fr i 0))] (wH ha cA hA nA ed cI cJ cZ td pr up dn dv rw sd mc n mo sh co Ca Cz K St Ex Am Bi As BL AL He Co ++ EE)
    refine jj_iadd C0 dX2_lowestAfter_30 ?_
    refine jj_isub C0 dX2_lowestAfter_31 ?_
    refine jj_topi (b := (f_price up dn dv td fr (i + 1) 0)) (by rw [f_price_dn]) ?_
    refine jj_istore_n C0 (i := 3) rfl (lv' := [(3, .int (iI (f_price up dn dv td fr (i + 1) 0))), (4, .int (iI ((i + 1 : Nat) : Int))), (0, .ref (ha 1)), (1, .int (iI (j : Int))), (2, .int (iI fr))]) (by decide) rfl dX2_lowestAfter_32 ?_
    refine jj_iinc C0 (z := (((i + 1) + 1 : Nat) : Int)) (lv' := [(4, .int (iI (((i + 1) + 1 : Nat) : Int))), (3, .int (iI (f_price up dn dv td fr (i + 1) 0))), (0, .ref (ha 1)), (1, .int (iI (j : Int))), (2, .int (iI fr))]) 1 rfl (by omega) (by decide) rfl dX2_lowestAfter_33 ?_
    refine jj_goto C0 (tgt := 5) dX2_lowestAfter_36 (by decide) ?_
    exact ih5 (i + 1) (by omega) (by dsimp only; omega)
set_option maxHeartbeats 4000000 in
set_option maxRecDepth 100000 in
theorem cc_X3_power  {b e : Int} (he : -100000 ≤ e ∧ e ≤ 100000) : jj_Ml EVh (dC, dI) vwCl [(cI, .int), (cJ, .long), (cZ, .boolean), (cO, .object "java/lang/Object")] l yX3_power (Cond.code yX3_power cX3_power 6 (some .long) :: lw_U) ({ frames := 0, cells := 0, slots := 0, locals := 0 } : Room) [.long (lI b), .int (iI e)] (ws) (S := Unit) (fun _ => (b ^ (e).toNat)) (fun _ => True) (fun _ => ws) := by
  refine jj_start (cc := cX3_power) (nL := 6) (ret := (some .long)) (lv := [(0, .long (lI b)), (2, .int (iI e))]) (fun A => jj_Ql _ _ _ _ _ _ A) hEVh (by decide) rfl (Nat.le_of_ble_eq_true rfl) rfl ?_
  intro p9 e9 s9 m9 a9 b9 me9 c9 A9 C1 hr hin
  have C0 : jj_C p9 s9 m9 a9 me9 c9 (dC, dI) vwCl A9 6 cX3_power "Strikehall" lw_U _ EVh := jj_toU C1
  have hw := C0.2.2.2.2.1
  refine jj_lconst C0 (z := 1) (by decide) dX3_power_0 ?_
  refine jj_topl (b := (b ^ 0)) ((Int.pow_zero _).symm) ?_
  refine jj_lstore_n C0 (i := 3) rfl (lv' := [(3, .long (lI (b ^ 0))), (0, .long (lI b)), (2, .int (iI e))]) (by decide) rfl dX3_power_1 ?_
  refine jj_iconst C0 dX3_power_2 ?_
  refine jj_istore C0 (lv' := [(5, .int (iI 0)), (3, .long (lI (b ^ 0))), (0, .long (lI b)), (2, .int (iI e))]) (by decide) rfl dX3_power_3 ?_
  refine jj_ind (X := Nat) (fun q9 => match q9 with | i => (e.toNat + 1 - i : Nat)) (fun q9 => match q9 with | i => [(5, .int (iI (i : Int))), (3, .long (lI (b ^ i))), (0, .long (lI b)), (2, .int (iI e))]) (fun q9 => match q9 with | i => []) (fun q9 => match q9 with | i => ws) (fun q9 => match q9 with | i => i ≤ e.toNat) ?_ 0 (Nat.zero_le _)
  intro q9 hq9 ih5
  obtain ⟨i, rfl⟩ : ∃ z, z = q9 := ⟨_, rfl⟩
  have hi : i ≤ e.toNat := hq9
  show jj_W _ _ _ _ _ _ _ _ _ _ _ _ _ _ _ _ _ 5 [(5, .int (iI (i : Int))), (3, .long (lI (b ^ i))), (0, .long (lI b)), (2, .int (iI e))] [] (ws)
  refine jj_iload C0 0 rfl dX3_power_5 ?_
  refine jj_iload_n C0 3 rfl dX3_power_7 ?_
  refine jj_icmp_ge C0 (by omega) (by omega) dX3_power_8 (tgt := 21) (by decide) (fun c_1 => ?_) (fun c_1 => ?_)
  · refine jj_lload_n C0 1 rfl dX3_power_21 ?_
    exact jj_lret C0 hr () (trivial) (by rw [show i = e.toNat by omega]) (rfl) (by decide) (by decide) dX3_power_22
  · refine jj_lload_n C0 1 rfl dX3_power_11 ?_
    refine jj_lload_n C0 2 rfl dX3_power_12 ?_
    refine jj_lmul C0 dX3_power_13 ?_
    refine jj_topl (b := (b ^ (i + 1))) ((Int.pow_succ _ _).symm) ?_
    refine jj_lstore_n C0 (i := 3) rfl (lv' := [(3, .long (lI (b ^ (i + 1)))), (5, .int (iI (i : Int))), (0, .long (lI b)), (2, .int (iI e))]) (by decide) rfl dX3_power_14 ?_
    refine jj_iinc C0 (z := ((i + 1 : Nat) : Int)) (lv' := [(5, .int (iI ((i + 1 : Nat) : Int))), (3, .long (lI (b ^ (i + 1)))), (0, .long (lI b)), (2, .int (iI e))]) 1 rfl (by omega) (by decide) rfl dX3_power_15 ?_
    refine jj_goto C0 (tgt := 5) dX3_power_18 (by decide) ?_
    exact ih5 (i + 1) (by omega) (by dsimp only; omega)
set_option maxHeartbeats 4000000 in
set_option maxRecDepth 100000 in
theorem cc_X3_thousandTimes  {v w : Int} (hv : 0 ≤ v ∧ v ≤ 1024000000000000000) (hw1 : 1 ≤ w ∧ w ≤ 10240000000000) : jj_Mi EVh (dC, dI) vwCl [(cI, .int), (cJ, .long), (cZ, .boolean), (cO, .object "java/lang/Object")] l yX3_thousandTimes (Cond.code yX3_thousandTimes cX3_thousandTimes 4 (some .int) :: lw_U) ({ frames := 0, cells := 0, slots := 0, locals := 0 } : Room) [.long (lI v), .long (lI w)] (ws) (S := Unit) (fun _ => (f_mk v w)) (fun _ => True) (fun _ => ws) := by
  refine jj_start (cc := cX3_thousandTimes) (nL := 4) (ret := (some .int)) (lv := [(0, .long (lI v)), (2, .long (lI w))]) (fun A => jj_Qi _ _ _ _ _ _ A) hEVh (by decide) rfl (Nat.le_of_ble_eq_true rfl) rfl ?_
  intro p9 e9 s9 m9 a9 b9 me9 c9 A9 C1 hr hin
  have C0 : jj_C p9 s9 m9 a9 me9 c9 (dC, dI) vwCl A9 4 cX3_thousandTimes "Strikehall" lw_U _ EVh := jj_toU C1
  have hw := C0.2.2.2.2.1
  have hm := f_mk_bd hv hw1
  refine jj_lload_n C0 1 rfl dX3_thousandTimes_0 ?_
  refine jj_lconst C0 (z := 0) (by decide) dX3_thousandTimes_1 ?_
  refine jj_lcmp_gt C0 (by omega) (by omega) dX3_thousandTimes_2 dX3_thousandTimes_3 (tgt := 8) (by decide) (fun c_1 => ?_) (fun c_1 => absurd c_1 (by omega))
  refine jj_lload_n C0 0 rfl dX3_thousandTimes_8 ?_
  refine jj_lload_n C0 1 rfl dX3_thousandTimes_9 ?_
  refine jj_ldiv C0 (by omega) (by omega) (by omega) (by omega) dX3_thousandTimes_10 ?_
  refine jj_ldc2 C0 (z := 1000) (by decide) (hw _ hU_277) dX3_thousandTimes_11 ?_
  refine jj_lmul C0 dX3_thousandTimes_14 ?_
  refine jj_lload_n C0 0 rfl dX3_thousandTimes_15 ?_
  refine jj_lload_n C0 1 rfl dX3_thousandTimes_16 ?_
  refine jj_lrem C0 (by omega) (by omega) (by omega) (by omega) dX3_thousandTimes_17 ?_
  refine jj_ldc2 C0 (z := 1000) (by decide) (hw _ hU_277) dX3_thousandTimes_18 ?_
  refine jj_lmul C0 dX3_thousandTimes_21 ?_
  refine jj_lload_n C0 1 rfl dX3_thousandTimes_22 ?_
  refine jj_ldiv C0 (by omega) (by omega) (by omega) (by omega) dX3_thousandTimes_23 ?_
  refine jj_ladd C0 dX3_thousandTimes_24 ?_
  refine jj_l2i C0 dX3_thousandTimes_25 ?_
  exact jj_iret C0 hr () (trivial) (rfl) (rfl) (by decide) (by decide) dX3_thousandTimes_26
set_option maxHeartbeats 4000000 in
set_option maxRecDepth 100000 in
theorem cc_X2_belowOf  {c : Nat} (hex : Ex c ≤ (td : Int) + 10) (hcn : c < n) (hup : 1 ≤ up ∧ up ≤ 10) (hdn : 1 ≤ dn ∧ dn ≤ 10) (htd : td ≤ 200) (hEx : ∀ j, 0 ≤ Ex j ∧ Ex j ≤ 200) : jj_Ml EVh (dC, dI) vwCl [(cI, .int), (cJ, .long), (cZ, .boolean), (cO, .object "java/lang/Object")] l yX2_belowOf (Cond.code yX2_belowOf cX2_belowOf 2 (some .long) :: lw_U) ({ frames := 1, cells := 0, slots := 0, locals := 25 } : Room) [.ref (ha 1), .ref (cA c)] (wH ha cA hA nA ed cI cJ cZ td pr up dn dv rw sd mc n mo sh co Ca Cz K St Ex Am Bi As BL AL He Co ++ EE) (S := Unit) (fun _ => (f_den up dn td (Ex c))) (fun _ => True) (fun _ => wH ha cA hA nA ed cI cJ cZ td pr up dn dv rw sd mc n mo sh co Ca Cz K St Ex Am Bi As BL AL He Co ++ EE) := by
  refine jj_start (cc := cX2_belowOf) (nL := 2) (ret := (some .long)) (lv := [(0, .ref (ha 1)), (1, .ref (cA c))]) (fun A => jj_Ql _ _ _ _ _ _ A) hEVh (by decide) rfl (Nat.le_of_ble_eq_true rfl) rfl ?_
  intro p9 e9 s9 m9 a9 b9 me9 c9 A9 C1 hr hin
  have C0 : jj_C p9 s9 m9 a9 me9 c9 (dC, dI) vwCl A9 2 cX2_belowOf "Strikehall$Share" lw_U _ EVh := jj_toU C1
  have hw := C0.2.2.2.2.1
  have hE := C0.2.2.2.2.2.2.2.1
  refine jj_aload_n C0 0 rfl dX2_belowOf_0 ?_
  refine jj_get C0 (ci := 3) (v := .int (iI up)) hin_X2 (1) (rfl) rfl 3 (by decide) (hw _ hU_98) (fun _ h9 => h9) rfl dX2_belowOf_1 ?_
  refine jj_aload_n C0 0 rfl dX2_belowOf_4 ?_
  refine jj_get C0 (ci := 3) (v := .int (iI dn)) hin_X2 (1) (rfl) rfl 4 (by decide) (hw _ hU_100) (fun _ h9 => h9) rfl dX2_belowOf_5 ?_
  refine jj_iadd C0 dX2_belowOf_8 ?_
  refine jj_i2l C0 (by omega) dX2_belowOf_9 ?_
  refine jj_aload_n C0 1 rfl dX2_belowOf_10 ?_
  refine jj_getN C0 (ci := 1) (v := .int (iI (Ex c))) hin_X0 ((8 + (3 * c + 0))) ((wH_c (c := c) (by omega))) rfl 2 (by decide) (va_Nw.use rfl (hE.1 _ (hN_457))) (fun _ h9 => h9) rfl dX2_belowOf_11 ?_
  have hb_Ex_47718 := hEx c
  refine jj_aload_n C0 0 rfl dX2_belowOf_14 ?_
  refine jj_get C0 (ci := 3) (v := .int (iI (td : Int))) hin_X2 (1) (rfl) rfl 5 (by decide) (hw _ hU_102) (fun _ h9 => h9) rfl dX2_belowOf_15 ?_
  refine jj_isub C0 dX2_belowOf_18 ?_
  refine jj_bipush C0 dX2_belowOf_19 (by decide) ?_
  refine jj_mmin C0 (by omega) (by omega) (hw _ hU_312) (List.forall_mem_cons.mpr ⟨hw _ hU_313, List.forall_mem_cons.mpr ⟨hw _ hU_73, List.forall_mem_cons.mpr ⟨hw _ hU_314, fun _ h => absurd h List.not_mem_nil⟩⟩⟩) (by decide) (Nat.le_of_ble_eq_true rfl) ⟨by decide, by decide⟩ dX2_belowOf_21 ?_
  refine jj_topi (b := (Ex c - (td : Int))) (by omega) ?_
  refine jj_callSNl C0 (cc_X3_power  (b := (up + dn)) (e := (Ex c - (td : Int))) (by omega)) ⟨va_cnB 2 hw (lw_gc hU_317 lw_UU) rfl rfl rfl (hE.1 _ hN_315) (hw _ hU_60) (by decide +kernel) ⟨Nat.le_of_ble_eq_true rfl, Nat.le_of_ble_eq_true rfl⟩, hw _ hU_316, trivial⟩ rfl rfl (Nat.le_of_ble_eq_true rfl) ⟨by decide, by decide⟩ rfl rfl dX2_belowOf_24 ?_
  intro _ hu
  show jj_W _ _ _ _ _ _ _ _ _ _ _ _ _ _ _ _ _ 27 _ [.long (lI ((up + dn) ^ ((Ex c - (td : Int))).toNat))] (wH ha cA hA nA ed cI cJ cZ td pr up dn dv rw sd mc n mo sh co Ca Cz K St Ex Am Bi As BL AL He Co ++ EE)
  exact jj_lret C0 hr () (trivial) (rfl) (rfl) (by decide) (by decide) dX2_belowOf_27
set_option maxHeartbeats 4000000 in
set_option maxRecDepth 100000 in
theorem cc_X2_numberAt  {c : Nat} {fr : Int} (hex : Ex c ≤ (td : Int) + 10) (hcn : c < n) (htd : td ≤ 200) (hfr : -30000 ≤ fr ∧ fr ≤ 30000) (hup : 1 ≤ up ∧ up ≤ 10) (hdn : 1 ≤ dn ∧ dn ≤ 10) (hdv : ∀ j, 0 ≤ dv j ∧ dv j ≤ 1000) (hK : ∀ j, 0 ≤ K j ∧ K j ≤ 1) (hSt : ∀ j, 0 ≤ St j ∧ St j ≤ 20000) (hEx : ∀ j, 0 ≤ Ex j ∧ Ex j ≤ 200) (hAm : ∀ j, 0 ≤ Am j ∧ Am j ≤ 1) : jj_Ml EVh (dC, dI) vwCl [(cI, .int), (cJ, .long), (cZ, .boolean), (cO, .object "java/lang/Object")] l yX2_numberAt (Cond.code yX2_numberAt cX2_numberAt 10 (some .long) :: lw_U) ({ frames := 2, cells := 0, slots := 0, locals := 45 } : Room) [.ref (ha 1), .ref (cA c), .int (iI fr)] (wH ha cA hA nA ed cI cJ cZ td pr up dn dv rw sd mc n mo sh co Ca Cz K St Ex Am Bi As BL AL He Co ++ EE) (S := (Nat → Int)) (fun r8 => (f_num up dn dv td (K c) (St c) (Ex c) (Am c) fr)) (fun r8 => True) (fun r8 => wH ha cA hA nA ed cI cJ cZ td pr up dn dv r8 sd mc n mo sh co Ca Cz K St Ex Am Bi As BL AL He Co ++ EE) := by
  refine jj_start (cc := cX2_numberAt) (nL := 10) (ret := (some .long)) (lv := [(0, .ref (ha 1)), (1, .ref (cA c)), (2, .int (iI fr))]) (fun A => jj_Ql _ _ _ _ _ _ A) hEVh (by decide) rfl (Nat.le_of_ble_eq_true rfl) rfl ?_
  intro p9 e9 s9 m9 a9 b9 me9 c9 A9 C1 hr hin
  have C0 : jj_C p9 s9 m9 a9 me9 c9 (dC, dI) vwCl A9 10 cX2_numberAt "Strikehall$Share" lw_U _ EVh := jj_toU C1
  have hw := C0.2.2.2.2.1
  have hE := C0.2.2.2.2.2.2.2.1
  obtain ⟨N, hNe⟩ : ∃ N : Nat, N = (Ex c - (td : Int)).toNat := ⟨_, rfl⟩
  have hexb := hEx c
  refine jj_aload_n C0 1 rfl dX2_numberAt_0 ?_
  refine jj_getN C0 (ci := 1) (v := .int (iI (Ex c))) hin_X0 ((8 + (3 * c + 0))) ((wH_c (c := c) (by omega))) rfl 2 (by decide) (va_Nw.use rfl (hE.1 _ (hN_457))) (fun _ h9 => h9) rfl dX2_numberAt_1 ?_
  have hb_Ex_47718 := hEx c
  refine jj_aload_n C0 0 rfl dX2_numberAt_4 ?_
  refine jj_get C0 (ci := 3) (v := .int (iI (td : Int))) hin_X2 (1) (rfl) rfl 5 (by decide) (hw _ hU_102) (fun _ h9 => h9) rfl dX2_numberAt_5 ?_
  refine jj_isub C0 dX2_numberAt_8 ?_
  refine jj_istore_n C0 (i := 3) rfl (lv' := [(3, .int (iI ((Ex c) - (td : Int)))), (0, .ref (ha 1)), (1, .ref (cA c)), (2, .int (iI fr))]) (by decide) rfl dX2_numberAt_9 ?_
  refine jj_iload_n C0 0 rfl dX2_numberAt_10 ?_
  refine jj_if_lt C0 (by omega) dX2_numberAt_11 (tgt := 23) (by decide) (fun c_1 => ?_) (fun c_1 => ?_)
  · refine jj_lconst C0 (z := 0) (by decide) dX2_numberAt_23 ?_
    exact jj_lret C0 hr rw (trivial) (by show _ = f_num _ _ _ _ _ _ _ _ _; unfold f_num; rw [if_pos (by omega)]) (rfl) (by decide) (by decide) dX2_numberAt_24
  · have hNN : (N : Int) = Ex c - (td : Int) := by omega
    have hN10 : N ≤ 10 := by omega
    have htN : td + N ≤ 200 := by omega
    refine jj_iload_n C0 0 rfl dX2_numberAt_14 ?_
    refine jj_aload_n C0 1 rfl dX2_numberAt_15 ?_
    refine jj_get C0 (ci := 3) (v := .ref (ha 3)) hin_X2 (1) (rfl) rfl 1 (by decide) (hw _ hU_95) (fun _ h9 => h9) rfl dX2_numberAt_16 ?_
    refine jj_alen C0 (q0 := 3) (t0 := 1) (z := 11) (rfl) rfl rfl dX2_numberAt_19 ?_
    refine jj_icmp_lt C0 (by omega) (by omega) dX2_numberAt_20 (tgt := 25) (by decide) (fun c_2 => ?_) (fun c_2 => absurd c_2 (by omega))
    refine jj_lve (lv' := [(3, .int (iI (N : Int))), (0, .ref (ha 1)), (1, .ref (cA c)), (2, .int (iI fr))]) (by rw [show (Ex c - (td : Int)) = (N : Int) by omega]) ?_
    refine jj_bipush C0 dX2_numberAt_25 (by decide) ?_
    refine jj_aload_n C0 1 rfl dX2_numberAt_27 ?_
    refine jj_get C0 (ci := 3) (v := .int (iI up)) hin_X2 (1) (rfl) rfl 3 (by decide) (hw _ hU_98) (fun _ h9 => h9) rfl dX2_numberAt_28 ?_
    refine jj_aload_n C0 1 rfl dX2_numberAt_31 ?_
    refine jj_get C0 (ci := 3) (v := .int (iI dn)) hin_X2 (1) (rfl) rfl 4 (by decide) (hw _ hU_100) (fun _ h9 => h9) rfl dX2_numberAt_32 ?_
    refine jj_iadd C0 dX2_numberAt_35 ?_
    refine jj_imul C0 dX2_numberAt_36 ?_
    refine jj_istore C0 (lv' := [(4, .int (iI (10 * (up + dn)))), (3, .int (iI (N : Int))), (0, .ref (ha 1)), (1, .ref (cA c)), (2, .int (iI fr))]) (by decide) rfl dX2_numberAt_37 ?_
    refine jj_aload_n C0 2 rfl dX2_numberAt_39 ?_
    refine jj_iload_n C0 1 rfl dX2_numberAt_40 ?_
    refine jj_iload_n C0 4 rfl dX2_numberAt_41 ?_
    refine jj_callVi C0 (cc_X2_lowestAfter  (j := N) (fr := fr) (by omega) (by omega) (by first | exact hfr | omega) (by first | exact hup | omega) (by first | exact hdn | omega) (by first | exact hdv | omega)) (cwV 2 hw (lw_gV hU_290 hU_292 hU_16 hU_61 hU_293) rfl rfl rfl (by decide +kernel) ⟨Nat.le_of_ble_eq_true rfl, Nat.le_of_ble_eq_true rfl⟩) (ci := 3) (q0 := 1) rfl (rfl) rfl rfl (Nat.le_of_ble_eq_true rfl) ⟨by decide, by decide⟩ rfl rfl dX2_numberAt_42 ?_
    intro _ hu
    show jj_W _ _ _ _ _ _ _ _ _ _ _ _ _ _ _ _ _ 45 _ [.int (iI (f_price up dn dv td fr N 0))] (wH ha cA hA nA ed cI cJ cZ td pr up dn dv rw sd mc n mo sh co Ca Cz K St Ex Am Bi As BL AL He Co ++ EE)
    have hpN := f_price_bd (t := td) (j := N) (k := 0) hup hdn hdv hfr (by omega) (by omega)
    refine jj_istore C0 (lv' := [(5, .int (iI (f_price up dn dv td fr N 0))), (4, .int (iI (10 * (up + dn)))), (3, .int (iI (N : Int))), (0, .ref (ha 1)), (1, .ref (cA c)), (2, .int (iI fr))]) (by decide) rfl dX2_numberAt_45 ?_
    refine jj_iconst C0 dX2_numberAt_47 ?_
    refine jj_istore C0 (lv' := [(6, .int (iI 0)), (5, .int (iI (f_price up dn dv td fr N 0))), (4, .int (iI (10 * (up + dn)))), (3, .int (iI (N : Int))), (0, .ref (ha 1)), (1, .ref (cA c)), (2, .int (iI fr))]) (by decide) rfl dX2_numberAt_48 ?_
    refine jj_ind (X := Nat × (Nat → Int)) (fun q9 => match q9 with | ⟨j, r7⟩ => (N + 1 - j : Nat)) (fun q9 => match q9 with | ⟨j, r7⟩ => [(6, .int (iI (j : Int))), (5, .int (iI (f_price up dn dv td fr N 0))), (4, .int (iI (10 * (up + dn)))), (3, .int (iI (N : Int))), (0, .ref (ha 1)), (1, .ref (cA c)), (2, .int (iI fr))]) (fun q9 => match q9 with | ⟨j, r7⟩ => []) (fun q9 => match q9 with | ⟨j, r7⟩ => wH ha cA hA nA ed cI cJ cZ td pr up dn dv r7 sd mc n mo sh co Ca Cz K St Ex Am Bi As BL AL He Co ++ EE) (fun q9 => match q9 with | ⟨j, r7⟩ => j ≤ N + 1 ∧ ∀ i, i < j → r7 i = (f_V up dn dv td (K c) (St c) (Am c) fr 0 N i)) ?_ (0, rw) ⟨Nat.zero_le _, fun i hi => absurd hi (Nat.not_lt_zero _)⟩
    intro q9 hq9 ih50
    obtain ⟨j, r7⟩ := q9
    obtain ⟨hj, hab1⟩ : j ≤ N + 1 ∧ ∀ i, i < j → r7 i = (f_V up dn dv td (K c) (St c) (Am c) fr 0 N i) := hq9
    show jj_W _ _ _ _ _ _ _ _ _ _ _ _ _ _ _ _ _ 50 [(6, .int (iI (j : Int))), (5, .int (iI (f_price up dn dv td fr N 0))), (4, .int (iI (10 * (up + dn)))), (3, .int (iI (N : Int))), (0, .ref (ha 1)), (1, .ref (cA c)), (2, .int (iI fr))] [] (wH ha cA hA nA ed cI cJ cZ td pr up dn dv r7 sd mc n mo sh co Ca Cz K St Ex Am Bi As BL AL He Co ++ EE)
    refine jj_iload C0 0 rfl dX2_numberAt_50 ?_
    refine jj_iload_n C0 3 rfl dX2_numberAt_52 ?_
    refine jj_icmp_gt C0 (by omega) (by omega) dX2_numberAt_53 (tgt := 82) (by decide) (fun c_3 => ?_) (fun c_3 => ?_)
    · refine jj_lconst C0 (z := 1) (by decide) dX2_numberAt_82 ?_
      refine jj_topl (b := ((up + dn) ^ 0)) ((Int.pow_zero _).symm) ?_
      refine jj_lstore C0 (lv' := [(6, .long (lI ((up + dn) ^ 0))), (5, .int (iI (f_price up dn dv td fr N 0))), (4, .int (iI (10 * (up + dn)))), (3, .int (iI (N : Int))), (0, .ref (ha 1)), (1, .ref (cA c)), (2, .int (iI fr))]) (by decide) rfl dX2_numberAt_83 ?_
      refine jj_iload_n C0 3 rfl dX2_numberAt_85 ?_
      refine jj_iconst C0 dX2_numberAt_86 ?_
      refine jj_isub C0 dX2_numberAt_87 ?_
      refine jj_istore C0 (lv' := [(8, .int (iI ((N : Int) - 1))), (6, .long (lI ((up + dn) ^ 0))), (5, .int (iI (f_price up dn dv td fr N 0))), (4, .int (iI (10 * (up + dn)))), (3, .int (iI (N : Int))), (0, .ref (ha 1)), (1, .ref (cA c)), (2, .int (iI fr))]) (by decide) rfl dX2_numberAt_88 ?_
      refine jj_ind (X := Nat × Nat × (Nat → Int)) (fun q9 => match q9 with | ⟨r, d1, r7⟩ => d1) (fun q9 => match q9 with | ⟨r, d1, r7⟩ => [(8, .int (iI ((d1 : Int) - 1))), (6, .long (lI ((up + dn) ^ r))), (5, .int (iI (f_price up dn dv td fr d1 0))), (4, .int (iI (10 * (up + dn)))), (3, .int (iI (N : Int))), (0, .ref (ha 1)), (1, .ref (cA c)), (2, .int (iI fr))]) (fun q9 => match q9 with | ⟨r, d1, r7⟩ => []) (fun q9 => match q9 with | ⟨r, d1, r7⟩ => wH ha cA hA nA ed cI cJ cZ td pr up dn dv r7 sd mc n mo sh co Ca Cz K St Ex Am Bi As BL AL He Co ++ EE) (fun q9 => match q9 with | ⟨r, d1, r7⟩ => r + d1 = N ∧ ∀ i, i ≤ d1 → r7 i = (f_V up dn dv td (K c) (St c) (Am c) fr r d1 i)) ?_ (0, N, r7) ⟨Nat.zero_add N, fun i hi => hab1 i (by omega)⟩
      intro q9 hq9 ih90
      obtain ⟨r, d1, r7⟩ := q9
      obtain ⟨hrd, hab⟩ : r + d1 = N ∧ ∀ i, i ≤ d1 → r7 i = (f_V up dn dv td (K c) (St c) (Am c) fr r d1 i) := hq9
      show jj_W _ _ _ _ _ _ _ _ _ _ _ _ _ _ _ _ _ 90 [(8, .int (iI ((d1 : Int) - 1))), (6, .long (lI ((up + dn) ^ r))), (5, .int (iI (f_price up dn dv td fr d1 0))), (4, .int (iI (10 * (up + dn)))), (3, .int (iI (N : Int))), (0, .ref (ha 1)), (1, .ref (cA c)), (2, .int (iI fr))] [] (wH ha cA hA nA ed cI cJ cZ td pr up dn dv r7 sd mc n mo sh co Ca Cz K St Ex Am Bi As BL AL He Co ++ EE)
      refine jj_iload C0 0 rfl dX2_numberAt_90 ?_
      refine jj_if_lt C0 (by omega) dX2_numberAt_92 (tgt := 234) (by decide) (fun c_4 => ?_) (fun c_4 => ?_)
      · refine jj_aload_n C0 5 rfl dX2_numberAt_234 ?_
        refine jj_get C0 (ci := 3) (v := .ref (ha 3)) hin_X2 (1) (rfl) rfl 1 (by decide) (hw _ hU_95) (fun _ h9 => h9) rfl dX2_numberAt_235 ?_
        refine jj_iconst C0 dX2_numberAt_238 ?_
        refine jj_lald C0 (q0 := 3) (t0 := 1) (f := r7) (rfl) rfl (k := 0) (by omega) (by omega) (by decide) dX2_numberAt_239 ?_
        exact jj_lret C0 hr r7 (trivial) (by show _ = f_num _ _ _ _ _ _ _ _ _; unfold f_num; rw [if_neg (by omega), ← hNe, hab 0 (Nat.zero_le _), show r = N by omega, show d1 = 0 by omega]) (rfl) (by decide) (by decide) dX2_numberAt_240
      · obtain ⟨dd, rfl⟩ : ∃ dd, d1 = dd + 1 := ⟨d1 - 1, by omega⟩
        refine jj_lve (lv' := [(8, .int (iI (dd : Int))), (6, .long (lI ((up + dn) ^ r))), (5, .int (iI (f_price up dn dv td fr (dd + 1) 0))), (4, .int (iI (10 * (up + dn)))), (3, .int (iI (N : Int))), (0, .ref (ha 1)), (1, .ref (cA c)), (2, .int (iI fr))]) (by rw [show (((dd + 1 : Nat) : Int) - 1) = (dd : Int) by omega]) ?_
        refine jj_iload C0 2 rfl dX2_numberAt_95 ?_
        refine jj_bipush C0 dX2_numberAt_97 (by decide) ?_
        refine jj_aload_n C0 5 rfl dX2_numberAt_99 ?_
        refine jj_get C0 (ci := 3) (v := .int (iI dn)) hin_X2 (1) (rfl) rfl 4 (by decide) (hw _ hU_100) (fun _ h9 => h9) rfl dX2_numberAt_100 ?_
        refine jj_imul C0 dX2_numberAt_103 ?_
        refine jj_aload_n C0 5 rfl dX2_numberAt_104 ?_
        refine jj_aload_n C0 5 rfl dX2_numberAt_105 ?_
        refine jj_get C0 (ci := 3) (v := .int (iI (td : Int))) hin_X2 (1) (rfl) rfl 5 (by decide) (hw _ hU_102) (fun _ h9 => h9) rfl dX2_numberAt_106 ?_
        refine jj_iload C0 0 rfl dX2_numberAt_109 ?_
        refine jj_iadd C0 dX2_numberAt_111 ?_
        refine jj_iconst C0 dX2_numberAt_112 ?_
        refine jj_iadd C0 dX2_numberAt_113 ?_
        refine jj_topi (b := ((td + 1 + dd : Nat) : Int)) (by omega) ?_
        refine jj_callVi C0 (cc_X2_dividendOn  (d := (td + 1 + dd)) (by omega)) (cwV 1 hw (lw_gV hU_294 hU_296 hU_17 hU_61 hU_297) rfl rfl rfl (by decide +kernel) ⟨Nat.le_of_ble_eq_true rfl, Nat.le_of_ble_eq_true rfl⟩) (ci := 3) (q0 := 1) rfl (rfl) rfl rfl (Nat.le_of_ble_eq_true rfl) ⟨by decide, by decide⟩ rfl rfl dX2_numberAt_114 ?_
        intro _ hu
        show jj_W _ _ _ _ _ _ _ _ _ _ _ _ _ _ _ _ _ 117 _ [.int (iI (dv (td + 1 + dd))), .int (iI (10 * dn)), .int (iI (f_price up dn dv td fr (dd + 1) 0))] (wH ha cA hA nA ed cI cJ cZ td pr up dn dv r7 sd mc n mo sh co Ca Cz K St Ex Am Bi As BL AL He Co ++ EE)
        refine jj_iadd C0 dX2_numberAt_117 ?_
        refine jj_iadd C0 dX2_numberAt_118 ?_
        refine jj_topi (b := (f_price up dn dv td fr dd 0)) (by rw [f_price_dn]; omega) ?_
        refine jj_istore C0 (lv' := [(5, .int (iI (f_price up dn dv td fr dd 0))), (8, .int (iI (dd : Int))), (6, .long (lI ((up + dn) ^ r))), (4, .int (iI (10 * (up + dn)))), (3, .int (iI (N : Int))), (0, .ref (ha 1)), (1, .ref (cA c)), (2, .int (iI fr))]) (by decide) rfl dX2_numberAt_119 ?_
        refine jj_lload C0 2 rfl dX2_numberAt_121 ?_
        refine jj_aload_n C0 5 rfl dX2_numberAt_123 ?_
        refine jj_get C0 (ci := 3) (v := .int (iI up)) hin_X2 (1) (rfl) rfl 3 (by decide) (hw _ hU_98) (fun _ h9 => h9) rfl dX2_numberAt_124 ?_
        refine jj_aload_n C0 5 rfl dX2_numberAt_127 ?_
        refine jj_get C0 (ci := 3) (v := .int (iI dn)) hin_X2 (1) (rfl) rfl 4 (by decide) (hw _ hU_100) (fun _ h9 => h9) rfl dX2_numberAt_128 ?_
        refine jj_iadd C0 dX2_numberAt_131 ?_
        refine jj_i2l C0 (by omega) dX2_numberAt_132 ?_
        refine jj_lmul C0 dX2_numberAt_133 ?_
        refine jj_topl (b := ((up + dn) ^ (r + 1))) ((Int.pow_succ _ _).symm) ?_
        refine jj_lstore C0 (lv' := [(6, .long (lI ((up + dn) ^ (r + 1)))), (5, .int (iI (f_price up dn dv td fr dd 0))), (8, .int (iI (dd : Int))), (4, .int (iI (10 * (up + dn)))), (3, .int (iI (N : Int))), (0, .ref (ha 1)), (1, .ref (cA c)), (2, .int (iI fr))]) (by decide) rfl dX2_numberAt_134 ?_
        refine jj_iconst C0 dX2_numberAt_136 ?_
        refine jj_istore C0 (lv' := [(9, .int (iI 0)), (6, .long (lI ((up + dn) ^ (r + 1)))), (5, .int (iI (f_price up dn dv td fr dd 0))), (8, .int (iI (dd : Int))), (4, .int (iI (10 * (up + dn)))), (3, .int (iI (N : Int))), (0, .ref (ha 1)), (1, .ref (cA c)), (2, .int (iI fr))]) (by decide) rfl dX2_numberAt_137 ?_
        refine jj_ind (X := Nat × (Nat → Int)) (fun q9 => match q9 with | ⟨j, r6⟩ => (dd + 2 - j : Nat)) (fun q9 => match q9 with | ⟨j, r6⟩ => [(9, .int (iI (j : Int))), (6, .long (lI ((up + dn) ^ (r + 1)))), (5, .int (iI (f_price up dn dv td fr dd 0))), (8, .int (iI (dd : Int))), (4, .int (iI (10 * (up + dn)))), (3, .int (iI (N : Int))), (0, .ref (ha 1)), (1, .ref (cA c)), (2, .int (iI fr))]) (fun q9 => match q9 with | ⟨j, r6⟩ => []) (fun q9 => match q9 with | ⟨j, r6⟩ => wH ha cA hA nA ed cI cJ cZ td pr up dn dv r6 sd mc n mo sh co Ca Cz K St Ex Am Bi As BL AL He Co ++ EE) (fun q9 => match q9 with | ⟨j, r6⟩ => j ≤ dd + 1 ∧ (∀ i, i < j → r6 i = (f_V up dn dv td (K c) (St c) (Am c) fr (r + 1) dd i)) ∧ (∀ i, j ≤ i → i ≤ dd + 1 → r6 i = (f_V up dn dv td (K c) (St c) (Am c) fr r (dd + 1) i))) ?_ (0, r7) ⟨by omega, fun i hi => absurd hi (Nat.not_lt_zero _), fun i _ hi => hab i hi⟩
        intro q9 hq9 ih139
        obtain ⟨j, r6⟩ := q9
        obtain ⟨hj, hlo, hhi⟩ : j ≤ dd + 1 ∧ (∀ i, i < j → r6 i = (f_V up dn dv td (K c) (St c) (Am c) fr (r + 1) dd i)) ∧ (∀ i, j ≤ i → i ≤ dd + 1 → r6 i = (f_V up dn dv td (K c) (St c) (Am c) fr r (dd + 1) i)) := hq9
        show jj_W _ _ _ _ _ _ _ _ _ _ _ _ _ _ _ _ _ 139 [(9, .int (iI (j : Int))), (6, .long (lI ((up + dn) ^ (r + 1)))), (5, .int (iI (f_price up dn dv td fr dd 0))), (8, .int (iI (dd : Int))), (4, .int (iI (10 * (up + dn)))), (3, .int (iI (N : Int))), (0, .ref (ha 1)), (1, .ref (cA c)), (2, .int (iI fr))] [] (wH ha cA hA nA ed cI cJ cZ td pr up dn dv r6 sd mc n mo sh co Ca Cz K St Ex Am Bi As BL AL He Co ++ EE)
        refine jj_iload C0 0 rfl dX2_numberAt_139 ?_
        refine jj_iload C0 3 rfl dX2_numberAt_141 ?_
        refine jj_icmp_gt C0 (by omega) (by omega) dX2_numberAt_143 (tgt := 228) (by decide) (fun c_5 => ?_) (fun c_5 => ?_)
        · refine jj_iinc C0 (z := ((dd : Int) - 1)) (lv' := [(8, .int (iI ((dd : Int) - 1))), (9, .int (iI (j : Int))), (6, .long (lI ((up + dn) ^ (r + 1)))), (5, .int (iI (f_price up dn dv td fr dd 0))), (4, .int (iI (10 * (up + dn)))), (3, .int (iI (N : Int))), (0, .ref (ha 1)), (1, .ref (cA c)), (2, .int (iI fr))]) 3 rfl (by omega) (by decide) rfl dX2_numberAt_228 ?_
          refine jj_goto C0 (tgt := 90) dX2_numberAt_231 (by decide) ?_
          refine jj_lv [0, 2, 3, 4, 5, 6, 7, 8] rfl ?_
          exact ih90 (r + 1, dd, r6) ⟨by omega, fun i hi => hlo i (by omega)⟩ (by dsimp only; omega)
        · refine jj_aload_n C0 6 rfl dX2_numberAt_146 ?_
          refine jj_get C0 (ci := 3) (v := .ref (ha 3)) hin_X2 (1) (rfl) rfl 1 (by decide) (hw _ hU_95) (fun _ h9 => h9) rfl dX2_numberAt_147 ?_
          refine jj_iload C0 0 rfl dX2_numberAt_150 ?_
          refine jj_aload_n C0 6 rfl dX2_numberAt_152 ?_
          refine jj_get C0 (ci := 3) (v := .int (iI dn)) hin_X2 (1) (rfl) rfl 4 (by decide) (hw _ hU_100) (fun _ h9 => h9) rfl dX2_numberAt_153 ?_
          refine jj_i2l C0 (by omega) dX2_numberAt_156 ?_
          refine jj_aload_n C0 6 rfl dX2_numberAt_157 ?_
          refine jj_get C0 (ci := 3) (v := .ref (ha 3)) hin_X2 (1) (rfl) rfl 1 (by decide) (hw _ hU_95) (fun _ h9 => h9) rfl dX2_numberAt_158 ?_
          refine jj_iload C0 0 rfl dX2_numberAt_161 ?_
          refine jj_iconst C0 dX2_numberAt_163 ?_
          refine jj_iadd C0 dX2_numberAt_164 ?_
          refine jj_lald C0 (q0 := 3) (t0 := 1) (f := r6) (rfl) rfl (k := (j + 1)) (by omega) (by omega) (by decide) dX2_numberAt_165 ?_
          refine jj_lmul C0 dX2_numberAt_166 ?_
          refine jj_aload_n C0 6 rfl dX2_numberAt_167 ?_
          refine jj_get C0 (ci := 3) (v := .int (iI up)) hin_X2 (1) (rfl) rfl 3 (by decide) (hw _ hU_98) (fun _ h9 => h9) rfl dX2_numberAt_168 ?_
          refine jj_i2l C0 (by omega) dX2_numberAt_171 ?_
          refine jj_aload_n C0 6 rfl dX2_numberAt_172 ?_
          refine jj_get C0 (ci := 3) (v := .ref (ha 3)) hin_X2 (1) (rfl) rfl 1 (by decide) (hw _ hU_95) (fun _ h9 => h9) rfl dX2_numberAt_173 ?_
          refine jj_iload C0 0 rfl dX2_numberAt_176 ?_
          refine jj_lald C0 (q0 := 3) (t0 := 1) (f := r6) (rfl) rfl (k := j) (by omega) (by omega) (by decide) dX2_numberAt_178 ?_
          refine jj_lmul C0 dX2_numberAt_179 ?_
          refine jj_ladd C0 dX2_numberAt_180 ?_
          have hx1 : r6 (j + 1) = (f_V up dn dv td (K c) (St c) (Am c) fr r (dd + 1) (j + 1)) := hhi _ (by omega) (by omega)
          have hx0 : r6 j = (f_V up dn dv td (K c) (St c) (Am c) fr r (dd + 1) j) := hhi _ (by omega) (by omega)
          have hg := f_go_lR hup hdn hdv (hSt c) hfr (ki := K c) (am := Am c) (t := td) (r := r) (d := dd) (k := j) (by omega) (by omega)
          refine jj_topl (b := (dn * (f_V up dn dv td (K c) (St c) (Am c) fr r (dd + 1) (j + 1)) + up * (f_V up dn dv td (K c) (St c) (Am c) fr r (dd + 1) j))) (by rw [hx1, hx0]) ?_
          refine jj_last C0 (q0 := 3) (t0 := 1) (f := r6) (rfl) rfl (k := j) (by omega) (by omega) (by decide) (ws' := wH ha cA hA nA ed cI cJ cZ td pr up dn dv (va_up r6 j (dn * (f_V up dn dv td (K c) (St c) (Am c) fr r (dd + 1) (j + 1)) + up * (f_V up dn dv td (K c) (St c) (Am c) fr r (dd + 1) j))) sd mc n mo sh co Ca Cz K St Ex Am Bi As BL AL He Co ++ EE) (rfl) dX2_numberAt_181 ?_
          refine jj_aload_n C0 7 rfl dX2_numberAt_182 ?_
          refine jj_getN C0 (ci := 1) (v := .int (iI (Am c))) hin_X0 ((8 + (3 * c + 0))) ((wH_c (c := c) (by omega))) rfl 3 (by decide) (va_Nw.use rfl (hE.1 _ (hN_460))) (fun _ h9 => h9) rfl dX2_numberAt_183 ?_
          have hb_Am_8303 := hAm c
          refine jj_if_eq C0 (by omega) dX2_numberAt_186 (tgt := 222) (by decide) (fun c_6 => ?_) (fun c_6 => ?_)
          · refine jj_iinc C0 (z := ((j + 1 : Nat) : Int)) (lv' := [(9, .int (iI ((j + 1 : Nat) : Int))), (6, .long (lI ((up + dn) ^ (r + 1)))), (5, .int (iI (f_price up dn dv td fr dd 0))), (8, .int (iI (dd : Int))), (4, .int (iI (10 * (up + dn)))), (3, .int (iI (N : Int))), (0, .ref (ha 1)), (1, .ref (cA c)), (2, .int (iI fr))]) 0 rfl (by omega) (by decide) rfl dX2_numberAt_222 ?_
            refine jj_goto C0 (tgt := 139) dX2_numberAt_225 (by decide) ?_
            exact ih139 (j + 1, (va_up r6 j (dn * (f_V up dn dv td (K c) (St c) (Am c) fr r (dd + 1) (j + 1)) + up * (f_V up dn dv td (K c) (St c) (Am c) fr r (dd + 1) j)))) ⟨by omega, up_lt hlo (by simp only [f_V]; first | rw [if_pos (by omega)] | rw [if_neg (by omega)]), up_ge hhi⟩ (by dsimp only; omega)
          · refine jj_aload_n C0 6 rfl dX2_numberAt_189 ?_
            refine jj_get C0 (ci := 3) (v := .ref (ha 3)) hin_X2 (1) (rfl) rfl 1 (by decide) (hw _ hU_95) (fun _ h9 => h9) rfl dX2_numberAt_190 ?_
            refine jj_iload C0 0 rfl dX2_numberAt_193 ?_
            refine jj_aload_n C0 6 rfl dX2_numberAt_195 ?_
            refine jj_get C0 (ci := 3) (v := .ref (ha 3)) hin_X2 (1) (rfl) rfl 1 (by decide) (hw _ hU_95) (fun _ h9 => h9) rfl dX2_numberAt_196 ?_
            refine jj_iload C0 0 rfl dX2_numberAt_199 ?_
            refine jj_lald C0 (q0 := 3) (t0 := 1) (f := (va_up r6 j (dn * (f_V up dn dv td (K c) (St c) (Am c) fr r (dd + 1) (j + 1)) + up * (f_V up dn dv td (K c) (St c) (Am c) fr r (dd + 1) j)))) (rfl) rfl (k := j) (by omega) (by omega) (by decide) dX2_numberAt_201 ?_
            refine jj_topl (b := (dn * (f_V up dn dv td (K c) (St c) (Am c) fr r (dd + 1) (j + 1)) + up * (f_V up dn dv td (K c) (St c) (Am c) fr r (dd + 1) j))) (va_up_self _ _ _) ?_
            refine jj_lload C0 1 rfl dX2_numberAt_202 ?_
            refine jj_aload_n C0 7 rfl dX2_numberAt_204 ?_
            refine jj_iload C0 2 rfl dX2_numberAt_205 ?_
            refine jj_iload C0 0 rfl dX2_numberAt_207 ?_
            refine jj_iload C0 4 rfl dX2_numberAt_209 ?_
            refine jj_imul C0 dX2_numberAt_211 ?_
            refine jj_iadd C0 dX2_numberAt_212 ?_
            have hp := f_price_bd (t := td) (j := dd) (k := j) hup hdn hdv hfr (by omega) (by omega)
            have hpy := f_pays_bd (k := K c) (hSt c) hp
            refine jj_topi (b := (f_price up dn dv td fr dd j)) (f_price_up _ _ _ _ _ _ _) ?_
            refine jj_callVNi C0 (cc_X0_paysAt  (c := c) (z := (f_price up dn dv td fr dd j)) (by first | exact hcn | omega) (by omega) (by first | exact hK | omega) (by first | exact hSt | omega)) ⟨va_cnB 1 hw (lw_gc hU_301 lw_UU) rfl rfl rfl (hE.1 _ hN_298) (hw _ hU_75) (by decide +kernel) ⟨Nat.le_of_ble_eq_true rfl, Nat.le_of_ble_eq_true rfl⟩, hw _ hU_300, hw _ hU_18⟩ (ci := 1) (q0 := (8 + (3 * c + 0))) rfl ((wH_c (c := c) (by omega))) rfl rfl (Nat.le_of_ble_eq_true rfl) ⟨by decide, by decide⟩ rfl rfl dX2_numberAt_213 ?_
            intro _ hu
            show jj_W _ _ _ _ _ _ _ _ _ _ _ _ _ _ _ _ _ 216 _ [.int (iI (f_pays (K c) (St c) (f_price up dn dv td fr dd j))), .long (lI ((up + dn) ^ (r + 1))), .long (lI (dn * (f_V up dn dv td (K c) (St c) (Am c) fr r (dd + 1) (j + 1)) + up * (f_V up dn dv td (K c) (St c) (Am c) fr r (dd + 1) j))), .int (iI (j : Int)), .ref (ha 3)] (wH ha cA hA nA ed cI cJ cZ td pr up dn dv (va_up r6 j (dn * (f_V up dn dv td (K c) (St c) (Am c) fr r (dd + 1) (j + 1)) + up * (f_V up dn dv td (K c) (St c) (Am c) fr r (dd + 1) j))) sd mc n mo sh co Ca Cz K St Ex Am Bi As BL AL He Co ++ EE)
            refine jj_i2l C0 (by omega) dX2_numberAt_216 ?_
            refine jj_lmul C0 dX2_numberAt_217 ?_
            refine jj_topl (b := (f_pays (K c) (St c) (f_price up dn dv td fr dd j) * (up + dn) ^ (r + 1))) (Int.mul_comm _ _) ?_
            refine jj_mmaxl C0 (by omega) (by omega) (hw _ hU_305) (List.forall_mem_cons.mpr ⟨hw _ hU_306, List.forall_mem_cons.mpr ⟨hw _ hU_73, List.forall_mem_cons.mpr ⟨hw _ hU_307, fun _ h => absurd h List.not_mem_nil⟩⟩⟩) (by decide) (Nat.le_of_ble_eq_true rfl) ⟨by decide, by decide⟩ dX2_numberAt_218 ?_
            refine jj_last C0 (q0 := 3) (t0 := 1) (f := (va_up r6 j (dn * (f_V up dn dv td (K c) (St c) (Am c) fr r (dd + 1) (j + 1)) + up * (f_V up dn dv td (K c) (St c) (Am c) fr r (dd + 1) j)))) (rfl) rfl (k := j) (by omega) (by omega) (by decide) (ws' := wH ha cA hA nA ed cI cJ cZ td pr up dn dv (va_up (va_up r6 j (dn * (f_V up dn dv td (K c) (St c) (Am c) fr r (dd + 1) (j + 1)) + up * (f_V up dn dv td (K c) (St c) (Am c) fr r (dd + 1) j))) j (max (dn * (f_V up dn dv td (K c) (St c) (Am c) fr r (dd + 1) (j + 1)) + up * (f_V up dn dv td (K c) (St c) (Am c) fr r (dd + 1) j)) (f_pays (K c) (St c) (f_price up dn dv td fr dd j) * (up + dn) ^ (r + 1)))) sd mc n mo sh co Ca Cz K St Ex Am Bi As BL AL He Co ++ EE) (rfl) dX2_numberAt_221 ?_
            refine jj_ws (ws' := wH ha cA hA nA ed cI cJ cZ td pr up dn dv (va_up r6 j (max (dn * (f_V up dn dv td (K c) (St c) (Am c) fr r (dd + 1) (j + 1)) + up * (f_V up dn dv td (K c) (St c) (Am c) fr r (dd + 1) j)) (f_pays (K c) (St c) (f_price up dn dv td fr dd j) * (up + dn) ^ (r + 1)))) sd mc n mo sh co Ca Cz K St Ex Am Bi As BL AL He Co ++ EE) (by rw [up_up]) ?_
            refine jj_iinc C0 (z := ((j + 1 : Nat) : Int)) (lv' := [(9, .int (iI ((j + 1 : Nat) : Int))), (6, .long (lI ((up + dn) ^ (r + 1)))), (5, .int (iI (f_price up dn dv td fr dd 0))), (8, .int (iI (dd : Int))), (4, .int (iI (10 * (up + dn)))), (3, .int (iI (N : Int))), (0, .ref (ha 1)), (1, .ref (cA c)), (2, .int (iI fr))]) 0 rfl (by omega) (by decide) rfl dX2_numberAt_222 ?_
            refine jj_goto C0 (tgt := 139) dX2_numberAt_225 (by decide) ?_
            exact ih139 (j + 1, (va_up r6 j (max (dn * (f_V up dn dv td (K c) (St c) (Am c) fr r (dd + 1) (j + 1)) + up * (f_V up dn dv td (K c) (St c) (Am c) fr r (dd + 1) j)) (f_pays (K c) (St c) (f_price up dn dv td fr dd j) * (up + dn) ^ (r + 1))))) ⟨by omega, up_lt hlo (by simp only [f_V]; first | rw [if_pos (by omega)] | rw [if_neg (by omega)]), up_ge hhi⟩ (by dsimp only; omega)
    · refine jj_aload_n C0 4 rfl dX2_numberAt_56 ?_
      refine jj_get C0 (ci := 3) (v := .ref (ha 3)) hin_X2 (1) (rfl) rfl 1 (by decide) (hw _ hU_95) (fun _ h9 => h9) rfl dX2_numberAt_57 ?_
      refine jj_iload C0 0 rfl dX2_numberAt_60 ?_
      refine jj_aload_n C0 5 rfl dX2_numberAt_62 ?_
      refine jj_iload C0 1 rfl dX2_numberAt_63 ?_
      refine jj_iload C0 0 rfl dX2_numberAt_65 ?_
      refine jj_iload C0 2 rfl dX2_numberAt_67 ?_
      refine jj_imul C0 dX2_numberAt_69 ?_
      refine jj_iadd C0 dX2_numberAt_70 ?_
      have hp := f_price_bd (t := td) (j := N) (k := j) hup hdn hdv hfr (by omega) (by omega)
      have hpy := f_pays_bd (k := K c) (hSt c) hp
      refine jj_topi (b := (f_price up dn dv td fr N j)) (f_price_up _ _ _ _ _ _ _) ?_
      refine jj_callVNi C0 (cc_X0_paysAt  (c := c) (z := (f_price up dn dv td fr N j)) (by first | exact hcn | omega) (by omega) (by first | exact hK | omega) (by first | exact hSt | omega)) ⟨va_cnB 1 hw (lw_gc hU_301 lw_UU) rfl rfl rfl (hE.1 _ hN_298) (hw _ hU_75) (by decide +kernel) ⟨Nat.le_of_ble_eq_true rfl, Nat.le_of_ble_eq_true rfl⟩, hw _ hU_300, hw _ hU_18⟩ (ci := 1) (q0 := (8 + (3 * c + 0))) rfl ((wH_c (c := c) (by omega))) rfl rfl (Nat.le_of_ble_eq_true rfl) ⟨by decide, by decide⟩ rfl rfl dX2_numberAt_71 ?_
      intro _ hu
      show jj_W _ _ _ _ _ _ _ _ _ _ _ _ _ _ _ _ _ 74 _ [.int (iI (f_pays (K c) (St c) (f_price up dn dv td fr N j))), .int (iI (j : Int)), .ref (ha 3)] (wH ha cA hA nA ed cI cJ cZ td pr up dn dv r7 sd mc n mo sh co Ca Cz K St Ex Am Bi As BL AL He Co ++ EE)
      refine jj_i2l C0 (by omega) dX2_numberAt_74 ?_
      refine jj_last C0 (q0 := 3) (t0 := 1) (f := r7) (rfl) rfl (k := j) (by omega) (by omega) (by decide) (ws' := wH ha cA hA nA ed cI cJ cZ td pr up dn dv (va_up r7 j (f_pays (K c) (St c) (f_price up dn dv td fr N j))) sd mc n mo sh co Ca Cz K St Ex Am Bi As BL AL He Co ++ EE) (rfl) dX2_numberAt_75 ?_
      refine jj_iinc C0 (z := ((j + 1 : Nat) : Int)) (lv' := [(6, .int (iI ((j + 1 : Nat) : Int))), (5, .int (iI (f_price up dn dv td fr N 0))), (4, .int (iI (10 * (up + dn)))), (3, .int (iI (N : Int))), (0, .ref (ha 1)), (1, .ref (cA c)), (2, .int (iI fr))]) 0 rfl (by omega) (by decide) rfl dX2_numberAt_76 ?_
      refine jj_goto C0 (tgt := 50) dX2_numberAt_79 (by decide) ?_
      exact ih50 (j + 1, (va_up r7 j (f_pays (K c) (St c) (f_price up dn dv td fr N j)))) ⟨by omega, up_lt hab1 (by simp only [f_V])⟩ (by dsimp only; omega)
set_option maxHeartbeats 4000000 in
set_option maxRecDepth 100000 in
theorem cc_X2_markAt  {c : Nat} {fr : Int} (hex : Ex c ≤ (td : Int) + 10) (hcn : c < n) (htd : td ≤ 200) (hfr : -30000 ≤ fr ∧ fr ≤ 30000) (hup : 1 ≤ up ∧ up ≤ 10) (hdn : 1 ≤ dn ∧ dn ≤ 10) (hdv : ∀ j, 0 ≤ dv j ∧ dv j ≤ 1000) (hK : ∀ j, 0 ≤ K j ∧ K j ≤ 1) (hSt : ∀ j, 0 ≤ St j ∧ St j ≤ 20000) (hEx : ∀ j, 0 ≤ Ex j ∧ Ex j ≤ 200) (hAm : ∀ j, 0 ≤ Am j ∧ Am j ≤ 1) : jj_Mi EVh (dC, dI) vwCl [(cI, .int), (cJ, .long), (cZ, .boolean), (cO, .object "java/lang/Object")] l yX2_markAt (Cond.code yX2_markAt cX2_markAt 3 (some .int) :: lw_U) ({ frames := 3, cells := 0, slots := 0, locals := 74 } : Room) [.ref (ha 1), .ref (cA c), .int (iI fr)] (wH ha cA hA nA ed cI cJ cZ td pr up dn dv rw sd mc n mo sh co Ca Cz K St Ex Am Bi As BL AL He Co ++ EE) (S := (Nat → Int)) (fun r8 => (f_mark up dn dv td (K c) (St c) (Ex c) (Am c) fr)) (fun r8 => True) (fun r8 => wH ha cA hA nA ed cI cJ cZ td pr up dn dv r8 sd mc n mo sh co Ca Cz K St Ex Am Bi As BL AL He Co ++ EE) := by
  refine jj_start (cc := cX2_markAt) (nL := 3) (ret := (some .int)) (lv := [(0, .ref (ha 1)), (1, .ref (cA c)), (2, .int (iI fr))]) (fun A => jj_Qi _ _ _ _ _ _ A) hEVh (by decide) rfl (Nat.le_of_ble_eq_true rfl) rfl ?_
  intro p9 e9 s9 m9 a9 b9 me9 c9 A9 C1 hr hin
  have C0 : jj_C p9 s9 m9 a9 me9 c9 (dC, dI) vwCl A9 3 cX2_markAt "Strikehall$Share" lw_U _ EVh := jj_toU C1
  have hw := C0.2.2.2.2.1
  have hE := C0.2.2.2.2.2.2.2.1
  have hnb := f_num_bd (ki := K c) (am := Am c) hup hdn hdv (hSt c) hfr hex
  refine jj_aload_n C0 0 rfl dX2_markAt_0 ?_
  refine jj_aload_n C0 1 rfl dX2_markAt_1 ?_
  refine jj_iload_n C0 2 rfl dX2_markAt_2 ?_
  refine jj_callVl C0 (cc_X2_numberAt  (c := c) (fr := fr) (by first | exact hex | omega) (by first | exact hcn | omega) (by first | exact htd | omega) (by first | exact hfr | omega) (by first | exact hup | omega) (by first | exact hdn | omega) (by first | exact hdv | omega) (by first | exact hK | omega) (by first | exact hSt | omega) (by first | exact hEx | omega) (by first | exact hAm | omega)) (cwV 2 hw (lw_gV hU_286 hU_288 hU_15 hU_61 hU_289) rfl rfl rfl (by decide +kernel) ⟨Nat.le_of_ble_eq_true rfl, Nat.le_of_ble_eq_true rfl⟩) (ci := 3) (q0 := 1) rfl (rfl) rfl rfl (Nat.le_of_ble_eq_true rfl) ⟨by decide, by decide⟩ rfl rfl dX2_markAt_3 ?_
  intro r8_1 hu
  show jj_W _ _ _ _ _ _ _ _ _ _ _ _ _ _ _ _ _ 6 _ [.long (lI (f_num up dn dv td (K c) (St c) (Ex c) (Am c) fr))] (wH ha cA hA nA ed cI cJ cZ td pr up dn dv r8_1 sd mc n mo sh co Ca Cz K St Ex Am Bi As BL AL He Co ++ EE)
  refine jj_aload_n C0 0 rfl dX2_markAt_6 ?_
  refine jj_aload_n C0 1 rfl dX2_markAt_7 ?_
  refine jj_callVl C0 (cc_X2_belowOf  (c := c) (by first | exact hex | omega) (by first | exact hcn | omega) (by first | exact hup | omega) (by first | exact hdn | omega) (by first | exact htd | omega) (by first | exact hEx | omega)) (cwV 1 hw (lw_gV hU_308 hU_310 hU_19 hU_61 hU_311) rfl rfl rfl (by decide +kernel) ⟨Nat.le_of_ble_eq_true rfl, Nat.le_of_ble_eq_true rfl⟩) (ci := 3) (q0 := 1) rfl (rfl) rfl rfl (Nat.le_of_ble_eq_true rfl) ⟨by decide, by decide⟩ rfl rfl dX2_markAt_8 ?_
  intro _ hu
  show jj_W _ _ _ _ _ _ _ _ _ _ _ _ _ _ _ _ _ 11 _ [.long (lI (f_den up dn td (Ex c))), .long (lI (f_num up dn dv td (K c) (St c) (Ex c) (Am c) fr))] (wH ha cA hA nA ed cI cJ cZ td pr up dn dv r8_1 sd mc n mo sh co Ca Cz K St Ex Am Bi As BL AL He Co ++ EE)
  refine jj_callSNi C0 (cc_X3_thousandTimes  (v := (f_num up dn dv td (K c) (St c) (Ex c) (Am c) fr)) (w := (f_den up dn td (Ex c))) (by omega) (by omega)) ⟨va_cnB 2 hw (lw_gc hU_320 lw_UU) rfl rfl rfl (hE.1 _ hN_318) (hw _ hU_60) (by decide +kernel) ⟨Nat.le_of_ble_eq_true rfl, Nat.le_of_ble_eq_true rfl⟩, hw _ hU_319, trivial⟩ rfl rfl (Nat.le_of_ble_eq_true rfl) ⟨by decide, by decide⟩ rfl rfl dX2_markAt_11 ?_
  intro _ hu
  show jj_W _ _ _ _ _ _ _ _ _ _ _ _ _ _ _ _ _ 14 _ [.int (iI (f_mk (f_num up dn dv td (K c) (St c) (Ex c) (Am c) fr) (f_den up dn td (Ex c))))] (wH ha cA hA nA ed cI cJ cZ td pr up dn dv r8_1 sd mc n mo sh co Ca Cz K St Ex Am Bi As BL AL He Co ++ EE)
  exact jj_iret C0 hr r8_1 (trivial) (rfl) (rfl) (by decide) (by decide) dX2_markAt_14
set_option maxHeartbeats 4000000 in
set_option maxRecDepth 100000 in
theorem cc_X3_moneyAt  {k : Nat} (hkk : k ≤ 6) : jj_Ml EVh (dC, dI) vwCl [(cI, .int), (cJ, .long), (cZ, .boolean), (cO, .object "java/lang/Object")] l yX3_moneyAt (Cond.code yX3_moneyAt cX3_moneyAt 2 (some .long) :: lw_U) ({ frames := 0, cells := 0, slots := 0, locals := 0 } : Room) [.ref (ha 0), .int (iI (k : Int))] (wH ha cA hA nA ed cI cJ cZ td pr up dn dv rw sd mc n mo sh co Ca Cz K St Ex Am Bi As BL AL He Co ++ EE) (S := Unit) (fun _ => (Ca k)) (fun _ => True) (fun _ => wH ha cA hA nA ed cI cJ cZ td pr up dn dv rw sd mc n mo sh co Ca Cz K St Ex Am Bi As BL AL He Co ++ EE) := by
  refine jj_start (cc := cX3_moneyAt) (nL := 2) (ret := (some .long)) (lv := [(0, .ref (ha 0)), (1, .int (iI (k : Int)))]) (fun A => jj_Ql _ _ _ _ _ _ A) hEVh (by decide) rfl (Nat.le_of_ble_eq_true rfl) rfl ?_
  intro p9 e9 s9 m9 a9 b9 me9 c9 A9 C1 hr hin
  have C0 : jj_C p9 s9 m9 a9 me9 c9 (dC, dI) vwCl A9 2 cX3_moneyAt "Strikehall" lw_U _ EVh := jj_toU C1
  have hw := C0.2.2.2.2.1
  have hE := C0.2.2.2.2.2.2.2.1
  refine jj_iload_n C0 1 rfl dX3_moneyAt_0 ?_
  refine jj_if_lt C0 (by omega) dX3_moneyAt_1 (tgt := 22) (by decide) (fun c_1 => absurd c_1 (by omega)) (fun c_1 => ?_)
  refine jj_iload_n C0 1 rfl dX3_moneyAt_4 ?_
  refine jj_aload_n C0 0 rfl dX3_moneyAt_5 ?_
  refine jj_get C0 (ci := 4) (v := .ref (ha 6)) hin_X3 (0) (rfl) rfl 3 (by decide) (hw _ hU_159) (fun _ h9 => h9) rfl dX3_moneyAt_6 ?_
  refine jj_alen C0 (q0 := 6) (t0 := 1) (z := 7) (rfl) rfl rfl dX3_moneyAt_9 ?_
  refine jj_icmp_ge C0 (by omega) (by omega) dX3_moneyAt_10 (tgt := 22) (by decide) (fun c_2 => absurd c_2 (by omega)) (fun c_2 => ?_)
  refine jj_aload_n C0 0 rfl dX3_moneyAt_13 ?_
  refine jj_get C0 (ci := 4) (v := .ref (ha 6)) hin_X3 (0) (rfl) rfl 3 (by decide) (hw _ hU_159) (fun _ h9 => h9) rfl dX3_moneyAt_14 ?_
  refine jj_iload_n C0 1 rfl dX3_moneyAt_17 ?_
  refine jj_lald C0 (q0 := 6) (t0 := 1) (f := Ca) (rfl) rfl (k := k) (by omega) (by omega) (by decide) dX3_moneyAt_18 ?_
  refine jj_goto C0 (tgt := 23) dX3_moneyAt_19 (by decide) ?_
  exact jj_lret C0 hr () (trivial) (rfl) (rfl) (by decide) (by decide) dX3_moneyAt_23
set_option maxHeartbeats 4000000 in
set_option maxRecDepth 100000 in
theorem cc_X3_addMoney  {k : Nat} {x : Int} (hkk : k ≤ 6) : jj_Mv EVh (dC, dI) vwCl [(cI, .int), (cJ, .long), (cZ, .boolean), (cO, .object "java/lang/Object")] l yX3_addMoney (Cond.code yX3_addMoney cX3_addMoney 4 none :: lw_U) ({ frames := 0, cells := 0, slots := 0, locals := 0 } : Room) [.ref (ha 0), .int (iI (k : Int)), .long (lI x)] (wH ha cA hA nA ed cI cJ cZ td pr up dn dv rw sd mc n mo sh co Ca Cz K St Ex Am Bi As BL AL He Co ++ EE) (S := Unit)  (fun _ => True) (fun _ => wH ha cA hA nA ed cI cJ cZ td pr up dn dv rw sd mc n mo sh co (va_up Ca k (Ca k + x)) Cz K St Ex Am Bi As BL AL He Co ++ EE) := by
  refine jj_start (cc := cX3_addMoney) (nL := 4) (ret := none) (lv := [(0, .ref (ha 0)), (1, .int (iI (k : Int))), (2, .long (lI x))]) (fun A => jj_Qv _ _ _ _ _ A) hEVh (by decide) rfl (Nat.le_of_ble_eq_true rfl) rfl ?_
  intro p9 e9 s9 m9 a9 b9 me9 c9 A9 C1 hr hin
  have C0 : jj_C p9 s9 m9 a9 me9 c9 (dC, dI) vwCl A9 4 cX3_addMoney "Strikehall" lw_U _ EVh := jj_toU C1
  have hw := C0.2.2.2.2.1
  have hE := C0.2.2.2.2.2.2.2.1
  refine jj_iload_n C0 1 rfl dX3_addMoney_0 ?_
  refine jj_if_lt C0 (by omega) dX3_addMoney_1 (tgt := 23) (by decide) (fun c_1 => absurd c_1 (by omega)) (fun c_1 => ?_)
  refine jj_iload_n C0 1 rfl dX3_addMoney_4 ?_
  refine jj_aload_n C0 0 rfl dX3_addMoney_5 ?_
  refine jj_get C0 (ci := 4) (v := .ref (ha 6)) hin_X3 (0) (rfl) rfl 3 (by decide) (hw _ hU_159) (fun _ h9 => h9) rfl dX3_addMoney_6 ?_
  refine jj_alen C0 (q0 := 6) (t0 := 1) (z := 7) (rfl) rfl rfl dX3_addMoney_9 ?_
  refine jj_icmp_ge C0 (by omega) (by omega) dX3_addMoney_10 (tgt := 23) (by decide) (fun c_2 => absurd c_2 (by omega)) (fun c_2 => ?_)
  refine jj_aload_n C0 0 rfl dX3_addMoney_13 ?_
  refine jj_get C0 (ci := 4) (v := .ref (ha 6)) hin_X3 (0) (rfl) rfl 3 (by decide) (hw _ hU_159) (fun _ h9 => h9) rfl dX3_addMoney_14 ?_
  refine jj_iload_n C0 1 rfl dX3_addMoney_17 ?_
  refine jj_dup2_11 C0 dX3_addMoney_18 rfl rfl ?_
  refine jj_lald C0 (q0 := 6) (t0 := 1) (f := Ca) (rfl) rfl (k := k) (by omega) (by omega) (by decide) dX3_addMoney_19 ?_
  refine jj_lload_n C0 2 rfl dX3_addMoney_20 ?_
  refine jj_ladd C0 dX3_addMoney_21 ?_
  refine jj_last C0 (q0 := 6) (t0 := 1) (f := Ca) (rfl) rfl (k := k) (by omega) (by omega) (by decide) (ws' := wH ha cA hA nA ed cI cJ cZ td pr up dn dv rw sd mc n mo sh co (va_up Ca k ((Ca k) + x)) Cz K St Ex Am Bi As BL AL He Co ++ EE) (rfl) dX3_addMoney_22 ?_
  exact jj_vret C0 hr () (trivial) (rfl) (by decide) (by decide) dX3_addMoney_23
set_option maxHeartbeats 4000000 in
set_option maxRecDepth 100000 in
theorem cc_X3_addProfit  {k : Nat} {x : Int} (hkk : k ≤ 5) : jj_Mv EVh (dC, dI) vwCl [(cI, .int), (cJ, .long), (cZ, .boolean), (cO, .object "java/lang/Object")] l yX3_addProfit (Cond.code yX3_addProfit cX3_addProfit 4 none :: lw_U) ({ frames := 0, cells := 0, slots := 0, locals := 0 } : Room) [.ref (ha 0), .int (iI (k : Int)), .long (lI x)] (wH ha cA hA nA ed cI cJ cZ td pr up dn dv rw sd mc n mo sh co Ca Cz K St Ex Am Bi As BL AL He Co ++ EE) (S := Unit)  (fun _ => True) (fun _ => wH ha cA hA nA ed cI cJ cZ td pr up dn dv rw sd mc n mo sh co Ca (va_up Cz k (Cz k + x)) K St Ex Am Bi As BL AL He Co ++ EE) := by
  refine jj_start (cc := cX3_addProfit) (nL := 4) (ret := none) (lv := [(0, .ref (ha 0)), (1, .int (iI (k : Int))), (2, .long (lI x))]) (fun A => jj_Qv _ _ _ _ _ A) hEVh (by decide) rfl (Nat.le_of_ble_eq_true rfl) rfl ?_
  intro p9 e9 s9 m9 a9 b9 me9 c9 A9 C1 hr hin
  have C0 : jj_C p9 s9 m9 a9 me9 c9 (dC, dI) vwCl A9 4 cX3_addProfit "Strikehall" lw_U _ EVh := jj_toU C1
  have hw := C0.2.2.2.2.1
  have hE := C0.2.2.2.2.2.2.2.1
  refine jj_iload_n C0 1 rfl dX3_addProfit_0 ?_
  refine jj_if_lt C0 (by omega) dX3_addProfit_1 (tgt := 23) (by decide) (fun c_1 => absurd c_1 (by omega)) (fun c_1 => ?_)
  refine jj_iload_n C0 1 rfl dX3_addProfit_4 ?_
  refine jj_aload_n C0 0 rfl dX3_addProfit_5 ?_
  refine jj_get C0 (ci := 4) (v := .ref (ha 7)) hin_X3 (0) (rfl) rfl 4 (by decide) (hw _ hU_160) (fun _ h9 => h9) rfl dX3_addProfit_6 ?_
  refine jj_alen C0 (q0 := 7) (t0 := 1) (z := 6) (rfl) rfl rfl dX3_addProfit_9 ?_
  refine jj_icmp_ge C0 (by omega) (by omega) dX3_addProfit_10 (tgt := 23) (by decide) (fun c_2 => absurd c_2 (by omega)) (fun c_2 => ?_)
  refine jj_aload_n C0 0 rfl dX3_addProfit_13 ?_
  refine jj_get C0 (ci := 4) (v := .ref (ha 7)) hin_X3 (0) (rfl) rfl 4 (by decide) (hw _ hU_160) (fun _ h9 => h9) rfl dX3_addProfit_14 ?_
  refine jj_iload_n C0 1 rfl dX3_addProfit_17 ?_
  refine jj_dup2_11 C0 dX3_addProfit_18 rfl rfl ?_
  refine jj_lald C0 (q0 := 7) (t0 := 1) (f := Cz) (rfl) rfl (k := k) (by omega) (by omega) (by decide) dX3_addProfit_19 ?_
  refine jj_lload_n C0 2 rfl dX3_addProfit_20 ?_
  refine jj_ladd C0 dX3_addProfit_21 ?_
  refine jj_last C0 (q0 := 7) (t0 := 1) (f := Cz) (rfl) rfl (k := k) (by omega) (by omega) (by decide) (ws' := wH ha cA hA nA ed cI cJ cZ td pr up dn dv rw sd mc n mo sh co Ca (va_up Cz k ((Cz k) + x)) K St Ex Am Bi As BL AL He Co ++ EE) (rfl) dX3_addProfit_22 ?_
  exact jj_vret C0 hr () (trivial) (rfl) (by decide) (by decide) dX3_addProfit_23
end CC1
