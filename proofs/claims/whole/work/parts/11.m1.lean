/-- the reference's cells -/
def wM (ad : Nat → Nat) (cI cJ cZ : ClassId) (th : Int) (td : Nat) (pr up dn : Int) (dv : Nat → Int) (n : Nat) (K St Ex Am Ov Bi As BL AL He Co Ca : Nat → Int) (mo sh co sd : Int) (Cz Ab : Nat → Int) (be : Int) : va_W := [(ad 0, .inr (5, [.int (iI th), .int (iI (td : Int)), .int (iI pr), .int (iI up), .int (iI dn), .ref (ad 1), .int (iI (n : Int)), .ref (ad 2), .ref (ad 3), .ref (ad 4), .ref (ad 5), .ref (ad 6), .ref (ad 7), .ref (ad 8), .ref (ad 9), .ref (ad 10), .ref (ad 11), .ref (ad 12), .ref (ad 13), .int (iI mo), .int (iI sh), .int (iI co), .long (lI sd), .ref (ad 14), .ref (ad 15), .long (lI be)])), (ad 1, .inl (cI, 201, .inl (iA dv))), (ad 2, .inl (cI, 12, .inl (iA K))), (ad 3, .inl (cI, 12, .inl (iA St))), (ad 4, .inl (cI, 12, .inl (iA Ex))), (ad 5, .inl (cZ, 12, .inl (iA Am))), (ad 6, .inl (cZ, 12, .inl (iA Ov))), (ad 7, .inl (cI, 12, .inl (iA Bi))), (ad 8, .inl (cI, 12, .inl (iA As))), (ad 9, .inl (cI, 12, .inl (iA BL))), (ad 10, .inl (cI, 12, .inl (iA AL))), (ad 11, .inl (cI, 84, .inl (iA He))), (ad 12, .inl (cZ, 84, .inl (iA Co))), (ad 13, .inl (cJ, 7, .inr (.inl (lA Ca)))), (ad 14, .inl (cJ, 6, .inr (.inl (lA Cz)))), (ad 15, .inl (cJ, 11, .inr (.inl (lA Ab))))]
section MM
variable {EV : (Nat → Prop) → State → Heap → Prop} {l : Launch} {dC : Nat → ClassId} {dI : Nat → Nat → Nat} {cI cJ cZ cO : ClassId} {E : va_W} {ad : Nat → Nat} {ws : va_W} {th : Int} {td : Nat} {pr up dn : Int} {dv : Nat → Int} {n : Nat} {K St Ex Am Ov Bi As BL AL He Co Ca : Nat → Int} {mo sh co sd : Int} {Cz Ab : Nat → Int} {be : Int}
set_option maxHeartbeats 4000000 in
set_option maxRecDepth 100000 in
theorem cc_X4_in (hEV : jj_EV EV) {v lo hi : Int} (h1 : lR v) (h2 : lR lo) (h3 : lR hi) : jj_Mi EV (dC, dI) vwCl [(cI, .int), (cJ, .long), (cZ, .boolean), (cO, .object "java/lang/Object")] l yX4_in (Cond.code yX4_in cX4_in 6 (some .boolean) :: lw_U) ({ frames := 0, cells := 0, slots := 0, locals := 0 } : Room) [.long (lI v), .long (lI lo), .long (lI hi)] (ws) (S := Int) (fun u => u) (fun u => (u = 1 ∧ lo ≤ v ∧ v ≤ hi) ∨ (u = 0 ∧ (v < lo ∨ hi < v))) (fun u => ws) := by
  refine jj_start (cc := cX4_in) (nL := 6) (ret := (some .boolean)) (lv := [(0, .long (lI v)), (2, .long (lI lo)), (4, .long (lI hi))]) (fun A => jj_Qi _ _ _ _ _ _ A) hEV (by decide) rfl (Nat.le_of_ble_eq_true rfl) rfl ?_
  intro p9 e9 s9 m9 a9 b9 me9 c9 A9 C1 hr hin
  have C0 : jj_C p9 s9 m9 a9 me9 c9 (dC, dI) vwCl A9 6 cX4_in "StrikehallModel" lw_U _ EV := jj_toU C1
  have hw := C0.2.2.2.2.1
  refine jj_lload_n C0 0 rfl dX4_in_0 ?_
  refine jj_lload_n C0 1 rfl dX4_in_1 ?_
  refine jj_lcmp_lt C0 (by omega) (by omega) dX4_in_2 dX4_in_3 (tgt := 17) (by decide) (fun c_1 => ?_) (fun c_1 => ?_)
  · refine jj_iconst C0 dX4_in_17 ?_
    exact jj_zret C0 hr 0 (by omega) (rfl) (by omega) (rfl) (by decide) (by decide) dX4_in_18
  · refine jj_lload_n C0 0 rfl dX4_in_6 ?_
    refine jj_lload C0 2 rfl dX4_in_7 ?_
    refine jj_lcmp_gt C0 (by omega) (by omega) dX4_in_9 dX4_in_10 (tgt := 17) (by decide) (fun c_2 => ?_) (fun c_2 => ?_)
    · refine jj_iconst C0 dX4_in_17 ?_
      exact jj_zret C0 hr 0 (by omega) (rfl) (by omega) (rfl) (by decide) (by decide) dX4_in_18
    · refine jj_iconst C0 dX4_in_13 ?_
      refine jj_goto C0 (tgt := 18) dX4_in_14 (by decide) ?_
      exact jj_zret C0 hr 1 (by omega) (rfl) (by omega) (rfl) (by decide) (by decide) dX4_in_18
set_option maxHeartbeats 4000000 in
set_option maxRecDepth 100000 in
theorem cc_X4_in1 (hEV : jj_EV EV) {v lo hi : Int} (h1 : lR v) (h2 : lR lo) (h3 : lR hi) (h4 : lo ≤ v ∧ v ≤ hi) : jj_Mi EV (dC, dI) vwCl [(cI, .int), (cJ, .long), (cZ, .boolean), (cO, .object "java/lang/Object")] l yX4_in (Cond.code yX4_in cX4_in 6 (some .boolean) :: lw_U) ({ frames := 0, cells := 0, slots := 0, locals := 0 } : Room) [.long (lI v), .long (lI lo), .long (lI hi)] (ws) (S := Unit) (fun _ => 1) (fun _ => True) (fun _ => ws) := by
  refine jj_start (cc := cX4_in) (nL := 6) (ret := (some .boolean)) (lv := [(0, .long (lI v)), (2, .long (lI lo)), (4, .long (lI hi))]) (fun A => jj_Qi _ _ _ _ _ _ A) hEV (by decide) rfl (Nat.le_of_ble_eq_true rfl) rfl ?_
  intro p9 e9 s9 m9 a9 b9 me9 c9 A9 C1 hr hin
  have C0 : jj_C p9 s9 m9 a9 me9 c9 (dC, dI) vwCl A9 6 cX4_in "StrikehallModel" lw_U _ EV := jj_toU C1
  have hw := C0.2.2.2.2.1
  refine jj_lload_n C0 0 rfl dX4_in_0 ?_
  refine jj_lload_n C0 1 rfl dX4_in_1 ?_
  refine jj_lcmp_lt C0 (by omega) (by omega) dX4_in_2 dX4_in_3 (tgt := 17) (by decide) (fun c_1 => absurd c_1 (by omega)) (fun c_1 => ?_)
  refine jj_lload_n C0 0 rfl dX4_in_6 ?_
  refine jj_lload C0 2 rfl dX4_in_7 ?_
  refine jj_lcmp_gt C0 (by omega) (by omega) dX4_in_9 dX4_in_10 (tgt := 17) (by decide) (fun c_2 => absurd c_2 (by omega)) (fun c_2 => ?_)
  refine jj_iconst C0 dX4_in_13 ?_
  refine jj_goto C0 (tgt := 18) dX4_in_14 (by decide) ?_
  exact jj_zret C0 hr () (trivial) (rfl) (by omega) (rfl) (by decide) (by decide) dX4_in_18
set_option maxHeartbeats 4000000 in
set_option maxRecDepth 100000 in
theorem cc_X4_isContract (hEV : jj_EV EV) {z : Int} (hz : iR z) (hn : n ≤ 12) : jj_Mi EV (dC, dI) vwCl [(cI, .int), (cJ, .long), (cZ, .boolean), (cO, .object "java/lang/Object")] l yX4_isContract (Cond.code yX4_isContract cX4_isContract 2 (some .boolean) :: lw_U) ({ frames := 1, cells := 0, slots := 0, locals := 25 } : Room) [.ref (ad 0), .int (iI z)] (wM ad cI cJ cZ th td pr up dn dv n K St Ex Am Ov Bi As BL AL He Co Ca mo sh co sd Cz Ab be ++ E) (S := Int) (fun u => u) (fun u => (u = 1 ∧ 0 ≤ z ∧ z ≤ (n : Int) - 1) ∨ (u = 0 ∧ (z < 0 ∨ (n : Int) - 1 < z))) (fun u => wM ad cI cJ cZ th td pr up dn dv n K St Ex Am Ov Bi As BL AL He Co Ca mo sh co sd Cz Ab be ++ E) := by
  refine jj_start (cc := cX4_isContract) (nL := 2) (ret := (some .boolean)) (lv := [(0, .ref (ad 0)), (1, .int (iI z))]) (fun A => jj_Qi _ _ _ _ _ _ A) hEV (by decide) rfl (Nat.le_of_ble_eq_true rfl) rfl ?_
  intro p9 e9 s9 m9 a9 b9 me9 c9 A9 C1 hr hin
  have C0 : jj_C p9 s9 m9 a9 me9 c9 (dC, dI) vwCl A9 2 cX4_isContract "StrikehallModel" lw_U _ EV := jj_toU C1
  have hw := C0.2.2.2.2.1
  refine jj_iload_n C0 1 rfl dX4_isContract_0 ?_
  refine jj_i2l C0 (by omega) dX4_isContract_1 ?_
  refine jj_lconst C0 (z := 0) (by decide) dX4_isContract_2 ?_
  refine jj_aload_n C0 0 rfl dX4_isContract_3 ?_
  refine jj_get C0 (ci := 5) (v := .int (iI (n : Int))) hin_X4 (0) (rfl) rfl 6 (by decide) (hw _ hU_792) (fun _ h9 => h9) rfl dX4_isContract_4 ?_
  refine jj_iconst C0 dX4_isContract_7 ?_
  refine jj_isub C0 dX4_isContract_8 ?_
  refine jj_i2l C0 (by omega) dX4_isContract_9 ?_
  refine jj_callSi C0 (cc_X4_in hEV (v := z) (lo := 0) (hi := ((n : Int) - 1)) (by omega) (by omega) (by omega)) (cwS 3 hw (lw_gS hU_874 hU_875 hU_66 hU_876) rfl rfl rfl (by decide +kernel) ⟨Nat.le_of_ble_eq_true rfl, Nat.le_of_ble_eq_true rfl⟩) rfl rfl (Nat.le_of_ble_eq_true rfl) ⟨by decide, by decide⟩ rfl rfl dX4_isContract_10 ?_
  intro u_1 hu
  have hu_10 : (u_1 = 1 ∧ 0 ≤ z ∧ z ≤ ((n : Int) - 1)) ∨ (u_1 = 0 ∧ (z < 0 ∨ ((n : Int) - 1) < z)) := hu
  show jj_W _ _ _ _ _ _ _ _ _ _ _ _ _ _ _ _ _ 13 _ [.int (iI u_1)] (wM ad cI cJ cZ th td pr up dn dv n K St Ex Am Ov Bi As BL AL He Co Ca mo sh co sd Cz Ab be ++ E)
  exact jj_zret C0 hr u_1 (by omega) (rfl) (by omega) (rfl) (by decide) (by decide) dX4_isContract_13
set_option maxHeartbeats 4000000 in
set_option maxRecDepth 100000 in
theorem cc_X4_isHolder (hEV : jj_EV EV) {z : Int} (hz : iR z) : jj_Mi EV (dC, dI) vwCl [(cI, .int), (cJ, .long), (cZ, .boolean), (cO, .object "java/lang/Object")] l yX4_isHolder (Cond.code yX4_isHolder cX4_isHolder 1 (some .boolean) :: lw_U) ({ frames := 1, cells := 0, slots := 0, locals := 25 } : Room) [.int (iI z)] (ws) (S := Int) (fun u => u) (fun u => (u = 1 ∧ -1 ≤ z ∧ z ≤ 5) ∨ (u = 0 ∧ (z < -1 ∨ 5 < z))) (fun u => ws) := by
  refine jj_start (cc := cX4_isHolder) (nL := 1) (ret := (some .boolean)) (lv := [(0, .int (iI z))]) (fun A => jj_Qi _ _ _ _ _ _ A) hEV (by decide) rfl (Nat.le_of_ble_eq_true rfl) rfl ?_
  intro p9 e9 s9 m9 a9 b9 me9 c9 A9 C1 hr hin
  have C0 : jj_C p9 s9 m9 a9 me9 c9 (dC, dI) vwCl A9 1 cX4_isHolder "StrikehallModel" lw_U _ EV := jj_toU C1
  have hw := C0.2.2.2.2.1
  refine jj_iload_n C0 0 rfl dX4_isHolder_0 ?_
  refine jj_i2l C0 (by omega) dX4_isHolder_1 ?_
  refine jj_ldc2 C0 (z := -1) (by decide) (hw _ hU_988) dX4_isHolder_2 ?_
  refine jj_ldc2 C0 (z := 5) (by decide) (hw _ hU_960) dX4_isHolder_5 ?_
  refine jj_callSi C0 (cc_X4_in hEV (v := z) (lo := (-1)) (hi := 5) (by omega) (by omega) (by omega)) (cwS 3 hw (lw_gS hU_874 hU_875 hU_66 hU_876) rfl rfl rfl (by decide +kernel) ⟨Nat.le_of_ble_eq_true rfl, Nat.le_of_ble_eq_true rfl⟩) rfl rfl (Nat.le_of_ble_eq_true rfl) ⟨by decide, by decide⟩ rfl rfl dX4_isHolder_8 ?_
  intro u_1 hu
  have hu_8 : (u_1 = 1 ∧ (-1) ≤ z ∧ z ≤ 5) ∨ (u_1 = 0 ∧ (z < (-1) ∨ 5 < z)) := hu
  show jj_W _ _ _ _ _ _ _ _ _ _ _ _ _ _ _ _ _ 11 _ [.int (iI u_1)] (ws)
  exact jj_zret C0 hr u_1 (by omega) (rfl) (by omega) (rfl) (by decide) (by decide) dX4_isHolder_11
set_option maxHeartbeats 4000000 in
set_option maxRecDepth 100000 in
theorem cc_X4_at (hEV : jj_EV EV) {k c : Nat} (hk : k ≤ 6) (hc : c ≤ 12) : jj_Mi EV (dC, dI) vwCl [(cI, .int), (cJ, .long), (cZ, .boolean), (cO, .object "java/lang/Object")] l yX4_at (Cond.code yX4_at cX4_at 2 (some .int) :: lw_U) ({ frames := 0, cells := 0, slots := 0, locals := 0 } : Room) [.int (iI (k : Int)), .int (iI (c : Int))] (ws) (S := Unit) (fun _ => ((7 * c + k : Nat) : Int)) (fun _ => True) (fun _ => ws) := by
  refine jj_start (cc := cX4_at) (nL := 2) (ret := (some .int)) (lv := [(0, .int (iI (k : Int))), (1, .int (iI (c : Int)))]) (fun A => jj_Qi _ _ _ _ _ _ A) hEV (by decide) rfl (Nat.le_of_ble_eq_true rfl) rfl ?_
  intro p9 e9 s9 m9 a9 b9 me9 c9 A9 C1 hr hin
  have C0 : jj_C p9 s9 m9 a9 me9 c9 (dC, dI) vwCl A9 2 cX4_at "StrikehallModel" lw_U _ EV := jj_toU C1
  have hw := C0.2.2.2.2.1
  refine jj_bipush C0 dX4_at_0 (by decide) ?_
  refine jj_iload_n C0 1 rfl dX4_at_2 ?_
  refine jj_imul C0 dX4_at_3 ?_
  refine jj_iload_n C0 0 rfl dX4_at_4 ?_
  refine jj_iconst C0 dX4_at_5 ?_
  refine jj_icmp_ne C0 (by omega) (by omega) dX4_at_6 (tgt := 14) (by decide) (fun c_1 => ?_) (fun c_1 => absurd c_1 (by omega))
  refine jj_iload_n C0 0 rfl dX4_at_14 ?_
  refine jj_iadd C0 dX4_at_15 ?_
  exact jj_iret C0 hr () (trivial) (by omega) (rfl) (by decide) (by decide) dX4_at_16
set_option maxHeartbeats 4000000 in
set_option maxRecDepth 100000 in
theorem cc_X4_atH (hEV : jj_EV EV) {c : Nat} (hc : c ≤ 12) : jj_Mi EV (dC, dI) vwCl [(cI, .int), (cJ, .long), (cZ, .boolean), (cO, .object "java/lang/Object")] l yX4_at (Cond.code yX4_at cX4_at 2 (some .int) :: lw_U) ({ frames := 0, cells := 0, slots := 0, locals := 0 } : Room) [.int (iI (-1)), .int (iI (c : Int))] (ws) (S := Unit) (fun _ => ((7 * c + 6 : Nat) : Int)) (fun _ => True) (fun _ => ws) := by
  refine jj_start (cc := cX4_at) (nL := 2) (ret := (some .int)) (lv := [(0, .int (iI (-1))), (1, .int (iI (c : Int)))]) (fun A => jj_Qi _ _ _ _ _ _ A) hEV (by decide) rfl (Nat.le_of_ble_eq_true rfl) rfl ?_
  intro p9 e9 s9 m9 a9 b9 me9 c9 A9 C1 hr hin
  have C0 : jj_C p9 s9 m9 a9 me9 c9 (dC, dI) vwCl A9 2 cX4_at "StrikehallModel" lw_U _ EV := jj_toU C1
  have hw := C0.2.2.2.2.1
  refine jj_bipush C0 dX4_at_0 (by decide) ?_
  refine jj_iload_n C0 1 rfl dX4_at_2 ?_
  refine jj_imul C0 dX4_at_3 ?_
  refine jj_iload_n C0 0 rfl dX4_at_4 ?_
  refine jj_iconst C0 dX4_at_5 ?_
  refine jj_icmp_ne C0 (by omega) (by omega) dX4_at_6 (tgt := 14) (by decide) (fun c_1 => absurd c_1 (by omega)) (fun c_1 => ?_)
  refine jj_bipush C0 dX4_at_9 (by decide) ?_
  refine jj_goto C0 (tgt := 15) dX4_at_11 (by decide) ?_
  refine jj_iadd C0 dX4_at_15 ?_
  exact jj_iret C0 hr () (trivial) (by omega) (rfl) (by decide) (by decide) dX4_at_16
set_option maxHeartbeats 4000000 in
set_option maxRecDepth 100000 in
theorem cc_X4_pays (hEV : jj_EV EV) {c : Nat} {z : Int} (hc : c < 12) (hz : -1000000000 ≤ z ∧ z ≤ 1000000000) (hK : ∀ j, 0 ≤ K j ∧ K j ≤ 1) (hSt : ∀ j, 0 ≤ St j ∧ St j ≤ 20000) : jj_Ml EV (dC, dI) vwCl [(cI, .int), (cJ, .long), (cZ, .boolean), (cO, .object "java/lang/Object")] l yX4_pays (Cond.code yX4_pays cX4_pays 6 (some .long) :: lw_U) ({ frames := 0, cells := 0, slots := 0, locals := 0 } : Room) [.ref (ad 0), .int (iI (c : Int)), .long (lI z)] (wM ad cI cJ cZ th td pr up dn dv n K St Ex Am Ov Bi As BL AL He Co Ca mo sh co sd Cz Ab be ++ E) (S := Unit) (fun _ => f_pays (K c) (St c) z) (fun _ => True) (fun _ => wM ad cI cJ cZ th td pr up dn dv n K St Ex Am Ov Bi As BL AL He Co Ca mo sh co sd Cz Ab be ++ E) := by
  refine jj_start (cc := cX4_pays) (nL := 6) (ret := (some .long)) (lv := [(0, .ref (ad 0)), (1, .int (iI (c : Int))), (2, .long (lI z))]) (fun A => jj_Ql _ _ _ _ _ _ A) hEV (by decide) rfl (Nat.le_of_ble_eq_true rfl) rfl ?_
  intro p9 e9 s9 m9 a9 b9 me9 c9 A9 C1 hr hin
  have C0 : jj_C p9 s9 m9 a9 me9 c9 (dC, dI) vwCl A9 6 cX4_pays "StrikehallModel" lw_U _ EV := jj_toU C1
  have hw := C0.2.2.2.2.1
  refine jj_aload_n C0 0 rfl dX4_pays_0 ?_
  refine jj_get C0 (ci := 5) (v := .ref (ad 2)) hin_X4 (0) (rfl) rfl 7 (by decide) (hw _ hU_793) (fun _ h9 => h9) rfl dX4_pays_1 ?_
  refine jj_iload_n C0 1 rfl dX4_pays_4 ?_
  refine jj_iald C0 (q0 := 2) (t0 := 0) (f := K) (rfl) rfl (k := c) (by omega) (by omega) (by decide) dX4_pays_5 ?_
  have hb_K_76719 := hK c
  refine jj_if_ne C0 (by omega) dX4_pays_6 (tgt := 21) (by decide) (fun c_1 => ?_) (fun c_1 => ?_)
  · refine jj_aload_n C0 0 rfl dX4_pays_21 ?_
    refine jj_get C0 (ci := 5) (v := .ref (ad 3)) hin_X4 (0) (rfl) rfl 8 (by decide) (hw _ hU_794) (fun _ h9 => h9) rfl dX4_pays_22 ?_
    refine jj_iload_n C0 1 rfl dX4_pays_25 ?_
    refine jj_iald C0 (q0 := 3) (t0 := 0) (f := St) (rfl) rfl (k := c) (by omega) (by omega) (by decide) dX4_pays_26 ?_
    have hb_St_55614 := hSt c
    refine jj_i2l C0 (by omega) dX4_pays_27 ?_
    refine jj_lload_n C0 2 rfl dX4_pays_28 ?_
    refine jj_lsub C0 dX4_pays_29 ?_
    refine jj_lstore C0 (lv' := [(4, .long (lI ((St c) - z))), (0, .ref (ad 0)), (1, .int (iI (c : Int))), (2, .long (lI z))]) (by decide) rfl dX4_pays_30 ?_
    refine jj_lload C0 0 rfl dX4_pays_32 ?_
    refine jj_lconst C0 (z := 0) (by decide) dX4_pays_34 ?_
    refine jj_lcmp_le C0 (by omega) (by omega) dX4_pays_35 dX4_pays_36 (tgt := 44) (by decide) (fun c_2 => ?_) (fun c_2 => ?_)
    · refine jj_lconst C0 (z := 0) (by decide) dX4_pays_44 ?_
      exact jj_lret C0 hr () (trivial) (by unfold f_pays; omega) (rfl) (by decide) (by decide) dX4_pays_45
    · refine jj_lload C0 0 rfl dX4_pays_39 ?_
      refine jj_goto C0 (tgt := 45) dX4_pays_41 (by decide) ?_
      exact jj_lret C0 hr () (trivial) (by unfold f_pays; omega) (rfl) (by decide) (by decide) dX4_pays_45
  · refine jj_lload_n C0 2 rfl dX4_pays_9 ?_
    refine jj_aload_n C0 0 rfl dX4_pays_10 ?_
    refine jj_get C0 (ci := 5) (v := .ref (ad 3)) hin_X4 (0) (rfl) rfl 8 (by decide) (hw _ hU_794) (fun _ h9 => h9) rfl dX4_pays_11 ?_
    refine jj_iload_n C0 1 rfl dX4_pays_14 ?_
    refine jj_iald C0 (q0 := 3) (t0 := 0) (f := St) (rfl) rfl (k := c) (by omega) (by omega) (by decide) dX4_pays_15 ?_
    have hb_St_55614 := hSt c
    refine jj_i2l C0 (by omega) dX4_pays_16 ?_
    refine jj_lsub C0 dX4_pays_17 ?_
    refine jj_goto C0 (tgt := 30) dX4_pays_18 (by decide) ?_
    refine jj_lstore C0 (lv' := [(4, .long (lI (z - (St c)))), (0, .ref (ad 0)), (1, .int (iI (c : Int))), (2, .long (lI z))]) (by decide) rfl dX4_pays_30 ?_
    refine jj_lload C0 0 rfl dX4_pays_32 ?_
    refine jj_lconst C0 (z := 0) (by decide) dX4_pays_34 ?_
    refine jj_lcmp_le C0 (by omega) (by omega) dX4_pays_35 dX4_pays_36 (tgt := 44) (by decide) (fun c_3 => ?_) (fun c_3 => ?_)
    · refine jj_lconst C0 (z := 0) (by decide) dX4_pays_44 ?_
      exact jj_lret C0 hr () (trivial) (by unfold f_pays; omega) (rfl) (by decide) (by decide) dX4_pays_45
    · refine jj_lload C0 0 rfl dX4_pays_39 ?_
      refine jj_goto C0 (tgt := 45) dX4_pays_41 (by decide) ?_
      exact jj_lret C0 hr () (trivial) (by unfold f_pays; omega) (rfl) (by decide) (by decide) dX4_pays_45
set_option maxHeartbeats 4000000 in
set_option maxRecDepth 100000 in
theorem cc_X4_priceOf (hEV : jj_EV EV) {fr : Int} {j k : Nat} (hfr : -30000 ≤ fr ∧ fr ≤ 30000) (hj : j ≤ 10) (hk : k ≤ 10) (htj : td + j ≤ 200) (hup : 1 ≤ up ∧ up ≤ 10) (hdn : 1 ≤ dn ∧ dn ≤ 10) (hdv : ∀ j, 0 ≤ dv j ∧ dv j ≤ 1000) : jj_Ml EV (dC, dI) vwCl [(cI, .int), (cJ, .long), (cZ, .boolean), (cO, .object "java/lang/Object")] l yX4_priceOf (Cond.code yX4_priceOf cX4_priceOf 7 (some .long) :: lw_U) ({ frames := 0, cells := 0, slots := 0, locals := 0 } : Room) [.ref (ad 0), .int (iI fr), .int (iI ((td + j : Nat) : Int)), .int (iI (k : Int))] (wM ad cI cJ cZ th td pr up dn dv n K St Ex Am Ov Bi As BL AL He Co Ca mo sh co sd Cz Ab be ++ E) (S := Unit) (fun _ => f_price up dn dv td fr j k) (fun _ => True) (fun _ => wM ad cI cJ cZ th td pr up dn dv n K St Ex Am Ov Bi As BL AL He Co Ca mo sh co sd Cz Ab be ++ E) := by
  refine jj_start (cc := cX4_priceOf) (nL := 7) (ret := (some .long)) (lv := [(0, .ref (ad 0)), (1, .int (iI fr)), (2, .int (iI ((td + j : Nat) : Int))), (3, .int (iI (k : Int)))]) (fun A => jj_Ql _ _ _ _ _ _ A) hEV (by decide) rfl (Nat.le_of_ble_eq_true rfl) rfl ?_
  intro p9 e9 s9 m9 a9 b9 me9 c9 A9 C1 hr hin
  have C0 : jj_C p9 s9 m9 a9 me9 c9 (dC, dI) vwCl A9 7 cX4_priceOf "StrikehallModel" lw_U _ EV := jj_toU C1
  have hw := C0.2.2.2.2.1
  refine jj_iload_n C0 1 rfl dX4_priceOf_0 ?_
  refine jj_i2l C0 (by omega) dX4_priceOf_1 ?_
  refine jj_ldc2 C0 (z := 10) (by decide) (hw _ hU_873) dX4_priceOf_2 ?_
  refine jj_aload_n C0 0 rfl dX4_priceOf_5 ?_
  refine jj_get C0 (ci := 5) (v := .int (iI up)) hin_X4 (0) (rfl) rfl 3 (by decide) (hw _ hU_789) (fun _ h9 => h9) rfl dX4_priceOf_6 ?_
  refine jj_i2l C0 (by omega) dX4_priceOf_9 ?_
  refine jj_lmul C0 dX4_priceOf_10 ?_
  refine jj_iload_n C0 3 rfl dX4_priceOf_11 ?_
  refine jj_i2l C0 (by omega) dX4_priceOf_12 ?_
  refine jj_lmul C0 dX4_priceOf_13 ?_
  refine jj_ladd C0 dX4_priceOf_14 ?_
  refine jj_ldc2 C0 (z := 10) (by decide) (hw _ hU_873) dX4_priceOf_15 ?_
  refine jj_aload_n C0 0 rfl dX4_priceOf_18 ?_
  refine jj_get C0 (ci := 5) (v := .int (iI dn)) hin_X4 (0) (rfl) rfl 4 (by decide) (hw _ hU_790) (fun _ h9 => h9) rfl dX4_priceOf_19 ?_
  refine jj_i2l C0 (by omega) dX4_priceOf_22 ?_
  refine jj_lmul C0 dX4_priceOf_23 ?_
  refine jj_iload_n C0 2 rfl dX4_priceOf_24 ?_
  refine jj_aload_n C0 0 rfl dX4_priceOf_25 ?_
  refine jj_get C0 (ci := 5) (v := .int (iI (td : Int))) hin_X4 (0) (rfl) rfl 1 (by decide) (hw _ hU_787) (fun _ h9 => h9) rfl dX4_priceOf_26 ?_
  refine jj_isub C0 dX4_priceOf_29 ?_
  refine jj_iload_n C0 3 rfl dX4_priceOf_30 ?_
  refine jj_isub C0 dX4_priceOf_31 ?_
  refine jj_i2l C0 (by omega) dX4_priceOf_32 ?_
  refine jj_lmul C0 dX4_priceOf_33 ?_
  refine jj_lsub C0 dX4_priceOf_34 ?_
  refine jj_topl (b := (f_pb up dn fr j k - f_dsum dv td 0)) (by simp only [f_pb, f_dsum, Int.sub_zero]; rw [show (((td + j : Nat) : Int) - (td : Int) - (k : Int)) = ((j : Int) - (k : Int)) by omega]) ?_
  refine jj_lstore C0 (lv' := [(4, .long (lI (f_pb up dn fr j k - f_dsum dv td 0))), (0, .ref (ad 0)), (1, .int (iI fr)), (2, .int (iI ((td + j : Nat) : Int))), (3, .int (iI (k : Int)))]) (by decide) rfl dX4_priceOf_35 ?_
  refine jj_aload_n C0 1 rfl dX4_priceOf_37 ?_
  refine jj_get C0 (ci := 5) (v := .int (iI (td : Int))) hin_X4 (0) (rfl) rfl 1 (by decide) (hw _ hU_787) (fun _ h9 => h9) rfl dX4_priceOf_38 ?_
  refine jj_iconst C0 dX4_priceOf_41 ?_
  refine jj_iadd C0 dX4_priceOf_42 ?_
  refine jj_topi (b := ((td + 1 + 0 : Nat) : Int)) (by omega) ?_
  refine jj_istore C0 (lv' := [(6, .int (iI ((td + 1 + 0 : Nat) : Int))), (4, .long (lI (f_pb up dn fr j k - f_dsum dv td 0))), (0, .ref (ad 0)), (1, .int (iI fr)), (2, .int (iI ((td + j : Nat) : Int))), (3, .int (iI (k : Int)))]) (by decide) rfl dX4_priceOf_43 ?_
  refine jj_ind (X := Nat) (fun q9 => match q9 with | i => (j + 1 - i : Nat)) (fun q9 => match q9 with | i => [(6, .int (iI ((td + 1 + i : Nat) : Int))), (4, .long (lI (f_pb up dn fr j k - f_dsum dv td i))), (0, .ref (ad 0)), (1, .int (iI fr)), (2, .int (iI ((td + j : Nat) : Int))), (3, .int (iI (k : Int)))]) (fun q9 => match q9 with | i => []) (fun q9 => match q9 with | i => wM ad cI cJ cZ th td pr up dn dv n K St Ex Am Ov Bi As BL AL He Co Ca mo sh co sd Cz Ab be ++ E) (fun q9 => match q9 with | i => i ≤ j) ?_ 0 (Nat.zero_le _)
  intro q9 hq9 ih45
  obtain ⟨i, rfl⟩ : ∃ z, z = q9 := ⟨_, rfl⟩
  have hi : i ≤ j := hq9
  show jj_W _ _ _ _ _ _ _ _ _ _ _ _ _ _ _ _ _ 45 [(6, .int (iI ((td + 1 + i : Nat) : Int))), (4, .long (lI (f_pb up dn fr j k - f_dsum dv td i))), (0, .ref (ad 0)), (1, .int (iI fr)), (2, .int (iI ((td + j : Nat) : Int))), (3, .int (iI (k : Int)))] [] (wM ad cI cJ cZ th td pr up dn dv n K St Ex Am Ov Bi As BL AL He Co Ca mo sh co sd Cz Ab be ++ E)
  refine jj_iload C0 0 rfl dX4_priceOf_45 ?_
  refine jj_iload_n C0 4 rfl dX4_priceOf_47 ?_
  refine jj_icmp_gt C0 (by omega) (by omega) dX4_priceOf_48 (tgt := 70) (by decide) (fun c_1 => ?_) (fun c_1 => ?_)
  · refine jj_lload C0 1 rfl dX4_priceOf_70 ?_
    exact jj_lret C0 hr () (trivial) (by rw [show i = j by omega]; rfl) (rfl) (by decide) (by decide) dX4_priceOf_72
  · refine jj_lload C0 1 rfl dX4_priceOf_51 ?_
    refine jj_aload_n C0 2 rfl dX4_priceOf_53 ?_
    refine jj_get C0 (ci := 5) (v := .ref (ad 1)) hin_X4 (0) (rfl) rfl 5 (by decide) (hw _ hU_791) (fun _ h9 => h9) rfl dX4_priceOf_54 ?_
    refine jj_iload C0 0 rfl dX4_priceOf_57 ?_
    refine jj_iald C0 (q0 := 1) (t0 := 0) (f := dv) (rfl) rfl (k := (td + 1 + i)) (by omega) (by omega) (by decide) dX4_priceOf_59 ?_
    have hb_dv_83005 := hdv (td + 1 + i)
    refine jj_i2l C0 (by omega) dX4_priceOf_60 ?_
    refine jj_lsub C0 dX4_priceOf_61 ?_
    refine jj_topl (b := (f_pb up dn fr j k - f_dsum dv td (i + 1))) (by simp only [f_dsum]; omega) ?_
    refine jj_lstore C0 (lv' := [(4, .long (lI (f_pb up dn fr j k - f_dsum dv td (i + 1)))), (6, .int (iI ((td + 1 + i : Nat) : Int))), (0, .ref (ad 0)), (1, .int (iI fr)), (2, .int (iI ((td + j : Nat) : Int))), (3, .int (iI (k : Int)))]) (by decide) rfl dX4_priceOf_62 ?_
    refine jj_iinc C0 (z := ((td + 1 + (i + 1) : Nat) : Int)) (lv' := [(6, .int (iI ((td + 1 + (i + 1) : Nat) : Int))), (4, .long (lI (f_pb up dn fr j k - f_dsum dv td (i + 1)))), (0, .ref (ad 0)), (1, .int (iI fr)), (2, .int (iI ((td + j : Nat) : Int))), (3, .int (iI (k : Int)))]) 1 rfl (by omega) (by decide) rfl dX4_priceOf_64 ?_
    refine jj_goto C0 (tgt := 45) dX4_priceOf_67 (by decide) ?_
    exact ih45 (i + 1) (by omega) (by dsimp only; omega)
set_option maxHeartbeats 4000000 in
set_option maxRecDepth 100000 in
theorem cc_X4_finds (hEV : jj_EV EV) {c N : Nat} {fr : Int} (hc : c < 12) (hN : (Ov c = 1 ∧ N = 0) ∨ (Ov c = 0 ∧ (N : Int) = Ex c - (td : Int))) (hN10 : N ≤ 10) (htN : td + N ≤ 200) (hfr : -30000 ≤ fr ∧ fr ≤ 30000) (hup : 1 ≤ up ∧ up ≤ 10) (hdn : 1 ≤ dn ∧ dn ≤ 10) (hdv : ∀ j, 0 ≤ dv j ∧ dv j ≤ 1000) (hK : ∀ j, 0 ≤ K j ∧ K j ≤ 1) (hSt : ∀ j, 0 ≤ St j ∧ St j ≤ 20000) (hEx : ∀ j, 0 ≤ Ex j ∧ Ex j ≤ 200) (hAm : ∀ j, 0 ≤ Am j ∧ Am j ≤ 1) (hOv : ∀ j, 0 ≤ Ov j ∧ Ov j ≤ 1) : jj_Mv EV (dC, dI) vwCl [(cI, .int), (cJ, .long), (cZ, .boolean), (cO, .object "java/lang/Object")] l yX4_finds (Cond.code yX4_finds cX4_finds 10 none :: lw_U) ({ frames := 1, cells := 0, slots := 0, locals := 26 } : Room) [.ref (ad 0), .int (iI (c : Int)), .int (iI fr)] (wM ad cI cJ cZ th td pr up dn dv n K St Ex Am Ov Bi As BL AL He Co Ca mo sh co sd Cz Ab be ++ E) (S := (Nat → Int))  (fun ab => ab 0 = f_gV (Ov c) up dn dv td (K c) (St c) (Am c) fr N 0 0) (fun ab => wM ad cI cJ cZ th td pr up dn dv n K St Ex Am Ov Bi As BL AL He Co Ca mo sh co sd Cz ab ((up + dn) ^ N) ++ E) := by
  refine jj_start (cc := cX4_finds) (nL := 10) (ret := none) (lv := [(0, .ref (ad 0)), (1, .int (iI (c : Int))), (2, .int (iI fr))]) (fun A => jj_Qv _ _ _ _ _ A) hEV (by decide) rfl (Nat.le_of_ble_eq_true rfl) rfl ?_
  intro p9 e9 s9 m9 a9 b9 me9 c9 A9 C1 hr hin
  have C0 : jj_C p9 s9 m9 a9 me9 c9 (dC, dI) vwCl A9 10 cX4_finds "StrikehallModel" lw_U _ EV := jj_toU C1
  have hw := C0.2.2.2.2.1
  refine jj_join (X := Unit) (pcj := 24) (fun q9 => match q9 with | () => [(0, .ref (ad 0)), (1, .int (iI (c : Int))), (2, .int (iI fr))]) (fun q9 => match q9 with | () => [.int (iI (N : Int))]) (fun q9 => match q9 with | () => wM ad cI cJ cZ th td pr up dn dv n K St Ex Am Ov Bi As BL AL He Co Ca mo sh co sd Cz Ab be ++ E) (fun q9 => match q9 with | () => True) ?_ ?_
  · intro q9 hq9
    obtain ⟨⟩ := q9
    have _ : True := hq9
    refine jj_istore_n C0 (i := 3) rfl (lv' := [(3, .int (iI (N : Int))), (0, .ref (ad 0)), (1, .int (iI (c : Int))), (2, .int (iI fr))]) (by decide) rfl dX4_finds_24 ?_
    refine jj_iconst C0 dX4_finds_25 ?_
    refine jj_istore C0 (lv' := [(4, .int (iI 0)), (3, .int (iI (N : Int))), (0, .ref (ad 0)), (1, .int (iI (c : Int))), (2, .int (iI fr))]) (by decide) rfl dX4_finds_26 ?_
    refine jj_ind (X := Nat × (Nat → Int)) (fun q9 => match q9 with | ⟨j, ab1⟩ => (N + 1 - j : Nat)) (fun q9 => match q9 with | ⟨j, ab1⟩ => [(4, .int (iI (j : Int))), (3, .int (iI (N : Int))), (0, .ref (ad 0)), (1, .int (iI (c : Int))), (2, .int (iI fr))]) (fun q9 => match q9 with | ⟨j, ab1⟩ => []) (fun q9 => match q9 with | ⟨j, ab1⟩ => wM ad cI cJ cZ th td pr up dn dv n K St Ex Am Ov Bi As BL AL He Co Ca mo sh co sd Cz ab1 be ++ E) (fun q9 => match q9 with | ⟨j, ab1⟩ => j ≤ N + 1 ∧ ∀ i, i < j → ab1 i = f_gV (Ov c) up dn dv td (K c) (St c) (Am c) fr 0 N i) ?_ (0, Ab) ⟨Nat.zero_le _, fun i hi => absurd hi (Nat.not_lt_zero _)⟩
    intro q9 hq9 ih28
    obtain ⟨j, ab1⟩ := q9
    obtain ⟨hj, hab1⟩ : j ≤ N + 1 ∧ ∀ i, i < j → ab1 i = f_gV (Ov c) up dn dv td (K c) (St c) (Am c) fr 0 N i := hq9
    show jj_W _ _ _ _ _ _ _ _ _ _ _ _ _ _ _ _ _ 28 [(4, .int (iI (j : Int))), (3, .int (iI (N : Int))), (0, .ref (ad 0)), (1, .int (iI (c : Int))), (2, .int (iI fr))] [] (wM ad cI cJ cZ th td pr up dn dv n K St Ex Am Ov Bi As BL AL He Co Ca mo sh co sd Cz ab1 be ++ E)
    refine jj_iload C0 0 rfl dX4_finds_28 ?_
    refine jj_iload_n C0 1 rfl dX4_finds_30 ?_
    refine jj_icmp_gt C0 (by omega) (by omega) dX4_finds_31 (tgt := 78) (by decide) (fun c_1 => ?_) (fun c_1 => ?_)
    · refine jj_aload_n C0 2 rfl dX4_finds_78 ?_
      refine jj_lconst C0 (z := 1) (by decide) dX4_finds_79 ?_
      refine jj_topl (b := ((up + dn) ^ 0)) ((Int.pow_zero _).symm) ?_
      refine jj_put C0 (ci := 5) (v := .long (lI ((up + dn) ^ 0))) (ty := .long) hin_X4 tyX4 tyX4_ok nmX4 (0) (rfl) rfl 25 (by decide) (hw _ hU_811) (fun _ h9 => h9) rfl (by decide +kernel) (rfl) rfl (Nat.le_of_ble_eq_true rfl) (ws' := wM ad cI cJ cZ th td pr up dn dv n K St Ex Am Ov Bi As BL AL He Co Ca mo sh co sd Cz ab1 ((up + dn) ^ 0) ++ E) (rfl) dX4_finds_80 ?_
      refine jj_iload_n C0 1 rfl dX4_finds_83 ?_
      refine jj_iconst C0 dX4_finds_84 ?_
      refine jj_isub C0 dX4_finds_85 ?_
      refine jj_istore C0 (lv' := [(4, .int (iI ((N : Int) - 1))), (3, .int (iI (N : Int))), (0, .ref (ad 0)), (1, .int (iI (c : Int))), (2, .int (iI fr))]) (by decide) rfl dX4_finds_86 ?_
      refine jj_ind (X := Nat × Nat × (Nat → Int)) (fun q9 => match q9 with | ⟨r, d1, ab⟩ => d1) (fun q9 => match q9 with | ⟨r, d1, ab⟩ => [(4, .int (iI ((d1 : Int) - 1))), (3, .int (iI (N : Int))), (0, .ref (ad 0)), (1, .int (iI (c : Int))), (2, .int (iI fr))]) (fun q9 => match q9 with | ⟨r, d1, ab⟩ => []) (fun q9 => match q9 with | ⟨r, d1, ab⟩ => wM ad cI cJ cZ th td pr up dn dv n K St Ex Am Ov Bi As BL AL He Co Ca mo sh co sd Cz ab ((up + dn) ^ r) ++ E) (fun q9 => match q9 with | ⟨r, d1, ab⟩ => r + d1 = N ∧ ∀ i, i ≤ d1 → ab i = f_gV (Ov c) up dn dv td (K c) (St c) (Am c) fr r d1 i) ?_ (0, N, ab1) ⟨Nat.zero_add N, fun i hi => hab1 i (by omega)⟩
      intro q9 hq9 ih88
      obtain ⟨r, d1, ab⟩ := q9
      obtain ⟨hrd, hab⟩ : r + d1 = N ∧ ∀ i, i ≤ d1 → ab i = f_gV (Ov c) up dn dv td (K c) (St c) (Am c) fr r d1 i := hq9
      show jj_W _ _ _ _ _ _ _ _ _ _ _ _ _ _ _ _ _ 88 [(4, .int (iI ((d1 : Int) - 1))), (3, .int (iI (N : Int))), (0, .ref (ad 0)), (1, .int (iI (c : Int))), (2, .int (iI fr))] [] (wM ad cI cJ cZ th td pr up dn dv n K St Ex Am Ov Bi As BL AL He Co Ca mo sh co sd Cz ab ((up + dn) ^ r) ++ E)
      refine jj_iload C0 0 rfl dX4_finds_88 ?_
      refine jj_if_lt C0 (by omega) dX4_finds_90 (tgt := 226) (by decide) (fun c_2 => ?_) (fun c_2 => ?_)
      · obtain rfl : d1 = 0 := by omega
        obtain rfl : r = N := by omega
        exact jj_vret C0 hr ab (by exact hab 0 (Nat.le_refl _)) (rfl) (by decide) (by decide) dX4_finds_226
      · obtain ⟨dd, rfl⟩ : ∃ dd, d1 = dd + 1 := ⟨d1 - 1, by omega⟩
        have hov : Ov c = 0 := by omega
        refine jj_lve (lv' := [(4, .int (iI (dd : Int))), (3, .int (iI (N : Int))), (0, .ref (ad 0)), (1, .int (iI (c : Int))), (2, .int (iI fr))]) (by rw [show (((dd + 1 : Nat) : Int) - 1) = (dd : Int) by omega]) ?_
        refine jj_aload_n C0 2 rfl dX4_finds_93 ?_
        refine jj_dup C0 dX4_finds_94 rfl ?_
        refine jj_get C0 (ci := 5) (v := .long (lI ((up + dn) ^ r))) hin_X4 (0) (rfl) rfl 25 (by decide) (hw _ hU_811) (fun _ h9 => h9) rfl dX4_finds_95 ?_
        refine jj_aload_n C0 2 rfl dX4_finds_98 ?_
        refine jj_get C0 (ci := 5) (v := .int (iI up)) hin_X4 (0) (rfl) rfl 3 (by decide) (hw _ hU_789) (fun _ h9 => h9) rfl dX4_finds_99 ?_
        refine jj_aload_n C0 2 rfl dX4_finds_102 ?_
        refine jj_get C0 (ci := 5) (v := .int (iI dn)) hin_X4 (0) (rfl) rfl 4 (by decide) (hw _ hU_790) (fun _ h9 => h9) rfl dX4_finds_103 ?_
        refine jj_iadd C0 dX4_finds_106 ?_
        refine jj_i2l C0 (by omega) dX4_finds_107 ?_
        refine jj_lmul C0 dX4_finds_108 ?_
        refine jj_topl (b := ((up + dn) ^ (r + 1))) ((Int.pow_succ _ _).symm) ?_
        refine jj_put C0 (ci := 5) (v := .long (lI ((up + dn) ^ (r + 1)))) (ty := .long) hin_X4 tyX4 tyX4_ok nmX4 (0) (rfl) rfl 25 (by decide) (hw _ hU_811) (fun _ h9 => h9) rfl (by decide +kernel) (rfl) rfl (Nat.le_of_ble_eq_true rfl) (ws' := wM ad cI cJ cZ th td pr up dn dv n K St Ex Am Ov Bi As BL AL He Co Ca mo sh co sd Cz ab ((up + dn) ^ (r + 1)) ++ E) (rfl) dX4_finds_109 ?_
        refine jj_iconst C0 dX4_finds_112 ?_
        refine jj_istore C0 (lv' := [(5, .int (iI 0)), (4, .int (iI (dd : Int))), (3, .int (iI (N : Int))), (0, .ref (ad 0)), (1, .int (iI (c : Int))), (2, .int (iI fr))]) (by decide) rfl dX4_finds_113 ?_
        refine jj_ind (X := Nat × (Nat → Int)) (fun q9 => match q9 with | ⟨j, ab2⟩ => (dd + 2 - j : Nat)) (fun q9 => match q9 with | ⟨j, ab2⟩ => [(5, .int (iI (j : Int))), (4, .int (iI (dd : Int))), (3, .int (iI (N : Int))), (0, .ref (ad 0)), (1, .int (iI (c : Int))), (2, .int (iI fr))]) (fun q9 => match q9 with | ⟨j, ab2⟩ => []) (fun q9 => match q9 with | ⟨j, ab2⟩ => wM ad cI cJ cZ th td pr up dn dv n K St Ex Am Ov Bi As BL AL He Co Ca mo sh co sd Cz ab2 ((up + dn) ^ (r + 1)) ++ E) (fun q9 => match q9 with | ⟨j, ab2⟩ => j ≤ dd + 1 ∧ (∀ i, i < j → ab2 i = f_gV (Ov c) up dn dv td (K c) (St c) (Am c) fr (r + 1) dd i) ∧ (∀ i, j ≤ i → i ≤ dd + 1 → ab2 i = f_gV (Ov c) up dn dv td (K c) (St c) (Am c) fr r (dd + 1) i)) ?_ (0, ab) ⟨by omega, fun i hi => absurd hi (Nat.not_lt_zero _), fun i _ hi => hab i hi⟩
        intro q9 hq9 ih115
        obtain ⟨j, ab2⟩ := q9
        obtain ⟨hj, hlo, hhi⟩ : j ≤ dd + 1 ∧ (∀ i, i < j → ab2 i = f_gV (Ov c) up dn dv td (K c) (St c) (Am c) fr (r + 1) dd i) ∧ (∀ i, j ≤ i → i ≤ dd + 1 → ab2 i = f_gV (Ov c) up dn dv td (K c) (St c) (Am c) fr r (dd + 1) i) := hq9
        show jj_W _ _ _ _ _ _ _ _ _ _ _ _ _ _ _ _ _ 115 [(5, .int (iI (j : Int))), (4, .int (iI (dd : Int))), (3, .int (iI (N : Int))), (0, .ref (ad 0)), (1, .int (iI (c : Int))), (2, .int (iI fr))] [] (wM ad cI cJ cZ th td pr up dn dv n K St Ex Am Ov Bi As BL AL He Co Ca mo sh co sd Cz ab2 ((up + dn) ^ (r + 1)) ++ E)
        refine jj_iload C0 0 rfl dX4_finds_115 ?_
        refine jj_iload C0 1 rfl dX4_finds_117 ?_
        refine jj_icmp_gt C0 (by omega) (by omega) dX4_finds_119 (tgt := 220) (by decide) (fun c_3 => ?_) (fun c_3 => ?_)
        · refine jj_iinc C0 (z := ((dd : Int) - 1)) (lv' := [(4, .int (iI ((dd : Int) - 1))), (5, .int (iI (j : Int))), (3, .int (iI (N : Int))), (0, .ref (ad 0)), (1, .int (iI (c : Int))), (2, .int (iI fr))]) 1 rfl (by omega) (by decide) rfl dX4_finds_220 ?_
          refine jj_goto C0 (tgt := 88) dX4_finds_223 (by decide) ?_
          refine jj_lv [0, 2, 3, 4, 5] rfl ?_
          exact ih88 (r + 1, dd, ab2) ⟨by omega, fun i hi => hlo i (by omega)⟩ (by dsimp only; omega)
        · refine jj_aload_n C0 3 rfl dX4_finds_122 ?_
          refine jj_get C0 (ci := 5) (v := .int (iI dn)) hin_X4 (0) (rfl) rfl 4 (by decide) (hw _ hU_790) (fun _ h9 => h9) rfl dX4_finds_123 ?_
          refine jj_i2l C0 (by omega) dX4_finds_126 ?_
          refine jj_aload_n C0 3 rfl dX4_finds_127 ?_
          refine jj_get C0 (ci := 5) (v := .ref (ad 15)) hin_X4 (0) (rfl) rfl 24 (by decide) (hw _ hU_810) (fun _ h9 => h9) rfl dX4_finds_128 ?_
          refine jj_iload C0 0 rfl dX4_finds_131 ?_
          refine jj_iconst C0 dX4_finds_133 ?_
          refine jj_iadd C0 dX4_finds_134 ?_
          refine jj_lald C0 (q0 := 15) (t0 := 1) (f := ab2) (rfl) rfl (k := (j + 1)) (by omega) (by omega) (by decide) dX4_finds_135 ?_
          refine jj_lmul C0 dX4_finds_136 ?_
          refine jj_aload_n C0 3 rfl dX4_finds_137 ?_
          refine jj_get C0 (ci := 5) (v := .int (iI up)) hin_X4 (0) (rfl) rfl 3 (by decide) (hw _ hU_789) (fun _ h9 => h9) rfl dX4_finds_138 ?_
          refine jj_i2l C0 (by omega) dX4_finds_141 ?_
          refine jj_aload_n C0 3 rfl dX4_finds_142 ?_
          refine jj_get C0 (ci := 5) (v := .ref (ad 15)) hin_X4 (0) (rfl) rfl 24 (by decide) (hw _ hU_810) (fun _ h9 => h9) rfl dX4_finds_143 ?_
          refine jj_iload C0 0 rfl dX4_finds_146 ?_
          refine jj_lald C0 (q0 := 15) (t0 := 1) (f := ab2) (rfl) rfl (k := j) (by omega) (by omega) (by decide) dX4_finds_148 ?_
          refine jj_lmul C0 dX4_finds_149 ?_
          refine jj_ladd C0 dX4_finds_150 ?_
          have hx1 : ab2 (j + 1) = f_V up dn dv td (K c) (St c) (Am c) fr r (dd + 1) (j + 1) := by rw [hhi _ (by omega) (by omega), f_gV, if_pos hov]
          have hx0 : ab2 j = f_V up dn dv td (K c) (St c) (Am c) fr r (dd + 1) j := by rw [hhi _ (by omega) (by omega), f_gV, if_pos hov]
          have hg := f_go_lR hup hdn hdv (hSt c) hfr (ki := K c) (am := Am c) (t := td) (r := r) (d := dd) (k := j) (by omega) (by omega)
          refine jj_topl (b := (dn * f_V up dn dv td (K c) (St c) (Am c) fr r (dd + 1) (j + 1) + up * f_V up dn dv td (K c) (St c) (Am c) fr r (dd + 1) j)) (by rw [hx1, hx0]) ?_
          refine jj_lstore C0 (lv' := [(6, .long (lI (dn * f_V up dn dv td (K c) (St c) (Am c) fr r (dd + 1) (j + 1) + up * f_V up dn dv td (K c) (St c) (Am c) fr r (dd + 1) j))), (5, .int (iI (j : Int))), (4, .int (iI (dd : Int))), (3, .int (iI (N : Int))), (0, .ref (ad 0)), (1, .int (iI (c : Int))), (2, .int (iI fr))]) (by decide) rfl dX4_finds_151 ?_
          refine jj_aload_n C0 4 rfl dX4_finds_153 ?_
          refine jj_get C0 (ci := 5) (v := .ref (ad 5)) hin_X4 (0) (rfl) rfl 10 (by decide) (hw _ hU_796) (fun _ h9 => h9) rfl dX4_finds_154 ?_
          refine jj_iload_n C0 5 rfl dX4_finds_157 ?_
          refine jj_zald C0 (q0 := 5) (t0 := 2) (f := Am) (rfl) rfl (k := c) (by omega) (by omega) (by decide) dX4_finds_158 ?_
          have hb_Am_6591 := hAm c
          refine jj_if_eq C0 (by omega) dX4_finds_159 (tgt := 189) (by decide) (fun c_4 => ?_) (fun c_4 => ?_)
          · refine jj_lconst C0 (z := 0) (by decide) dX4_finds_189 ?_
            refine jj_lstore C0 (lv' := [(8, .long (lI 0)), (6, .long (lI (dn * f_V up dn dv td (K c) (St c) (Am c) fr r (dd + 1) (j + 1) + up * f_V up dn dv td (K c) (St c) (Am c) fr r (dd + 1) j))), (5, .int (iI (j : Int))), (4, .int (iI (dd : Int))), (3, .int (iI (N : Int))), (0, .ref (ad 0)), (1, .int (iI (c : Int))), (2, .int (iI fr))]) (by decide) rfl dX4_finds_190 ?_
            refine jj_aload_n C0 5 rfl dX4_finds_192 ?_
            refine jj_get C0 (ci := 5) (v := .ref (ad 15)) hin_X4 (0) (rfl) rfl 24 (by decide) (hw _ hU_810) (fun _ h9 => h9) rfl dX4_finds_193 ?_
            refine jj_iload C0 2 rfl dX4_finds_196 ?_
            refine jj_lload C0 1 rfl dX4_finds_198 ?_
            refine jj_lload C0 0 rfl dX4_finds_200 ?_
            refine jj_lcmp_le C0 (by omega) (by omega) dX4_finds_202 dX4_finds_203 (tgt := 211) (by decide) (fun c_5 => ?_) (fun c_5 => ?_)
            · refine jj_lload C0 0 rfl dX4_finds_211 ?_
              refine jj_last C0 (q0 := 15) (t0 := 1) (f := ab2) (rfl) rfl (k := j) (by omega) (by omega) (by decide) (ws' := wM ad cI cJ cZ th td pr up dn dv n K St Ex Am Ov Bi As BL AL He Co Ca mo sh co sd Cz (va_up ab2 j 0) ((up + dn) ^ (r + 1)) ++ E) (rfl) dX4_finds_213 ?_
              refine jj_iinc C0 (z := ((j + 1 : Nat) : Int)) (lv' := [(5, .int (iI ((j + 1 : Nat) : Int))), (8, .long (lI 0)), (6, .long (lI (dn * f_V up dn dv td (K c) (St c) (Am c) fr r (dd + 1) (j + 1) + up * f_V up dn dv td (K c) (St c) (Am c) fr r (dd + 1) j))), (4, .int (iI (dd : Int))), (3, .int (iI (N : Int))), (0, .ref (ad 0)), (1, .int (iI (c : Int))), (2, .int (iI fr))]) 2 rfl (by omega) (by decide) rfl dX4_finds_214 ?_
              refine jj_goto C0 (tgt := 115) dX4_finds_217 (by decide) ?_
              refine jj_lv [0, 3, 4, 5, 6, 7] rfl ?_
              exact ih115 (j + 1, va_up ab2 j 0) ⟨by omega, up_lt hlo (by simp only [f_gV, f_V]; rw [if_pos hov]; split <;> omega), up_ge hhi⟩ (by dsimp only; omega)
            · refine jj_lload C0 1 rfl dX4_finds_206 ?_
              refine jj_goto C0 (tgt := 213) dX4_finds_208 (by decide) ?_
              refine jj_last C0 (q0 := 15) (t0 := 1) (f := ab2) (rfl) rfl (k := j) (by omega) (by omega) (by decide) (ws' := wM ad cI cJ cZ th td pr up dn dv n K St Ex Am Ov Bi As BL AL He Co Ca mo sh co sd Cz (va_up ab2 j (dn * f_V up dn dv td (K c) (St c) (Am c) fr r (dd + 1) (j + 1) + up * f_V up dn dv td (K c) (St c) (Am c) fr r (dd + 1) j)) ((up + dn) ^ (r + 1)) ++ E) (rfl) dX4_finds_213 ?_
              refine jj_iinc C0 (z := ((j + 1 : Nat) : Int)) (lv' := [(5, .int (iI ((j + 1 : Nat) : Int))), (8, .long (lI 0)), (6, .long (lI (dn * f_V up dn dv td (K c) (St c) (Am c) fr r (dd + 1) (j + 1) + up * f_V up dn dv td (K c) (St c) (Am c) fr r (dd + 1) j))), (4, .int (iI (dd : Int))), (3, .int (iI (N : Int))), (0, .ref (ad 0)), (1, .int (iI (c : Int))), (2, .int (iI fr))]) 2 rfl (by omega) (by decide) rfl dX4_finds_214 ?_
              refine jj_goto C0 (tgt := 115) dX4_finds_217 (by decide) ?_
              refine jj_lv [0, 3, 4, 5, 6, 7] rfl ?_
              exact ih115 (j + 1, va_up ab2 j (dn * f_V up dn dv td (K c) (St c) (Am c) fr r (dd + 1) (j + 1) + up * f_V up dn dv td (K c) (St c) (Am c) fr r (dd + 1) j)) ⟨by omega, up_lt hlo (by simp only [f_gV, f_V]; rw [if_pos hov]; split <;> omega), up_ge hhi⟩ (by dsimp only; omega)
          · refine jj_aload_n C0 4 rfl dX4_finds_162 ?_
            refine jj_iload_n C0 5 rfl dX4_finds_163 ?_
            refine jj_aload_n C0 4 rfl dX4_finds_164 ?_
            refine jj_iload_n C0 6 rfl dX4_finds_165 ?_
            refine jj_aload_n C0 4 rfl dX4_finds_166 ?_
            refine jj_get C0 (ci := 5) (v := .int (iI (td : Int))) hin_X4 (0) (rfl) rfl 1 (by decide) (hw _ hU_787) (fun _ h9 => h9) rfl dX4_finds_167 ?_
            refine jj_iload C0 2 rfl dX4_finds_170 ?_
            refine jj_iadd C0 dX4_finds_172 ?_
            refine jj_topi (b := ((td + dd : Nat) : Int)) (by omega) ?_
            refine jj_iload C0 1 rfl dX4_finds_173 ?_
            refine jj_callVl C0 (cc_X4_priceOf hEV (fr := fr) (k := j) (j := dd) (by first | exact hfr | omega) (by omega) (by omega) (by omega) (by first | exact hup | omega) (by first | exact hdn | omega) (by first | exact hdv | omega)) (cwV 3 hw (lw_gV hU_893 hU_895 hU_45 hU_66 hU_896) rfl rfl rfl (by decide +kernel) ⟨Nat.le_of_ble_eq_true rfl, Nat.le_of_ble_eq_true rfl⟩) (ci := 5) (q0 := 0) rfl (rfl) rfl rfl (Nat.le_of_ble_eq_true rfl) ⟨by decide, by decide⟩ rfl rfl dX4_finds_175 ?_
            intro _ hu
            show jj_W _ _ _ _ _ _ _ _ _ _ _ _ _ _ _ _ _ 178 _ [.long (lI (f_price up dn dv td fr dd j)), .int (iI (c : Int)), .ref (ad 0)] (wM ad cI cJ cZ th td pr up dn dv n K St Ex Am Ov Bi As BL AL He Co Ca mo sh co sd Cz ab2 ((up + dn) ^ (r + 1)) ++ E)
            have hp := f_price_bd (t := td) (j := dd) (k := j) hup hdn hdv hfr (by omega) (by omega)
            refine jj_callVl C0 (cc_X4_pays hEV (c := c) (z := f_price up dn dv td fr dd j) (by first | exact hc | omega) (by omega) (by first | exact hK | omega) (by first | exact hSt | omega)) (cwV 2 hw (lw_gV hU_897 hU_899 hU_46 hU_66 hU_900) rfl rfl rfl (by decide +kernel) ⟨Nat.le_of_ble_eq_true rfl, Nat.le_of_ble_eq_true rfl⟩) (ci := 5) (q0 := 0) rfl (rfl) rfl rfl (Nat.le_of_ble_eq_true rfl) ⟨by decide, by decide⟩ rfl rfl dX4_finds_178 ?_
            intro _ hu
            show jj_W _ _ _ _ _ _ _ _ _ _ _ _ _ _ _ _ _ 181 _ [.long (lI (f_pays (K c) (St c) (f_price up dn dv td fr dd j)))] (wM ad cI cJ cZ th td pr up dn dv n K St Ex Am Ov Bi As BL AL He Co Ca mo sh co sd Cz ab2 ((up + dn) ^ (r + 1)) ++ E)
            refine jj_aload_n C0 4 rfl dX4_finds_181 ?_
            refine jj_get C0 (ci := 5) (v := .long (lI ((up + dn) ^ (r + 1)))) hin_X4 (0) (rfl) rfl 25 (by decide) (hw _ hU_811) (fun _ h9 => h9) rfl dX4_finds_182 ?_
            refine jj_lmul C0 dX4_finds_185 ?_
            refine jj_goto C0 (tgt := 190) dX4_finds_186 (by decide) ?_
            refine jj_lstore C0 (lv' := [(8, .long (lI (f_pays (K c) (St c) (f_price up dn dv td fr dd j) * ((up + dn) ^ (r + 1))))), (6, .long (lI (dn * f_V up dn dv td (K c) (St c) (Am c) fr r (dd + 1) (j + 1) + up * f_V up dn dv td (K c) (St c) (Am c) fr r (dd + 1) j))), (5, .int (iI (j : Int))), (4, .int (iI (dd : Int))), (3, .int (iI (N : Int))), (0, .ref (ad 0)), (1, .int (iI (c : Int))), (2, .int (iI fr))]) (by decide) rfl dX4_finds_190 ?_
            refine jj_aload_n C0 5 rfl dX4_finds_192 ?_
            refine jj_get C0 (ci := 5) (v := .ref (ad 15)) hin_X4 (0) (rfl) rfl 24 (by decide) (hw _ hU_810) (fun _ h9 => h9) rfl dX4_finds_193 ?_
            refine jj_iload C0 2 rfl dX4_finds_196 ?_
            refine jj_lload C0 1 rfl dX4_finds_198 ?_
            refine jj_lload C0 0 rfl dX4_finds_200 ?_
            refine jj_lcmp_le C0 (by omega) (by omega) dX4_finds_202 dX4_finds_203 (tgt := 211) (by decide) (fun c_6 => ?_) (fun c_6 => ?_)
            · refine jj_lload C0 0 rfl dX4_finds_211 ?_
              refine jj_last C0 (q0 := 15) (t0 := 1) (f := ab2) (rfl) rfl (k := j) (by omega) (by omega) (by decide) (ws' := wM ad cI cJ cZ th td pr up dn dv n K St Ex Am Ov Bi As BL AL He Co Ca mo sh co sd Cz (va_up ab2 j (f_pays (K c) (St c) (f_price up dn dv td fr dd j) * ((up + dn) ^ (r + 1)))) ((up + dn) ^ (r + 1)) ++ E) (rfl) dX4_finds_213 ?_
              refine jj_iinc C0 (z := ((j + 1 : Nat) : Int)) (lv' := [(5, .int (iI ((j + 1 : Nat) : Int))), (8, .long (lI (f_pays (K c) (St c) (f_price up dn dv td fr dd j) * ((up + dn) ^ (r + 1))))), (6, .long (lI (dn * f_V up dn dv td (K c) (St c) (Am c) fr r (dd + 1) (j + 1) + up * f_V up dn dv td (K c) (St c) (Am c) fr r (dd + 1) j))), (4, .int (iI (dd : Int))), (3, .int (iI (N : Int))), (0, .ref (ad 0)), (1, .int (iI (c : Int))), (2, .int (iI fr))]) 2 rfl (by omega) (by decide) rfl dX4_finds_214 ?_
              refine jj_goto C0 (tgt := 115) dX4_finds_217 (by decide) ?_
              refine jj_lv [0, 3, 4, 5, 6, 7] rfl ?_
              exact ih115 (j + 1, va_up ab2 j (f_pays (K c) (St c) (f_price up dn dv td fr dd j) * ((up + dn) ^ (r + 1)))) ⟨by omega, up_lt hlo (by simp only [f_gV, f_V]; rw [if_pos hov]; split <;> omega), up_ge hhi⟩ (by dsimp only; omega)
            · refine jj_lload C0 1 rfl dX4_finds_206 ?_
              refine jj_goto C0 (tgt := 213) dX4_finds_208 (by decide) ?_
              refine jj_last C0 (q0 := 15) (t0 := 1) (f := ab2) (rfl) rfl (k := j) (by omega) (by omega) (by decide) (ws' := wM ad cI cJ cZ th td pr up dn dv n K St Ex Am Ov Bi As BL AL He Co Ca mo sh co sd Cz (va_up ab2 j (dn * f_V up dn dv td (K c) (St c) (Am c) fr r (dd + 1) (j + 1) + up * f_V up dn dv td (K c) (St c) (Am c) fr r (dd + 1) j)) ((up + dn) ^ (r + 1)) ++ E) (rfl) dX4_finds_213 ?_
              refine jj_iinc C0 (z := ((j + 1 : Nat) : Int)) (lv' := [(5, .int (iI ((j + 1 : Nat) : Int))), (8, .long (lI (f_pays (K c) (St c) (f_price up dn dv td fr dd j) * ((up + dn) ^ (r + 1))))), (6, .long (lI (dn * f_V up dn dv td (K c) (St c) (Am c) fr r (dd + 1) (j + 1) + up * f_V up dn dv td (K c) (St c) (Am c) fr r (dd + 1) j))), (4, .int (iI (dd : Int))), (3, .int (iI (N : Int))), (0, .ref (ad 0)), (1, .int (iI (c : Int))), (2, .int (iI fr))]) 2 rfl (by omega) (by decide) rfl dX4_finds_214 ?_
              refine jj_goto C0 (tgt := 115) dX4_finds_217 (by decide) ?_
              refine jj_lv [0, 3, 4, 5, 6, 7] rfl ?_
              exact ih115 (j + 1, va_up ab2 j (dn * f_V up dn dv td (K c) (St c) (Am c) fr r (dd + 1) (j + 1) + up * f_V up dn dv td (K c) (St c) (Am c) fr r (dd + 1) j)) ⟨by omega, up_lt hlo (by simp only [f_gV, f_V]; rw [if_pos hov]; split <;> omega), up_ge hhi⟩ (by dsimp only; omega)
    · refine jj_aload_n C0 2 rfl dX4_finds_34 ?_
      refine jj_get C0 (ci := 5) (v := .ref (ad 15)) hin_X4 (0) (rfl) rfl 24 (by decide) (hw _ hU_810) (fun _ h9 => h9) rfl dX4_finds_35 ?_
      refine jj_iload C0 0 rfl dX4_finds_38 ?_
      refine jj_aload_n C0 2 rfl dX4_finds_40 ?_
      refine jj_get C0 (ci := 5) (v := .ref (ad 6)) hin_X4 (0) (rfl) rfl 11 (by decide) (hw _ hU_797) (fun _ h9 => h9) rfl dX4_finds_41 ?_
      refine jj_iload_n C0 3 rfl dX4_finds_44 ?_
      refine jj_zald C0 (q0 := 6) (t0 := 2) (f := Ov) (rfl) rfl (k := c) (by omega) (by omega) (by decide) dX4_finds_45 ?_
      have hb_Ov_39972 := hOv c
      refine jj_if_eq C0 (by omega) dX4_finds_46 (tgt := 53) (by decide) (fun c_7 => ?_) (fun c_7 => ?_)
      · refine jj_aload_n C0 2 rfl dX4_finds_53 ?_
        refine jj_iload_n C0 3 rfl dX4_finds_54 ?_
        refine jj_aload_n C0 2 rfl dX4_finds_55 ?_
        refine jj_iload_n C0 4 rfl dX4_finds_56 ?_
        refine jj_aload_n C0 2 rfl dX4_finds_57 ?_
        refine jj_get C0 (ci := 5) (v := .int (iI (td : Int))) hin_X4 (0) (rfl) rfl 1 (by decide) (hw _ hU_787) (fun _ h9 => h9) rfl dX4_finds_58 ?_
        refine jj_iload_n C0 1 rfl dX4_finds_61 ?_
        refine jj_iadd C0 dX4_finds_62 ?_
        refine jj_topi (b := ((td + N : Nat) : Int)) (by omega) ?_
        refine jj_iload C0 0 rfl dX4_finds_63 ?_
        refine jj_callVl C0 (cc_X4_priceOf hEV (fr := fr) (k := j) (j := N) (by first | exact hfr | omega) (by omega) (by omega) (by omega) (by first | exact hup | omega) (by first | exact hdn | omega) (by first | exact hdv | omega)) (cwV 3 hw (lw_gV hU_893 hU_895 hU_45 hU_66 hU_896) rfl rfl rfl (by decide +kernel) ⟨Nat.le_of_ble_eq_true rfl, Nat.le_of_ble_eq_true rfl⟩) (ci := 5) (q0 := 0) rfl (rfl) rfl rfl (Nat.le_of_ble_eq_true rfl) ⟨by decide, by decide⟩ rfl rfl dX4_finds_65 ?_
        intro _ hu
        show jj_W _ _ _ _ _ _ _ _ _ _ _ _ _ _ _ _ _ 68 _ [.long (lI (f_price up dn dv td fr N j)), .int (iI (c : Int)), .ref (ad 0), .int (iI (j : Int)), .ref (ad 15)] (wM ad cI cJ cZ th td pr up dn dv n K St Ex Am Ov Bi As BL AL He Co Ca mo sh co sd Cz ab1 be ++ E)
        have hp := f_price_bd (t := td) (j := N) (k := j) hup hdn hdv hfr (by omega) (by omega)
        refine jj_callVl C0 (cc_X4_pays hEV (c := c) (z := f_price up dn dv td fr N j) (by first | exact hc | omega) (by omega) (by first | exact hK | omega) (by first | exact hSt | omega)) (cwV 2 hw (lw_gV hU_897 hU_899 hU_46 hU_66 hU_900) rfl rfl rfl (by decide +kernel) ⟨Nat.le_of_ble_eq_true rfl, Nat.le_of_ble_eq_true rfl⟩) (ci := 5) (q0 := 0) rfl (rfl) rfl rfl (Nat.le_of_ble_eq_true rfl) ⟨by decide, by decide⟩ rfl rfl dX4_finds_68 ?_
        intro _ hu
        show jj_W _ _ _ _ _ _ _ _ _ _ _ _ _ _ _ _ _ 71 _ [.long (lI (f_pays (K c) (St c) (f_price up dn dv td fr N j))), .int (iI (j : Int)), .ref (ad 15)] (wM ad cI cJ cZ th td pr up dn dv n K St Ex Am Ov Bi As BL AL He Co Ca mo sh co sd Cz ab1 be ++ E)
        refine jj_last C0 (q0 := 15) (t0 := 1) (f := ab1) (rfl) rfl (k := j) (by omega) (by omega) (by decide) (ws' := wM ad cI cJ cZ th td pr up dn dv n K St Ex Am Ov Bi As BL AL He Co Ca mo sh co sd Cz (va_up ab1 j (f_pays (K c) (St c) (f_price up dn dv td fr N j))) be ++ E) (rfl) dX4_finds_71 ?_
        refine jj_iinc C0 (z := ((j + 1 : Nat) : Int)) (lv' := [(4, .int (iI ((j + 1 : Nat) : Int))), (3, .int (iI (N : Int))), (0, .ref (ad 0)), (1, .int (iI (c : Int))), (2, .int (iI fr))]) 0 rfl (by omega) (by decide) rfl dX4_finds_72 ?_
        refine jj_goto C0 (tgt := 28) dX4_finds_75 (by decide) ?_
        exact ih28 (j + 1, va_up ab1 j (f_pays (K c) (St c) (f_price up dn dv td fr N j))) ⟨by omega, up_lt hab1 (by simp only [f_gV, f_V]; first | rw [if_pos (by omega)] | rw [if_neg (by omega)])⟩ (by dsimp only; omega)
      · refine jj_lconst C0 (z := 0) (by decide) dX4_finds_49 ?_
        refine jj_goto C0 (tgt := 71) dX4_finds_50 (by decide) ?_
        refine jj_last C0 (q0 := 15) (t0 := 1) (f := ab1) (rfl) rfl (k := j) (by omega) (by omega) (by decide) (ws' := wM ad cI cJ cZ th td pr up dn dv n K St Ex Am Ov Bi As BL AL He Co Ca mo sh co sd Cz (va_up ab1 j 0) be ++ E) (rfl) dX4_finds_71 ?_
        refine jj_iinc C0 (z := ((j + 1 : Nat) : Int)) (lv' := [(4, .int (iI ((j + 1 : Nat) : Int))), (3, .int (iI (N : Int))), (0, .ref (ad 0)), (1, .int (iI (c : Int))), (2, .int (iI fr))]) 0 rfl (by omega) (by decide) rfl dX4_finds_72 ?_
        refine jj_goto C0 (tgt := 28) dX4_finds_75 (by decide) ?_
        exact ih28 (j + 1, va_up ab1 j 0) ⟨by omega, up_lt hab1 (by simp only [f_gV, f_V]; first | rw [if_pos (by omega)] | rw [if_neg (by omega)])⟩ (by dsimp only; omega)
  intro j24
  refine jj_aload_n C0 0 rfl dX4_finds_0 ?_
  refine jj_get C0 (ci := 5) (v := .ref (ad 6)) hin_X4 (0) (rfl) rfl 11 (by decide) (hw _ hU_797) (fun _ h9 => h9) rfl dX4_finds_1 ?_
  refine jj_iload_n C0 1 rfl dX4_finds_4 ?_
  refine jj_zald C0 (q0 := 6) (t0 := 2) (f := Ov) (rfl) rfl (k := c) (by omega) (by omega) (by decide) dX4_finds_5 ?_
  have hb_Ov_39972 := hOv c
  refine jj_if_eq C0 (by omega) dX4_finds_6 (tgt := 13) (by decide) (fun c_8 => ?_) (fun c_8 => ?_)
  · refine jj_aload_n C0 0 rfl dX4_finds_13 ?_
    refine jj_get C0 (ci := 5) (v := .ref (ad 4)) hin_X4 (0) (rfl) rfl 9 (by decide) (hw _ hU_795) (fun _ h9 => h9) rfl dX4_finds_14 ?_
    refine jj_iload_n C0 1 rfl dX4_finds_17 ?_
    refine jj_iald C0 (q0 := 4) (t0 := 0) (f := Ex) (rfl) rfl (k := c) (by omega) (by omega) (by decide) dX4_finds_18 ?_
    have hb_Ex_18436 := hEx c
    refine jj_aload_n C0 0 rfl dX4_finds_19 ?_
    refine jj_get C0 (ci := 5) (v := .int (iI (td : Int))) hin_X4 (0) (rfl) rfl 1 (by decide) (hw _ hU_787) (fun _ h9 => h9) rfl dX4_finds_20 ?_
    refine jj_isub C0 dX4_finds_23 ?_
    refine jj_topi (b := (N : Int)) (by omega) ?_
    exact j24 () trivial
  · refine jj_iconst C0 dX4_finds_9 ?_
    refine jj_goto C0 (tgt := 24) dX4_finds_10 (by decide) ?_
    refine jj_topi (b := (N : Int)) (by omega) ?_
    exact j24 () trivial
set_option maxHeartbeats 4000000 in
set_option maxRecDepth 100000 in
theorem cc_X4_markAt (hEV : jj_EV EV) {c : Nat} {fr : Int} (hc : c < 12) (hov : (Ov c = 1 ∧ Ex c < (td : Int)) ∨ (Ov c = 0 ∧ (td : Int) ≤ Ex c)) (hex : Ex c ≤ (td : Int) + 10 ∧ Ex c ≤ 200) (htd : td ≤ 200) (hfr : -30000 ≤ fr ∧ fr ≤ 30000) (hup : 1 ≤ up ∧ up ≤ 10) (hdn : 1 ≤ dn ∧ dn ≤ 10) (hdv : ∀ j, 0 ≤ dv j ∧ dv j ≤ 1000) (hK : ∀ j, 0 ≤ K j ∧ K j ≤ 1) (hSt : ∀ j, 0 ≤ St j ∧ St j ≤ 20000) (hEx : ∀ j, 0 ≤ Ex j ∧ Ex j ≤ 200) (hAm : ∀ j, 0 ≤ Am j ∧ Am j ≤ 1) (hOv : ∀ j, 0 ≤ Ov j ∧ Ov j ≤ 1) : jj_Ml EV (dC, dI) vwCl [(cI, .int), (cJ, .long), (cZ, .boolean), (cO, .object "java/lang/Object")] l yX4_markAt (Cond.code yX4_markAt cX4_markAt 3 (some .long) :: lw_U) ({ frames := 2, cells := 0, slots := 0, locals := 55 } : Room) [.ref (ad 0), .int (iI (c : Int)), .int (iI fr)] (wM ad cI cJ cZ th td pr up dn dv n K St Ex Am Ov Bi As BL AL He Co Ca mo sh co sd Cz Ab be ++ E) (S := (Nat → Int) × Int) (fun ⟨ab, b⟩ => f_mark up dn dv td (K c) (St c) (Ex c) (Am c) fr) (fun ⟨ab, b⟩ => True) (fun ⟨ab, b⟩ => wM ad cI cJ cZ th td pr up dn dv n K St Ex Am Ov Bi As BL AL He Co Ca mo sh co sd Cz ab b ++ E) := by
  refine jj_start (cc := cX4_markAt) (nL := 3) (ret := (some .long)) (lv := [(0, .ref (ad 0)), (1, .int (iI (c : Int))), (2, .int (iI fr))]) (fun A => jj_Ql _ _ _ _ _ _ A) hEV (by decide) rfl (Nat.le_of_ble_eq_true rfl) rfl ?_
  intro p9 e9 s9 m9 a9 b9 me9 c9 A9 C1 hr hin
  have C0 : jj_C p9 s9 m9 a9 me9 c9 (dC, dI) vwCl A9 3 cX4_markAt "StrikehallModel" lw_U _ EV := jj_toU C1
  have hw := C0.2.2.2.2.1
  obtain ⟨N, hNe⟩ : ∃ N : Nat, N = (Ex c - (td : Int)).toNat := ⟨_, rfl⟩
  have hN : (Ov c = 1 ∧ N = 0) ∨ (Ov c = 0 ∧ (N : Int) = Ex c - (td : Int)) := by omega
  have hN10 : N ≤ 10 := by omega
  have htN : td + N ≤ 200 := by omega
  refine jj_aload_n C0 0 rfl dX4_markAt_0 ?_
  refine jj_iload_n C0 1 rfl dX4_markAt_1 ?_
  refine jj_iload_n C0 2 rfl dX4_markAt_2 ?_
  refine jj_callVv C0 (cc_X4_finds hEV (c := c) (fr := fr) (N := N) (by first | exact hc | omega) (by first | exact hN | omega) (by first | exact hN10 | omega) (by first | exact htN | omega) (by first | exact hfr | omega) (by first | exact hup | omega) (by first | exact hdn | omega) (by first | exact hdv | omega) (by first | exact hK | omega) (by first | exact hSt | omega) (by first | exact hEx | omega) (by first | exact hAm | omega) (by first | exact hOv | omega)) (cwV 2 hw (lw_gV hU_889 hU_891 hU_44 hU_66 hU_892) rfl rfl rfl (by decide +kernel) ⟨Nat.le_of_ble_eq_true rfl, Nat.le_of_ble_eq_true rfl⟩) (ci := 5) (q0 := 0) rfl (rfl) rfl rfl (Nat.le_of_ble_eq_true rfl) ⟨by decide, by decide⟩ rfl rfl dX4_markAt_3 ?_
  intro ab_1 hu
  have hu3 : ab_1 0 = f_gV (Ov c) up dn dv td (K c) (St c) (Am c) fr N 0 0 := hu
  show jj_W _ _ _ _ _ _ _ _ _ _ _ _ _ _ _ _ _ 6 _ [] (wM ad cI cJ cZ th td pr up dn dv n K St Ex Am Ov Bi As BL AL He Co Ca mo sh co sd Cz ab_1 ((up + dn) ^ N) ++ E)
  have hab0 : 0 ≤ ab_1 0 ∧ ab_1 0 ≤ 1024000000000000000 := by rw [hu3]; unfold f_gV; split; exact f_V_lR hup hdn hdv (hSt c) hfr (by omega) (by omega); omega
  have hd := f_den_bd (w := up + dn) (by omega) hN10
  have hm := f_mk_bd hab0 hd
  have hnum : f_num up dn dv td (K c) (St c) (Ex c) (Am c) fr = ab_1 0 := by rw [hu3]; unfold f_num f_gV; rcases hov with ⟨h1, h2⟩ | ⟨h1, h2⟩; rw [if_pos h2, if_neg (by omega)]; rw [if_neg (by omega), if_pos h1, ← hNe]
  have hden : f_den up dn td (Ex c) = (up + dn) ^ N := by unfold f_den; rw [← hNe]
  refine jj_aload_n C0 0 rfl dX4_markAt_6 ?_
  refine jj_get C0 (ci := 5) (v := .ref (ad 15)) hin_X4 (0) (rfl) rfl 24 (by decide) (hw _ hU_810) (fun _ h9 => h9) rfl dX4_markAt_7 ?_
  refine jj_iconst C0 dX4_markAt_10 ?_
  refine jj_lald C0 (q0 := 15) (t0 := 1) (f := ab_1) (rfl) rfl (k := 0) (by omega) (by omega) (by decide) dX4_markAt_11 ?_
  refine jj_aload_n C0 0 rfl dX4_markAt_12 ?_
  refine jj_get C0 (ci := 5) (v := .long (lI ((up + dn) ^ N))) hin_X4 (0) (rfl) rfl 25 (by decide) (hw _ hU_811) (fun _ h9 => h9) rfl dX4_markAt_13 ?_
  refine jj_ldiv C0 (by omega) (by omega) (by omega) (by omega) dX4_markAt_16 ?_
  refine jj_ldc2 C0 (z := 1000) (by decide) (hw _ hU_881) dX4_markAt_17 ?_
  refine jj_lmul C0 dX4_markAt_20 ?_
  refine jj_aload_n C0 0 rfl dX4_markAt_21 ?_
  refine jj_get C0 (ci := 5) (v := .ref (ad 15)) hin_X4 (0) (rfl) rfl 24 (by decide) (hw _ hU_810) (fun _ h9 => h9) rfl dX4_markAt_22 ?_
  refine jj_iconst C0 dX4_markAt_25 ?_
  refine jj_lald C0 (q0 := 15) (t0 := 1) (f := ab_1) (rfl) rfl (k := 0) (by omega) (by omega) (by decide) dX4_markAt_26 ?_
  refine jj_aload_n C0 0 rfl dX4_markAt_27 ?_
  refine jj_get C0 (ci := 5) (v := .long (lI ((up + dn) ^ N))) hin_X4 (0) (rfl) rfl 25 (by decide) (hw _ hU_811) (fun _ h9 => h9) rfl dX4_markAt_28 ?_
  refine jj_lrem C0 (by omega) (by omega) (by omega) (by omega) dX4_markAt_31 ?_
  refine jj_ldc2 C0 (z := 1000) (by decide) (hw _ hU_881) dX4_markAt_32 ?_
  refine jj_lmul C0 dX4_markAt_35 ?_
  refine jj_aload_n C0 0 rfl dX4_markAt_36 ?_
  refine jj_get C0 (ci := 5) (v := .long (lI ((up + dn) ^ N))) hin_X4 (0) (rfl) rfl 25 (by decide) (hw _ hU_811) (fun _ h9 => h9) rfl dX4_markAt_37 ?_
  refine jj_ldiv C0 (by omega) (by omega) (by omega) (by omega) dX4_markAt_40 ?_
  refine jj_ladd C0 dX4_markAt_41 ?_
  exact jj_lret C0 hr (ab_1, ((up + dn) ^ N)) (trivial) (by show _ = f_mark up dn dv td (K c) (St c) (Ex c) (Am c) fr; unfold f_mark; rw [hnum, hden]; rfl) (rfl) (by decide) (by decide) dX4_markAt_42
set_option maxHeartbeats 4000000 in
set_option maxRecDepth 100000 in
theorem cc_X4_worthAt (hEV : jj_EV EV) {fr : Int} (hovw : ∀ c, c < n → He (7 * c + 6) = 0 ∨ (Ov c = 1 ∧ Ex c < (td : Int)) ∨ (Ov c = 0 ∧ (td : Int) ≤ Ex c)) (hexs : ∀ c, c < n → Ex c ≤ (td : Int) + 10 ∧ Ex c ≤ 200) (hn : n ≤ 12) (htd : td ≤ 200) (hfr : -30000 ≤ fr ∧ fr ≤ 30000) (hup : 1 ≤ up ∧ up ≤ 10) (hdn : 1 ≤ dn ∧ dn ≤ 10) (hdv : ∀ j, 0 ≤ dv j ∧ dv j ≤ 1000) (hK : ∀ j, 0 ≤ K j ∧ K j ≤ 1) (hSt : ∀ j, 0 ≤ St j ∧ St j ≤ 20000) (hEx : ∀ j, 0 ≤ Ex j ∧ Ex j ≤ 200) (hAm : ∀ j, 0 ≤ Am j ∧ Am j ≤ 1) (hOv : ∀ j, 0 ≤ Ov j ∧ Ov j ≤ 1) (hHe : ∀ j, -1000000 ≤ He j ∧ He j ≤ 1000000) (hsh : -100000 ≤ sh ∧ sh ≤ 100000) : jj_Ml EV (dC, dI) vwCl [(cI, .int), (cJ, .long), (cZ, .boolean), (cO, .object "java/lang/Object")] l yX4_worthAt (Cond.code yX4_worthAt cX4_worthAt 6 (some .long) :: lw_U) ({ frames := 3, cells := 0, slots := 0, locals := 77 } : Room) [.ref (ad 0), .int (iI fr)] (wM ad cI cJ cZ th td pr up dn dv n K St Ex Am Ov Bi As BL AL He Co Ca mo sh co sd Cz Ab be ++ E) (S := (Nat → Int) × Int) (fun ⟨ab, b⟩ => (f_W up dn dv td n K St Ex Am He Ca sh fr)) (fun ⟨ab, b⟩ => True) (fun ⟨ab, b⟩ => wM ad cI cJ cZ th td pr up dn dv n K St Ex Am Ov Bi As BL AL He Co Ca mo sh co sd Cz ab b ++ E) := by
  refine jj_start (cc := cX4_worthAt) (nL := 6) (ret := (some .long)) (lv := [(0, .ref (ad 0)), (1, .int (iI fr))]) (fun A => jj_Ql _ _ _ _ _ _ A) hEV (by decide) rfl (Nat.le_of_ble_eq_true rfl) rfl ?_
  intro p9 e9 s9 m9 a9 b9 me9 c9 A9 C1 hr hin
  have C0 : jj_C p9 s9 m9 a9 me9 c9 (dC, dI) vwCl A9 6 cX4_worthAt "StrikehallModel" lw_U _ EV := jj_toU C1
  have hw := C0.2.2.2.2.1
  refine jj_aload_n C0 0 rfl dX4_worthAt_0 ?_
  refine jj_get C0 (ci := 5) (v := .ref (ad 13)) hin_X4 (0) (rfl) rfl 18 (by decide) (hw _ hU_804) (fun _ h9 => h9) rfl dX4_worthAt_1 ?_
  refine jj_bipush C0 dX4_worthAt_4 (by decide) ?_
  refine jj_lald C0 (q0 := 13) (t0 := 1) (f := Ca) (rfl) rfl (k := 6) (by omega) (by omega) (by decide) dX4_worthAt_6 ?_
  refine jj_ldc2 C0 (z := 1000) (by decide) (hw _ hU_881) dX4_worthAt_7 ?_
  refine jj_iload_n C0 1 rfl dX4_worthAt_10 ?_
  refine jj_i2l C0 (by omega) dX4_worthAt_11 ?_
  refine jj_lmul C0 dX4_worthAt_12 ?_
  refine jj_aload_n C0 0 rfl dX4_worthAt_13 ?_
  refine jj_get C0 (ci := 5) (v := .int (iI sh)) hin_X4 (0) (rfl) rfl 20 (by decide) (hw _ hU_806) (fun _ h9 => h9) rfl dX4_worthAt_14 ?_
  refine jj_i2l C0 (by omega) dX4_worthAt_17 ?_
  refine jj_lmul C0 dX4_worthAt_18 ?_
  refine jj_ladd C0 dX4_worthAt_19 ?_
  refine jj_topl (b := f_worth up dn dv td K St Ex Am (fun c => He (7 * c + 6)) (Ca 6) sh fr 0) (rfl) ?_
  refine jj_lstore_n C0 (i := 2) rfl (lv' := [(2, .long (lI (f_worth up dn dv td K St Ex Am (fun c => He (7 * c + 6)) (Ca 6) sh fr 0))), (0, .ref (ad 0)), (1, .int (iI fr))]) (by decide) rfl dX4_worthAt_20 ?_
  refine jj_iconst C0 dX4_worthAt_21 ?_
  refine jj_istore C0 (lv' := [(4, .int (iI 0)), (2, .long (lI (f_worth up dn dv td K St Ex Am (fun c => He (7 * c + 6)) (Ca 6) sh fr 0))), (0, .ref (ad 0)), (1, .int (iI fr))]) (by decide) rfl dX4_worthAt_22 ?_
  refine jj_ind (X := Nat × (Nat → Int) × Int) (fun q9 => match q9 with | ⟨i, ab, b⟩ => (n + 1 - i : Nat)) (fun q9 => match q9 with | ⟨i, ab, b⟩ => [(4, .int (iI (i : Int))), (2, .long (lI (f_worth up dn dv td K St Ex Am (fun c => He (7 * c + 6)) (Ca 6) sh fr i))), (0, .ref (ad 0)), (1, .int (iI fr))]) (fun q9 => match q9 with | ⟨i, ab, b⟩ => []) (fun q9 => match q9 with | ⟨i, ab, b⟩ => wM ad cI cJ cZ th td pr up dn dv n K St Ex Am Ov Bi As BL AL He Co Ca mo sh co sd Cz ab b ++ E) (fun q9 => match q9 with | ⟨i, ab, b⟩ => i ≤ n) ?_ (0, Ab, be) (Nat.zero_le _)
  intro q9 hq9 ih24
  obtain ⟨i, ab, b⟩ := q9
  have hi : i ≤ n := hq9
  show jj_W _ _ _ _ _ _ _ _ _ _ _ _ _ _ _ _ _ 24 [(4, .int (iI (i : Int))), (2, .long (lI (f_worth up dn dv td K St Ex Am (fun c => He (7 * c + 6)) (Ca 6) sh fr i))), (0, .ref (ad 0)), (1, .int (iI fr))] [] (wM ad cI cJ cZ th td pr up dn dv n K St Ex Am Ov Bi As BL AL He Co Ca mo sh co sd Cz ab b ++ E)
  refine jj_iload C0 0 rfl dX4_worthAt_24 ?_
  refine jj_aload_n C0 2 rfl dX4_worthAt_26 ?_
  refine jj_get C0 (ci := 5) (v := .int (iI (n : Int))) hin_X4 (0) (rfl) rfl 6 (by decide) (hw _ hU_792) (fun _ h9 => h9) rfl dX4_worthAt_27 ?_
  refine jj_icmp_ge C0 (by omega) (by omega) dX4_worthAt_30 (tgt := 75) (by decide) (fun c_1 => ?_) (fun c_1 => ?_)
  · refine jj_lload_n C0 1 rfl dX4_worthAt_75 ?_
    exact jj_lret C0 hr (ab, b) (trivial) (by rw [show i = n by omega]; rfl) (rfl) (by decide) (by decide) dX4_worthAt_76
  · refine jj_aload_n C0 2 rfl dX4_worthAt_33 ?_
    refine jj_get C0 (ci := 5) (v := .ref (ad 11)) hin_X4 (0) (rfl) rfl 16 (by decide) (hw _ hU_802) (fun _ h9 => h9) rfl dX4_worthAt_34 ?_
    refine jj_iconst C0 dX4_worthAt_37 ?_
    refine jj_iload C0 0 rfl dX4_worthAt_38 ?_
    refine jj_callSi C0 (cc_X4_atH hEV (c := i) (by omega)) (cwS 2 hw (lw_gS hU_882 hU_883 hU_66 hU_884) rfl rfl rfl (by decide +kernel) ⟨Nat.le_of_ble_eq_true rfl, Nat.le_of_ble_eq_true rfl⟩) rfl rfl (Nat.le_of_ble_eq_true rfl) ⟨by decide, by decide⟩ rfl rfl dX4_worthAt_40 ?_
    intro _ hu
    show jj_W _ _ _ _ _ _ _ _ _ _ _ _ _ _ _ _ _ 43 _ [.int (iI ((7 * i + 6 : Nat) : Int)), .ref (ad 11)] (wM ad cI cJ cZ th td pr up dn dv n K St Ex Am Ov Bi As BL AL He Co Ca mo sh co sd Cz ab b ++ E)
    refine jj_iald C0 (q0 := 11) (t0 := 0) (f := He) (rfl) rfl (k := (7 * i + 6)) (by omega) (by omega) (by decide) dX4_worthAt_43 ?_
    have hb_He_82731 := hHe (7 * i + 6)
    refine jj_istore C0 (lv' := [(5, .int (iI (He (7 * i + 6)))), (4, .int (iI (i : Int))), (2, .long (lI (f_worth up dn dv td K St Ex Am (fun c => He (7 * c + 6)) (Ca 6) sh fr i))), (0, .ref (ad 0)), (1, .int (iI fr))]) (by decide) rfl dX4_worthAt_44 ?_
    refine jj_lload_n C0 2 rfl dX4_worthAt_46 ?_
    refine jj_iload C0 0 rfl dX4_worthAt_47 ?_
    refine jj_if_ne C0 (by omega) dX4_worthAt_49 (tgt := 56) (by decide) (fun c_2 => ?_) (fun c_2 => ?_)
    · refine jj_iload C0 0 rfl dX4_worthAt_56 ?_
      refine jj_i2l C0 (by omega) dX4_worthAt_58 ?_
      refine jj_aload_n C0 3 rfl dX4_worthAt_59 ?_
      refine jj_iload C0 1 rfl dX4_worthAt_60 ?_
      refine jj_iload_n C0 4 rfl dX4_worthAt_62 ?_
      refine jj_callVl C0 (cc_X4_markAt hEV (c := i) (fr := fr) (by omega) (by rcases hovw i (by omega) with h | h | h; omega; exact Or.inl h; exact Or.inr h) (hexs i (by omega)) (by first | exact htd | omega) (by first | exact hfr | omega) (by first | exact hup | omega) (by first | exact hdn | omega) (by first | exact hdv | omega) (by first | exact hK | omega) (by first | exact hSt | omega) (by first | exact hEx | omega) (by first | exact hAm | omega) (by first | exact hOv | omega)) (cwV 2 hw (lw_gV hU_885 hU_887 hU_43 hU_66 hU_888) rfl rfl rfl (by decide +kernel) ⟨Nat.le_of_ble_eq_true rfl, Nat.le_of_ble_eq_true rfl⟩) (ci := 5) (q0 := 0) rfl (rfl) rfl rfl (Nat.le_of_ble_eq_true rfl) ⟨by decide, by decide⟩ rfl rfl dX4_worthAt_63 ?_
      intro u hu
      obtain ⟨ab_3, b_3⟩ := u
      show jj_W _ _ _ _ _ _ _ _ _ _ _ _ _ _ _ _ _ 66 _ [.long (lI (f_mark up dn dv td (K i) (St i) (Ex i) (Am i) fr)), .long (lI (He (7 * i + 6))), .long (lI (f_worth up dn dv td K St Ex Am (fun c => He (7 * c + 6)) (Ca 6) sh fr i))] (wM ad cI cJ cZ th td pr up dn dv n K St Ex Am Ov Bi As BL AL He Co Ca mo sh co sd Cz ab_3 b_3 ++ E)
      refine jj_lmul C0 dX4_worthAt_66 ?_
      refine jj_ladd C0 dX4_worthAt_67 ?_
      refine jj_topl (b := (f_worth up dn dv td K St Ex Am (fun c => He (7 * c + 6)) (Ca 6) sh fr (i + 1))) (by simp only [f_worth]; first | done | (rw [show He (7 * i + 6) = 0 by omega]; omega)) ?_
      refine jj_lstore_n C0 (i := 2) rfl (lv' := [(2, .long (lI (f_worth up dn dv td K St Ex Am (fun c => He (7 * c + 6)) (Ca 6) sh fr (i + 1)))), (5, .int (iI (He (7 * i + 6)))), (4, .int (iI (i : Int))), (0, .ref (ad 0)), (1, .int (iI fr))]) (by decide) rfl dX4_worthAt_68 ?_
      refine jj_iinc C0 (z := ((i + 1 : Nat) : Int)) (lv' := [(4, .int (iI ((i + 1 : Nat) : Int))), (2, .long (lI (f_worth up dn dv td K St Ex Am (fun c => He (7 * c + 6)) (Ca 6) sh fr (i + 1)))), (5, .int (iI (He (7 * i + 6)))), (0, .ref (ad 0)), (1, .int (iI fr))]) 2 rfl (by omega) (by decide) rfl dX4_worthAt_69 ?_
      refine jj_goto C0 (tgt := 24) dX4_worthAt_72 (by decide) ?_
      refine jj_lv [0, 1, 3, 4] rfl ?_
      exact ih24 (i + 1, ab_3, b_3) (by omega) (by dsimp only; omega)
    · refine jj_lconst C0 (z := 0) (by decide) dX4_worthAt_52 ?_
      refine jj_goto C0 (tgt := 67) dX4_worthAt_53 (by decide) ?_
      refine jj_ladd C0 dX4_worthAt_67 ?_
      refine jj_topl (b := (f_worth up dn dv td K St Ex Am (fun c => He (7 * c + 6)) (Ca 6) sh fr (i + 1))) (by simp only [f_worth]; first | done | (rw [show He (7 * i + 6) = 0 by omega]; omega)) ?_
      refine jj_lstore_n C0 (i := 2) rfl (lv' := [(2, .long (lI (f_worth up dn dv td K St Ex Am (fun c => He (7 * c + 6)) (Ca 6) sh fr (i + 1)))), (5, .int (iI (He (7 * i + 6)))), (4, .int (iI (i : Int))), (0, .ref (ad 0)), (1, .int (iI fr))]) (by decide) rfl dX4_worthAt_68 ?_
      refine jj_iinc C0 (z := ((i + 1 : Nat) : Int)) (lv' := [(4, .int (iI ((i + 1 : Nat) : Int))), (2, .long (lI (f_worth up dn dv td K St Ex Am (fun c => He (7 * c + 6)) (Ca 6) sh fr (i + 1)))), (5, .int (iI (He (7 * i + 6)))), (0, .ref (ad 0)), (1, .int (iI fr))]) 2 rfl (by omega) (by decide) rfl dX4_worthAt_69 ?_
      refine jj_goto C0 (tgt := 24) dX4_worthAt_72 (by decide) ?_
      refine jj_lv [0, 1, 3, 4] rfl ?_
      exact ih24 (i + 1, ab, b) (by omega) (by dsimp only; omega)
end MM
