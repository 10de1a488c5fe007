section CC9
variable {EV : (Nat → Prop) → State → Heap → Prop} {l : Launch} {dC : Nat → ClassId} {dI : Nat → Nat → Nat} {cI cJ cZ cO : ClassId} {E ws : va_W} {li ed es mi cap n : Nat} {mc : Int} {fe : Nat → Option Nat}
set_option maxHeartbeats 4000000 in
set_option maxRecDepth 100000 in
theorem cc_J8_newLength_cabcc  {a b c : Nat} (habc : a ≤ 1000 ∧ 1 ≤ b ∧ b ≤ 1000 ∧ c ≤ 1000) : jj_Mi (EVG es mi) (dC, dI) vwCl [(cI, .int), (cJ, .long), (cZ, .boolean), (cO, .object "java/lang/Object")] l yJ8_newLength_cabcc (Cond.code yJ8_newLength_cabcc cJ8_newLength_cabcc 4 (some .int) :: lw_U) ({ frames := 1, cells := 0, slots := 0, locals := 14 } : Room) [.int (iI (a : Int)), .int (iI (b : Int)), .int (iI (c : Int))] (ws) (S := Unit) (fun _ => ((a + max b c : Nat) : Int)) (fun _ => True) (fun _ => ws) := by
  refine jj_start (cc := cJ8_newLength_cabcc) (nL := 4) (ret := (some .int)) (lv := [(0, .int (iI (a : Int))), (1, .int (iI (b : Int))), (2, .int (iI (c : Int)))]) (fun A => jj_Qi _ _ _ _ _ _ A) (hEVG es mi) (by first | decide | (dsimp only; omega) | (constructor <;> dsimp only <;> omega)) rfl (Nat.le_of_ble_eq_true rfl) rfl ?_
  intro p9 e9 s9 m9 a9 b9 me9 c9 A9 C1 hr hin
  have C0 : jj_C p9 s9 m9 a9 me9 c9 (dC, dI) vwCl A9 4 cJ8_newLength_cabcc "jdk/internal/util/ArraysSupport" lw_U _ (EVG es mi) := jj_toU C1
  have hw := C0.2.2.2.2.1
  refine jj_iload_n C0 0 rfl dJ8_newLength_cabcc_0 ?_
  refine jj_iload_n C0 1 rfl dJ8_newLength_cabcc_1 ?_
  refine jj_iload_n C0 2 rfl dJ8_newLength_cabcc_2 ?_
  refine jj_mmax C0 (by omega) (by omega) (hw _ hU_440) (List.forall_mem_cons.mpr ⟨hw _ hU_307, List.forall_mem_cons.mpr ⟨hw _ hU_53, List.forall_mem_cons.mpr ⟨hw _ hU_308, fun _ h => absurd h List.not_mem_nil⟩⟩⟩) (by first | decide | (dsimp only; omega) | (constructor <;> dsimp only <;> omega)) (Nat.le_of_ble_eq_true rfl) ⟨by first | decide | (dsimp only; omega), by first | decide | (dsimp only; omega)⟩ dJ8_newLength_cabcc_3 ?_
  refine jj_iadd C0 dJ8_newLength_cabcc_6 ?_
  refine jj_istore_n C0 (i := 3) rfl (lv' := [(3, .int (iI ((a : Int) + (max (b : Int) (c : Int))))), (0, .int (iI (a : Int))), (1, .int (iI (b : Int))), (2, .int (iI (c : Int)))]) (by first | decide | (dsimp only; omega) | (constructor <;> dsimp only <;> omega)) rfl dJ8_newLength_cabcc_7 ?_
  refine jj_iconst C0 dJ8_newLength_cabcc_8 ?_
  refine jj_iload_n C0 0 rfl dJ8_newLength_cabcc_9 ?_
  refine jj_icmp_ge C0 (by omega) (by omega) dJ8_newLength_cabcc_10 (tgt := 21) (by first | decide | (dsimp only; omega) | (constructor <;> dsimp only <;> omega)) (fun c_1 => absurd c_1 (by omega)) (fun c_1 => ?_)
  refine jj_iload_n C0 0 rfl dJ8_newLength_cabcc_13 ?_
  refine jj_ldc C0 (z := 2147483639) (by first | decide | (dsimp only; omega) | (constructor <;> dsimp only <;> omega)) (hw _ hU_441) dJ8_newLength_cabcc_14 ?_
  refine jj_icmp_gt C0 (by omega) (by omega) dJ8_newLength_cabcc_16 (tgt := 21) (by first | decide | (dsimp only; omega) | (constructor <;> dsimp only <;> omega)) (fun c_2 => absurd c_2 (by omega)) (fun c_2 => ?_)
  refine jj_iload_n C0 0 rfl dJ8_newLength_cabcc_19 ?_
  exact jj_iret C0 hr () (trivial) (by omega) (rfl) (by first | decide | (dsimp only; omega) | (constructor <;> dsimp only <;> omega)) (by first | decide | (dsimp only; omega) | (constructor <;> dsimp only <;> omega)) dJ8_newLength_cabcc_20
set_option maxHeartbeats 4000000 in
set_option maxRecDepth 100000 in
theorem cc_J7_copyOf_6403c  {N : Nat} (hN : cap ≤ N ∧ N ≤ 30) (hfe : ∀ i, i < cap → ∀ y, fe i = some y → ∃ (k : Nat) (vs : List Value), E[k]? = some (y, .inr (1, vs))) : jj_Mr (EVG es mi) (dC, dI) vwCl [(cI, .int), (cJ, .long), (cZ, .boolean), (cO, .object "java/lang/Object")] l yJ7_copyOf_6403c (Cond.code yJ7_copyOf_6403c cJ7_copyOf_6403c 4 (some (.array (.object "java/lang/Object"))) :: lw_U) ({ frames := 1, cells := 1, slots := 30, locals := 100 } : Room) [.ref ed, .int (iI (N : Int)), .ref mi] ([(li, .inr (0, [.int (iI mc), .ref ed, .int (iI (n : Int))])), (ed, .inl (cO, cap, .inr (.inr (.inr (.inr fe)))))] ++ E) (S := Nat) (fun q => q) (fun q => True) (fun q => [(li, .inr (0, [.int (iI mc), .ref ed, .int (iI (n : Int))])), (ed, .inl (cO, cap, .inr (.inr (.inr (.inr fe))))), (q, .inl (cO, N, .inr (.inr (.inr (.inr (va_cpy fe (fun _ => none) 0 0 cap))))))] ++ E) := by
  refine jj_start (cc := cJ7_copyOf_6403c) (nL := 4) (ret := (some (.array (.object "java/lang/Object")))) (lv := [(0, .ref ed), (1, .int (iI (N : Int))), (2, .ref mi)]) (fun A => jj_Qr _ _ _ _ _ _ A) (hEVG es mi) (by first | decide | (dsimp only; omega) | (constructor <;> dsimp only <;> omega)) rfl (Nat.le_of_ble_eq_true rfl) rfl ?_
  intro p9 e9 s9 m9 a9 b9 me9 c9 A9 C1 hr hin
  have C0 : jj_C p9 s9 m9 a9 me9 c9 (dC, dI) vwCl A9 4 cJ7_copyOf_6403c "java/util/Arrays" lw_U _ (EVG es mi) := jj_toU C1
  have hw := C0.2.2.2.2.1
  have hE := C0.2.2.2.2.2.2.2.1
  refine jj_aload_n C0 2 rfl dJ7_copyOf_6403c_0 ?_
  refine jj_ldcM C0 (hw _ hU_463) hE.2.1 dJ7_copyOf_6403c_1 ?_
  refine jj_acmp_ne C0 dJ7_copyOf_6403c_3 (tgt := 13) (by first | decide | (dsimp only; omega) | (constructor <;> dsimp only <;> omega)) (fun c_1 => absurd rfl c_1) (fun c_1 => ?_)
  refine jj_iload_n C0 1 rfl dJ7_copyOf_6403c_6 ?_
  refine jj_newq C0 (N := N) (t0 := 3) (by omega) (by omega) rfl (hw _ hU_465) hE.2.2.1 (by first | decide | (dsimp only; omega) | (constructor <;> dsimp only <;> omega)) (by show _ + N ≤ 30; omega) dJ7_copyOf_6403c_7 ?_
  intro q2
  show jj_W _ _ _ _ _ _ _ _ _ _ _ _ _ _ _ _ _ 10 _ [.ref q2] ([(li, .inr (0, [.int (iI mc), .ref ed, .int (iI (n : Int))])), (ed, .inl (cO, cap, .inr (.inr (.inr (.inr fe))))), (q2, .inl (cO, N, .inr (.inr (.inr (.inr (fun _ => none))))))] ++ E)
  refine jj_goto C0 (tgt := 24) dJ7_copyOf_6403c_10 (by first | decide | (dsimp only; omega) | (constructor <;> dsimp only <;> omega)) ?_
  refine jj_astore_n C0 (i := 3) rfl (lv' := [(3, .ref q2), (0, .ref ed), (1, .int (iI (N : Int))), (2, .ref mi)]) (by first | decide | (dsimp only; omega) | (constructor <;> dsimp only <;> omega)) rfl dJ7_copyOf_6403c_24 ?_
  refine jj_aload_n C0 1 rfl dJ7_copyOf_6403c_25 ?_
  refine jj_iconst C0 dJ7_copyOf_6403c_26 ?_
  refine jj_aload_n C0 0 rfl dJ7_copyOf_6403c_27 ?_
  refine jj_iconst C0 dJ7_copyOf_6403c_28 ?_
  refine jj_aload_n C0 1 rfl dJ7_copyOf_6403c_29 ?_
  refine jj_alq C0 (q0 := 1) (t0 := 3) (n := cap) rfl rfl dJ7_copyOf_6403c_30 ?_
  refine jj_iload_n C0 2 rfl dJ7_copyOf_6403c_31 ?_
  refine jj_mmin C0 (by omega) (by omega) (hw _ hU_466) (List.forall_mem_cons.mpr ⟨hw _ hU_317, List.forall_mem_cons.mpr ⟨hw _ hU_53, List.forall_mem_cons.mpr ⟨hw _ hU_318, fun _ h => absurd h List.not_mem_nil⟩⟩⟩) (by first | decide | (dsimp only; omega) | (constructor <;> dsimp only <;> omega)) (Nat.le_of_ble_eq_true rfl) ⟨by first | decide | (dsimp only; omega), by first | decide | (dsimp only; omega)⟩ dJ7_copyOf_6403c_32 ?_
  refine jj_copyq C0 (q0 := 1) (q1 := 2) (t0 := 3) (ci := 1) (N := cap) rfl rfl rfl (by omega) (by omega) (by omega) (by omega) rfl hE.2.2.2.2 (fun i hi y hy => by obtain ⟨k, vs, hk⟩ := hfe i hi y hy; exact ⟨k + 3, vs, hk⟩) (hw _ hU_467) (hw _ hU_469) (hw _ hU_468) (hw _ hU_58) (by first | decide | (dsimp only; omega) | (constructor <;> dsimp only <;> omega)) (ws' := [(li, .inr (0, [.int (iI mc), .ref ed, .int (iI (n : Int))])), (ed, .inl (cO, cap, .inr (.inr (.inr (.inr fe))))), (q2, .inl (cO, N, .inr (.inr (.inr (.inr (va_cpy fe (fun _ => none) 0 0 cap))))))] ++ E) rfl dJ7_copyOf_6403c_35 ?_
  refine jj_aload_n C0 0 rfl dJ7_copyOf_6403c_38 ?_
  exact jj_aret C0 (Or.inr ⟨_, rfl⟩) hr q2 (trivial) (rfl) (rfl) (by first | decide | (dsimp only; omega) | (constructor <;> dsimp only <;> omega)) (by first | decide | (dsimp only; omega) | (constructor <;> dsimp only <;> omega)) dJ7_copyOf_6403c_39
set_option maxHeartbeats 4000000 in
set_option maxRecDepth 100000 in
theorem cc_J7_copyOf_1904c  {N : Nat} (hN : cap ≤ N ∧ N ≤ 30) (hfe : ∀ i, i < cap → ∀ y, fe i = some y → ∃ (k : Nat) (vs : List Value), E[k]? = some (y, .inr (1, vs))) : jj_Mr (EVG es mi) (dC, dI) vwCl [(cI, .int), (cJ, .long), (cZ, .boolean), (cO, .object "java/lang/Object")] l yJ7_copyOf_1904c (Cond.code yJ7_copyOf_1904c cJ7_copyOf_1904c 2 (some (.array (.object "java/lang/Object"))) :: lw_U) ({ frames := 2, cells := 1, slots := 30, locals := 123 } : Room) [.ref ed, .int (iI (N : Int))] ([(li, .inr (0, [.int (iI mc), .ref ed, .int (iI (n : Int))])), (ed, .inl (cO, cap, .inr (.inr (.inr (.inr fe)))))] ++ E) (S := Nat) (fun q => q) (fun q => True) (fun q => [(li, .inr (0, [.int (iI mc), .ref ed, .int (iI (n : Int))])), (ed, .inl (cO, cap, .inr (.inr (.inr (.inr fe))))), (q, .inl (cO, N, .inr (.inr (.inr (.inr (va_cpy fe (fun _ => none) 0 0 cap))))))] ++ E) := by
  refine jj_start (cc := cJ7_copyOf_1904c) (nL := 2) (ret := (some (.array (.object "java/lang/Object")))) (lv := [(0, .ref ed), (1, .int (iI (N : Int)))]) (fun A => jj_Qr _ _ _ _ _ _ A) (hEVG es mi) (by first | decide | (dsimp only; omega) | (constructor <;> dsimp only <;> omega)) rfl (Nat.le_of_ble_eq_true rfl) rfl ?_
  intro p9 e9 s9 m9 a9 b9 me9 c9 A9 C1 hr hin
  have C0 : jj_C p9 s9 m9 a9 me9 c9 (dC, dI) vwCl A9 2 cJ7_copyOf_1904c "java/util/Arrays" lw_U _ (EVG es mi) := jj_toU C1
  have hw := C0.2.2.2.2.1
  have hE := C0.2.2.2.2.2.2.2.1
  refine jj_aload_n C0 0 rfl dJ7_copyOf_1904c_0 ?_
  refine jj_iload_n C0 1 rfl dJ7_copyOf_1904c_1 ?_
  refine jj_aload_n C0 0 rfl dJ7_copyOf_1904c_2 ?_
  refine jj_getC C0 (q0 := 1) (t0 := 3) rfl rfl (hw _ hU_448) hE.2.2.2.1 (hw _ hU_800) (hw _ hU_449) (hw _ hU_459) hE.2.1 ⟨Nat.le_of_ble_eq_true rfl, Nat.le_of_ble_eq_true rfl⟩ dJ7_copyOf_1904c_3 ?_
  refine jj_callSr C0 (cc_J7_copyOf_6403c  (ed := ed) (N := N) (mi := mi) (by first | exact hN | omega) hfe) (cwS 3 hw (lw_gS hU_460 hU_461 hU_57 hU_462) rfl rfl rfl (by decide +kernel) ⟨Nat.le_of_ble_eq_true rfl, Nat.le_of_ble_eq_true rfl⟩) rfl rfl (Nat.le_of_ble_eq_true rfl) ⟨by first | decide | (dsimp only; omega), by first | decide | (dsimp only; omega)⟩ rfl rfl dJ7_copyOf_1904c_6 ?_
  intro q_1 hu
  show jj_W _ _ _ _ _ _ _ _ _ _ _ _ _ _ _ _ _ 9 _ [.ref q_1] ([(li, .inr (0, [.int (iI mc), .ref ed, .int (iI (n : Int))])), (ed, .inl (cO, cap, .inr (.inr (.inr (.inr fe))))), (q_1, .inl (cO, N, .inr (.inr (.inr (.inr (va_cpy fe (fun _ => none) 0 0 cap))))))] ++ E)
  exact jj_aret C0 (Or.inr ⟨_, rfl⟩) hr q_1 (trivial) (rfl) (rfl) (by first | decide | (dsimp only; omega) | (constructor <;> dsimp only <;> omega)) (by first | decide | (dsimp only; omega) | (constructor <;> dsimp only <;> omega)) dJ7_copyOf_1904c_9
set_option maxHeartbeats 4000000 in
set_option maxRecDepth 100000 in
theorem cc_Jx4a65c_grow_92f84   (hcap : cap ≤ 12) (hfe : ∀ i, i < cap → ∀ y, fe i = some y → ∃ (k : Nat) (vs : List Value), E[k]? = some (y, .inr (1, vs))) : jj_Mr (EVG es mi) (dC, dI) vwCl [(cI, .int), (cJ, .long), (cZ, .boolean), (cO, .object "java/lang/Object")] l yJx4a65c_grow_92f84 (Cond.code yJx4a65c_grow_92f84 cJx4a65c_grow_92f84 4 (some (.array (.object "java/lang/Object"))) :: lw_U) ({ frames := 3, cells := 1, slots := 30, locals := 144 } : Room) [.ref li, .int (iI ((cap + 1 : Nat) : Int))] ([(li, .inr (0, [.int (iI mc), .ref ed, .int (iI (n : Int))])), (ed, .inl (cO, cap, .inr (.inr (.inr (.inr fe)))))] ++ E) (S := Nat × Nat × (Nat → Option Nat)) (fun ⟨q, cp, f2⟩ => q) (fun ⟨q, cp, f2⟩ => cap < cp ∧ cp ≤ 30 ∧ ∀ j, j < cap → f2 j = fe j) (fun ⟨q, cp, f2⟩ => [(li, .inr (0, [.int (iI mc), .ref q, .int (iI (n : Int))])), (ed, .inl (cO, cap, .inr (.inr (.inr (.inr fe))))), (q, .inl (cO, cp, .inr (.inr (.inr (.inr f2)))))] ++ E) := by
  refine jj_start (cc := cJx4a65c_grow_92f84) (nL := 4) (ret := (some (.array (.object "java/lang/Object")))) (lv := [(0, .ref li), (1, .int (iI ((cap + 1 : Nat) : Int)))]) (fun A => jj_Qr _ _ _ _ _ _ A) (hEVG es mi) (by first | decide | (dsimp only; omega) | (constructor <;> dsimp only <;> omega)) rfl (Nat.le_of_ble_eq_true rfl) rfl ?_
  intro p9 e9 s9 m9 a9 b9 me9 c9 A9 C1 hr hin
  have C0 : jj_C p9 s9 m9 a9 me9 c9 (dC, dI) vwCl A9 4 cJx4a65c_grow_92f84 "java/util/ArrayList" lw_U _ (EVG es mi) := jj_toU C1
  have hw := C0.2.2.2.2.1
  have hE := C0.2.2.2.2.2.2.2.1
  refine jj_aload_n C0 0 rfl dJx4a65c_grow_92f84_0 ?_
  refine jj_get C0 (ci := 0) (v := .ref ed) hin_Jx4a65c (0) (rfl) rfl 1 (by first | decide | (dsimp only; omega) | (constructor <;> dsimp only <;> omega)) (hw _ hU_126) (fun _ h9 => h9) rfl dJx4a65c_grow_92f84_1 ?_
  refine jj_alq C0 (q0 := 1) (t0 := 3) (n := cap) rfl rfl dJx4a65c_grow_92f84_4 ?_
  refine jj_istore_n C0 (i := 2) rfl (lv' := [(2, .int (iI (cap : Int))), (0, .ref li), (1, .int (iI ((cap + 1 : Nat) : Int)))]) (by first | decide | (dsimp only; omega) | (constructor <;> dsimp only <;> omega)) rfl dJx4a65c_grow_92f84_5 ?_
  refine jj_iload_n C0 0 rfl dJx4a65c_grow_92f84_6 ?_
  refine jj_if_gt C0 (by omega) dJx4a65c_grow_92f84_7 (tgt := 20) (by first | decide | (dsimp only; omega) | (constructor <;> dsimp only <;> omega)) (fun c_1 => ?_) (fun c_1 => ?_)
  · refine jj_iload_n C0 0 rfl dJx4a65c_grow_92f84_20 ?_
    refine jj_iload_n C0 2 rfl dJx4a65c_grow_92f84_21 ?_
    refine jj_iload_n C0 0 rfl dJx4a65c_grow_92f84_22 ?_
    refine jj_isub C0 dJx4a65c_grow_92f84_23 ?_
    refine jj_topi (b := ((1 : Nat) : Int)) (by omega) ?_
    refine jj_iload_n C0 0 rfl dJx4a65c_grow_92f84_24 ?_
    refine jj_iconst C0 dJx4a65c_grow_92f84_25 ?_
    refine jj_ishr1 C0 (k := cap) (by omega) dJx4a65c_grow_92f84_26 ?_
    refine jj_callSi C0 (cc_J8_newLength_cabcc  (a := cap) (b := 1) (c := (cap / 2)) (by omega)) (va_cwS 3 hw (lw_gSx hU_437 hU_438 hU_56 hU_439) rfl rfl rfl (by decide +kernel) ⟨Nat.le_of_ble_eq_true rfl, Nat.le_of_ble_eq_true rfl⟩) rfl rfl (Nat.le_of_ble_eq_true rfl) ⟨by first | decide | (dsimp only; omega), by first | decide | (dsimp only; omega)⟩ rfl rfl dJx4a65c_grow_92f84_27 ?_
    intro _ hu
    show jj_W _ _ _ _ _ _ _ _ _ _ _ _ _ _ _ _ _ 30 _ [.int (iI ((cap + max 1 (cap / 2) : Nat) : Int))] ([(li, .inr (0, [.int (iI mc), .ref ed, .int (iI (n : Int))])), (ed, .inl (cO, cap, .inr (.inr (.inr (.inr fe)))))] ++ E)
    refine jj_istore_n C0 (i := 3) rfl (lv' := [(3, .int (iI ((cap + max 1 (cap / 2) : Nat) : Int))), (2, .int (iI (cap : Int))), (0, .ref li), (1, .int (iI ((cap + 1 : Nat) : Int)))]) (by first | decide | (dsimp only; omega) | (constructor <;> dsimp only <;> omega)) rfl dJx4a65c_grow_92f84_30 ?_
    refine jj_aload_n C0 2 rfl dJx4a65c_grow_92f84_31 ?_
    refine jj_aload_n C0 2 rfl dJx4a65c_grow_92f84_32 ?_
    refine jj_get C0 (ci := 0) (v := .ref ed) hin_Jx4a65c (0) (rfl) rfl 1 (by first | decide | (dsimp only; omega) | (constructor <;> dsimp only <;> omega)) (hw _ hU_126) (fun _ h9 => h9) rfl dJx4a65c_grow_92f84_33 ?_
    refine jj_iload_n C0 0 rfl dJx4a65c_grow_92f84_36 ?_
    refine jj_callSr C0 (cc_J7_copyOf_1904c  (ed := ed) (N := (cap + max 1 (cap / 2))) (by omega) hfe) (va_cwS 2 hw (lw_gSx hU_445 hU_446 hU_57 hU_447) rfl rfl rfl (by decide +kernel) ⟨Nat.le_of_ble_eq_true rfl, Nat.le_of_ble_eq_true rfl⟩) rfl rfl (Nat.le_of_ble_eq_true rfl) ⟨by first | decide | (dsimp only; omega), by first | decide | (dsimp only; omega)⟩ rfl rfl dJx4a65c_grow_92f84_37 ?_
    intro q_2 hu
    show jj_W _ _ _ _ _ _ _ _ _ _ _ _ _ _ _ _ _ 40 _ [.ref q_2, .ref li] ([(li, .inr (0, [.int (iI mc), .ref ed, .int (iI (n : Int))])), (ed, .inl (cO, cap, .inr (.inr (.inr (.inr fe))))), (q_2, .inl (cO, (cap + max 1 (cap / 2)), .inr (.inr (.inr (.inr (va_cpy fe (fun _ => none) 0 0 cap))))))] ++ E)
    refine jj_dup_x1 C0 dJx4a65c_grow_92f84_40 rfl rfl ?_
    refine jj_put C0 (ci := 0) (v := .ref q_2) (ty := (.array (.object "java/lang/Object"))) hin_Jx4a65c tyJx4a65c tyJx4a65c_ok nmJx4a65c (0) (rfl) rfl 1 (by first | decide | (dsimp only; omega) | (constructor <;> dsimp only <;> omega)) (hw _ hU_126) (fun _ h9 => h9) rfl (by decide +kernel) (rfl) rfl (Nat.le_of_ble_eq_true rfl) (ws' := [(li, .inr (0, [.int (iI mc), .ref q_2, .int (iI (n : Int))])), (ed, .inl (cO, cap, .inr (.inr (.inr (.inr fe))))), (q_2, .inl (cO, (cap + max 1 (cap / 2)), .inr (.inr (.inr (.inr (va_cpy fe (fun _ => none) 0 0 cap))))))] ++ E) (rfl) dJx4a65c_grow_92f84_41 ?_
    exact jj_aret C0 (Or.inr ⟨_, rfl⟩) hr (q_2, (cap + max 1 (cap / 2)), (va_cpy fe (fun _ => none) 0 0 cap)) (by exact ⟨by omega, by omega, fun j hj => by first | exact absurd hj (by omega) | (show (if 0 ≤ j ∧ j < 0 + cap then fe (0 + (j - 0)) else none) = fe j; rw [if_pos ⟨by omega, by omega⟩, Nat.zero_add, Nat.sub_zero])⟩) (rfl) (rfl) (by first | decide | (dsimp only; omega) | (constructor <;> dsimp only <;> omega)) (by first | decide | (dsimp only; omega) | (constructor <;> dsimp only <;> omega)) dJx4a65c_grow_92f84_44
  · refine jj_aload_n C0 1 rfl dJx4a65c_grow_92f84_10 ?_
    refine jj_get C0 (ci := 0) (v := .ref ed) hin_Jx4a65c (0) (rfl) rfl 1 (by first | decide | (dsimp only; omega) | (constructor <;> dsimp only <;> omega)) (hw _ hU_126) (fun _ h9 => h9) rfl dJx4a65c_grow_92f84_11 ?_
    refine jj_gets C0 hE.1.2 (hw _ hU_124) dJx4a65c_grow_92f84_14 ?_
    refine jj_acmp_eq C0 dJx4a65c_grow_92f84_17 (tgt := 45) (by first | decide | (dsimp only; omega) | (constructor <;> dsimp only <;> omega)) (fun c_3 => ?_) (fun c_3 => ?_)
    · refine jj_aload_n C0 1 rfl dJx4a65c_grow_92f84_45 ?_
      refine jj_bipush C0 dJx4a65c_grow_92f84_46 (by first | decide | (dsimp only; omega) | (constructor <;> dsimp only <;> omega)) ?_
      refine jj_iload_n C0 2 rfl dJx4a65c_grow_92f84_48 ?_
      refine jj_mmax C0 (by omega) (by omega) (hw _ hU_470) (List.forall_mem_cons.mpr ⟨hw _ hU_307, List.forall_mem_cons.mpr ⟨hw _ hU_53, List.forall_mem_cons.mpr ⟨hw _ hU_308, fun _ h => absurd h List.not_mem_nil⟩⟩⟩) (by first | decide | (dsimp only; omega) | (constructor <;> dsimp only <;> omega)) (Nat.le_of_ble_eq_true rfl) ⟨by first | decide | (dsimp only; omega), by first | decide | (dsimp only; omega)⟩ dJx4a65c_grow_92f84_49 ?_
      refine jj_topi (b := ((10 : Nat) : Int)) (by omega) ?_
      refine jj_newq C0 (N := 10) (t0 := 3) (by omega) (by omega) rfl (hw _ hU_471) hE.2.2.1 (by first | decide | (dsimp only; omega) | (constructor <;> dsimp only <;> omega)) (by show _ + 10 ≤ 30; omega) dJx4a65c_grow_92f84_52 ?_
      intro q4
      show jj_W _ _ _ _ _ _ _ _ _ _ _ _ _ _ _ _ _ 55 _ [.ref q4, .ref li] ([(li, .inr (0, [.int (iI mc), .ref ed, .int (iI (n : Int))])), (ed, .inl (cO, cap, .inr (.inr (.inr (.inr fe))))), (q4, .inl (cO, 10, .inr (.inr (.inr (.inr (fun _ => none))))))] ++ E)
      refine jj_dup_x1 C0 dJx4a65c_grow_92f84_55 rfl rfl ?_
      refine jj_put C0 (ci := 0) (v := .ref q4) (ty := (.array (.object "java/lang/Object"))) hin_Jx4a65c tyJx4a65c tyJx4a65c_ok nmJx4a65c (0) (rfl) rfl 1 (by first | decide | (dsimp only; omega) | (constructor <;> dsimp only <;> omega)) (hw _ hU_126) (fun _ h9 => h9) rfl (by decide +kernel) (rfl) rfl (Nat.le_of_ble_eq_true rfl) (ws' := [(li, .inr (0, [.int (iI mc), .ref q4, .int (iI (n : Int))])), (ed, .inl (cO, cap, .inr (.inr (.inr (.inr fe))))), (q4, .inl (cO, 10, .inr (.inr (.inr (.inr (fun _ => none))))))] ++ E) (rfl) dJx4a65c_grow_92f84_56 ?_
      exact jj_aret C0 (Or.inr ⟨_, rfl⟩) hr (q4, 10, (fun _ => none)) (by exact ⟨by omega, by omega, fun j hj => by first | exact absurd hj (by omega) | (show (if 0 ≤ j ∧ j < 0 + cap then fe (0 + (j - 0)) else none) = fe j; rw [if_pos ⟨by omega, by omega⟩, Nat.zero_add, Nat.sub_zero])⟩) (rfl) (rfl) (by first | decide | (dsimp only; omega) | (constructor <;> dsimp only <;> omega)) (by first | decide | (dsimp only; omega) | (constructor <;> dsimp only <;> omega)) dJx4a65c_grow_92f84_59
    · refine jj_iload_n C0 0 rfl dJx4a65c_grow_92f84_20 ?_
      refine jj_iload_n C0 2 rfl dJx4a65c_grow_92f84_21 ?_
      refine jj_iload_n C0 0 rfl dJx4a65c_grow_92f84_22 ?_
      refine jj_isub C0 dJx4a65c_grow_92f84_23 ?_
      refine jj_topi (b := ((1 : Nat) : Int)) (by omega) ?_
      refine jj_iload_n C0 0 rfl dJx4a65c_grow_92f84_24 ?_
      refine jj_iconst C0 dJx4a65c_grow_92f84_25 ?_
      refine jj_ishr1 C0 (k := cap) (by omega) dJx4a65c_grow_92f84_26 ?_
      refine jj_callSi C0 (cc_J8_newLength_cabcc  (a := cap) (b := 1) (c := (cap / 2)) (by omega)) (va_cwS 3 hw (lw_gSx hU_437 hU_438 hU_56 hU_439) rfl rfl rfl (by decide +kernel) ⟨Nat.le_of_ble_eq_true rfl, Nat.le_of_ble_eq_true rfl⟩) rfl rfl (Nat.le_of_ble_eq_true rfl) ⟨by first | decide | (dsimp only; omega), by first | decide | (dsimp only; omega)⟩ rfl rfl dJx4a65c_grow_92f84_27 ?_
      intro _ hu
      show jj_W _ _ _ _ _ _ _ _ _ _ _ _ _ _ _ _ _ 30 _ [.int (iI ((cap + max 1 (cap / 2) : Nat) : Int))] ([(li, .inr (0, [.int (iI mc), .ref ed, .int (iI (n : Int))])), (ed, .inl (cO, cap, .inr (.inr (.inr (.inr fe)))))] ++ E)
      refine jj_istore_n C0 (i := 3) rfl (lv' := [(3, .int (iI ((cap + max 1 (cap / 2) : Nat) : Int))), (2, .int (iI (cap : Int))), (0, .ref li), (1, .int (iI ((cap + 1 : Nat) : Int)))]) (by first | decide | (dsimp only; omega) | (constructor <;> dsimp only <;> omega)) rfl dJx4a65c_grow_92f84_30 ?_
      refine jj_aload_n C0 2 rfl dJx4a65c_grow_92f84_31 ?_
      refine jj_aload_n C0 2 rfl dJx4a65c_grow_92f84_32 ?_
      refine jj_get C0 (ci := 0) (v := .ref ed) hin_Jx4a65c (0) (rfl) rfl 1 (by first | decide | (dsimp only; omega) | (constructor <;> dsimp only <;> omega)) (hw _ hU_126) (fun _ h9 => h9) rfl dJx4a65c_grow_92f84_33 ?_
      refine jj_iload_n C0 0 rfl dJx4a65c_grow_92f84_36 ?_
      refine jj_callSr C0 (cc_J7_copyOf_1904c  (ed := ed) (N := (cap + max 1 (cap / 2))) (by omega) hfe) (va_cwS 2 hw (lw_gSx hU_445 hU_446 hU_57 hU_447) rfl rfl rfl (by decide +kernel) ⟨Nat.le_of_ble_eq_true rfl, Nat.le_of_ble_eq_true rfl⟩) rfl rfl (Nat.le_of_ble_eq_true rfl) ⟨by first | decide | (dsimp only; omega), by first | decide | (dsimp only; omega)⟩ rfl rfl dJx4a65c_grow_92f84_37 ?_
      intro q_5 hu
      show jj_W _ _ _ _ _ _ _ _ _ _ _ _ _ _ _ _ _ 40 _ [.ref q_5, .ref li] ([(li, .inr (0, [.int (iI mc), .ref ed, .int (iI (n : Int))])), (ed, .inl (cO, cap, .inr (.inr (.inr (.inr fe))))), (q_5, .inl (cO, (cap + max 1 (cap / 2)), .inr (.inr (.inr (.inr (va_cpy fe (fun _ => none) 0 0 cap))))))] ++ E)
      refine jj_dup_x1 C0 dJx4a65c_grow_92f84_40 rfl rfl ?_
      refine jj_put C0 (ci := 0) (v := .ref q_5) (ty := (.array (.object "java/lang/Object"))) hin_Jx4a65c tyJx4a65c tyJx4a65c_ok nmJx4a65c (0) (rfl) rfl 1 (by first | decide | (dsimp only; omega) | (constructor <;> dsimp only <;> omega)) (hw _ hU_126) (fun _ h9 => h9) rfl (by decide +kernel) (rfl) rfl (Nat.le_of_ble_eq_true rfl) (ws' := [(li, .inr (0, [.int (iI mc), .ref q_5, .int (iI (n : Int))])), (ed, .inl (cO, cap, .inr (.inr (.inr (.inr fe))))), (q_5, .inl (cO, (cap + max 1 (cap / 2)), .inr (.inr (.inr (.inr (va_cpy fe (fun _ => none) 0 0 cap))))))] ++ E) (rfl) dJx4a65c_grow_92f84_41 ?_
      exact jj_aret C0 (Or.inr ⟨_, rfl⟩) hr (q_5, (cap + max 1 (cap / 2)), (va_cpy fe (fun _ => none) 0 0 cap)) (by exact ⟨by omega, by omega, fun j hj => by first | exact absurd hj (by omega) | (show (if 0 ≤ j ∧ j < 0 + cap then fe (0 + (j - 0)) else none) = fe j; rw [if_pos ⟨by omega, by omega⟩, Nat.zero_add, Nat.sub_zero])⟩) (rfl) (rfl) (by first | decide | (dsimp only; omega) | (constructor <;> dsimp only <;> omega)) (by first | decide | (dsimp only; omega) | (constructor <;> dsimp only <;> omega)) dJx4a65c_grow_92f84_44
set_option maxHeartbeats 4000000 in
set_option maxRecDepth 100000 in
theorem cc_Jx4a65c_grow_d5877   (hcap : cap ≤ 12) (hnc : n = cap) (hfe : ∀ i, i < cap → ∀ y, fe i = some y → ∃ (k : Nat) (vs : List Value), E[k]? = some (y, .inr (1, vs))) : jj_Mr (EVG es mi) (dC, dI) vwCl [(cI, .int), (cJ, .long), (cZ, .boolean), (cO, .object "java/lang/Object")] l yJx4a65c_grow_d5877 (Cond.code yJx4a65c_grow_d5877 cJx4a65c_grow_d5877 1 (some (.array (.object "java/lang/Object"))) :: lw_U) ({ frames := 4, cells := 1, slots := 30, locals := 167 } : Room) [.ref li] ([(li, .inr (0, [.int (iI mc), .ref ed, .int (iI (n : Int))])), (ed, .inl (cO, cap, .inr (.inr (.inr (.inr fe)))))] ++ E) (S := Nat × Nat × (Nat → Option Nat)) (fun ⟨q, cp, f2⟩ => q) (fun ⟨q, cp, f2⟩ => cap < cp ∧ cp ≤ 30 ∧ ∀ j, j < cap → f2 j = fe j) (fun ⟨q, cp, f2⟩ => [(li, .inr (0, [.int (iI mc), .ref q, .int (iI (n : Int))])), (ed, .inl (cO, cap, .inr (.inr (.inr (.inr fe))))), (q, .inl (cO, cp, .inr (.inr (.inr (.inr f2)))))] ++ E) := by
  refine jj_start (cc := cJx4a65c_grow_d5877) (nL := 1) (ret := (some (.array (.object "java/lang/Object")))) (lv := [(0, .ref li)]) (fun A => jj_Qr _ _ _ _ _ _ A) (hEVG es mi) (by first | decide | (dsimp only; omega) | (constructor <;> dsimp only <;> omega)) rfl (Nat.le_of_ble_eq_true rfl) rfl ?_
  intro p9 e9 s9 m9 a9 b9 me9 c9 A9 C1 hr hin
  have C0 : jj_C p9 s9 m9 a9 me9 c9 (dC, dI) vwCl A9 1 cJx4a65c_grow_d5877 "java/util/ArrayList" lw_U _ (EVG es mi) := jj_toU C1
  have hw := C0.2.2.2.2.1
  have hE := C0.2.2.2.2.2.2.2.1
  refine jj_aload_n C0 0 rfl dJx4a65c_grow_d5877_0 ?_
  refine jj_aload_n C0 0 rfl dJx4a65c_grow_d5877_1 ?_
  refine jj_get C0 (ci := 0) (v := .int (iI (n : Int))) hin_Jx4a65c (0) (rfl) rfl 2 (by first | decide | (dsimp only; omega) | (constructor <;> dsimp only <;> omega)) (hw _ hU_127) (fun _ h9 => h9) rfl dJx4a65c_grow_d5877_2 ?_
  refine jj_iconst C0 dJx4a65c_grow_d5877_5 ?_
  refine jj_iadd C0 dJx4a65c_grow_d5877_6 ?_
  refine jj_topi (b := ((cap + 1 : Nat) : Int)) (by omega) ?_
  refine jj_callVr C0 (cc_Jx4a65c_grow_92f84  (li := li) (cap := cap) (by first | exact hcap | omega) hfe) (cwV 1 hw (lw_gV hU_433 hU_435 hU_15 hU_48 hU_436) rfl rfl rfl (by decide +kernel) ⟨Nat.le_of_ble_eq_true rfl, Nat.le_of_ble_eq_true rfl⟩) (ci := 0) (q0 := 0) rfl (rfl) rfl rfl (Nat.le_of_ble_eq_true rfl) ⟨by first | decide | (dsimp only; omega), by first | decide | (dsimp only; omega)⟩ rfl rfl dJx4a65c_grow_d5877_7 ?_
  intro u hu
  obtain ⟨q_1, cp_1, f2_1⟩ := u
  have hu_7 : cap < cp_1 ∧ cp_1 ≤ 30 ∧ ∀ j, j < cap → f2_1 j = fe j := hu
  show jj_W _ _ _ _ _ _ _ _ _ _ _ _ _ _ _ _ _ 10 _ [.ref q_1] ([(li, .inr (0, [.int (iI mc), .ref q_1, .int (iI (n : Int))])), (ed, .inl (cO, cap, .inr (.inr (.inr (.inr fe))))), (q_1, .inl (cO, cp_1, .inr (.inr (.inr (.inr f2_1)))))] ++ E)
  exact jj_aret C0 (Or.inr ⟨_, rfl⟩) hr (q_1, cp_1, f2_1) (by exact hu_7) (rfl) (rfl) (by first | decide | (dsimp only; omega) | (constructor <;> dsimp only <;> omega)) (by first | decide | (dsimp only; omega) | (constructor <;> dsimp only <;> omega)) dJx4a65c_grow_d5877_10
set_option maxHeartbeats 4000000 in
set_option maxRecDepth 100000 in
theorem cc_Jx4a65c_add_72be8  {v kv : Nat} {vs : List Value} (hcap : cap ≤ 1000) (hn : n ≤ 12 ∧ n ≤ cap) (hv : E[kv]? = some (v, .inr (1, vs))) (hfe : ∀ i, i < n → ∀ y, fe i = some y → ∃ (k : Nat) (vs : List Value), E[k]? = some (y, .inr (1, vs))) : jj_Mv (EVG es mi) (dC, dI) vwCl [(cI, .int), (cJ, .long), (cZ, .boolean), (cO, .object "java/lang/Object")] l yJx4a65c_add_72be8 (Cond.code yJx4a65c_add_72be8 cJx4a65c_add_72be8 4 none :: lw_U) ({ frames := 5, cells := 1, slots := 30, locals := 187 } : Room) [.ref li, .ref v, .ref ed, .int (iI (n : Int))] ([(li, .inr (0, [.int (iI mc), .ref ed, .int (iI (n : Int))])), (ed, .inl (cO, cap, .inr (.inr (.inr (.inr fe)))))] ++ E) (S := Nat × Nat × (Nat → Option Nat) × va_W)  (fun ⟨e2, cp, f2, G⟩ => n < cp ∧ cp ≤ 1000 ∧ (∀ j, j < n → f2 j = fe j) ∧ f2 n = some v) (fun ⟨e2, cp, f2, G⟩ => [(li, .inr (0, [.int (iI mc), .ref e2, .int (iI ((n + 1 : Nat) : Int))])), (e2, .inl (cO, cp, .inr (.inr (.inr (.inr f2)))))] ++ (G ++ E)) := by
  refine jj_start (cc := cJx4a65c_add_72be8) (nL := 4) (ret := none) (lv := [(0, .ref li), (1, .ref v), (2, .ref ed), (3, .int (iI (n : Int)))]) (fun A => jj_Qv _ _ _ _ _ A) (hEVG es mi) (by first | decide | (dsimp only; omega) | (constructor <;> dsimp only <;> omega)) rfl (Nat.le_of_ble_eq_true rfl) rfl ?_
  intro p9 e9 s9 m9 a9 b9 me9 c9 A9 C1 hr hin
  have C0 : jj_C p9 s9 m9 a9 me9 c9 (dC, dI) vwCl A9 4 cJx4a65c_add_72be8 "java/util/ArrayList" lw_U _ (EVG es mi) := jj_toU C1
  have hw := C0.2.2.2.2.1
  have hE := C0.2.2.2.2.2.2.2.1
  refine jj_iload_n C0 3 rfl dJx4a65c_add_72be8_0 ?_
  refine jj_aload_n C0 2 rfl dJx4a65c_add_72be8_1 ?_
  refine jj_alq C0 (q0 := 1) (t0 := 3) (n := cap) rfl rfl dJx4a65c_add_72be8_2 ?_
  refine jj_icmp_ne C0 (by omega) (by omega) dJx4a65c_add_72be8_3 (tgt := 11) (by first | decide | (dsimp only; omega) | (constructor <;> dsimp only <;> omega)) (fun c_1 => ?_) (fun c_1 => ?_)
  · refine jj_aload_n C0 2 rfl dJx4a65c_add_72be8_11 ?_
    refine jj_iload_n C0 3 rfl dJx4a65c_add_72be8_12 ?_
    refine jj_aload_n C0 1 rfl dJx4a65c_add_72be8_13 ?_
    refine jj_aast C0 (q0 := 1) (t0 := 3) (qk := kv + 2) (ci := 1) rfl rfl hE.2.2.2.2 hv rfl (k := n) (by omega) (by omega) (by omega) (ws' := [(li, .inr (0, [.int (iI mc), .ref ed, .int (iI (n : Int))])), (ed, .inl (cO, cap, .inr (.inr (.inr (.inr (va_up fe n (some v)))))))] ++ E) rfl dJx4a65c_add_72be8_14 ?_
    refine jj_aload_n C0 0 rfl dJx4a65c_add_72be8_15 ?_
    refine jj_iload_n C0 3 rfl dJx4a65c_add_72be8_16 ?_
    refine jj_iconst C0 dJx4a65c_add_72be8_17 ?_
    refine jj_iadd C0 dJx4a65c_add_72be8_18 ?_
    refine jj_topi (b := ((n + 1 : Nat) : Int)) (by omega) ?_
    refine jj_put C0 (ci := 0) (v := .int (iI ((n + 1 : Nat) : Int))) (ty := .int) hin_Jx4a65c tyJx4a65c tyJx4a65c_ok nmJx4a65c (0) (rfl) rfl 2 (by first | decide | (dsimp only; omega) | (constructor <;> dsimp only <;> omega)) (hw _ hU_127) (fun _ h9 => h9) rfl (by decide +kernel) (rfl) rfl (Nat.le_of_ble_eq_true rfl) (ws' := [(li, .inr (0, [.int (iI mc), .ref ed, .int (iI ((n + 1 : Nat) : Int))])), (ed, .inl (cO, cap, .inr (.inr (.inr (.inr (va_up fe n (some v)))))))] ++ E) (rfl) dJx4a65c_add_72be8_19 ?_
    exact jj_vret C0 hr (ed, cap, (va_up fe n (some v)), []) (by exact ⟨by omega, by omega, fun j hj => va_up_ne _ _ (by omega), va_up_self _ _ _⟩) (rfl) (by first | decide | (dsimp only; omega) | (constructor <;> dsimp only <;> omega)) (by first | decide | (dsimp only; omega) | (constructor <;> dsimp only <;> omega)) dJx4a65c_add_72be8_22
  · refine jj_aload_n C0 0 rfl dJx4a65c_add_72be8_6 ?_
    refine jj_callVr C0 (cc_Jx4a65c_grow_d5877  (li := li) (by first | exact hcap | omega) (by omega) (fun i hi => hfe i (by omega))) (cwV 0 hw (lw_gV hU_429 hU_431 hU_14 hU_48 hU_432) rfl rfl rfl (by decide +kernel) ⟨Nat.le_of_ble_eq_true rfl, Nat.le_of_ble_eq_true rfl⟩) (ci := 0) (q0 := 0) rfl (rfl) rfl rfl (Nat.le_of_ble_eq_true rfl) ⟨by first | decide | (dsimp only; omega), by first | decide | (dsimp only; omega)⟩ rfl rfl dJx4a65c_add_72be8_7 ?_
    intro u hu
    obtain ⟨q_2, cp_2, f2_2⟩ := u
    have hu_7 : cap < cp_2 ∧ cp_2 ≤ 30 ∧ ∀ j, j < cap → f2_2 j = fe j := hu
    show jj_W _ _ _ _ _ _ _ _ _ _ _ _ _ _ _ _ _ 10 _ [.ref q_2] ([(li, .inr (0, [.int (iI mc), .ref q_2, .int (iI (n : Int))])), (ed, .inl (cO, cap, .inr (.inr (.inr (.inr fe))))), (q_2, .inl (cO, cp_2, .inr (.inr (.inr (.inr f2_2)))))] ++ E)
    refine jj_astore_n C0 (i := 2) rfl (lv' := [(2, .ref q_2), (0, .ref li), (1, .ref v), (3, .int (iI (n : Int)))]) (by first | decide | (dsimp only; omega) | (constructor <;> dsimp only <;> omega)) rfl dJx4a65c_add_72be8_10 ?_
    refine jj_aload_n C0 0 rfl dJx4a65c_add_72be8_11 ?_
    refine jj_iload_n C0 3 rfl dJx4a65c_add_72be8_12 ?_
    refine jj_aload_n C0 2 rfl dJx4a65c_add_72be8_13 ?_
    refine jj_aast C0 (q0 := 2) (t0 := 3) (qk := kv + 3) (ci := 1) rfl rfl hE.2.2.2.2 hv rfl (k := n) (by omega) (by omega) (by omega) (ws' := [(li, .inr (0, [.int (iI mc), .ref q_2, .int (iI (n : Int))])), (ed, .inl (cO, cap, .inr (.inr (.inr (.inr fe))))), (q_2, .inl (cO, cp_2, .inr (.inr (.inr (.inr (va_up f2_2 n (some v)))))))] ++ E) rfl dJx4a65c_add_72be8_14 ?_
    refine jj_aload_n C0 1 rfl dJx4a65c_add_72be8_15 ?_
    refine jj_iload_n C0 3 rfl dJx4a65c_add_72be8_16 ?_
    refine jj_iconst C0 dJx4a65c_add_72be8_17 ?_
    refine jj_iadd C0 dJx4a65c_add_72be8_18 ?_
    refine jj_topi (b := ((n + 1 : Nat) : Int)) (by omega) ?_
    refine jj_put C0 (ci := 0) (v := .int (iI ((n + 1 : Nat) : Int))) (ty := .int) hin_Jx4a65c tyJx4a65c tyJx4a65c_ok nmJx4a65c (0) (rfl) rfl 2 (by first | decide | (dsimp only; omega) | (constructor <;> dsimp only <;> omega)) (hw _ hU_127) (fun _ h9 => h9) rfl (by decide +kernel) (rfl) rfl (Nat.le_of_ble_eq_true rfl) (ws' := [(li, .inr (0, [.int (iI mc), .ref q_2, .int (iI ((n + 1 : Nat) : Int))])), (ed, .inl (cO, cap, .inr (.inr (.inr (.inr fe))))), (q_2, .inl (cO, cp_2, .inr (.inr (.inr (.inr (va_up f2_2 n (some v)))))))] ++ E) (rfl) dJx4a65c_add_72be8_19 ?_
    refine jj_part (Y := [(li, .inr (0, [.int (iI mc), .ref q_2, .int (iI ((n + 1 : Nat) : Int))])), (q_2, .inl (cO, cp_2, .inr (.inr (.inr (.inr (va_up f2_2 n (some v))))))), (ed, .inl (cO, cap, .inr (.inr (.inr (.inr fe)))))]) [0, 2, 1] rfl rfl ?_
    exact jj_vret C0 hr (q_2, cp_2, (va_up f2_2 n (some v)), [(ed, .inl (cO, cap, .inr (.inr (.inr (.inr fe)))))]) (by exact ⟨by omega, by omega, fun j hj => (va_up_ne _ _ (by omega)).trans (hu_7.2.2 j (by omega)), va_up_self _ _ _⟩) (rfl) (by first | decide | (dsimp only; omega) | (constructor <;> dsimp only <;> omega)) (by first | decide | (dsimp only; omega) | (constructor <;> dsimp only <;> omega)) dJx4a65c_add_72be8_22
end CC9
