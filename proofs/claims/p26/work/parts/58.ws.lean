section CC29
set_option maxHeartbeats 4000000 in
set_option maxRecDepth 100000 in
theorem whole_start {p : Program} {e : Env} {s : State} {m : MethodId} {below : List Frame} {meth : Method} {c : Code} (l : Launch) (hflags : l.flags = flags0) {b L : Nat} {xs : Nat → Int32} (hL : L ≤ 260) (C0 : lw_At p s m meth c b L xs) : W p l e room_1 s m #[Value.ref b] below meth c s.heap [] 0 0 (lw_Z below #[Value.ref b] s) (entryFrame m ([Value.ref b] : List Value).toArray 46) := by
  obtain ⟨dC, dI, cI, cJ, cZ, cO, es, mi, sa, hC9⟩ := lw_CC (l := l) (by unfold Launch.stackTraces; rw [hflags]; decide) hL C0
  have hEnd : f_EX p l e s m #[Value.ref b] below meth c dC dI (fun q : Nat => s.heap.size ≤ q) (lw_Z below #[Value.ref b] s) := by
    intro cells slots lv ws hc hs H locs ls hP hD hS hl
    refine va_forget hS.2.2 ?_
    refine W.widen hc hs ?_
    have e1 : iI 1 = 1 := by decide
    rw [e1]
    exact lw_ret C0.1 C0.2.1 C0.2.2.1 C0.2.2.2.2.2.2.2.2.1 dL_law_2271
  have hJ : jj_W p l e room_1 s m #[Value.ref b] below meth c (dC, dI) vwCl (fun q : Nat => s.heap.size ≤ q) 46 0 0 (lw_Z below #[Value.ref b] s) 0 [(0, .ref b)] [] (([] : va_W) ++ ([] : va_W)) := by
    have hC8 := hC9
    obtain ⟨C1, hl, hL9⟩ := hC9
    have hw := C1.2.2.2.2.1
    refine jj_new C1 (ci := 4) (fs := [.null, .null, .null, .null, .null, .int (iI 0), .int (iI 0), .int (iI 0)]) hin_X3 tyX3 tyX3_ok (hw _ hU_62) (hw _ hU_63) (hw _ hU_43) rfl (fun j hj => match j, hj with | 0, _ => rfl | 1, _ => rfl | 2, _ => rfl | 3, _ => rfl | 4, _ => rfl | 5, _ => rfl | 6, _ => rfl | 7, _ => rfl | j + 8, h9 => absurd h9 (by omega)) (by show 0 + 1 ≤ 600104; omega) (by show 0 + 8 ≤ 7301314; omega) dL_law_0 ?_
    intro h0
    refine jj_ws (ws' := [(h0, .inr (4, [.null, .null, .null, .null, .null, .int (iI 0), .int (iI 0), .int (iI 0)]))] ++ ([] : va_W)) rfl ?_
    refine jj_dup C1 dL_law_3 rfl ?_
    refine jj_callI C1 (cells' := 8) (slots' := 243) (jj_weakv (fun A U H h => EVW_A h.1) (cc_X3_init (a := h0) (ed := es) (E := ([] : va_W)))) (cwI 0 hw (lw_gc hU_66 lw_UU) rfl rfl rfl (hw _ hU_43) (hw _ hU_64) (hw _ hU_65) rfl (by decide +kernel) ⟨Nat.le_of_ble_eq_true rfl, Nat.le_of_ble_eq_true rfl⟩) rfl rfl (Nat.le_of_ble_eq_true rfl) ⟨by show 0 + 1 + 7 ≤ 600104; omega, by show 0 + 8 + 235 ≤ 7301314; omega⟩ rfl rfl dL_law_4 ?_
    intro u hu
    obtain ⟨q1, q12, q22, q3, q5, q7, q8⟩ := u
    show jj_W _ _ _ _ _ _ _ _ _ _ _ _ _ _ _ _ _ 7 _ [.ref h0] ([(h0, .inr (4, [.ref q1, .ref q3, .ref q5, .ref q7, .ref q8, .int (iI 100), .int (iI 0), .int (iI 500)])), (q1, .inr (3, [.ref q12, .ref q22, .int (iI 10000), .int (iI 10), .int (iI 10), .int (iI 0)])), (q12, .inl (cI, 201, .inl (iA (fun _ => 0)))), (q22, .inl (cJ, 11, .inr (.inl (lA (fun _ => 0))))), (q3, .inr (2, [.long (lI 0)])), (q5, .inr (0, [.int (iI 0), .ref es, .int (iI 0)])), (q7, .inl (cJ, 7, .inr (.inl (lA (fun _ => 0))))), (q8, .inl (cJ, 6, .inr (.inl (lA (fun _ => 0)))))] ++ ([] : va_W))
    refine jj_astore_n C1 (i := 1) rfl (lv' := [(1, .ref h0), (0, .ref b)]) (by decide) rfl dL_law_7 ?_
    refine jj_bipush C1 dL_law_8 (by decide) ?_
    refine jj_newI C1 (N := 24) (t0 := 0) (by decide) (by decide) rfl (hw _ hU_99) (by show 8 + 1 ≤ 600104; omega) (by show 243 + 24 ≤ 7301314; omega) dL_law_10 ?_
    intro k0
    refine jj_cs (cells' := 9) (slots' := 267) rfl rfl ?_
    refine jj_ws (ws' := [(h0, .inr (4, [.ref q1, .ref q3, .ref q5, .ref q7, .ref q8, .int (iI 100), .int (iI 0), .int (iI 500)])), (q1, .inr (3, [.ref q12, .ref q22, .int (iI 10000), .int (iI 10), .int (iI 10), .int (iI 0)])), (q12, .inl (cI, 201, .inl (iA (fun _ => 0)))), (q22, .inl (cJ, 11, .inr (.inl (lA (fun _ => 0))))), (q3, .inr (2, [.long (lI 0)])), (q5, .inr (0, [.int (iI 0), .ref es, .int (iI 0)])), (q7, .inl (cJ, 7, .inr (.inl (lA (fun _ => 0))))), (q8, .inl (cJ, 6, .inr (.inl (lA (fun _ => 0))))), (k0, .inl (cI, 24, .inl (iA (fun _ => 0))))] ++ ([] : va_W)) rfl ?_
    refine jj_astore_n C1 (i := 2) rfl (lv' := [(2, .ref k0), (1, .ref h0), (0, .ref b)]) (by decide) rfl dL_law_12 ?_
    refine jj_bipush C1 dL_law_13 (by decide) ?_
    refine jj_newI C1 (N := 60) (t0 := 0) (by decide) (by decide) rfl (hw _ hU_99) (by show 9 + 1 ≤ 600104; omega) (by show 267 + 60 ≤ 7301314; omega) dL_law_15 ?_
    intro k1
    refine jj_cs (cells' := 10) (slots' := 327) rfl rfl ?_
    refine jj_ws (ws' := [(h0, .inr (4, [.ref q1, .ref q3, .ref q5, .ref q7, .ref q8, .int (iI 100), .int (iI 0), .int (iI 500)])), (q1, .inr (3, [.ref q12, .ref q22, .int (iI 10000), .int (iI 10), .int (iI 10), .int (iI 0)])), (q12, .inl (cI, 201, .inl (iA (fun _ => 0)))), (q22, .inl (cJ, 11, .inr (.inl (lA (fun _ => 0))))), (q3, .inr (2, [.long (lI 0)])), (q5, .inr (0, [.int (iI 0), .ref es, .int (iI 0)])), (q7, .inl (cJ, 7, .inr (.inl (lA (fun _ => 0))))), (q8, .inl (cJ, 6, .inr (.inl (lA (fun _ => 0))))), (k0, .inl (cI, 24, .inl (iA (fun _ => 0)))), (k1, .inl (cI, 60, .inl (iA (fun _ => 0))))] ++ ([] : va_W)) rfl ?_
    refine jj_astore_n C1 (i := 3) rfl (lv' := [(3, .ref k1), (2, .ref k0), (1, .ref h0), (0, .ref b)]) (by decide) rfl dL_law_17 ?_
    refine jj_bipush C1 dL_law_18 (by decide) ?_
    refine jj_newI C1 (N := 6) (t0 := 0) (by decide) (by decide) rfl (hw _ hU_99) (by show 10 + 1 ≤ 600104; omega) (by show 327 + 6 ≤ 7301314; omega) dL_law_20 ?_
    intro k2
    refine jj_cs (cells' := 11) (slots' := 333) rfl rfl ?_
    refine jj_ws (ws' := [(h0, .inr (4, [.ref q1, .ref q3, .ref q5, .ref q7, .ref q8, .int (iI 100), .int (iI 0), .int (iI 500)])), (q1, .inr (3, [.ref q12, .ref q22, .int (iI 10000), .int (iI 10), .int (iI 10), .int (iI 0)])), (q12, .inl (cI, 201, .inl (iA (fun _ => 0)))), (q22, .inl (cJ, 11, .inr (.inl (lA (fun _ => 0))))), (q3, .inr (2, [.long (lI 0)])), (q5, .inr (0, [.int (iI 0), .ref es, .int (iI 0)])), (q7, .inl (cJ, 7, .inr (.inl (lA (fun _ => 0))))), (q8, .inl (cJ, 6, .inr (.inl (lA (fun _ => 0))))), (k0, .inl (cI, 24, .inl (iA (fun _ => 0)))), (k1, .inl (cI, 60, .inl (iA (fun _ => 0)))), (k2, .inl (cI, 6, .inl (iA (fun _ => 0))))] ++ ([] : va_W)) rfl ?_
    refine jj_astore C1 (i := 4) (lv' := [(4, .ref k2), (3, .ref k1), (2, .ref k0), (1, .ref h0), (0, .ref b)]) (by decide) rfl dL_law_22 ?_
    refine jj_bipush C1 dL_law_24 (by decide) ?_
    refine jj_newI C1 (N := 24) (t0 := 0) (by decide) (by decide) rfl (hw _ hU_99) (by show 11 + 1 ≤ 600104; omega) (by show 333 + 24 ≤ 7301314; omega) dL_law_26 ?_
    intro k3
    refine jj_cs (cells' := 12) (slots' := 357) rfl rfl ?_
    refine jj_ws (ws' := [(h0, .inr (4, [.ref q1, .ref q3, .ref q5, .ref q7, .ref q8, .int (iI 100), .int (iI 0), .int (iI 500)])), (q1, .inr (3, [.ref q12, .ref q22, .int (iI 10000), .int (iI 10), .int (iI 10), .int (iI 0)])), (q12, .inl (cI, 201, .inl (iA (fun _ => 0)))), (q22, .inl (cJ, 11, .inr (.inl (lA (fun _ => 0))))), (q3, .inr (2, [.long (lI 0)])), (q5, .inr (0, [.int (iI 0), .ref es, .int (iI 0)])), (q7, .inl (cJ, 7, .inr (.inl (lA (fun _ => 0))))), (q8, .inl (cJ, 6, .inr (.inl (lA (fun _ => 0))))), (k0, .inl (cI, 24, .inl (iA (fun _ => 0)))), (k1, .inl (cI, 60, .inl (iA (fun _ => 0)))), (k2, .inl (cI, 6, .inl (iA (fun _ => 0)))), (k3, .inl (cI, 24, .inl (iA (fun _ => 0))))] ++ ([] : va_W)) rfl ?_
    refine jj_astore C1 (i := 5) (lv' := [(5, .ref k3), (4, .ref k2), (3, .ref k1), (2, .ref k0), (1, .ref h0), (0, .ref b)]) (by decide) rfl dL_law_28 ?_
    refine jj_bipush C1 dL_law_30 (by decide) ?_
    refine jj_newI C1 (N := 8) (t0 := 0) (by decide) (by decide) rfl (hw _ hU_99) (by show 12 + 1 ≤ 600104; omega) (by show 357 + 8 ≤ 7301314; omega) dL_law_32 ?_
    intro k4
    refine jj_cs (cells' := 13) (slots' := 365) rfl rfl ?_
    refine jj_ws (ws' := [(h0, .inr (4, [.ref q1, .ref q3, .ref q5, .ref q7, .ref q8, .int (iI 100), .int (iI 0), .int (iI 500)])), (q1, .inr (3, [.ref q12, .ref q22, .int (iI 10000), .int (iI 10), .int (iI 10), .int (iI 0)])), (q12, .inl (cI, 201, .inl (iA (fun _ => 0)))), (q22, .inl (cJ, 11, .inr (.inl (lA (fun _ => 0))))), (q3, .inr (2, [.long (lI 0)])), (q5, .inr (0, [.int (iI 0), .ref es, .int (iI 0)])), (q7, .inl (cJ, 7, .inr (.inl (lA (fun _ => 0))))), (q8, .inl (cJ, 6, .inr (.inl (lA (fun _ => 0))))), (k0, .inl (cI, 24, .inl (iA (fun _ => 0)))), (k1, .inl (cI, 60, .inl (iA (fun _ => 0)))), (k2, .inl (cI, 6, .inl (iA (fun _ => 0)))), (k3, .inl (cI, 24, .inl (iA (fun _ => 0)))), (k4, .inl (cI, 8, .inl (iA (fun _ => 0))))] ++ ([] : va_W)) rfl ?_
    refine jj_astore C1 (i := 6) (lv' := [(6, .ref k4), (5, .ref k3), (4, .ref k2), (3, .ref k1), (2, .ref k0), (1, .ref h0), (0, .ref b)]) (by decide) rfl dL_law_34 ?_
    refine jj_bipush C1 dL_law_36 (by decide) ?_
    refine jj_newI C1 (N := 60) (t0 := 0) (by decide) (by decide) rfl (hw _ hU_99) (by show 13 + 1 ≤ 600104; omega) (by show 365 + 60 ≤ 7301314; omega) dL_law_38 ?_
    intro k5
    refine jj_cs (cells' := 14) (slots' := 425) rfl rfl ?_
    refine jj_ws (ws' := [(h0, .inr (4, [.ref q1, .ref q3, .ref q5, .ref q7, .ref q8, .int (iI 100), .int (iI 0), .int (iI 500)])), (q1, .inr (3, [.ref q12, .ref q22, .int (iI 10000), .int (iI 10), .int (iI 10), .int (iI 0)])), (q12, .inl (cI, 201, .inl (iA (fun _ => 0)))), (q22, .inl (cJ, 11, .inr (.inl (lA (fun _ => 0))))), (q3, .inr (2, [.long (lI 0)])), (q5, .inr (0, [.int (iI 0), .ref es, .int (iI 0)])), (q7, .inl (cJ, 7, .inr (.inl (lA (fun _ => 0))))), (q8, .inl (cJ, 6, .inr (.inl (lA (fun _ => 0))))), (k0, .inl (cI, 24, .inl (iA (fun _ => 0)))), (k1, .inl (cI, 60, .inl (iA (fun _ => 0)))), (k2, .inl (cI, 6, .inl (iA (fun _ => 0)))), (k3, .inl (cI, 24, .inl (iA (fun _ => 0)))), (k4, .inl (cI, 8, .inl (iA (fun _ => 0)))), (k5, .inl (cI, 60, .inl (iA (fun _ => 0))))] ++ ([] : va_W)) rfl ?_
    refine jj_astore C1 (i := 7) (lv' := [(7, .ref k5), (6, .ref k4), (5, .ref k3), (4, .ref k2), (3, .ref k1), (2, .ref k0), (1, .ref h0), (0, .ref b)]) (by decide) rfl dL_law_40 ?_
    refine jj_bipush C1 dL_law_42 (by decide) ?_
    refine jj_newJ C1 (N := 14) (t0 := 1) (by decide) (by decide) rfl (hw _ hU_100) (by show 14 + 1 ≤ 600104; omega) (by show 425 + 14 ≤ 7301314; omega) dL_law_44 ?_
    intro k6
    refine jj_cs (cells' := 15) (slots' := 439) rfl rfl ?_
    refine jj_ws (ws' := [(h0, .inr (4, [.ref q1, .ref q3, .ref q5, .ref q7, .ref q8, .int (iI 100), .int (iI 0), .int (iI 500)])), (q1, .inr (3, [.ref q12, .ref q22, .int (iI 10000), .int (iI 10), .int (iI 10), .int (iI 0)])), (q12, .inl (cI, 201, .inl (iA (fun _ => 0)))), (q22, .inl (cJ, 11, .inr (.inl (lA (fun _ => 0))))), (q3, .inr (2, [.long (lI 0)])), (q5, .inr (0, [.int (iI 0), .ref es, .int (iI 0)])), (q7, .inl (cJ, 7, .inr (.inl (lA (fun _ => 0))))), (q8, .inl (cJ, 6, .inr (.inl (lA (fun _ => 0))))), (k0, .inl (cI, 24, .inl (iA (fun _ => 0)))), (k1, .inl (cI, 60, .inl (iA (fun _ => 0)))), (k2, .inl (cI, 6, .inl (iA (fun _ => 0)))), (k3, .inl (cI, 24, .inl (iA (fun _ => 0)))), (k4, .inl (cI, 8, .inl (iA (fun _ => 0)))), (k5, .inl (cI, 60, .inl (iA (fun _ => 0)))), (k6, .inl (cJ, 14, .inr (.inl (lA (fun _ => 0)))))] ++ ([] : va_W)) rfl ?_
    refine jj_astore C1 (i := 8) (lv' := [(8, .ref k6), (7, .ref k5), (6, .ref k4), (5, .ref k3), (4, .ref k2), (3, .ref k1), (2, .ref k0), (1, .ref h0), (0, .ref b)]) (by decide) rfl dL_law_46 ?_
    refine jj_aload C1 2 rfl dL_law_48 ?_
    refine jj_iconst C1 dL_law_50 ?_
    refine jj_sipush C1 dL_law_51 (by decide) ?_
    refine jj_iast C1 (q0 := 12) (t0 := 0) (f := (fun _ => 0)) rfl rfl (k := 1) (by omega) (by omega) (by decide) (ws' := [(h0, .inr (4, [.ref q1, .ref q3, .ref q5, .ref q7, .ref q8, .int (iI 100), .int (iI 0), .int (iI 500)])), (q1, .inr (3, [.ref q12, .ref q22, .int (iI 10000), .int (iI 10), .int (iI 10), .int (iI 0)])), (q12, .inl (cI, 201, .inl (iA (fun _ => 0)))), (q22, .inl (cJ, 11, .inr (.inl (lA (fun _ => 0))))), (q3, .inr (2, [.long (lI 0)])), (q5, .inr (0, [.int (iI 0), .ref es, .int (iI 0)])), (q7, .inl (cJ, 7, .inr (.inl (lA (fun _ => 0))))), (q8, .inl (cJ, 6, .inr (.inl (lA (fun _ => 0))))), (k0, .inl (cI, 24, .inl (iA (fun _ => 0)))), (k1, .inl (cI, 60, .inl (iA (fun _ => 0)))), (k2, .inl (cI, 6, .inl (iA (fun _ => 0)))), (k3, .inl (cI, 24, .inl (iA (fun _ => 0)))), (k4, .inl (cI, 8, .inl (iA (va_up (fun _ => 0) 1 10000)))), (k5, .inl (cI, 60, .inl (iA (fun _ => 0)))), (k6, .inl (cJ, 14, .inr (.inl (lA (fun _ => 0)))))] ++ ([] : va_W)) rfl dL_law_54 ?_
    refine jj_aload C1 2 rfl dL_law_55 ?_
    refine jj_iconst C1 dL_law_57 ?_
    refine jj_bipush C1 dL_law_58 (by decide) ?_
    refine jj_iast C1 (q0 := 12) (t0 := 0) (f := (va_up (fun _ => 0) 1 10000)) rfl rfl (k := 2) (by omega) (by omega) (by decide) (ws' := [(h0, .inr (4, [.ref q1, .ref q3, .ref q5, .ref q7, .ref q8, .int (iI 100), .int (iI 0), .int (iI 500)])), (q1, .inr (3, [.ref q12, .ref q22, .int (iI 10000), .int (iI 10), .int (iI 10), .int (iI 0)])), (q12, .inl (cI, 201, .inl (iA (fun _ => 0)))), (q22, .inl (cJ, 11, .inr (.inl (lA (fun _ => 0))))), (q3, .inr (2, [.long (lI 0)])), (q5, .inr (0, [.int (iI 0), .ref es, .int (iI 0)])), (q7, .inl (cJ, 7, .inr (.inl (lA (fun _ => 0))))), (q8, .inl (cJ, 6, .inr (.inl (lA (fun _ => 0))))), (k0, .inl (cI, 24, .inl (iA (fun _ => 0)))), (k1, .inl (cI, 60, .inl (iA (fun _ => 0)))), (k2, .inl (cI, 6, .inl (iA (fun _ => 0)))), (k3, .inl (cI, 24, .inl (iA (fun _ => 0)))), (k4, .inl (cI, 8, .inl (iA (va_up (va_up (fun _ => 0) 1 10000) 2 10)))), (k5, .inl (cI, 60, .inl (iA (fun _ => 0)))), (k6, .inl (cJ, 14, .inr (.inl (lA (fun _ => 0)))))] ++ ([] : va_W)) rfl dL_law_60 ?_
    refine jj_aload C1 2 rfl dL_law_61 ?_
    refine jj_iconst C1 dL_law_63 ?_
    refine jj_bipush C1 dL_law_64 (by decide) ?_
    refine jj_iast C1 (q0 := 12) (t0 := 0) (f := (va_up (va_up (fun _ => 0) 1 10000) 2 10)) rfl rfl (k := 3) (by omega) (by omega) (by decide) (ws' := [(h0, .inr (4, [.ref q1, .ref q3, .ref q5, .ref q7, .ref q8, .int (iI 100), .int (iI 0), .int (iI 500)])), (q1, .inr (3, [.ref q12, .ref q22, .int (iI 10000), .int (iI 10), .int (iI 10), .int (iI 0)])), (q12, .inl (cI, 201, .inl (iA (fun _ => 0)))), (q22, .inl (cJ, 11, .inr (.inl (lA (fun _ => 0))))), (q3, .inr (2, [.long (lI 0)])), (q5, .inr (0, [.int (iI 0), .ref es, .int (iI 0)])), (q7, .inl (cJ, 7, .inr (.inl (lA (fun _ => 0))))), (q8, .inl (cJ, 6, .inr (.inl (lA (fun _ => 0))))), (k0, .inl (cI, 24, .inl (iA (fun _ => 0)))), (k1, .inl (cI, 60, .inl (iA (fun _ => 0)))), (k2, .inl (cI, 6, .inl (iA (fun _ => 0)))), (k3, .inl (cI, 24, .inl (iA (fun _ => 0)))), (k4, .inl (cI, 8, .inl (iA (va_up (va_up (va_up (fun _ => 0) 1 10000) 2 10) 3 10)))), (k5, .inl (cI, 60, .inl (iA (fun _ => 0)))), (k6, .inl (cJ, 14, .inr (.inl (lA (fun _ => 0)))))] ++ ([] : va_W)) rfl dL_law_66 ?_
    refine jj_aload C1 2 rfl dL_law_67 ?_
    refine jj_iconst C1 dL_law_69 ?_
    refine jj_bipush C1 dL_law_70 (by decide) ?_
    refine jj_iast C1 (q0 := 12) (t0 := 0) (f := (va_up (va_up (va_up (fun _ => 0) 1 10000) 2 10) 3 10)) rfl rfl (k := 4) (by omega) (by omega) (by decide) (ws' := [(h0, .inr (4, [.ref q1, .ref q3, .ref q5, .ref q7, .ref q8, .int (iI 100), .int (iI 0), .int (iI 500)])), (q1, .inr (3, [.ref q12, .ref q22, .int (iI 10000), .int (iI 10), .int (iI 10), .int (iI 0)])), (q12, .inl (cI, 201, .inl (iA (fun _ => 0)))), (q22, .inl (cJ, 11, .inr (.inl (lA (fun _ => 0))))), (q3, .inr (2, [.long (lI 0)])), (q5, .inr (0, [.int (iI 0), .ref es, .int (iI 0)])), (q7, .inl (cJ, 7, .inr (.inl (lA (fun _ => 0))))), (q8, .inl (cJ, 6, .inr (.inl (lA (fun _ => 0))))), (k0, .inl (cI, 24, .inl (iA (fun _ => 0)))), (k1, .inl (cI, 60, .inl (iA (fun _ => 0)))), (k2, .inl (cI, 6, .inl (iA (fun _ => 0)))), (k3, .inl (cI, 24, .inl (iA (fun _ => 0)))), (k4, .inl (cI, 8, .inl (iA (va_up (va_up (va_up (va_up (fun _ => 0) 1 10000) 2 10) 3 10) 4 100)))), (k5, .inl (cI, 60, .inl (iA (fun _ => 0)))), (k6, .inl (cJ, 14, .inr (.inl (lA (fun _ => 0)))))] ++ ([] : va_W)) rfl dL_law_72 ?_
    refine jj_aload C1 2 rfl dL_law_73 ?_
    refine jj_bipush C1 dL_law_75 (by decide) ?_
    refine jj_sipush C1 dL_law_77 (by decide) ?_
    refine jj_iast C1 (q0 := 12) (t0 := 0) (f := (va_up (va_up (va_up (va_up (fun _ => 0) 1 10000) 2 10) 3 10) 4 100)) rfl rfl (k := 6) (by omega) (by omega) (by decide) (ws' := [(h0, .inr (4, [.ref q1, .ref q3, .ref q5, .ref q7, .ref q8, .int (iI 100), .int (iI 0), .int (iI 500)])), (q1, .inr (3, [.ref q12, .ref q22, .int (iI 10000), .int (iI 10), .int (iI 10), .int (iI 0)])), (q12, .inl (cI, 201, .inl (iA (fun _ => 0)))), (q22, .inl (cJ, 11, .inr (.inl (lA (fun _ => 0))))), (q3, .inr (2, [.long (lI 0)])), (q5, .inr (0, [.int (iI 0), .ref es, .int (iI 0)])), (q7, .inl (cJ, 7, .inr (.inl (lA (fun _ => 0))))), (q8, .inl (cJ, 6, .inr (.inl (lA (fun _ => 0))))), (k0, .inl (cI, 24, .inl (iA (fun _ => 0)))), (k1, .inl (cI, 60, .inl (iA (fun _ => 0)))), (k2, .inl (cI, 6, .inl (iA (fun _ => 0)))), (k3, .inl (cI, 24, .inl (iA (fun _ => 0)))), (k4, .inl (cI, 8, .inl (iA (va_up (va_up (va_up (va_up (va_up (fun _ => 0) 1 10000) 2 10) 3 10) 4 100) 6 500)))), (k5, .inl (cI, 60, .inl (iA (fun _ => 0)))), (k6, .inl (cJ, 14, .inr (.inl (lA (fun _ => 0)))))] ++ ([] : va_W)) rfl dL_law_80 ?_
    refine jj_ws (ws' := wH (ad_of [h0, q1, q12, q22, q3, q5, q7, q8]) (fun _ => 0) (fun _ => 0) (fun _ => 0) es cI cJ cZ 0 10000 10 10 (fun _ => 0) (fun _ => 0) 0 0 0 100 0 500 (fun _ => 0) (fun _ => 0) (fun _ => 0) (fun _ => 0) (fun _ => 0) (fun _ => 0) (fun _ => 0) (fun _ => 0) (fun _ => 0) (fun _ => 0) (fun _ => 0) (fun _ => 0) ++ (([] : va_W) ++ wL (ad_of [k0, k1, k2, k3, k4, k5, k6]) cI cJ 0 10000 10 10 100 0 500 0 (fun _ => 0) (fun _ => 0) (fun _ => 0) (fun _ => 0) (fun _ => 0) (fun _ => 0) (fun _ => 0) (fun _ => 0) (fun _ => 0) (fun _ => 0) (fun _ => 0) (fun _ => 0) (fun _ => 0) 0 (fun _ => 0))) (by unfold wL; rw [f_lk_0, f_lh_0, f_ln_0, f_lq_0, f_lg_0, f_lm_0]; rfl) ?_
    refine jj_iconst C1 dL_law_81 ?_
    refine jj_istore C1 (i := 9) (lv' := [(9, .int (iI 0)), (8, .ref k6), (7, .ref k5), (6, .ref k4), (5, .ref k3), (4, .ref k2), (3, .ref k1), (2, .ref k0), (1, .ref h0), (0, .ref b)]) (by decide) rfl dL_law_82 ?_
    refine jj_lve (lv' := [(9, .int (iI ((0 : Nat) : Int))), (8, .ref ((ad_of [k0, k1, k2, k3, k4, k5, k6]) 6)), (7, .ref ((ad_of [k0, k1, k2, k3, k4, k5, k6]) 5)), (6, .ref ((ad_of [k0, k1, k2, k3, k4, k5, k6]) 4)), (5, .ref ((ad_of [k0, k1, k2, k3, k4, k5, k6]) 3)), (4, .ref ((ad_of [k0, k1, k2, k3, k4, k5, k6]) 2)), (3, .ref ((ad_of [k0, k1, k2, k3, k4, k5, k6]) 1)), (2, .ref ((ad_of [k0, k1, k2, k3, k4, k5, k6]) 0)), (1, .ref ((ad_of [h0, q1, q12, q22, q3, q5, q7, q8]) 0)), (0, .ref b)]) rfl ?_
    exact law_loop hC8 hEnd 90 (fun _ => 0) (fun _ => 0) (fun _ => 0) es (fun _ => 0) 0 [] 0 10000 10 10 (fun _ => 0) 0 0 100 0 500 (fun _ => 0) (fun _ => 0) (fun _ => 0) (fun _ => 0) (fun _ => 0) (fun _ => 0) (fun _ => 0) (fun _ => 0) (fun _ => 0) (fun _ => 0) (fun _ => 0) (fun _ => 0) (fun _ => 0) (fun _ => 0) (fun _ => 0) (fun _ => 0) 0 15 439 rfl f_IV_0 f_JV_0 f_JC_0 ⟨fun h => absurd h (by omega), fun _ => rfl⟩ (by omega) (by omega)
  have hP : va_P (dC, dI) vwCl (([] : va_W) ++ ([] : va_W)) s.heap := fun k q h => by simp at h
  have hD : va_D (fun q : Nat => s.heap.size ≤ q) (([] : va_W) ++ ([] : va_W)) := ⟨fun i j p q h => by simp at h, fun k q h => by simp at h⟩
  have hl := lv_entry ([.ref b]) (n := 46) (Nat.le_of_ble_eq_true rfl)
  rw [lg_entry_eq]
  exact hJ s.heap [] _ hP hD va_S.rf hl
end CC29
