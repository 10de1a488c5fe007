section CC28
theorem lw_arr {args : Array Value} {s : State} {ty : FieldType} (hp : ∀ nm : String, ty ≠ .object nm) (hq : ∀ t : FieldType, ty ≠ .array t) (h : (Cond.arrayClass ty).before args s = true) : ∃ cA : ClassId, ArrOfT s cA ty ∧ s.vm.findClass ("[" ++ ty.toString) = some cA := by
  obtain ⟨cA, kA, comp, h1, h2, h3⟩ := Cond.arrayClass_spec h
  exact ⟨cA, fun N z => ⟨fun k h => (by cases h), kA, h2, comp, h3⟩, h1⟩
theorem lw_arrO {args : Array Value} {s : State} {C : String} (h : (Cond.arrayOver (.object C)).before args s = true) : ∃ cA : ClassId, ArrOfT s cA (.object C) ∧ va_RA s cA (.object C) := by
  obtain ⟨comp, cA, kA, h1, h2, h3, h4, h5⟩ := Cond.arrayOver_spec h
  exact ⟨cA, fun N z => ⟨fun k h => (by cases h), kA, h3, comp, h4⟩, kA, comp, h3, h4, h1, h5⟩
theorem wx_N_in : ∀ w ∈ wx_N, w ∈ lw_tbl := by decide +kernel
theorem wx_strs_in : ∀ q ∈ wx_strs, Cond.stringRef "Strikehall" q.1 q.2 ∈ lw_tbl := by decide +kernel
set_option maxHeartbeats 4000000 in
set_option maxRecDepth 100000 in
theorem lw_CC {p : Program} {l : Launch} {s : State} {m : MethodId} {meth : Method} {c : Code} {b L : Nat} {xs : Nat → Int32} (hl : l.stackTraces = false) (hL : L ≤ 260) (C0 : lw_At p s m meth c b L xs) : ∃ (dC : Nat → ClassId) (dI : Nat → Nat → Nat) (cI cJ cZ cO : ClassId) (es mi : Nat) (sa : Nat → Nat), f_C9 p l s m #[Value.ref b] meth c dC dI (fun q : Nat => s.heap.size ≤ q) cI cJ cZ cO es mi sa b L xs := by
  obtain ⟨hx, hb, hr, hml, hown, hts, hX, hbl, hlocks, hgv⟩ := C0
  have hw : ∀ w ∈ lw_U, w.before #[Value.ref b] s = true := fun w h => hts w (List.mem_filter.mp h).1
  have hs := flat_of_before _ hgv
  have hA : ∀ a : Nat, a < s.heap.size → ¬ (fun q : Nat => s.heap.size ≤ q) a := fun a h => Nat.not_le.mpr h
  have hq : ∀ (w : Cond) (i : Nat), lw_tbl[i]? = some w → w.before #[Value.ref b] s = true := fun w i h => hts _ (List.mem_of_getElem? h)
  obtain ⟨c0, i0, k0⟩ := u_known (C := RJx4a65c) (T := TJx4a65c) (N := 3) (n := 3) hw hin_Jx4a65c (hw _ hU_113)
  obtain ⟨c1, i1, k1⟩ := u_known (C := RX0) (T := TX0) (N := 10) (n := 10) hw hin_X0 (hw _ hU_284)
  obtain ⟨c2, i2, k2⟩ := u_known (C := RX1) (T := TX1) (N := 1) (n := 1) hw hin_X1 (hw _ hU_102)
  obtain ⟨c3, i3, k3⟩ := u_known (C := RX2) (T := TX2) (N := 6) (n := 6) hw hin_X2 (hw _ hU_71)
  obtain ⟨c4, i4, k4⟩ := u_known (C := RX3) (T := TX3) (N := 8) (n := 8) hw hin_X3 (hw _ hU_63)
  obtain ⟨dC, dI, hKc⟩ : ∃ (dC : Nat → ClassId) (dI : Nat → Nat → Nat), ∀ (k : Nat) (q : vw_C), vwCl[k]? = some q → u_Kn s q.1 q.2.1 q.2.2 (dC k) (dI k) := by
    refine ⟨fun k => match k with | 0 => c0 | 1 => c1 | 2 => c2 | 3 => c3 | _ => c4, fun k => match k with | 0 => i0 | 1 => i1 | 2 => i2 | 3 => i3 | _ => i4, ?_⟩
    intro k q hq
    match k, hq with
    | 0, hq => cases hq; exact k0
    | 1, hq => cases hq; exact k1
    | 2, hq => cases hq; exact k2
    | 3, hq => cases hq; exact k3
    | 4, hq => cases hq; exact k4
    | k + 5, hq => simp [vwCl] at hq
  obtain ⟨cI, aI, nI⟩ := lw_arr (ty := .int) (fun _ => by simp) (fun _ => by simp) (hw _ hU_99)
  obtain ⟨cJ, aJ, nJ⟩ := lw_arr (ty := .long) (fun _ => by simp) (fun _ => by simp) (hw _ hU_100)
  obtain ⟨cZ, aZ, nZ⟩ := lw_arr (ty := .boolean) (fun _ => by simp) (fun _ => by simp) (hw _ hU_420)
  have hAO : (Cond.arrayOver (.object "java/lang/Object")).before #[Value.ref b] s = true := hq _ 464 (by decide +kernel)
  obtain ⟨cO, aO, nO⟩ := lw_arrO hAO
  have hK : va_K (dC, dI) vwCl [(cI, .int), (cJ, .long), (cZ, .boolean), (cO, .object "java/lang/Object")] s := by
    refine ⟨hKc, fun k q hk => ?_⟩
    match k, hk with
    | 0, hk => cases hk; exact ⟨aI, nI⟩
    | 1, hk => cases hk; exact ⟨aJ, nJ⟩
    | 2, hk => cases hk; exact ⟨aZ, nZ⟩
    | 3, hk => cases hk; exact ⟨aO, nO⟩
    | k + 4, hk => simp at hk
  have h1 : (Cond.arrayOf (.static "java/util/ArrayList" "DEFAULTCAPACITY_EMPTY_ELEMENTDATA" "[Ljava/lang/Object;") (.object "java/lang/Object")).before #[Value.ref b] s = true := hs _ (by decide +kernel)
  have h2 : (Cond.eq (.length (.static "java/util/ArrayList" "DEFAULTCAPACITY_EMPTY_ELEMENTDATA" "[Ljava/lang/Object;")) (.int 0)).before #[Value.ref b] s = true := hs _ (by decide +kernel)
  obtain ⟨es, hes, hT⟩ := va_Tof (N := 0) (f := fun _ => .null) (A := fun q : Nat => s.heap.size ≤ q) (by decide) h1 (va_eqt h2) (fun j hj => absurd hj (Nat.not_lt_zero j)) hA
  have h3 : (Cond.isRef (.mirror "[Ljava/lang/Object;")).before #[Value.ref b] s = true := hs _ (by decide +kernel)
  obtain ⟨mi, hmi⟩ := va_Mi.of h3
  have h4 : (Cond.isRef (.static "java/lang/Throwable" "UNASSIGNED_STACK" "[Ljava/lang/StackTraceElement;")).before #[Value.ref b] s = true := hs _ (by decide +kernel)
  have h5 : (Cond.isRef (.static "java/lang/Throwable" "SUPPRESSED_SENTINEL" "Ljava/util/List;")).before #[Value.ref b] s = true := hs _ (by decide +kernel)
  have h6 : (Cond.not (.castable "java/lang/IllegalArgumentException" "java/lang/IndexOutOfBoundsException")).before #[Value.ref b] s = true := hs _ (by decide +kernel)
  have h7 : (Cond.not (.castable "java/lang/IllegalStateException" "java/lang/IndexOutOfBoundsException")).before #[Value.ref b] s = true := hs _ (by decide +kernel)
  have h8 : (Cond.not (.castable "java/lang/IllegalStateException" "java/lang/IllegalArgumentException")).before #[Value.ref b] s = true := hs _ (by decide +kernel)
  have hex : ∀ q ∈ wx_strs, (Cond.exactly (.string "Strikehall" q.1) "java/lang/String").before #[Value.ref b] s = true := fun q hq => hs _ ((by decide +kernel : ∀ q ∈ wx_strs, Cond.exactly (.string "Strikehall" q.1) "java/lang/String" ∈ _) q hq)
  obtain ⟨sa, hsa⟩ : ∃ sa : Nat → Nat, ∀ q ∈ wx_strs, (Term.string "Strikehall" q.1).eval #[] s none [] s = some (.ref (sa q.1)) := by
    refine ⟨fun k => match (Term.string "Strikehall" k).eval #[] s none [] s with | some (.ref a) => a | _ => 0, fun q hq => ?_⟩
    obtain ⟨a, -, -, -, ha, -⟩ := Cond.exactly_spec (hex q hq)
    have ha0 : (Term.string "Strikehall" q.1).eval #[] s none [] s = some (.ref a) := ha
    simp only [ha0]
  have hEh : EVh (fun q : Nat => s.heap.size ≤ q) s s.heap := ⟨fun w hw' => va_Nw.of (nw_on (List.mem_filter.mp hw').2) (hts w (List.mem_filter.mp hw').1), trivial⟩
  have hEA : EVA es (fun q : Nat => s.heap.size ≤ q) s s.heap := ⟨hEh, va_Zof (hq _ 125 (by decide +kernel)) (hw _ hU_48) hes hA⟩
  have hEG : EVG es mi (fun q : Nat => s.heap.size ≤ q) s s.heap := ⟨hEA, hmi, va_AO.of hAO, va_Dc.of (A := #[Value.ref b]) (hq _ 801 (by decide +kernel)), va_Nw.of (A := #[Value.ref b]) rfl (hq _ 795 (by decide +kernel))⟩
  have hET : EVT sa (fun q : Nat => s.heap.size ≤ q) s s.heap := ⟨hEh, fun q hq => vk_R.of (A := #[Value.ref b]) (hts _ (wx_strs_in q hq)) (hsa q hq), fun w hw' => va_Nw.of (wx_on w hw') (hts w (wx_N_in w hw')), vx_Zqof (args := #[Value.ref b]) (hq _ 208 (by decide +kernel)) (hw _ hU_49) h4 hA, vx_Zqof (args := #[Value.ref b]) (hq _ 210 (by decide +kernel)) (hw _ hU_49) h5 hA⟩
  exact ⟨dC, dI, cI, cJ, cZ, cO, es, mi, sa, ⟨hx, hb, hml, hown, hw, hK, fun q h => h, ⟨⟨⟨hET, hEG, va_Nc.of h6, va_Nc.of h7, va_Nc.of h8⟩, hT⟩, hX, Nat.not_le.mpr hbl⟩, hEVS es mi sa b L xs, hlocks⟩, hl, by omega⟩
end CC28
theorem f_JV_0 : f_JV 0 0 0 10000 (fun _ => 0) 0 (fun _ => 0) (fun _ => 0) (fun _ => 0) (fun _ => 0) := by
  unfold f_JV
  dsimp only
  exact ⟨by omega, by omega, fun c hc => by omega, fun c hc => by omega, fun _ => by omega, fun _ => by omega, by omega, by omega⟩
theorem f_JC_0 : f_JC (fun _ => 0) (fun _ => 0) (fun _ => 0) := ⟨fun _ => by dsimp only; omega, fun _ _ _ _ => rfl⟩
theorem f_lk_0 : f_lk (fun _ => 0) (fun _ => 0) (fun _ => 0) (fun _ => 0) (fun _ => 0) = fun _ => 0 := by funext j; simp [f_lk]
theorem f_lh_0 : f_lh (fun _ => 0) = fun _ => 0 := by funext j; simp [f_lh]
theorem f_ln_0 : f_ln (fun _ => 0) = fun _ => 0 := by funext j; simp [f_ln]
theorem f_lq_0 : f_lq (fun _ => 0) (fun _ => 0) (fun _ => 0) (fun _ => 0) = fun _ => 0 := by funext j; simp [f_lq]
theorem f_lm_0 : f_lm (fun _ => 0) 0 (fun _ => 0) = fun _ => 0 := by funext j; simp [f_lm]
theorem f_lg_0 : f_lg 0 10000 10 10 100 0 500 0 = va_up (va_up (va_up (va_up (va_up (fun _ => 0) 1 10000) 2 10) 3 10) 4 100) 6 500 := by
  funext j
  simp only [f_lg, va_up]
  (repeat' split) <;> first | rfl | omega
section CC28a
variable {p : Program} {l : Launch} {e : Env} {R : Room} {s : State} {m : MethodId} {args : Array Value} {below : List Frame} {meth : Method} {c : Code} {D : va_G} {cl : List vw_C} {A : Nat → Prop} {nL cells slots : Nat} {Q : State → Prop} {cc : ByteArray} {pc : Nat} {rest : List Value} {lv : List (Nat × Value)} {ws X E : va_W} {own : String} {Ts : List Cond} {tys : List (ClassId × FieldType)} {EV : (Nat → Prop) → State → Heap → Prop}
theorem jj_cs {cells' slots' : Nat} {st : List Value} (h1 : cells = cells') (h2 : slots = slots') (kk : jj_W p l e R s m args below meth c D cl A nL cells' slots' Q pc lv st ws) : jj_W p l e R s m args below meth c D cl A nL cells slots Q pc lv st ws := by
  subst h1 h2
  exact kk
end CC28a
