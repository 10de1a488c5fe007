section CC18a
variable {p : Program} {l : Launch} {e : Env} {R : Room} {s : State} {m : MethodId} {args : Array Value} {below : List Frame} {meth : Method} {c : Code} {D : va_G} {cl : List vw_C} {A : Nat → Prop} {nL cells slots : Nat} {Q : State → Prop} {cc : ByteArray} {pc : Nat} {rest : List Value} {lv : List (Nat × Value)} {ws X E : va_W} {own : String} {Ts : List Cond} {tys : List (ClassId × FieldType)} {EV : (Nat → Prop) → State → Heap → Prop}
/-- .. and the static's array is empty -/
def EVZ (es mi : Nat) (A : Nat → Prop) (U : State) (H : Heap) : Prop := EVG es mi A U H ∧ va_T (.object "java/lang/Object") es 0 (fun _ => .null) A U H
theorem hEVZ (es mi : Nat) : jj_EV (EVZ es mi) := ⟨fun A U H H1 h hq => ⟨(hEVG es mi).1 A U H H1 h.1 hq, h.2.kept hq⟩, fun A B U H h hq => ⟨(hEVG es mi).2.1 A B U H h.1 hq, h.2.narrow hq⟩, fun A s U H hW h => ⟨(hEVG es mi).2.2.1 A s U H hW h.1, h.2.moved hW.alike⟩, fun A u U H hv h => ⟨(hEVG es mi).2.2.2 A u U H hv h.1, h.2.moved (by rw [hv]; exact Vm.Alike.refl U.vm)⟩⟩
theorem jj_tlen0 (C0 : jj_C p s m args meth c D cl A nL cc own Ts tys EV) {a : Nat} {ty : FieldType} {f : Nat → Value} (hT : va_T ty a 0 f A s s.heap) (hdg : decode cc pc = .ok (.arraylength, 1)) (kk : jj_W p l e R s m args below meth c D cl A nL cells slots Q (pc + 1) lv (.int (iI 0) :: rest) ws) : jj_W p l e R s m args below meth c D cl A nL cells slots Q pc lv (.ref a :: rest) ws :=
  fun H locs ls hP hD hS hl => va_tlen C0.1 C0.2.1 hT hS (by decide) hdg (kk H locs ls hP hD hS hl)
end CC18a
section CC18
variable {l : Launch} {dC : Nat → ClassId} {dI : Nat → Nat → Nat} {cI cJ cZ cO : ClassId} {E ws : va_W} {li es mi : Nat} {mc : Int}
set_option maxHeartbeats 4000000 in
set_option maxRecDepth 100000 in
theorem c0_Jx4a65c_grow_92f84    : jj_Mr (EVZ es mi) (dC, dI) vwCl [(cI, .int), (cJ, .long), (cZ, .boolean), (cO, .object "java/lang/Object")] l yJx4a65c_grow_92f84 (Cond.code yJx4a65c_grow_92f84 cJx4a65c_grow_92f84 4 (some (.array (.object "java/lang/Object"))) :: lw_U) ({ frames := 1, cells := 1, slots := 30, locals := 14 } : Room) [.ref li, .int (iI 1)] ([(li, .inr (0, [.int (iI mc), .ref es, .int (iI 0)]))] ++ E) (S := Nat) (fun q => q) (fun q => True) (fun q => [(li, .inr (0, [.int (iI mc), .ref q, .int (iI 0)])), (q, .inl (cO, 10, .inr (.inr (.inr (.inr (fun _ => none))))))] ++ E) := by
  refine jj_start (cc := cJx4a65c_grow_92f84) (nL := 4) (ret := (some (.array (.object "java/lang/Object")))) (lv := [(0, .ref li), (1, .int (iI 1))]) (fun A => jj_Qr _ _ _ _ _ _ A) (hEVZ es mi) (by decide) rfl (Nat.le_of_ble_eq_true rfl) rfl ?_
  intro p9 e9 s9 m9 a9 b9 me9 c9 A9 C1 hr hin
  have C0 : jj_C p9 s9 m9 a9 me9 c9 (dC, dI) vwCl A9 4 cJx4a65c_grow_92f84 "java/util/ArrayList" lw_U _ (EVZ es mi) := jj_toU C1
  have hw := C0.2.2.2.2.1
  have hE := C0.2.2.2.2.2.2.2.1
  refine jj_aload_n C0 0 rfl dJx4a65c_grow_92f84_0 ?_
  refine jj_get C0 (ci := 0) (v := .ref es) hin_Jx4a65c (0) (rfl) rfl 1 (by decide) (hw _ hU_126) (fun _ h9 => h9) rfl dJx4a65c_grow_92f84_1 ?_
  refine jj_tlen0 C0 hE.2 dJx4a65c_grow_92f84_4 ?_
  refine jj_istore_n C0 (i := 2) rfl (lv' := [(2, .int (iI 0)), (0, .ref li), (1, .int (iI 1))]) (by decide) rfl dJx4a65c_grow_92f84_5 ?_
  refine jj_iload_n C0 0 rfl dJx4a65c_grow_92f84_6 ?_
  refine jj_if_gt C0 (by omega) dJx4a65c_grow_92f84_7 (tgt := 20) (by decide) (fun c_1 => absurd c_1 (by omega)) (fun c_1 => ?_)
  refine jj_aload_n C0 1 rfl dJx4a65c_grow_92f84_10 ?_
  refine jj_get C0 (ci := 0) (v := .ref es) hin_Jx4a65c (0) (rfl) rfl 1 (by decide) (hw _ hU_126) (fun _ h9 => h9) rfl dJx4a65c_grow_92f84_11 ?_
  refine jj_gets C0 hE.1.1.2 (hw _ hU_124) dJx4a65c_grow_92f84_14 ?_
  refine jj_acmp_eq C0 dJx4a65c_grow_92f84_17 (tgt := 45) (by decide) (fun c_2 => ?_) (fun c_2 => absurd rfl c_2)
  refine jj_aload_n C0 1 rfl dJx4a65c_grow_92f84_45 ?_
  refine jj_bipush C0 dJx4a65c_grow_92f84_46 (by decide) ?_
  refine jj_iload_n C0 2 rfl dJx4a65c_grow_92f84_48 ?_
  refine jj_mmax C0 (by omega) (by omega) (hw _ hU_470) (List.forall_mem_cons.mpr ⟨hw _ hU_307, List.forall_mem_cons.mpr ⟨hw _ hU_53, List.forall_mem_cons.mpr ⟨hw _ hU_308, fun _ h => absurd h List.not_mem_nil⟩⟩⟩) (by decide) (Nat.le_of_ble_eq_true rfl) ⟨by decide, by decide⟩ dJx4a65c_grow_92f84_49 ?_
  refine jj_topi (b := ((10 : Nat) : Int)) (by omega) ?_
  refine jj_newq C0 (N := 10) (t0 := 3) (by omega) (by omega) rfl (hw _ hU_471) hE.1.2.2.1 (by decide) (by show _ + 10 ≤ 30; omega) dJx4a65c_grow_92f84_52 ?_
  intro q3
  show jj_W _ _ _ _ _ _ _ _ _ _ _ _ _ _ _ _ _ 55 _ [.ref q3, .ref li] ([(li, .inr (0, [.int (iI mc), .ref es, .int (iI 0)])), (q3, .inl (cO, 10, .inr (.inr (.inr (.inr (fun _ => none))))))] ++ E)
  refine jj_dup_x1 C0 dJx4a65c_grow_92f84_55 rfl rfl ?_
  refine jj_put C0 (ci := 0) (v := .ref q3) (ty := (.array (.object "java/lang/Object"))) hin_Jx4a65c tyJx4a65c tyJx4a65c_ok nmJx4a65c (0) (rfl) rfl 1 (by decide) (hw _ hU_126) (fun _ h9 => h9) rfl (by decide +kernel) (rfl) rfl (Nat.le_of_ble_eq_true rfl) (ws' := [(li, .inr (0, [.int (iI mc), .ref q3, .int (iI 0)])), (q3, .inl (cO, 10, .inr (.inr (.inr (.inr (fun _ => none))))))] ++ E) (rfl) dJx4a65c_grow_92f84_56 ?_
  exact jj_aret C0 (Or.inr ⟨_, rfl⟩) hr q3 (trivial) (rfl) (rfl) (by decide) (by decide) dJx4a65c_grow_92f84_59
set_option maxHeartbeats 4000000 in
set_option maxRecDepth 100000 in
theorem c0_Jx4a65c_grow_d5877    : jj_Mr (EVZ es mi) (dC, dI) vwCl [(cI, .int), (cJ, .long), (cZ, .boolean), (cO, .object "java/lang/Object")] l yJx4a65c_grow_d5877 (Cond.code yJx4a65c_grow_d5877 cJx4a65c_grow_d5877 1 (some (.array (.object "java/lang/Object"))) :: lw_U) ({ frames := 2, cells := 1, slots := 30, locals := 37 } : Room) [.ref li] ([(li, .inr (0, [.int (iI mc), .ref es, .int (iI 0)]))] ++ E) (S := Nat) (fun q => q) (fun q => True) (fun q => [(li, .inr (0, [.int (iI mc), .ref q, .int (iI 0)])), (q, .inl (cO, 10, .inr (.inr (.inr (.inr (fun _ => none))))))] ++ E) := by
  refine jj_start (cc := cJx4a65c_grow_d5877) (nL := 1) (ret := (some (.array (.object "java/lang/Object")))) (lv := [(0, .ref li)]) (fun A => jj_Qr _ _ _ _ _ _ A) (hEVZ es mi) (by decide) rfl (Nat.le_of_ble_eq_true rfl) rfl ?_
  intro p9 e9 s9 m9 a9 b9 me9 c9 A9 C1 hr hin
  have C0 : jj_C p9 s9 m9 a9 me9 c9 (dC, dI) vwCl A9 1 cJx4a65c_grow_d5877 "java/util/ArrayList" lw_U _ (EVZ es mi) := jj_toU C1
  have hw := C0.2.2.2.2.1
  have hE := C0.2.2.2.2.2.2.2.1
  refine jj_aload_n C0 0 rfl dJx4a65c_grow_d5877_0 ?_
  refine jj_aload_n C0 0 rfl dJx4a65c_grow_d5877_1 ?_
  refine jj_get C0 (ci := 0) (v := .int (iI 0)) hin_Jx4a65c (0) (rfl) rfl 2 (by decide) (hw _ hU_127) (fun _ h9 => h9) rfl dJx4a65c_grow_d5877_2 ?_
  refine jj_iconst C0 dJx4a65c_grow_d5877_5 ?_
  refine jj_iadd C0 dJx4a65c_grow_d5877_6 ?_
  refine jj_topi (b := 1) (by omega) ?_
  refine jj_callVr C0 (c0_Jx4a65c_grow_92f84  (li := li) ) (cwV 1 hw (lw_gV hU_433 hU_435 hU_15 hU_48 hU_436) rfl rfl rfl (by decide +kernel) ⟨Nat.le_of_ble_eq_true rfl, Nat.le_of_ble_eq_true rfl⟩) (ci := 0) (q0 := 0) rfl (rfl) rfl rfl (Nat.le_of_ble_eq_true rfl) ⟨by decide, by decide⟩ rfl rfl dJx4a65c_grow_d5877_7 ?_
  intro q_1 hu
  show jj_W _ _ _ _ _ _ _ _ _ _ _ _ _ _ _ _ _ 10 _ [.ref q_1] ([(li, .inr (0, [.int (iI mc), .ref q_1, .int (iI 0)])), (q_1, .inl (cO, 10, .inr (.inr (.inr (.inr (fun _ => none))))))] ++ E)
  exact jj_aret C0 (Or.inr ⟨_, rfl⟩) hr q_1 (trivial) (rfl) (rfl) (by decide) (by decide) dJx4a65c_grow_d5877_10
set_option maxHeartbeats 4000000 in
set_option maxRecDepth 100000 in
theorem c0_Jx4a65c_add_72be8  {v kv : Nat} {vs : List Value} (hv : E[kv]? = some (v, .inr (1, vs))) : jj_Mv (EVZ es mi) (dC, dI) vwCl [(cI, .int), (cJ, .long), (cZ, .boolean), (cO, .object "java/lang/Object")] l yJx4a65c_add_72be8 (Cond.code yJx4a65c_add_72be8 cJx4a65c_add_72be8 4 none :: lw_U) ({ frames := 3, cells := 1, slots := 30, locals := 57 } : Room) [.ref li, .ref v, .ref es, .int (iI 0)] ([(li, .inr (0, [.int (iI mc), .ref es, .int (iI 0)]))] ++ E) (S := Nat)  (fun q => True) (fun q => [(li, .inr (0, [.int (iI mc), .ref q, .int (iI 1)])), (q, .inl (cO, 10, .inr (.inr (.inr (.inr (va_up (fun _ => none) 0 (some v)))))))] ++ E) := by
  refine jj_start (cc := cJx4a65c_add_72be8) (nL := 4) (ret := none) (lv := [(0, .ref li), (1, .ref v), (2, .ref es), (3, .int (iI 0))]) (fun A => jj_Qv _ _ _ _ _ A) (hEVZ es mi) (by decide) rfl (Nat.le_of_ble_eq_true rfl) rfl ?_
  intro p9 e9 s9 m9 a9 b9 me9 c9 A9 C1 hr hin
  have C0 : jj_C p9 s9 m9 a9 me9 c9 (dC, dI) vwCl A9 4 cJx4a65c_add_72be8 "java/util/ArrayList" lw_U _ (EVZ es mi) := jj_toU C1
  have hw := C0.2.2.2.2.1
  have hE := C0.2.2.2.2.2.2.2.1
  refine jj_iload_n C0 3 rfl dJx4a65c_add_72be8_0 ?_
  refine jj_aload_n C0 2 rfl dJx4a65c_add_72be8_1 ?_
  refine jj_tlen0 C0 hE.2 dJx4a65c_add_72be8_2 ?_
  refine jj_icmp_ne C0 (by omega) (by omega) dJx4a65c_add_72be8_3 (tgt := 11) (by decide) (fun c_1 => absurd c_1 (by omega)) (fun c_1 => ?_)
  refine jj_aload_n C0 0 rfl dJx4a65c_add_72be8_6 ?_
  refine jj_callVr C0 (c0_Jx4a65c_grow_d5877  (li := li) ) (cwV 0 hw (lw_gV hU_429 hU_431 hU_14 hU_48 hU_432) rfl rfl rfl (by decide +kernel) ⟨Nat.le_of_ble_eq_true rfl, Nat.le_of_ble_eq_true rfl⟩) (ci := 0) (q0 := 0) rfl (rfl) rfl rfl (Nat.le_of_ble_eq_true rfl) ⟨by decide, by decide⟩ rfl rfl dJx4a65c_add_72be8_7 ?_
  intro q_2 hu
  show jj_W _ _ _ _ _ _ _ _ _ _ _ _ _ _ _ _ _ 10 _ [.ref q_2] ([(li, .inr (0, [.int (iI mc), .ref q_2, .int (iI 0)])), (q_2, .inl (cO, 10, .inr (.inr (.inr (.inr (fun _ => none))))))] ++ E)
  refine jj_astore_n C0 (i := 2) rfl (lv' := [(2, .ref q_2), (0, .ref li), (1, .ref v), (3, .int (iI 0))]) (by decide) rfl dJx4a65c_add_72be8_10 ?_
  refine jj_aload_n C0 0 rfl dJx4a65c_add_72be8_11 ?_
  refine jj_iload_n C0 3 rfl dJx4a65c_add_72be8_12 ?_
  refine jj_aload_n C0 2 rfl dJx4a65c_add_72be8_13 ?_
  refine jj_aast C0 (q0 := 1) (t0 := 3) (qk := kv + 2) (ci := 1) rfl rfl hE.1.2.2.2.2 hv rfl (k := 0) (by omega) (by omega) (by omega) (ws' := [(li, .inr (0, [.int (iI mc), .ref q_2, .int (iI 0)])), (q_2, .inl (cO, 10, .inr (.inr (.inr (.inr (va_up (fun _ => none) 0 (some v)))))))] ++ E) rfl dJx4a65c_add_72be8_14 ?_
  refine jj_aload_n C0 1 rfl dJx4a65c_add_72be8_15 ?_
  refine jj_iload_n C0 3 rfl dJx4a65c_add_72be8_16 ?_
  refine jj_iconst C0 dJx4a65c_add_72be8_17 ?_
  refine jj_iadd C0 dJx4a65c_add_72be8_18 ?_
  refine jj_topi (b := 1) (by omega) ?_
  refine jj_put C0 (ci := 0) (v := .int (iI 1)) (ty := .int) hin_Jx4a65c tyJx4a65c tyJx4a65c_ok nmJx4a65c (0) (rfl) rfl 2 (by decide) (hw _ hU_127) (fun _ h9 => h9) rfl (by decide +kernel) (rfl) rfl (Nat.le_of_ble_eq_true rfl) (ws' := [(li, .inr (0, [.int (iI mc), .ref q_2, .int (iI 1)])), (q_2, .inl (cO, 10, .inr (.inr (.inr (.inr (va_up (fun _ => none) 0 (some v)))))))] ++ E) (rfl) dJx4a65c_add_72be8_19 ?_
  exact jj_vret C0 hr q_2 (trivial) (rfl) (by decide) (by decide) dJx4a65c_add_72be8_22
set_option maxHeartbeats 4000000 in
set_option maxRecDepth 100000 in
theorem c0_Jx4a65c_add_9ea2d  {v kv : Nat} {vs : List Value} (hv : E[kv]? = some (v, .inr (1, vs))) : jj_Mi (EVZ es mi) (dC, dI) vwCl [(cI, .int), (cJ, .long), (cZ, .boolean), (cO, .object "java/lang/Object")] l yJx4a65c_add_9ea2d (Cond.code yJx4a65c_add_9ea2d cJx4a65c_add_9ea2d 2 (some .boolean) :: lw_U) ({ frames := 4, cells := 1, slots := 30, locals := 80 } : Room) [.ref li, .ref v] ([(li, .inr (0, [.int (iI mc), .ref es, .int (iI 0)]))] ++ E) (S := Nat) (fun q => 1) (fun q => True) (fun q => [(li, .inr (0, [.int (iI (mc + 1)), .ref q, .int (iI 1)])), (q, .inl (cO, 10, .inr (.inr (.inr (.inr (va_up (fun _ => none) 0 (some v)))))))] ++ E) := by
  refine jj_start (cc := cJx4a65c_add_9ea2d) (nL := 2) (ret := (some .boolean)) (lv := [(0, .ref li), (1, .ref v)]) (fun A => jj_Qi _ _ _ _ _ _ A) (hEVZ es mi) (by decide) rfl (Nat.le_of_ble_eq_true rfl) rfl ?_
  intro p9 e9 s9 m9 a9 b9 me9 c9 A9 C1 hr hin
  have C0 : jj_C p9 s9 m9 a9 me9 c9 (dC, dI) vwCl A9 2 cJx4a65c_add_9ea2d "java/util/ArrayList" lw_U _ (EVZ es mi) := jj_toU C1
  have hw := C0.2.2.2.2.1
  have hE := C0.2.2.2.2.2.2.2.1
  refine jj_aload_n C0 0 rfl dJx4a65c_add_9ea2d_0 ?_
  refine jj_dup C0 dJx4a65c_add_9ea2d_1 rfl ?_
  refine jj_get C0 (ci := 0) (v := .int (iI mc)) hin_Jx4a65c (0) (rfl) rfl 0 (by decide) (hw _ hU_129) (fun x9 h9 => u_same (hw _ hU_130) x9 h9) rfl dJx4a65c_add_9ea2d_2 ?_
  refine jj_iconst C0 dJx4a65c_add_9ea2d_5 ?_
  refine jj_iadd C0 dJx4a65c_add_9ea2d_6 ?_
  refine jj_put C0 (ci := 0) (v := .int (iI (mc + 1))) (ty := .int) hin_Jx4a65c tyJx4a65c tyJx4a65c_ok nmJx4a65c (0) (rfl) rfl 0 (by decide) (hw _ hU_129) (fun x9 h9 => u_same (hw _ hU_130) x9 h9) rfl (by decide +kernel) (rfl) rfl (Nat.le_of_ble_eq_true rfl) (ws' := [(li, .inr (0, [.int (iI (mc + 1)), .ref es, .int (iI 0)]))] ++ E) (rfl) dJx4a65c_add_9ea2d_7 ?_
  refine jj_aload_n C0 0 rfl dJx4a65c_add_9ea2d_10 ?_
  refine jj_aload_n C0 1 rfl dJx4a65c_add_9ea2d_11 ?_
  refine jj_aload_n C0 0 rfl dJx4a65c_add_9ea2d_12 ?_
  refine jj_get C0 (ci := 0) (v := .ref es) hin_Jx4a65c (0) (rfl) rfl 1 (by decide) (hw _ hU_126) (fun _ h9 => h9) rfl dJx4a65c_add_9ea2d_13 ?_
  refine jj_aload_n C0 0 rfl dJx4a65c_add_9ea2d_16 ?_
  refine jj_get C0 (ci := 0) (v := .int (iI 0)) hin_Jx4a65c (0) (rfl) rfl 2 (by decide) (hw _ hU_127) (fun _ h9 => h9) rfl dJx4a65c_add_9ea2d_17 ?_
  refine jj_callVv C0 (c0_Jx4a65c_add_72be8  (li := li) (v := v) (es := es) (mc := (mc + 1)) (kv := kv) hv) (cwV 3 hw (lw_gV hU_425 hU_427 hU_13 hU_48 hU_428) rfl rfl rfl (by decide +kernel) ⟨Nat.le_of_ble_eq_true rfl, Nat.le_of_ble_eq_true rfl⟩) (ci := 0) (q0 := 0) rfl (rfl) rfl rfl (Nat.le_of_ble_eq_true rfl) ⟨by decide, by decide⟩ rfl rfl dJx4a65c_add_9ea2d_20 ?_
  intro q_1 hu
  show jj_W _ _ _ _ _ _ _ _ _ _ _ _ _ _ _ _ _ 23 _ [] ([(li, .inr (0, [.int (iI (mc + 1)), .ref q_1, .int (iI 1)])), (q_1, .inl (cO, 10, .inr (.inr (.inr (.inr (va_up (fun _ => none) 0 (some v)))))))] ++ E)
  refine jj_iconst C0 dJx4a65c_add_9ea2d_23 ?_
  exact jj_zret C0 hr q_1 (trivial) (rfl) (Or.inr rfl) (rfl) (by decide) (by decide) dJx4a65c_add_9ea2d_24
end CC18
