section CC7
def EVA (ed : Nat) (A : Nat → Prop) (U : State) (H : Heap) : Prop := EVh A U H ∧ va_Z "java/util/ArrayList" "DEFAULTCAPACITY_EMPTY_ELEMENTDATA" "[Ljava/lang/Object;" (.ref ed) A U H
theorem hEVA (ed : Nat) : jj_EV (EVA ed) := ⟨fun A U H H1 h hq => ⟨hEVh.1 A U H H1 h.1 hq, h.2.kept hq⟩, fun A B U H h hq => ⟨hEVh.2.1 A B U H h.1 hq, h.2.narrow hq⟩, fun A s U H hW h => ⟨hEVh.2.2.1 A s U H hW h.1, h.2.moved hW.alike⟩, fun A u U H hv h => ⟨hEVh.2.2.2 A u U H hv h.1, h.2.moved (by rw [hv]; exact Vm.Alike.refl U.vm)⟩⟩
theorem jj_gets {p : Program} {l : Launch} {e : Env} {R : Room} {s : State} {m : MethodId} {args : Array Value} {below : List Frame} {meth : Method} {c : Code} {D : va_G} {cl : List vw_C} {A : Nat → Prop} {nL cells slots : Nat} {Q : State → Prop} {cc : ByteArray} {pc : Nat} {rest : List Value} {lv : List (Nat × Value)} {ws : va_W} {own : String} {Ts : List Cond} {tys : List (ClassId × FieldType)} {EV : (Nat → Prop) → State → Heap → Prop} (C0 : jj_C p s m args meth c D cl A nL cc own Ts tys EV) {C n d : String} {v : Value} {index : Nat} (hZ : va_Z C n d v A s s.heap) (hlink : (Cond.fieldLink own index C n d).before args s = true) (hdg : decode cc pc = .ok (.getstatic index, 3)) (kk : jj_W p l e R s m args below meth c D cl A nL cells slots Q (pc + 3) lv (v :: rest) ws) : jj_W p l e R s m args below meth c D cl A nL cells slots Q pc lv rest ws :=
  fun H locs ls hP hD hS hl => va_gets C0.1 C0.2.1 hZ hS C0.2.2.2.1 hlink (fun _ h => h) hdg (kk H locs ls hP hD hS hl)
variable {EV : (Nat → Prop) → State → Heap → Prop} {l : Launch} {dC : Nat → ClassId} {dI : Nat → Nat → Nat} {cI cJ cZ cO : ClassId} {E : va_W} {a ed : Nat}
set_option maxHeartbeats 4000000 in
set_option maxRecDepth 100000 in
theorem cc_X1_init (hEV : jj_EV EV)   : jj_Mv EV (dC, dI) vwCl [(cI, .int), (cJ, .long), (cZ, .boolean), (cO, .object "java/lang/Object")] l yX1_init (Cond.code yX1_init cX1_init 1 none :: lw_U) ({ frames := 1, cells := 0, slots := 0, locals := 20 } : Room) [.ref a] ([(a, .inr (2, [.long (lI 0)]))] ++ E) (S := Unit)  (fun _ => True) (fun _ => [(a, .inr (2, [.long (lI 0)]))] ++ E) := by
  refine jj_start (cc := cX1_init) (nL := 1) (ret := none) (lv := [(0, .ref a)]) (fun A => jj_Qv _ _ _ _ _ A) hEV (by decide) rfl (Nat.le_of_ble_eq_true rfl) rfl ?_
  intro p9 e9 s9 m9 a9 b9 me9 c9 A9 C1 hr hin
  have C0 : jj_C p9 s9 m9 a9 me9 c9 (dC, dI) vwCl A9 1 cX1_init "Strikehall$Lottery" lw_U _ EV := jj_toU C1
  have hw := C0.2.2.2.2.1
  refine jj_aload_n C0 0 rfl dX1_init_0 ?_
  refine jj_objInit C0 (hw _ hU_106) (hw _ hU_68) (hw _ hU_69) (Nat.le_of_ble_eq_true rfl) (by decide) dX1_init_1 ?_
  refine jj_aload_n C0 0 rfl dX1_init_4 ?_
  refine jj_lconst C0 (z := 0) (by decide) dX1_init_5 ?_
  refine jj_put C0 (ci := 2) (v := .long (lI 0)) (ty := .long) hin_X1 tyX1 tyX1_ok nmX1 (0) (rfl) rfl 0 (by decide) (hw _ hU_107) (fun _ h9 => h9) rfl (by decide +kernel) (rfl) rfl (Nat.le_of_ble_eq_true rfl) (ws' := [(a, .inr (2, [.long (lI 0)]))] ++ E) (rfl) dX1_init_6 ?_
  exact jj_vret C0 hr () (trivial) (rfl) (by decide) (by decide) dX1_init_9
set_option maxHeartbeats 4000000 in
set_option maxRecDepth 100000 in
theorem cc_X2_init (hEV : jj_EV EV)   : jj_Mv EV (dC, dI) vwCl [(cI, .int), (cJ, .long), (cZ, .boolean), (cO, .object "java/lang/Object")] l yX2_init (Cond.code yX2_init cX2_init 1 none :: lw_U) ({ frames := 1, cells := 2, slots := 212, locals := 20 } : Room) [.ref a] ([(a, .inr (3, [.null, .null, .int (iI 0), .int (iI 0), .int (iI 0), .int (iI 0)]))] ++ E) (S := Nat × Nat)  (fun ⟨q1, q2⟩ => True) (fun ⟨q1, q2⟩ => [(a, .inr (3, [.ref q1, .ref q2, .int (iI 10000), .int (iI 10), .int (iI 10), .int (iI 0)])), (q1, .inl (cI, 201, .inl (iA (fun _ => 0)))), (q2, .inl (cJ, 11, .inr (.inl (lA (fun _ => 0)))))] ++ E) := by
  refine jj_start (cc := cX2_init) (nL := 1) (ret := none) (lv := [(0, .ref a)]) (fun A => jj_Qv _ _ _ _ _ A) hEV (by decide) rfl (Nat.le_of_ble_eq_true rfl) rfl ?_
  intro p9 e9 s9 m9 a9 b9 me9 c9 A9 C1 hr hin
  have C0 : jj_C p9 s9 m9 a9 me9 c9 (dC, dI) vwCl A9 1 cX2_init "Strikehall$Share" lw_U _ EV := jj_toU C1
  have hw := C0.2.2.2.2.1
  refine jj_aload_n C0 0 rfl dX2_init_0 ?_
  refine jj_objInit C0 (hw _ hU_75) (hw _ hU_68) (hw _ hU_69) (Nat.le_of_ble_eq_true rfl) (by decide) dX2_init_1 ?_
  refine jj_aload_n C0 0 rfl dX2_init_4 ?_
  refine jj_sipush C0 dX2_init_5 (by decide) ?_
  refine jj_newI C0 (N := 201) (t0 := 0) (by decide) (by decide) rfl (hw _ hU_99) (by decide) (by decide) dX2_init_8 ?_
  intro q1
  show jj_W _ _ _ _ _ _ _ _ _ _ _ _ _ _ _ _ _ 10 _ [.ref q1, .ref a] ([(a, .inr (3, [.null, .null, .int (iI 0), .int (iI 0), .int (iI 0), .int (iI 0)])), (q1, .inl (cI, 201, .inl (iA (fun _ => 0))))] ++ E)
  refine jj_putF C0 (ci := 3) (v := .ref q1) (ty := (.array .int)) hin_X2 tyX2 tyX2_ok nmX2 (0) (rfl) rfl 0 (by decide) (hw _ hU_76) (fun _ h9 => h9) rfl hin rfl (by decide +kernel) (rfl) rfl (Nat.le_of_ble_eq_true rfl) (ws' := [(a, .inr (3, [.ref q1, .null, .int (iI 0), .int (iI 0), .int (iI 0), .int (iI 0)])), (q1, .inl (cI, 201, .inl (iA (fun _ => 0))))] ++ E) (rfl) dX2_init_10 ?_
  refine jj_aload_n C0 0 rfl dX2_init_13 ?_
  refine jj_bipush C0 dX2_init_14 (by decide) ?_
  refine jj_newJ C0 (N := 11) (t0 := 1) (by decide) (by decide) rfl (hw _ hU_100) (by decide) (by decide) dX2_init_16 ?_
  intro q2
  show jj_W _ _ _ _ _ _ _ _ _ _ _ _ _ _ _ _ _ 18 _ [.ref q2, .ref a] ([(a, .inr (3, [.ref q1, .null, .int (iI 0), .int (iI 0), .int (iI 0), .int (iI 0)])), (q1, .inl (cI, 201, .inl (iA (fun _ => 0)))), (q2, .inl (cJ, 11, .inr (.inl (lA (fun _ => 0)))))] ++ E)
  refine jj_putF C0 (ci := 3) (v := .ref q2) (ty := (.array .long)) hin_X2 tyX2 tyX2_ok nmX2 (0) (rfl) rfl 1 (by decide) (hw _ hU_77) (fun _ h9 => h9) rfl hin rfl (by decide +kernel) (rfl) rfl (Nat.le_of_ble_eq_true rfl) (ws' := [(a, .inr (3, [.ref q1, .ref q2, .int (iI 0), .int (iI 0), .int (iI 0), .int (iI 0)])), (q1, .inl (cI, 201, .inl (iA (fun _ => 0)))), (q2, .inl (cJ, 11, .inr (.inl (lA (fun _ => 0)))))] ++ E) (rfl) dX2_init_18 ?_
  refine jj_aload_n C0 0 rfl dX2_init_21 ?_
  refine jj_sipush C0 dX2_init_22 (by decide) ?_
  refine jj_put C0 (ci := 3) (v := .int (iI 10000)) (ty := .int) hin_X2 tyX2 tyX2_ok nmX2 (0) (rfl) rfl 2 (by decide) (hw _ hU_78) (fun _ h9 => h9) rfl (by decide +kernel) (rfl) rfl (Nat.le_of_ble_eq_true rfl) (ws' := [(a, .inr (3, [.ref q1, .ref q2, .int (iI 10000), .int (iI 0), .int (iI 0), .int (iI 0)])), (q1, .inl (cI, 201, .inl (iA (fun _ => 0)))), (q2, .inl (cJ, 11, .inr (.inl (lA (fun _ => 0)))))] ++ E) (rfl) dX2_init_25 ?_
  refine jj_aload_n C0 0 rfl dX2_init_28 ?_
  refine jj_bipush C0 dX2_init_29 (by decide) ?_
  refine jj_put C0 (ci := 3) (v := .int (iI 10)) (ty := .int) hin_X2 tyX2 tyX2_ok nmX2 (0) (rfl) rfl 3 (by decide) (hw _ hU_80) (fun _ h9 => h9) rfl (by decide +kernel) (rfl) rfl (Nat.le_of_ble_eq_true rfl) (ws' := [(a, .inr (3, [.ref q1, .ref q2, .int (iI 10000), .int (iI 10), .int (iI 0), .int (iI 0)])), (q1, .inl (cI, 201, .inl (iA (fun _ => 0)))), (q2, .inl (cJ, 11, .inr (.inl (lA (fun _ => 0)))))] ++ E) (rfl) dX2_init_31 ?_
  refine jj_aload_n C0 0 rfl dX2_init_34 ?_
  refine jj_bipush C0 dX2_init_35 (by decide) ?_
  refine jj_put C0 (ci := 3) (v := .int (iI 10)) (ty := .int) hin_X2 tyX2 tyX2_ok nmX2 (0) (rfl) rfl 4 (by decide) (hw _ hU_82) (fun _ h9 => h9) rfl (by decide +kernel) (rfl) rfl (Nat.le_of_ble_eq_true rfl) (ws' := [(a, .inr (3, [.ref q1, .ref q2, .int (iI 10000), .int (iI 10), .int (iI 10), .int (iI 0)])), (q1, .inl (cI, 201, .inl (iA (fun _ => 0)))), (q2, .inl (cJ, 11, .inr (.inl (lA (fun _ => 0)))))] ++ E) (rfl) dX2_init_37 ?_
  refine jj_aload_n C0 0 rfl dX2_init_40 ?_
  refine jj_iconst C0 dX2_init_41 ?_
  refine jj_put C0 (ci := 3) (v := .int (iI 0)) (ty := .int) hin_X2 tyX2 tyX2_ok nmX2 (0) (rfl) rfl 5 (by decide) (hw _ hU_84) (fun _ h9 => h9) rfl (by decide +kernel) (rfl) rfl (Nat.le_of_ble_eq_true rfl) (ws' := [(a, .inr (3, [.ref q1, .ref q2, .int (iI 10000), .int (iI 10), .int (iI 10), .int (iI 0)])), (q1, .inl (cI, 201, .inl (iA (fun _ => 0)))), (q2, .inl (cJ, 11, .inr (.inl (lA (fun _ => 0)))))] ++ E) (rfl) dX2_init_42 ?_
  exact jj_vret C0 hr (q1, q2) (trivial) (rfl) (by decide) (by decide) dX2_init_45
set_option maxHeartbeats 4000000 in
set_option maxRecDepth 100000 in
theorem cc_Jxa1e45_init_da8c8 (hEV : jj_EV EV)   : jj_Mv EV (dC, dI) vwCl [(cI, .int), (cJ, .long), (cZ, .boolean), (cO, .object "java/lang/Object")] l yJxa1e45_init_da8c8 (Cond.code yJxa1e45_init_da8c8 cJxa1e45_init_da8c8 1 none :: lw_U) ({ frames := 1, cells := 0, slots := 0, locals := 20 } : Room) [.ref a] ([(a, .inr (0, [.int (iI 0), .null, .int (iI 0)]))] ++ E) (S := Unit)  (fun _ => True) (fun _ => [(a, .inr (0, [.int (iI 0), .null, .int (iI 0)]))] ++ E) := by
  refine jj_start (cc := cJxa1e45_init_da8c8) (nL := 1) (ret := none) (lv := [(0, .ref a)]) (fun A => jj_Qv _ _ _ _ _ A) hEV (by decide) rfl (Nat.le_of_ble_eq_true rfl) rfl ?_
  intro p9 e9 s9 m9 a9 b9 me9 c9 A9 C1 hr hin
  have C0 : jj_C p9 s9 m9 a9 me9 c9 (dC, dI) vwCl A9 1 cJxa1e45_init_da8c8 "java/util/AbstractCollection" lw_U _ EV := jj_toU C1
  have hw := C0.2.2.2.2.1
  refine jj_aload_n C0 0 rfl dJxa1e45_init_da8c8_0 ?_
  refine jj_objInit C0 (hw _ hU_123) (hw _ hU_68) (hw _ hU_69) (Nat.le_of_ble_eq_true rfl) (by decide) dJxa1e45_init_da8c8_1 ?_
  exact jj_vret C0 hr () (trivial) (rfl) (by decide) (by decide) dJxa1e45_init_da8c8_4
set_option maxHeartbeats 4000000 in
set_option maxRecDepth 100000 in
theorem cc_Jxc12de_init_da8c8 (hEV : jj_EV EV)   : jj_Mv EV (dC, dI) vwCl [(cI, .int), (cJ, .long), (cZ, .boolean), (cO, .object "java/lang/Object")] l yJxc12de_init_da8c8 (Cond.code yJxc12de_init_da8c8 cJxc12de_init_da8c8 1 none :: lw_U) ({ frames := 2, cells := 0, slots := 0, locals := 40 } : Room) [.ref a] ([(a, .inr (0, [.int (iI 0), .null, .int (iI 0)]))] ++ E) (S := Unit)  (fun _ => True) (fun _ => [(a, .inr (0, [.int (iI 0), .null, .int (iI 0)]))] ++ E) := by
  refine jj_start (cc := cJxc12de_init_da8c8) (nL := 1) (ret := none) (lv := [(0, .ref a)]) (fun A => jj_Qv _ _ _ _ _ A) hEV (by decide) rfl (Nat.le_of_ble_eq_true rfl) rfl ?_
  intro p9 e9 s9 m9 a9 b9 me9 c9 A9 C1 hr hin
  have C0 : jj_C p9 s9 m9 a9 me9 c9 (dC, dI) vwCl A9 1 cJxc12de_init_da8c8 "java/util/AbstractList" lw_U _ EV := jj_toU C1
  have hw := C0.2.2.2.2.1
  refine jj_aload_n C0 0 rfl dJxc12de_init_da8c8_0 ?_
  refine jj_callI C0 (cc_Jxa1e45_init_da8c8 hEV (a := a) (E := E) ) (cwI 0 hw (lw_gc hU_122 lw_UU) rfl rfl rfl (hw _ hU_46) (hw _ hU_120) (hw _ hU_121) rfl (by decide +kernel) ⟨Nat.le_of_ble_eq_true rfl, Nat.le_of_ble_eq_true rfl⟩) rfl rfl (Nat.le_of_ble_eq_true rfl) ⟨by decide, by decide⟩ rfl rfl dJxc12de_init_da8c8_1 ?_
  intro u hu
  show jj_W _ _ _ _ _ _ _ _ _ _ _ _ _ _ _ _ _ 4 _ [] ([(a, .inr (0, [.int (iI 0), .null, .int (iI 0)]))] ++ E)
  refine jj_aload_n C0 0 rfl dJxc12de_init_da8c8_4 ?_
  refine jj_iconst C0 dJxc12de_init_da8c8_5 ?_
  refine jj_put C0 (ci := 0) (v := .int (iI 0)) (ty := .int) hin_Jx4a65c tyJx4a65c tyJx4a65c_ok nmJx4a65c (0) (rfl) rfl 0 (by decide) (hw _ hU_128) (fun _ h9 => h9) rfl (by decide +kernel) (rfl) rfl (Nat.le_of_ble_eq_true rfl) (ws' := [(a, .inr (0, [.int (iI 0), .null, .int (iI 0)]))] ++ E) (rfl) dJxc12de_init_da8c8_6 ?_
  exact jj_vret C0 hr () (trivial) (rfl) (by decide) (by decide) dJxc12de_init_da8c8_9
set_option maxHeartbeats 4000000 in
set_option maxRecDepth 100000 in
theorem cc_Jx4a65c_init_da8c8    : jj_Mv (EVA ed) (dC, dI) vwCl [(cI, .int), (cJ, .long), (cZ, .boolean), (cO, .object "java/lang/Object")] l yJx4a65c_init_da8c8 (Cond.code yJx4a65c_init_da8c8 cJx4a65c_init_da8c8 1 none :: lw_U) ({ frames := 3, cells := 0, slots := 0, locals := 60 } : Room) [.ref a] ([(a, .inr (0, [.int (iI 0), .null, .int (iI 0)]))] ++ E) (S := Unit)  (fun _ => True) (fun _ => [(a, .inr (0, [.int (iI 0), .ref ed, .int (iI 0)]))] ++ E) := by
  refine jj_start (cc := cJx4a65c_init_da8c8) (nL := 1) (ret := none) (lv := [(0, .ref a)]) (fun A => jj_Qv _ _ _ _ _ A) (hEVA ed) (by decide) rfl (Nat.le_of_ble_eq_true rfl) rfl ?_
  intro p9 e9 s9 m9 a9 b9 me9 c9 A9 C1 hr hin
  have C0 : jj_C p9 s9 m9 a9 me9 c9 (dC, dI) vwCl A9 1 cJx4a65c_init_da8c8 "java/util/ArrayList" lw_U _ (EVA ed) := jj_toU C1
  have hw := C0.2.2.2.2.1
  have hE := C0.2.2.2.2.2.2.2.1
  refine jj_aload_n C0 0 rfl dJx4a65c_init_da8c8_0 ?_
  refine jj_callI C0 (cc_Jxc12de_init_da8c8 (hEVA ed) (a := a) (E := E) ) (cwI 0 hw (lw_gc hU_119 lw_UU) rfl rfl rfl (hw _ hU_47) (hw _ hU_117) (hw _ hU_118) rfl (by decide +kernel) ⟨Nat.le_of_ble_eq_true rfl, Nat.le_of_ble_eq_true rfl⟩) rfl rfl (Nat.le_of_ble_eq_true rfl) ⟨by decide, by decide⟩ rfl rfl dJx4a65c_init_da8c8_1 ?_
  intro u hu
  show jj_W _ _ _ _ _ _ _ _ _ _ _ _ _ _ _ _ _ 4 _ [] ([(a, .inr (0, [.int (iI 0), .null, .int (iI 0)]))] ++ E)
  refine jj_aload_n C0 0 rfl dJx4a65c_init_da8c8_4 ?_
  refine jj_gets C0 hE.2 (hw _ hU_124) dJx4a65c_init_da8c8_5 ?_
  refine jj_put C0 (ci := 0) (v := .ref ed) (ty := (.array (.object "java/lang/Object"))) hin_Jx4a65c tyJx4a65c tyJx4a65c_ok nmJx4a65c (0) (rfl) rfl 1 (by decide) (hw _ hU_126) (fun _ h9 => h9) rfl (by decide +kernel) (rfl) rfl (Nat.le_of_ble_eq_true rfl) (ws' := [(a, .inr (0, [.int (iI 0), .ref ed, .int (iI 0)]))] ++ E) (rfl) dJx4a65c_init_da8c8_8 ?_
  exact jj_vret C0 hr () (trivial) (rfl) (by decide) (by decide) dJx4a65c_init_da8c8_11
set_option maxHeartbeats 4000000 in
set_option maxRecDepth 100000 in
theorem cc_X0_init (hEV : jj_EV EV) {k st ex am : Int} (ham : am = 0 ∨ am = 1) : jj_Mv EV (dC, dI) vwCl [(cI, .int), (cJ, .long), (cZ, .boolean), (cO, .object "java/lang/Object")] l yX0_init (Cond.code yX0_init cX0_init 5 none :: lw_U) ({ frames := 1, cells := 2, slots := 14, locals := 20 } : Room) [.ref a, .int (iI k), .int (iI st), .int (iI ex), .int (iI am)] ([(a, .inr (1, [.int (iI 0), .int (iI 0), .int (iI 0), .int (iI 0), .null, .null, .int (iI 0), .int (iI 0), .int (iI 0), .int (iI 0)]))] ++ E) (S := Nat × Nat)  (fun ⟨q1, q2⟩ => True) (fun ⟨q1, q2⟩ => [(a, .inr (1, [.int (iI k), .int (iI st), .int (iI ex), .int (iI am), .ref q1, .ref q2, .int (iI 0), .int (iI 0), .int (iI 0), .int (iI 0)])), (q1, .inl (cI, 7, .inl (iA (fun _ => 0)))), (q2, .inl (cZ, 7, .inl (iA (fun _ => 0))))] ++ E) := by
  refine jj_start (cc := cX0_init) (nL := 5) (ret := none) (lv := [(0, .ref a), (1, .int (iI k)), (2, .int (iI st)), (3, .int (iI ex)), (4, .int (iI am))]) (fun A => jj_Qv _ _ _ _ _ A) hEV (by decide) rfl (Nat.le_of_ble_eq_true rfl) rfl ?_
  intro p9 e9 s9 m9 a9 b9 me9 c9 A9 C1 hr hin
  have C0 : jj_C p9 s9 m9 a9 me9 c9 (dC, dI) vwCl A9 5 cX0_init "Strikehall$Contract" lw_U _ EV := jj_toU C1
  have hw := C0.2.2.2.2.1
  refine jj_aload_n C0 0 rfl dX0_init_0 ?_
  refine jj_objInit C0 (hw _ hU_378) (hw _ hU_68) (hw _ hU_69) (Nat.le_of_ble_eq_true rfl) (by decide) dX0_init_1 ?_
  refine jj_aload_n C0 0 rfl dX0_init_4 ?_
  refine jj_bipush C0 dX0_init_5 (by decide) ?_
  refine jj_newI C0 (N := 7) (t0 := 0) (by decide) (by decide) rfl (hw _ hU_99) (by decide) (by decide) dX0_init_7 ?_
  intro q1
  show jj_W _ _ _ _ _ _ _ _ _ _ _ _ _ _ _ _ _ 9 _ [.ref q1, .ref a] ([(a, .inr (1, [.int (iI 0), .int (iI 0), .int (iI 0), .int (iI 0), .null, .null, .int (iI 0), .int (iI 0), .int (iI 0), .int (iI 0)])), (q1, .inl (cI, 7, .inl (iA (fun _ => 0))))] ++ E)
  refine jj_putF C0 (ci := 1) (v := .ref q1) (ty := (.array .int)) hin_X0 tyX0 tyX0_ok nmX0 (0) (rfl) rfl 4 (by decide) (hw _ hU_389) (fun _ h9 => h9) rfl hin rfl (by decide +kernel) (rfl) rfl (Nat.le_of_ble_eq_true rfl) (ws' := [(a, .inr (1, [.int (iI 0), .int (iI 0), .int (iI 0), .int (iI 0), .ref q1, .null, .int (iI 0), .int (iI 0), .int (iI 0), .int (iI 0)])), (q1, .inl (cI, 7, .inl (iA (fun _ => 0))))] ++ E) (rfl) dX0_init_9 ?_
  refine jj_aload_n C0 0 rfl dX0_init_12 ?_
  refine jj_bipush C0 dX0_init_13 (by decide) ?_
  refine jj_newZ C0 (N := 7) (t0 := 2) (by decide) (by decide) rfl (hw _ hU_420) (by decide) (by decide) dX0_init_15 ?_
  intro q2
  show jj_W _ _ _ _ _ _ _ _ _ _ _ _ _ _ _ _ _ 17 _ [.ref q2, .ref a] ([(a, .inr (1, [.int (iI 0), .int (iI 0), .int (iI 0), .int (iI 0), .ref q1, .null, .int (iI 0), .int (iI 0), .int (iI 0), .int (iI 0)])), (q1, .inl (cI, 7, .inl (iA (fun _ => 0)))), (q2, .inl (cZ, 7, .inl (iA (fun _ => 0))))] ++ E)
  refine jj_putF C0 (ci := 1) (v := .ref q2) (ty := (.array .boolean)) hin_X0 tyX0 tyX0_ok nmX0 (0) (rfl) rfl 5 (by decide) (hw _ hU_390) (fun _ h9 => h9) rfl hin rfl (by decide +kernel) (rfl) rfl (Nat.le_of_ble_eq_true rfl) (ws' := [(a, .inr (1, [.int (iI 0), .int (iI 0), .int (iI 0), .int (iI 0), .ref q1, .ref q2, .int (iI 0), .int (iI 0), .int (iI 0), .int (iI 0)])), (q1, .inl (cI, 7, .inl (iA (fun _ => 0)))), (q2, .inl (cZ, 7, .inl (iA (fun _ => 0))))] ++ E) (rfl) dX0_init_17 ?_
  refine jj_aload_n C0 0 rfl dX0_init_20 ?_
  refine jj_iconst C0 dX0_init_21 ?_
  refine jj_put C0 (ci := 1) (v := .int (iI 0)) (ty := .int) hin_X0 tyX0 tyX0_ok nmX0 (0) (rfl) rfl 6 (by decide) (hw _ hU_391) (fun _ h9 => h9) rfl (by decide +kernel) (rfl) rfl (Nat.le_of_ble_eq_true rfl) (ws' := [(a, .inr (1, [.int (iI 0), .int (iI 0), .int (iI 0), .int (iI 0), .ref q1, .ref q2, .int (iI 0), .int (iI 0), .int (iI 0), .int (iI 0)])), (q1, .inl (cI, 7, .inl (iA (fun _ => 0)))), (q2, .inl (cZ, 7, .inl (iA (fun _ => 0))))] ++ E) (rfl) dX0_init_22 ?_
  refine jj_aload_n C0 0 rfl dX0_init_25 ?_
  refine jj_iconst C0 dX0_init_26 ?_
  refine jj_put C0 (ci := 1) (v := .int (iI 0)) (ty := .int) hin_X0 tyX0 tyX0_ok nmX0 (0) (rfl) rfl 7 (by decide) (hw _ hU_393) (fun _ h9 => h9) rfl (by decide +kernel) (rfl) rfl (Nat.le_of_ble_eq_true rfl) (ws' := [(a, .inr (1, [.int (iI 0), .int (iI 0), .int (iI 0), .int (iI 0), .ref q1, .ref q2, .int (iI 0), .int (iI 0), .int (iI 0), .int (iI 0)])), (q1, .inl (cI, 7, .inl (iA (fun _ => 0)))), (q2, .inl (cZ, 7, .inl (iA (fun _ => 0))))] ++ E) (rfl) dX0_init_27 ?_
  refine jj_aload_n C0 0 rfl dX0_init_30 ?_
  refine jj_iconst C0 dX0_init_31 ?_
  refine jj_put C0 (ci := 1) (v := .int (iI 0)) (ty := .int) hin_X0 tyX0 tyX0_ok nmX0 (0) (rfl) rfl 8 (by decide) (hw _ hU_395) (fun _ h9 => h9) rfl (by decide +kernel) (rfl) rfl (Nat.le_of_ble_eq_true rfl) (ws' := [(a, .inr (1, [.int (iI 0), .int (iI 0), .int (iI 0), .int (iI 0), .ref q1, .ref q2, .int (iI 0), .int (iI 0), .int (iI 0), .int (iI 0)])), (q1, .inl (cI, 7, .inl (iA (fun _ => 0)))), (q2, .inl (cZ, 7, .inl (iA (fun _ => 0))))] ++ E) (rfl) dX0_init_32 ?_
  refine jj_aload_n C0 0 rfl dX0_init_35 ?_
  refine jj_iconst C0 dX0_init_36 ?_
  refine jj_put C0 (ci := 1) (v := .int (iI 0)) (ty := .int) hin_X0 tyX0 tyX0_ok nmX0 (0) (rfl) rfl 9 (by decide) (hw _ hU_397) (fun _ h9 => h9) rfl (by decide +kernel) (rfl) rfl (Nat.le_of_ble_eq_true rfl) (ws' := [(a, .inr (1, [.int (iI 0), .int (iI 0), .int (iI 0), .int (iI 0), .ref q1, .ref q2, .int (iI 0), .int (iI 0), .int (iI 0), .int (iI 0)])), (q1, .inl (cI, 7, .inl (iA (fun _ => 0)))), (q2, .inl (cZ, 7, .inl (iA (fun _ => 0))))] ++ E) (rfl) dX0_init_37 ?_
  refine jj_aload_n C0 0 rfl dX0_init_40 ?_
  refine jj_iload_n C0 1 rfl dX0_init_41 ?_
  refine jj_putF C0 (ci := 1) (v := .int (iI k)) (ty := .int) hin_X0 tyX0 tyX0_ok nmX0 (0) (rfl) rfl 0 (by decide) (hw _ hU_379) (fun _ h9 => h9) rfl hin rfl (by decide +kernel) (rfl) rfl (Nat.le_of_ble_eq_true rfl) (ws' := [(a, .inr (1, [.int (iI k), .int (iI 0), .int (iI 0), .int (iI 0), .ref q1, .ref q2, .int (iI 0), .int (iI 0), .int (iI 0), .int (iI 0)])), (q1, .inl (cI, 7, .inl (iA (fun _ => 0)))), (q2, .inl (cZ, 7, .inl (iA (fun _ => 0))))] ++ E) (rfl) dX0_init_42 ?_
  refine jj_aload_n C0 0 rfl dX0_init_45 ?_
  refine jj_iload_n C0 2 rfl dX0_init_46 ?_
  refine jj_putF C0 (ci := 1) (v := .int (iI st)) (ty := .int) hin_X0 tyX0 tyX0_ok nmX0 (0) (rfl) rfl 1 (by decide) (hw _ hU_381) (fun _ h9 => h9) rfl hin rfl (by decide +kernel) (rfl) rfl (Nat.le_of_ble_eq_true rfl) (ws' := [(a, .inr (1, [.int (iI k), .int (iI st), .int (iI 0), .int (iI 0), .ref q1, .ref q2, .int (iI 0), .int (iI 0), .int (iI 0), .int (iI 0)])), (q1, .inl (cI, 7, .inl (iA (fun _ => 0)))), (q2, .inl (cZ, 7, .inl (iA (fun _ => 0))))] ++ E) (rfl) dX0_init_47 ?_
  refine jj_aload_n C0 0 rfl dX0_init_50 ?_
  refine jj_iload_n C0 3 rfl dX0_init_51 ?_
  refine jj_putF C0 (ci := 1) (v := .int (iI ex)) (ty := .int) hin_X0 tyX0 tyX0_ok nmX0 (0) (rfl) rfl 2 (by decide) (hw _ hU_383) (fun _ h9 => h9) rfl hin rfl (by decide +kernel) (rfl) rfl (Nat.le_of_ble_eq_true rfl) (ws' := [(a, .inr (1, [.int (iI k), .int (iI st), .int (iI ex), .int (iI 0), .ref q1, .ref q2, .int (iI 0), .int (iI 0), .int (iI 0), .int (iI 0)])), (q1, .inl (cI, 7, .inl (iA (fun _ => 0)))), (q2, .inl (cZ, 7, .inl (iA (fun _ => 0))))] ++ E) (rfl) dX0_init_52 ?_
  refine jj_aload_n C0 0 rfl dX0_init_55 ?_
  refine jj_iload C0 4 rfl dX0_init_56 ?_
  refine jj_putF C0 (ci := 1) (v := .int (iI am)) (ty := .boolean) hin_X0 tyX0 tyX0_ok nmX0 (0) (rfl) rfl 3 (by decide) (hw _ hU_386) (fun _ h9 => h9) rfl hin rfl (by decide +kernel) (iI_narrow (by omega)) (by rcases ham with rfl | rfl <;> decide) (Nat.le_of_ble_eq_true rfl) (ws' := [(a, .inr (1, [.int (iI k), .int (iI st), .int (iI ex), .int (iI am), .ref q1, .ref q2, .int (iI 0), .int (iI 0), .int (iI 0), .int (iI 0)])), (q1, .inl (cI, 7, .inl (iA (fun _ => 0)))), (q2, .inl (cZ, 7, .inl (iA (fun _ => 0))))] ++ E) (rfl) dX0_init_58 ?_
  exact jj_vret C0 hr (q1, q2) (trivial) (rfl) (by decide) (by decide) dX0_init_61
set_option maxHeartbeats 4000000 in
set_option maxRecDepth 100000 in
theorem cc_X3_init    : jj_Mv (EVA ed) (dC, dI) vwCl [(cI, .int), (cJ, .long), (cZ, .boolean), (cO, .object "java/lang/Object")] l yX3_init (Cond.code yX3_init cX3_init 1 none :: lw_U) ({ frames := 4, cells := 7, slots := 235, locals := 80 } : Room) [.ref a] ([(a, .inr (4, [.null, .null, .null, .null, .null, .int (iI 0), .int (iI 0), .int (iI 0)]))] ++ E) (S := Nat × Nat × Nat × Nat × Nat × Nat × Nat)  (fun ⟨q1, q1_2, q2_2, q3, q5, q7, q8⟩ => True) (fun ⟨q1, q1_2, q2_2, q3, q5, q7, q8⟩ => [(a, .inr (4, [.ref q1, .ref q3, .ref q5, .ref q7, .ref q8, .int (iI 100), .int (iI 0), .int (iI 500)])), (q1, .inr (3, [.ref q1_2, .ref q2_2, .int (iI 10000), .int (iI 10), .int (iI 10), .int (iI 0)])), (q1_2, .inl (cI, 201, .inl (iA (fun _ => 0)))), (q2_2, .inl (cJ, 11, .inr (.inl (lA (fun _ => 0))))), (q3, .inr (2, [.long (lI 0)])), (q5, .inr (0, [.int (iI 0), .ref ed, .int (iI 0)])), (q7, .inl (cJ, 7, .inr (.inl (lA (fun _ => 0))))), (q8, .inl (cJ, 6, .inr (.inl (lA (fun _ => 0)))))] ++ E) := by
  refine jj_start (cc := cX3_init) (nL := 1) (ret := none) (lv := [(0, .ref a)]) (fun A => jj_Qv _ _ _ _ _ A) (hEVA ed) (by decide) rfl (Nat.le_of_ble_eq_true rfl) rfl ?_
  intro p9 e9 s9 m9 a9 b9 me9 c9 A9 C1 hr hin
  have C0 : jj_C p9 s9 m9 a9 me9 c9 (dC, dI) vwCl A9 1 cX3_init "Strikehall" lw_U _ (EVA ed) := jj_toU C1
  have hw := C0.2.2.2.2.1
  have hE := C0.2.2.2.2.2.2.2.1
  refine jj_aload_n C0 0 rfl dX3_init_0 ?_
  refine jj_objInit C0 (hw _ hU_67) (hw _ hU_68) (hw _ hU_69) (Nat.le_of_ble_eq_true rfl) (by decide) dX3_init_1 ?_
  refine jj_aload_n C0 0 rfl dX3_init_4 ?_
  refine jj_new C0 (ci := 3) (fs := [.null, .null, .int (iI 0), .int (iI 0), .int (iI 0), .int (iI 0)]) hin_X2 tyX2 tyX2_ok (hw _ hU_70) (hw _ hU_71) (hw _ hU_44) rfl (fun j hj => match j, hj with | 0, _ => rfl | 1, _ => rfl | 2, _ => rfl | 3, _ => rfl | 4, _ => rfl | 5, _ => rfl | j + 6, h9 => absurd h9 (by omega)) (by decide) (by decide) dX3_init_5 ?_
  intro q1
  show jj_W _ _ _ _ _ _ _ _ _ _ _ _ _ _ _ _ _ 8 _ [.ref q1, .ref a] ([(a, .inr (4, [.null, .null, .null, .null, .null, .int (iI 0), .int (iI 0), .int (iI 0)])), (q1, .inr (3, [.null, .null, .int (iI 0), .int (iI 0), .int (iI 0), .int (iI 0)]))] ++ E)
  refine jj_dup C0 dX3_init_8 rfl ?_
  refine jj_part (Y := [(q1, .inr (3, [.null, .null, .int (iI 0), .int (iI 0), .int (iI 0), .int (iI 0)])), (a, .inr (4, [.null, .null, .null, .null, .null, .int (iI 0), .int (iI 0), .int (iI 0)]))]) [1, 0] rfl rfl ?_
  refine jj_ws (ws' := [(q1, .inr (3, [.null, .null, .int (iI 0), .int (iI 0), .int (iI 0), .int (iI 0)]))] ++ ([(a, .inr (4, [.null, .null, .null, .null, .null, .int (iI 0), .int (iI 0), .int (iI 0)]))] ++ E)) rfl ?_
  refine jj_callIN C0 (cc_X2_init (hEVA ed) (a := q1) (E := ([(a, .inr (4, [.null, .null, .null, .null, .null, .int (iI 0), .int (iI 0), .int (iI 0)]))] ++ E)) ) ⟨va_cnB 0 hw (lw_gc hU_74 lw_UU) rfl rfl rfl (hE.1.1 _ hN_72) (hw _ hU_44) (by decide +kernel) ⟨Nat.le_of_ble_eq_true rfl, Nat.le_of_ble_eq_true rfl⟩, rfl, (hw _ hU_73)⟩ rfl rfl (Nat.le_of_ble_eq_true rfl) ⟨by decide, by decide⟩ rfl rfl dX3_init_9 ?_
  intro u hu
  obtain ⟨q1_2, q2_2⟩ := u
  show jj_W _ _ _ _ _ _ _ _ _ _ _ _ _ _ _ _ _ 12 _ [.ref q1, .ref a] ([(q1, .inr (3, [.ref q1_2, .ref q2_2, .int (iI 10000), .int (iI 10), .int (iI 10), .int (iI 0)])), (q1_2, .inl (cI, 201, .inl (iA (fun _ => 0)))), (q2_2, .inl (cJ, 11, .inr (.inl (lA (fun _ => 0))))), (a, .inr (4, [.null, .null, .null, .null, .null, .int (iI 0), .int (iI 0), .int (iI 0)]))] ++ E)
  refine jj_part (Y := [(a, .inr (4, [.null, .null, .null, .null, .null, .int (iI 0), .int (iI 0), .int (iI 0)])), (q1, .inr (3, [.ref q1_2, .ref q2_2, .int (iI 10000), .int (iI 10), .int (iI 10), .int (iI 0)])), (q1_2, .inl (cI, 201, .inl (iA (fun _ => 0)))), (q2_2, .inl (cJ, 11, .inr (.inl (lA (fun _ => 0)))))]) [3, 0, 1, 2] rfl rfl ?_
  refine jj_putF C0 (ci := 4) (v := .ref q1) (ty := (.object "Strikehall$Share")) hin_X3 tyX3 tyX3_ok nmX3 (0) (rfl) rfl 0 (by decide) (hw _ hU_138) (fun _ h9 => h9) rfl hin rfl (by decide +kernel) (rfl) rfl (Nat.le_of_ble_eq_true rfl) (ws' := [(a, .inr (4, [.ref q1, .null, .null, .null, .null, .int (iI 0), .int (iI 0), .int (iI 0)])), (q1, .inr (3, [.ref q1_2, .ref q2_2, .int (iI 10000), .int (iI 10), .int (iI 10), .int (iI 0)])), (q1_2, .inl (cI, 201, .inl (iA (fun _ => 0)))), (q2_2, .inl (cJ, 11, .inr (.inl (lA (fun _ => 0)))))] ++ E) (rfl) dX3_init_12 ?_
  refine jj_aload_n C0 0 rfl dX3_init_15 ?_
  refine jj_new C0 (ci := 2) (fs := [.long (lI 0)]) hin_X1 tyX1 tyX1_ok (hw _ hU_101) (hw _ hU_102) (hw _ hU_45) rfl (fun j hj => match j, hj with | 0, _ => rfl | j + 1, h9 => absurd h9 (by omega)) (by decide) (by decide) dX3_init_16 ?_
  intro q3
  show jj_W _ _ _ _ _ _ _ _ _ _ _ _ _ _ _ _ _ 19 _ [.ref q3, .ref a] ([(a, .inr (4, [.ref q1, .null, .null, .null, .null, .int (iI 0), .int (iI 0), .int (iI 0)])), (q1, .inr (3, [.ref q1_2, .ref q2_2, .int (iI 10000), .int (iI 10), .int (iI 10), .int (iI 0)])), (q1_2, .inl (cI, 201, .inl (iA (fun _ => 0)))), (q2_2, .inl (cJ, 11, .inr (.inl (lA (fun _ => 0))))), (q3, .inr (2, [.long (lI 0)]))] ++ E)
  refine jj_dup C0 dX3_init_19 rfl ?_
  refine jj_part (Y := [(q3, .inr (2, [.long (lI 0)])), (a, .inr (4, [.ref q1, .null, .null, .null, .null, .int (iI 0), .int (iI 0), .int (iI 0)])), (q1, .inr (3, [.ref q1_2, .ref q2_2, .int (iI 10000), .int (iI 10), .int (iI 10), .int (iI 0)])), (q1_2, .inl (cI, 201, .inl (iA (fun _ => 0)))), (q2_2, .inl (cJ, 11, .inr (.inl (lA (fun _ => 0)))))]) [4, 0, 1, 2, 3] rfl rfl ?_
  refine jj_ws (ws' := [(q3, .inr (2, [.long (lI 0)]))] ++ ([(a, .inr (4, [.ref q1, .null, .null, .null, .null, .int (iI 0), .int (iI 0), .int (iI 0)])), (q1, .inr (3, [.ref q1_2, .ref q2_2, .int (iI 10000), .int (iI 10), .int (iI 10), .int (iI 0)])), (q1_2, .inl (cI, 201, .inl (iA (fun _ => 0)))), (q2_2, .inl (cJ, 11, .inr (.inl (lA (fun _ => 0)))))] ++ E)) rfl ?_
  refine jj_callIN C0 (cc_X1_init (hEVA ed) (a := q3) (E := ([(a, .inr (4, [.ref q1, .null, .null, .null, .null, .int (iI 0), .int (iI 0), .int (iI 0)])), (q1, .inr (3, [.ref q1_2, .ref q2_2, .int (iI 10000), .int (iI 10), .int (iI 10), .int (iI 0)])), (q1_2, .inl (cI, 201, .inl (iA (fun _ => 0)))), (q2_2, .inl (cJ, 11, .inr (.inl (lA (fun _ => 0)))))] ++ E)) ) ⟨va_cnB 0 hw (lw_gc hU_105 lw_UU) rfl rfl rfl (hE.1.1 _ hN_103) (hw _ hU_45) (by decide +kernel) ⟨Nat.le_of_ble_eq_true rfl, Nat.le_of_ble_eq_true rfl⟩, rfl, (hw _ hU_104)⟩ rfl rfl (Nat.le_of_ble_eq_true rfl) ⟨by decide, by decide⟩ rfl rfl dX3_init_20 ?_
  intro u hu
  show jj_W _ _ _ _ _ _ _ _ _ _ _ _ _ _ _ _ _ 23 _ [.ref q3, .ref a] ([(q3, .inr (2, [.long (lI 0)])), (a, .inr (4, [.ref q1, .null, .null, .null, .null, .int (iI 0), .int (iI 0), .int (iI 0)])), (q1, .inr (3, [.ref q1_2, .ref q2_2, .int (iI 10000), .int (iI 10), .int (iI 10), .int (iI 0)])), (q1_2, .inl (cI, 201, .inl (iA (fun _ => 0)))), (q2_2, .inl (cJ, 11, .inr (.inl (lA (fun _ => 0)))))] ++ E)
  refine jj_part (Y := [(a, .inr (4, [.ref q1, .null, .null, .null, .null, .int (iI 0), .int (iI 0), .int (iI 0)])), (q1, .inr (3, [.ref q1_2, .ref q2_2, .int (iI 10000), .int (iI 10), .int (iI 10), .int (iI 0)])), (q1_2, .inl (cI, 201, .inl (iA (fun _ => 0)))), (q2_2, .inl (cJ, 11, .inr (.inl (lA (fun _ => 0))))), (q3, .inr (2, [.long (lI 0)]))]) [1, 2, 3, 4, 0] rfl rfl ?_
  refine jj_putF C0 (ci := 4) (v := .ref q3) (ty := (.object "Strikehall$Lottery")) hin_X3 tyX3 tyX3_ok nmX3 (0) (rfl) rfl 1 (by decide) (hw _ hU_139) (fun _ h9 => h9) rfl hin rfl (by decide +kernel) (rfl) rfl (Nat.le_of_ble_eq_true rfl) (ws' := [(a, .inr (4, [.ref q1, .ref q3, .null, .null, .null, .int (iI 0), .int (iI 0), .int (iI 0)])), (q1, .inr (3, [.ref q1_2, .ref q2_2, .int (iI 10000), .int (iI 10), .int (iI 10), .int (iI 0)])), (q1_2, .inl (cI, 201, .inl (iA (fun _ => 0)))), (q2_2, .inl (cJ, 11, .inr (.inl (lA (fun _ => 0))))), (q3, .inr (2, [.long (lI 0)]))] ++ E) (rfl) dX3_init_23 ?_
  refine jj_aload_n C0 0 rfl dX3_init_26 ?_
  refine jj_new C0 (ci := 0) (fs := [.int (iI 0), .null, .int (iI 0)]) hin_Jx4a65c tyJx4a65c tyJx4a65c_ok (hw _ hU_112) (hw _ hU_113) (hw _ hU_48) rfl (fun j hj => match j, hj with | 0, _ => rfl | 1, _ => rfl | 2, _ => rfl | j + 3, h9 => absurd h9 (by omega)) (by decide) (by decide) dX3_init_27 ?_
  intro q5
  show jj_W _ _ _ _ _ _ _ _ _ _ _ _ _ _ _ _ _ 30 _ [.ref q5, .ref a] ([(a, .inr (4, [.ref q1, .ref q3, .null, .null, .null, .int (iI 0), .int (iI 0), .int (iI 0)])), (q1, .inr (3, [.ref q1_2, .ref q2_2, .int (iI 10000), .int (iI 10), .int (iI 10), .int (iI 0)])), (q1_2, .inl (cI, 201, .inl (iA (fun _ => 0)))), (q2_2, .inl (cJ, 11, .inr (.inl (lA (fun _ => 0))))), (q3, .inr (2, [.long (lI 0)])), (q5, .inr (0, [.int (iI 0), .null, .int (iI 0)]))] ++ E)
  refine jj_dup C0 dX3_init_30 rfl ?_
  refine jj_part (Y := [(q5, .inr (0, [.int (iI 0), .null, .int (iI 0)])), (a, .inr (4, [.ref q1, .ref q3, .null, .null, .null, .int (iI 0), .int (iI 0), .int (iI 0)])), (q1, .inr (3, [.ref q1_2, .ref q2_2, .int (iI 10000), .int (iI 10), .int (iI 10), .int (iI 0)])), (q1_2, .inl (cI, 201, .inl (iA (fun _ => 0)))), (q2_2, .inl (cJ, 11, .inr (.inl (lA (fun _ => 0))))), (q3, .inr (2, [.long (lI 0)]))]) [5, 0, 1, 2, 3, 4] rfl rfl ?_
  refine jj_ws (ws' := [(q5, .inr (0, [.int (iI 0), .null, .int (iI 0)]))] ++ ([(a, .inr (4, [.ref q1, .ref q3, .null, .null, .null, .int (iI 0), .int (iI 0), .int (iI 0)])), (q1, .inr (3, [.ref q1_2, .ref q2_2, .int (iI 10000), .int (iI 10), .int (iI 10), .int (iI 0)])), (q1_2, .inl (cI, 201, .inl (iA (fun _ => 0)))), (q2_2, .inl (cJ, 11, .inr (.inl (lA (fun _ => 0))))), (q3, .inr (2, [.long (lI 0)]))] ++ E)) rfl ?_
  refine jj_callI C0 (cc_Jx4a65c_init_da8c8  (a := q5) (E := ([(a, .inr (4, [.ref q1, .ref q3, .null, .null, .null, .int (iI 0), .int (iI 0), .int (iI 0)])), (q1, .inr (3, [.ref q1_2, .ref q2_2, .int (iI 10000), .int (iI 10), .int (iI 10), .int (iI 0)])), (q1_2, .inl (cI, 201, .inl (iA (fun _ => 0)))), (q2_2, .inl (cJ, 11, .inr (.inl (lA (fun _ => 0))))), (q3, .inr (2, [.long (lI 0)]))] ++ E)) ) (cwI 0 hw (lw_gc hU_116 lw_UU) rfl rfl rfl (hw _ hU_48) (hw _ hU_114) (hw _ hU_115) rfl (by decide +kernel) ⟨Nat.le_of_ble_eq_true rfl, Nat.le_of_ble_eq_true rfl⟩) rfl rfl (Nat.le_of_ble_eq_true rfl) ⟨by decide, by decide⟩ rfl rfl dX3_init_31 ?_
  intro u hu
  show jj_W _ _ _ _ _ _ _ _ _ _ _ _ _ _ _ _ _ 34 _ [.ref q5, .ref a] ([(q5, .inr (0, [.int (iI 0), .ref ed, .int (iI 0)])), (a, .inr (4, [.ref q1, .ref q3, .null, .null, .null, .int (iI 0), .int (iI 0), .int (iI 0)])), (q1, .inr (3, [.ref q1_2, .ref q2_2, .int (iI 10000), .int (iI 10), .int (iI 10), .int (iI 0)])), (q1_2, .inl (cI, 201, .inl (iA (fun _ => 0)))), (q2_2, .inl (cJ, 11, .inr (.inl (lA (fun _ => 0))))), (q3, .inr (2, [.long (lI 0)]))] ++ E)
  refine jj_part (Y := [(a, .inr (4, [.ref q1, .ref q3, .null, .null, .null, .int (iI 0), .int (iI 0), .int (iI 0)])), (q1, .inr (3, [.ref q1_2, .ref q2_2, .int (iI 10000), .int (iI 10), .int (iI 10), .int (iI 0)])), (q1_2, .inl (cI, 201, .inl (iA (fun _ => 0)))), (q2_2, .inl (cJ, 11, .inr (.inl (lA (fun _ => 0))))), (q3, .inr (2, [.long (lI 0)])), (q5, .inr (0, [.int (iI 0), .ref ed, .int (iI 0)]))]) [1, 2, 3, 4, 5, 0] rfl rfl ?_
  refine jj_putF C0 (ci := 4) (v := .ref q5) (ty := (.object "java/util/ArrayList")) hin_X3 tyX3 tyX3_ok nmX3 (0) (rfl) rfl 2 (by decide) (hw _ hU_140) (fun _ h9 => h9) rfl hin rfl (by decide +kernel) (rfl) rfl (Nat.le_of_ble_eq_true rfl) (ws' := [(a, .inr (4, [.ref q1, .ref q3, .ref q5, .null, .null, .int (iI 0), .int (iI 0), .int (iI 0)])), (q1, .inr (3, [.ref q1_2, .ref q2_2, .int (iI 10000), .int (iI 10), .int (iI 10), .int (iI 0)])), (q1_2, .inl (cI, 201, .inl (iA (fun _ => 0)))), (q2_2, .inl (cJ, 11, .inr (.inl (lA (fun _ => 0))))), (q3, .inr (2, [.long (lI 0)])), (q5, .inr (0, [.int (iI 0), .ref ed, .int (iI 0)]))] ++ E) (rfl) dX3_init_34 ?_
  refine jj_aload_n C0 0 rfl dX3_init_37 ?_
  refine jj_bipush C0 dX3_init_38 (by decide) ?_
  refine jj_newJ C0 (N := 7) (t0 := 1) (by decide) (by decide) rfl (hw _ hU_100) (by decide) (by decide) dX3_init_40 ?_
  intro q7
  show jj_W _ _ _ _ _ _ _ _ _ _ _ _ _ _ _ _ _ 42 _ [.ref q7, .ref a] ([(a, .inr (4, [.ref q1, .ref q3, .ref q5, .null, .null, .int (iI 0), .int (iI 0), .int (iI 0)])), (q1, .inr (3, [.ref q1_2, .ref q2_2, .int (iI 10000), .int (iI 10), .int (iI 10), .int (iI 0)])), (q1_2, .inl (cI, 201, .inl (iA (fun _ => 0)))), (q2_2, .inl (cJ, 11, .inr (.inl (lA (fun _ => 0))))), (q3, .inr (2, [.long (lI 0)])), (q5, .inr (0, [.int (iI 0), .ref ed, .int (iI 0)])), (q7, .inl (cJ, 7, .inr (.inl (lA (fun _ => 0)))))] ++ E)
  refine jj_putF C0 (ci := 4) (v := .ref q7) (ty := (.array .long)) hin_X3 tyX3 tyX3_ok nmX3 (0) (rfl) rfl 3 (by decide) (hw _ hU_141) (fun _ h9 => h9) rfl hin rfl (by decide +kernel) (rfl) rfl (Nat.le_of_ble_eq_true rfl) (ws' := [(a, .inr (4, [.ref q1, .ref q3, .ref q5, .ref q7, .null, .int (iI 0), .int (iI 0), .int (iI 0)])), (q1, .inr (3, [.ref q1_2, .ref q2_2, .int (iI 10000), .int (iI 10), .int (iI 10), .int (iI 0)])), (q1_2, .inl (cI, 201, .inl (iA (fun _ => 0)))), (q2_2, .inl (cJ, 11, .inr (.inl (lA (fun _ => 0))))), (q3, .inr (2, [.long (lI 0)])), (q5, .inr (0, [.int (iI 0), .ref ed, .int (iI 0)])), (q7, .inl (cJ, 7, .inr (.inl (lA (fun _ => 0)))))] ++ E) (rfl) dX3_init_42 ?_
  refine jj_aload_n C0 0 rfl dX3_init_45 ?_
  refine jj_bipush C0 dX3_init_46 (by decide) ?_
  refine jj_newJ C0 (N := 6) (t0 := 1) (by decide) (by decide) rfl (hw _ hU_100) (by decide) (by decide) dX3_init_48 ?_
  intro q8
  show jj_W _ _ _ _ _ _ _ _ _ _ _ _ _ _ _ _ _ 50 _ [.ref q8, .ref a] ([(a, .inr (4, [.ref q1, .ref q3, .ref q5, .ref q7, .null, .int (iI 0), .int (iI 0), .int (iI 0)])), (q1, .inr (3, [.ref q1_2, .ref q2_2, .int (iI 10000), .int (iI 10), .int (iI 10), .int (iI 0)])), (q1_2, .inl (cI, 201, .inl (iA (fun _ => 0)))), (q2_2, .inl (cJ, 11, .inr (.inl (lA (fun _ => 0))))), (q3, .inr (2, [.long (lI 0)])), (q5, .inr (0, [.int (iI 0), .ref ed, .int (iI 0)])), (q7, .inl (cJ, 7, .inr (.inl (lA (fun _ => 0))))), (q8, .inl (cJ, 6, .inr (.inl (lA (fun _ => 0)))))] ++ E)
  refine jj_putF C0 (ci := 4) (v := .ref q8) (ty := (.array .long)) hin_X3 tyX3 tyX3_ok nmX3 (0) (rfl) rfl 4 (by decide) (hw _ hU_142) (fun _ h9 => h9) rfl hin rfl (by decide +kernel) (rfl) rfl (Nat.le_of_ble_eq_true rfl) (ws' := [(a, .inr (4, [.ref q1, .ref q3, .ref q5, .ref q7, .ref q8, .int (iI 0), .int (iI 0), .int (iI 0)])), (q1, .inr (3, [.ref q1_2, .ref q2_2, .int (iI 10000), .int (iI 10), .int (iI 10), .int (iI 0)])), (q1_2, .inl (cI, 201, .inl (iA (fun _ => 0)))), (q2_2, .inl (cJ, 11, .inr (.inl (lA (fun _ => 0))))), (q3, .inr (2, [.long (lI 0)])), (q5, .inr (0, [.int (iI 0), .ref ed, .int (iI 0)])), (q7, .inl (cJ, 7, .inr (.inl (lA (fun _ => 0))))), (q8, .inl (cJ, 6, .inr (.inl (lA (fun _ => 0)))))] ++ E) (rfl) dX3_init_50 ?_
  refine jj_aload_n C0 0 rfl dX3_init_53 ?_
  refine jj_bipush C0 dX3_init_54 (by decide) ?_
  refine jj_put C0 (ci := 4) (v := .int (iI 100)) (ty := .int) hin_X3 tyX3 tyX3_ok nmX3 (0) (rfl) rfl 5 (by decide) (hw _ hU_143) (fun _ h9 => h9) rfl (by decide +kernel) (rfl) rfl (Nat.le_of_ble_eq_true rfl) (ws' := [(a, .inr (4, [.ref q1, .ref q3, .ref q5, .ref q7, .ref q8, .int (iI 100), .int (iI 0), .int (iI 0)])), (q1, .inr (3, [.ref q1_2, .ref q2_2, .int (iI 10000), .int (iI 10), .int (iI 10), .int (iI 0)])), (q1_2, .inl (cI, 201, .inl (iA (fun _ => 0)))), (q2_2, .inl (cJ, 11, .inr (.inl (lA (fun _ => 0))))), (q3, .inr (2, [.long (lI 0)])), (q5, .inr (0, [.int (iI 0), .ref ed, .int (iI 0)])), (q7, .inl (cJ, 7, .inr (.inl (lA (fun _ => 0))))), (q8, .inl (cJ, 6, .inr (.inl (lA (fun _ => 0)))))] ++ E) (rfl) dX3_init_56 ?_
  refine jj_aload_n C0 0 rfl dX3_init_59 ?_
  refine jj_iconst C0 dX3_init_60 ?_
  refine jj_put C0 (ci := 4) (v := .int (iI 0)) (ty := .int) hin_X3 tyX3 tyX3_ok nmX3 (0) (rfl) rfl 6 (by decide) (hw _ hU_144) (fun _ h9 => h9) rfl (by decide +kernel) (rfl) rfl (Nat.le_of_ble_eq_true rfl) (ws' := [(a, .inr (4, [.ref q1, .ref q3, .ref q5, .ref q7, .ref q8, .int (iI 100), .int (iI 0), .int (iI 0)])), (q1, .inr (3, [.ref q1_2, .ref q2_2, .int (iI 10000), .int (iI 10), .int (iI 10), .int (iI 0)])), (q1_2, .inl (cI, 201, .inl (iA (fun _ => 0)))), (q2_2, .inl (cJ, 11, .inr (.inl (lA (fun _ => 0))))), (q3, .inr (2, [.long (lI 0)])), (q5, .inr (0, [.int (iI 0), .ref ed, .int (iI 0)])), (q7, .inl (cJ, 7, .inr (.inl (lA (fun _ => 0))))), (q8, .inl (cJ, 6, .inr (.inl (lA (fun _ => 0)))))] ++ E) (rfl) dX3_init_61 ?_
  refine jj_aload_n C0 0 rfl dX3_init_64 ?_
  refine jj_sipush C0 dX3_init_65 (by decide) ?_
  refine jj_put C0 (ci := 4) (v := .int (iI 500)) (ty := .int) hin_X3 tyX3 tyX3_ok nmX3 (0) (rfl) rfl 7 (by decide) (hw _ hU_145) (fun _ h9 => h9) rfl (by decide +kernel) (rfl) rfl (Nat.le_of_ble_eq_true rfl) (ws' := [(a, .inr (4, [.ref q1, .ref q3, .ref q5, .ref q7, .ref q8, .int (iI 100), .int (iI 0), .int (iI 500)])), (q1, .inr (3, [.ref q1_2, .ref q2_2, .int (iI 10000), .int (iI 10), .int (iI 10), .int (iI 0)])), (q1_2, .inl (cI, 201, .inl (iA (fun _ => 0)))), (q2_2, .inl (cJ, 11, .inr (.inl (lA (fun _ => 0))))), (q3, .inr (2, [.long (lI 0)])), (q5, .inr (0, [.int (iI 0), .ref ed, .int (iI 0)])), (q7, .inl (cJ, 7, .inr (.inl (lA (fun _ => 0))))), (q8, .inl (cJ, 6, .inr (.inl (lA (fun _ => 0)))))] ++ E) (rfl) dX3_init_68 ?_
  exact jj_vret C0 hr (q1, q1_2, q2_2, q3, q5, q7, q8) (trivial) (rfl) (by decide) (by decide) dX3_init_71
end CC7
