section CC15
variable {p : Program} {l : Launch} {e : Env} {R : Room} {s : State} {m : MethodId} {args : Array Value} {below : List Frame} {meth : Method} {c : Code} {D : va_G} {cl : List vw_C} {A : Nat → Prop} {nL cells slots : Nat} {Q : State → Prop} {cc : ByteArray} {pc : Nat} {rest : List Value} {lv : List (Nat × Value)} {ws E : va_W} {X : String} {own : String} {Ts : List Cond} {tys : List (ClassId × FieldType)} {EV : (Nat → Prop) → State → Heap → Prop}
/-- what the law asks of the launch -/
def EVL (es mi : Nat) (sa : Nat → Nat) (A : Nat → Prop) (U : State) (H : Heap) : Prop := EVT sa A U H ∧ EVG es mi A U H ∧ va_Nc "java/lang/IllegalArgumentException" "java/lang/IndexOutOfBoundsException" U ∧ va_Nc "java/lang/IllegalStateException" "java/lang/IndexOutOfBoundsException" U ∧ va_Nc "java/lang/IllegalStateException" "java/lang/IllegalArgumentException" U
theorem hEVL (es mi : Nat) (sa : Nat → Nat) : jj_EV (EVL es mi sa) := ⟨fun A U H H1 h hq => ⟨(hEVT sa).1 A U H H1 h.1 hq, (hEVG es mi).1 A U H H1 h.2.1 hq, h.2.2⟩, fun A B U H h hq => ⟨(hEVT sa).2.1 A B U H h.1 hq, (hEVG es mi).2.1 A B U H h.2.1 hq, h.2.2⟩, fun A s U H hW h => ⟨(hEVT sa).2.2.1 A s U H hW h.1, (hEVG es mi).2.2.1 A s U H hW h.2.1, h.2.2.1.moved hW.alike, h.2.2.2.1.moved hW.alike, h.2.2.2.2.moved hW.alike⟩, fun A u U H hv h => ⟨(hEVT sa).2.2.2 A u U H hv h.1, (hEVG es mi).2.2.2 A u U H hv h.2.1, h.2.2.1.moved (by rw [hv]; exact Vm.Alike.refl U.vm), h.2.2.2.1.moved (by rw [hv]; exact Vm.Alike.refl U.vm), h.2.2.2.2.moved (by rw [hv]; exact Vm.Alike.refl U.vm)⟩⟩
theorem jj_weakX {EV1 EV2 : (Nat → Prop) → State → Heap → Prop} {y : MethodName} {wsl : List Cond} {rm : Room} {as : List Value} (h12 : ∀ A U H, EV2 A U H → EV1 A U H) (h : jj_X EV1 D cl tys l y wsl rm as ws X) : jj_X EV2 D cl tys l y wsl rm as ws X := fun sz => Jvm.Free.MetFree.mono (h sz) (fun a s h => ⟨h.1, h.2.1, h.2.2.1, h.2.2.2.1, h.2.2.2.2.1, h12 _ _ _ h.2.2.2.2.2⟩) (fun _ _ _ _ _ h => h) (fun _ _ _ _ h => fun g => g)
theorem jj_startW {y : MethodName} {wsl wsl' : List Cond} {rm : Room} {as : List Value} {ret : Option FieldType} {hh : List (Nat × Nat × Nat × Nat)} (Qf : (Nat → Prop) → Array Value → State → Outcome → State → Prop) {mc ms : Nat} (hEV : jj_EV EV)
    (hy : plainName y.cls = true) (hw : wsl = Cond.codeWith y cc nL ret hh :: wsl') (hlen : (lg_sl as).length ≤ nL) (hlv : lv_args 0 as = lv)
    (body : ∀ (p : Program) (e : Env) (s : State) (m : MethodId) (args : Array Value) (below : List Frame) (meth : Method) (c : Code) (A : Nat → Prop), jj_C p s m args meth c D cl A nL cc y.cls wsl tys EV → meth.sig.returnType = ret → c.exceptionTable.toList = tableOf hh → jj_W p l e rm s m args below meth c D cl A nL 0 0 (MQ below (Qf A) args s mc ms A) 0 lv [] ws) (sz : Nat) :
    Met l y wsl rm (va_Pc as (jj_B EV D cl tys ws sz)) (Qf (va_A ws sz)) mc ms (va_A ws sz) := by
  refine va_MetW (hh := hh) (cc := cc) (maxL := nL) (ret := ret) hy hw ?_
  intro p e s m args below meth c s₁ B hml hv
  obtain ⟨rfl, hsz, hP, hK, hD0, hEv⟩ := hv
  subst hsz
  have hown : s.vm.findClass y.cls = some m.cls := findClass_of_methodNamed B.named
  have hC : jj_C p s m as.toArray meth c D cl (va_A ws s.heap.size) nL cc y.cls wsl tys EV := ⟨B.exec, B.bytes, hml, hown, atoms_spec (ws := wsl) B.pre, hK, fun q h => Or.inr h, hEv, hEV, B.notSynchronized⟩
  have hT : c.exceptionTable.toList = tableOf hh := vx_table (x := y) B (hC.2.2.2.2.1 (Cond.codeWith y cc nL ret hh) (by rw [hw]; exact List.mem_cons_self))
  have hl := lv_entry as (n := nL) hlen
  rw [lg_entry_eq]
  rw [hlv] at hl
  exact body p e s m as.toArray below meth c (va_A ws s.heap.size) hC B.returns hT s.heap [] _ hP hD0.self va_S.rf hl
theorem jj_tryV (C0 : jj_C p s m args meth c D cl A nL cc own Ts tys EV) {hh : List (Nat × Nat × Nat × Nat)} (hT : c.exceptionTable.toList = tableOf hh) {y : MethodName} {bytes : ByteArray} {maxL n index cells' slots' : Nat} {ret : Option FieldType} {wsl : List Cond} {rm : Room} {As st : List Value} {C name : String} {b ci q0 hpc : Nat} {T : u_T} {N : Nat} {fs : List Value} (hM : jj_X EV D cl tys l y wsl rm (.ref b :: As) ws X) (cw : CallW R s args own C index y bytes maxL ret wsl rm rm.cells rm.slots n) (hc : cl[ci]? = some (C, T, N)) (he : ws[q0]? = some (b, .inr (ci, fs))) (hst : st = As.reverse ++ .ref b :: rest) (hn : As.length = n) (hroom : (rest.map fun v => v.category).sum ≤ 8) (hf : cells + rm.cells ≤ R.cells ∧ slots + rm.slots ≤ R.slots) (hcs1 : cells + rm.cells = cells') (hcs2 : slots + rm.slots = slots') (hdg : decode cc pc = .ok (.invokevirtual index, 3))
    (pre : List ExceptionTableEntry) (x : ExceptionTableEntry) (suf : List ExceptionTableEntry) (hsplit : tableOf hh = pre ++ x :: suf) (hpass : ∀ z ∈ pre, covers z pc = false ∨ (z.catchType ≠ 0 ∧ ∃ nm : String, (Cond.classLink own z.catchType nm).before args s = true ∧ va_Nc X nm s)) (hx : covers x pc = true) (h0 : x.catchType ≠ 0) (hlink : (Cond.classLink own x.catchType name).before args s = true) (hcast : (Cond.castable X name).before args s = true) (hq : x.handlerPc = hpc)
    (kk : ∀ q9 : Nat, jj_W p l e R s m args below meth c D cl A nL (cells') (slots') Q (hpc) lv ([.ref q9]) ws) : jj_W p l e R s m args below meth c D cl A nL (cells) (slots) Q (pc) lv (st) ws := by
  intro H locs ls hP hD hS hl
  obtain ⟨hF, hB0⟩ := jj_pre C0 hP hD hS
  exact vx_callv (vx_runV (As := As) (rest := rest) ⟨C0.1, C0.2.1, C0.2.2.1, C0.2.2.2.1, C0.2.2.2.2.1⟩ (hM H.size) cw ⟨jj_blind _ C0.2.2.2.2.2.2.2.2.1, va_recv C0.2.2.2.2.2.1 hP hc he, fun U hU hW => ⟨rfl, hB0 U hU hW⟩⟩ rfl hn hl.1 hst (lv_room hroom) hdg hf) hS (fun q _ h => hF q h) hF (fun q _ h => hF q h) (fun E1 ce q9 u t H1 locs1 ht hvm hp hB hz hk hS1 hce hcv hcl => by
    obtain ⟨rfl, hP1, hK1, hD1⟩ := hB
    rw [ht] at hP1
    subst hcs1 hcs2 hq
    exact vx_catch C0.2.2.2.1 pre x suf (hT.trans hsplit) hpass hx h0 hlink hcast hce hcv hcl (kk q9 H1 locs1 ls hP1 hD hS1 hl)) (fun u t H1 locs1 ht hvm hp => hp.elim)
theorem jj_callSWi (C0 : jj_C p s m args meth c D cl A nL cc own Ts tys EV) {hh : List (Nat × Nat × Nat × Nat)} {y : MethodName} {bytes : ByteArray} {maxL n index cells' slots' : Nat} {ret : Option FieldType} {wsl : List Cond} {rm : Room} {As st : List Value} {S : Type} {val : S → Int} {post : S → Prop} {ws' : S → va_W} (hM : jj_Mi EV D cl tys l y wsl rm As ws val post ws') (cw : vx_CSW R s args own index y bytes maxL ret hh wsl rm rm.cells rm.slots n) (hst : st = As.reverse ++ rest) (hn : As.length = n) (hroom : (rest.map fun v => v.category).sum ≤ 8) (hf : cells + rm.cells ≤ R.cells ∧ slots + rm.slots ≤ R.slots) (hcs1 : cells + rm.cells = cells') (hcs2 : slots + rm.slots = slots') (hdg : decode cc pc = .ok (.invokestatic index, 3)) (kk : ∀ u : S, post u → jj_W p l e R s m args below meth c D cl A nL cells' slots' Q (pc + 3) lv (.int (iI (val u)) :: rest) (ws' u)) : jj_W p l e R s m args below meth c D cl A nL (cells) (slots) Q (pc) lv (st) ws := by
  intro H locs ls hP hD hS hl
  obtain ⟨hF, hB0⟩ := jj_pre C0 hP hD hS
  exact va_calli (vx_runSW (As := As) (rest := rest) ⟨C0.1, C0.2.1, C0.2.2.1, C0.2.2.2.1, C0.2.2.2.2.1⟩ (hM H.size) cw ⟨jj_blind _ C0.2.2.2.2.2.2.2.2.1, fun U hU hW => ⟨rfl, hB0 U hU hW⟩⟩ rfl hn hl.1 hst (lv_room hroom) hdg hf) hS (fun q _ h => hF q h) hF (fun r u t H1 locs1 ht hvm hw hB hz hk hS1 => by
    obtain ⟨rfl, hp⟩ := hw
    obtain ⟨hP1, hK1, hD1⟩ := hB
    rw [ht] at hP1
    subst hcs1 hcs2
    exact kk u hp H1 locs1 ls hP1 (hD1.weaken (fun k q _ h => hF q.1 h)) hS1 hl)
variable {ha cA hA nA : Nat → Nat} {ed : Nat} {cI cJ cZ : ClassId} {td : Nat} {pr up dn : Int} {dv rw : Nat → Int} {sd mc : Int} {n : Nat} {mo sh co : Int} {Ca Cz K St Ex Am Bi As BL AL He Co : Nat → Int} {EE EE' : va_W}
theorem wH_es {q : Nat} {x : Nat × va_E} (h : EE.set q x = EE') : (wH ha cA hA nA ed cI cJ cZ td pr up dn dv rw sd mc n mo sh co Ca Cz K St Ex Am Bi As BL AL He Co ++ EE).set (8 + (3 * n + q)) x = wH ha cA hA nA ed cI cJ cZ td pr up dn dv rw sd mc n mo sh co Ca Cz K St Ex Am Bi As BL AL He Co ++ EE' := by
  have hlen : (wH ha cA hA nA ed cI cJ cZ td pr up dn dv rw sd mc n mo sh co Ca Cz K St Ex Am Bi As BL AL He Co).length = 8 + 3 * n := by
    unfold wH
    rw [List.length_append, wF_len f_ct_len]
    rfl
  rw [List.set_append_right _ _ (by omega), hlen, show 8 + (3 * n + q) - (8 + 3 * n) = q by omega, h]
end CC15
