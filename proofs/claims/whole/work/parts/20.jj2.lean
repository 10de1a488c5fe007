section JJ2
variable {p : Program} {l : Launch} {e : Env} {R : Room} {s : State} {m : MethodId} {args : Array Value} {below : List Frame} {meth : Method} {c : Code} {D : va_G} {cl : List vw_C} {A : Nat → Prop} {nL cells slots : Nat} {Q : State → Prop} {cc : ByteArray} {pc : Nat} {rest : List Value} {lv : List (Nat × Value)} {ws : va_W} {own : String} {Ts : List Cond} {tys : List (ClassId × FieldType)} {EV : (Nat → Prop) → State → Heap → Prop}
theorem jj_aald (C0 : jj_C p s m args meth c D cl A nL cc own Ts tys EV) {a q0 t0 : Nat} {cA : ClassId} {C : String} {n : Nat} {f : Nat → Option Nat} (ha : ws[q0]? = some (a, .inl (cA, n, .inr (.inr (.inr (.inr f)))))) (ht : tys[t0]? = some (cA, .object C)) {k : Nat} {z : Int} (hk : (k : Int) = z) (hkn : k < n) (hn : n ≤ 2147483647) {y : Nat} (hy : f k = some y) (hdg : decode cc pc = .ok (.aaload, 1)) (kk : jj_W p l e R s m args below meth c D cl A nL cells slots Q (pc + 1) (lv) (.ref y :: rest) (ws)) : jj_W p l e R s m args below meth c D cl A nL cells slots Q (pc) (lv) (.int (iI z) :: .ref a :: rest) (ws) :=
  fun H locs ls hP hD hS hl => va_aldq C0.1 C0.2.1 C0.2.2.2.2.2.1 hP q0 t0 ha ht (iI_in hk hkn hn) hdg (by rw [iI_nat hk (by omega), hy]; exact kk H locs ls hP hD hS hl)
theorem jj_cast (C0 : jj_C p s m args meth c D cl A nL cc own Ts tys EV) {C : String} {T : u_T} {N ci q0 a index : Nat} {fs : List Value} (hc : cl[ci]? = some (C, T, N)) (he : ws[q0]? = some (a, .inr (ci, fs))) (hlink : (Cond.classLink own index C).before args s = true) (hdg : decode cc pc = .ok (.checkcast index, 3)) (kk : jj_W p l e R s m args below meth c D cl A nL cells slots Q (pc + 3) (lv) (.ref a :: rest) (ws)) : jj_W p l e R s m args below meth c D cl A nL cells slots Q (pc) (lv) (.ref a :: rest) (ws) :=
  fun H locs ls hP hD hS hl => va_castS C0.1 C0.2.1 C0.2.2.2.1 hlink (C0.2.2.2.2.2.1.1 ci _ hc).2 (va_recv C0.2.2.2.2.2.1 hP hc he) hdg (kk H locs ls hP hD hS hl)
end JJ2
theorem lw_gSx {own : String} {idx : Nat} {y : MethodName} {w : Cond} (h1 : Cond.methodLink own idx y ∈ lw_U) (h2 : Cond.static y ∈ lw_U) (h4 : Cond.initialized y.cls ∈ lw_U) (h5 : w ∈ lw_U) : GoodIn lw_U (va_wsS own idx y (w :: lw_U)) := by
  unfold va_wsS
  exact lw_gc (by first | exact h1 | exact h2 | exact h4) (lw_gc (by first | exact h1 | exact h2 | exact h4) (lw_gc (by first | exact h1 | exact h2 | exact h4) (lw_gc h5 lw_UU)))
/-- the list's own row, where there are contracts -/
def f_ED (cA : Nat → Nat) (n ed : Nat) (cO : ClassId) (EE : va_W) : Prop := ∃ (q cap : Nat) (fe : Nat → Option Nat), EE[q]? = some (ed, .inl (cO, cap, .inr (.inr (.inr (.inr fe))))) ∧ n ≤ cap ∧ cap ≤ 1000 ∧ ∀ j, j < n → fe j = some (cA j)
theorem wH_ee {ha cA hA nA : Nat → Nat} {ed : Nat} {cI cJ cZ : ClassId} {td : Nat} {pr up dn : Int} {dv rw : Nat → Int} {sd mc : Int} {n : Nat} {mo sh co : Int} {Ca Cz K St Ex Am Bi As BL AL He Co : Nat → Int} {EE : va_W} {q : Nat} {x : Nat × va_E} (he : EE[q]? = some x) : (wH ha cA hA nA ed cI cJ cZ td pr up dn dv rw sd mc n mo sh co Ca Cz K St Ex Am Bi As BL AL He Co ++ EE)[8 + (3 * n + q)]? = some x := by
  unfold wH
  rw [List.append_assoc, List.getElem?_append_right (Nat.le_add_right 8 _)]
  show (wF (f_ct cA hA nA cI cZ K St Ex Am Bi As BL AL He Co) n ++ EE)[8 + (3 * n + q) - 8]? = _
  rw [show 8 + (3 * n + q) - 8 = 3 * n + q by omega, List.getElem?_append_right (by rw [wF_len f_ct_len]; omega), wF_len f_ct_len, show 3 * n + q - 3 * n = q by omega]
  exact he
