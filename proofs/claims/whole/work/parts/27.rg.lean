/-! the constructors: worlds of which cells are still being made; 'RG': the walk of a constructor's body -/
def rGood (X : mX) (U : State) : Prop := va_K X.1 vwCl (mTys X) U ∧ (∀ w ∈ mN, va_Nw w U) ∧ (va_AO RX3 U ∧ va_AO RX5 U ∧ va_AO RX6 U ∧ va_AO RX7 U)
theorem rGood.moved {X : mX} {s U : State} (hW : s.WarmedH U.vm) (h : rGood X s) : rGood X U :=
  ⟨va_K.moved hW.alike h.1, fun w hw => mNest_warm (List.mem_filter.mp hw).2 hW (h.2.1 w hw), h.2.2.1.moved hW.alike, h.2.2.2.1.moved hW.alike, h.2.2.2.2.1.moved hW.alike, h.2.2.2.2.2.moved hW.alike⟩
theorem rGood.calling {X : mX} {U : State} {g : JFrame} {mk : MethodId} {a : Array Value} (h : rGood X U) : rGood X (U.calling g mk a) :=
  ⟨va_K.moved (u := U) (U := U.calling g mk a) (Vm.Alike.refl U.vm) h.1, fun w hw => va_Nw.same (mNest_tabs (List.mem_filter.mp hw).2) (u := U) (U := U.calling g mk a) rfl (h.2.1 w hw), va_AO.moved (u := U) (U := U.calling g mk a) (Vm.Alike.refl U.vm) h.2.2.1, va_AO.moved (u := U) (U := U.calling g mk a) (Vm.Alike.refl U.vm) h.2.2.2.1, va_AO.moved (u := U) (U := U.calling g mk a) (Vm.Alike.refl U.vm) h.2.2.2.2.1, va_AO.moved (u := U) (U := U.calling g mk a) (Vm.Alike.refl U.vm) h.2.2.2.2.2⟩
def rQc (X : mX) (Post : va_W → Prop) : Array Value → State → Outcome → State → Prop := fun _ st o t => o = .returned none ∧ (∃ ws, Post ws ∧ va_P X.1 vwCl ws t.heap ∧ va_D X.2.2.2.1 ws) ∧ va_F X.2.2.2.1 st t
/-- what the walk knows of the machine and of the heap -/
def rAt (X : mX) (cc : ByteArray) (own : String) (nL : Nat) (p : Program) (s : State) (m : MethodId) (args : Array Value) (c : Code) (H : Heap) (locs : List Loc) (ws : va_W) : Prop :=
  p.tables.exec = Jvm.exec ∧ c.code = cc ∧ c.maxLocals = nL ∧ s.vm.findClass own = some m.cls ∧ (∀ w ∈ mW, w.before args s = true) ∧ rGood X s ∧ (∀ q, s.heap.size ≤ q → X.2.2.2.1 q) ∧ va_P X.1 vwCl ws H ∧ va_D X.2.2.2.1 ws ∧ va_S X.2.2.2.1 s.heap H locs
/-- Q: any goal; F: what holds of meth beside -/
def RG (X : mX) (Fm : State → Array Value → Method → Prop) (Q : List Frame → Array Value → State → State → Prop) (kc ks : Nat) (R : Room) (cc : ByteArray) (own : String) (nL : Nat) (l : Launch) (ws : va_W) (lv : List (Nat × Value)) (st : List Value) (pc : Nat) : Prop :=
  ∀ (p : Program) (e : Env) (s : State) (m : MethodId) (args : Array Value) (below : List Frame) (meth : Method) (c : Code) (H : Heap) (locs : List Loc) (ls : Array Slot), rAt X cc own nL p s m args c H locs ws → Fm s args meth → lv_has ls nL lv → W p l e R s m args below meth c H locs kc ks (Q below args s) (F0 m pc ls st)
def rInit : State → Array Value → Method → Prop := fun _ _ meth => meth.sig.returnType = none ∧ meth.locks = false ∧ meth.name = "<init>"
def rEnd (X : mX) (Post : va_W → Prop) (mc ms : Nat) : List Frame → Array Value → State → State → Prop := fun below args s => MQ below (rQc X Post) args s mc ms X.2.2.2.1
def RMet (X : mX) (y : MethodName) (cc : ByteArray) (nL : Nat) (rm : Room) (mc ms : Nat) (As : List Value) (l : Launch) (ws : va_W) (Post : va_W → Prop) : Prop :=
  Met l y (Cond.code y cc nL none :: mW) rm (va_Pc As (fun U => rGood X U ∧ (∀ q, U.heap.size ≤ q → X.2.2.2.1 q) ∧ va_P X.1 vwCl ws U.heap ∧ va_D X.2.2.2.1 ws)) (rQc X Post) mc ms X.2.2.2.1
section RGR
variable {X : mX} {Fm : State → Array Value → Method → Prop} {Q : List Frame → Array Value → State → State → Prop} {kc ks : Nat} {R : Room} {cc : ByteArray} {own : String} {nL : Nat} {l : Launch} {ws ws' : va_W} {lv lv' : List (Nat × Value)} {rest : List Value} {pc : Nat}
theorem rg_ws (h : ws = ws') (k : RG X Fm Q kc ks R cc own nL l ws' lv rest pc) : RG X Fm Q kc ks R cc own nL l ws lv rest pc := by subst h; exact k
theorem rg_widen {k n : Nat} (h1 : kc ≤ k) (h2 : ks ≤ n) (kk : RG X Fm Q k n R cc own nL l ws lv rest pc) : RG X Fm Q kc ks R cc own nL l ws lv rest pc :=
  fun p e s m args below meth c H locs ls C F h => W.widen h1 h2 (kk p e s m args below meth c H locs ls C F h)
theorem rg_iconst {n : Int} {v : Int32} (hd : decode cc pc = .ok (.iconst n, 1)) (hv : Int32.ofInt n = v) (k : RG X Fm Q kc ks R cc own nL l ws lv (.int v :: rest) (pc + 1)) : RG X Fm Q kc ks R cc own nL l ws lv rest pc :=
  fun p e s m args below meth c H locs ls C F h => lv_iconst C.1 C.2.1 hd hv (k p e s m args below meth c H locs ls C F h)
theorem rg_bipush {n : Int} {v : Int32} (hd : decode cc pc = .ok (.bipush n, 2)) (hv : (Int8.ofInt n).toInt32 = v) (k : RG X Fm Q kc ks R cc own nL l ws lv (.int v :: rest) (pc + 2)) : RG X Fm Q kc ks R cc own nL l ws lv rest pc :=
  fun p e s m args below meth c H locs ls C F h => lv_bipush C.1 C.2.1 hd hv (k p e s m args below meth c H locs ls C F h)
theorem rg_sipush {n : Int} {v : Int32} (hd : decode cc pc = .ok (.sipush n, 3)) (hv : (Int16.ofInt n).toInt32 = v) (k : RG X Fm Q kc ks R cc own nL l ws lv (.int v :: rest) (pc + 3)) : RG X Fm Q kc ks R cc own nL l ws lv rest pc :=
  fun p e s m args below meth c H locs ls C F h => lv_sipush C.1 C.2.1 hd hv (k p e s m args below meth c H locs ls C F h)
theorem rg_ldc {idx : Nat} {v : Int32} (hc : Cond.constant own idx v ∈ mW) (hd : decode cc pc = .ok (.ldc idx, 2)) (k : RG X Fm Q kc ks R cc own nL l ws lv (.int v :: rest) (pc + 2)) : RG X Fm Q kc ks R cc own nL l ws lv rest pc :=
  fun p e s m args below meth c H locs ls C F h => lv_ldc C.1 C.2.1 C.2.2.2.1 (C.2.2.2.2.1 _ hc) hd (k p e s m args below meth c H locs ls C F h)
theorem rg_dup {x : Value} (hd : decode cc pc = .ok (.dup, 1)) (hx : x.category = 1) (k : RG X Fm Q kc ks R cc own nL l ws lv (x :: x :: rest) (pc + 1)) : RG X Fm Q kc ks R cc own nL l ws lv (x :: rest) pc :=
  fun p e s m args below meth c H locs ls C F h => lv_dup C.1 C.2.1 hd hx (k p e s m args below meth c H locs ls C F h)
theorem rg_iload_n {k : Fin 4} {i : Nat} {x : Int32} (j : Nat) (hd : decode cc pc = .ok (.iload_n k, 1)) (hi : (k : Nat) = i) (hj : lv[j]? = some (i, .int x)) (kk : RG X Fm Q kc ks R cc own nL l ws lv (.int x :: rest) (pc + 1)) : RG X Fm Q kc ks R cc own nL l ws lv rest pc :=
  fun p e s m args below meth c H locs ls C F h => lv_iload_n C.1 C.2.1 hd hi (lv_at h j hj) (kk p e s m args below meth c H locs ls C F h)
theorem rg_aload_n {k : Fin 4} {i x : Nat} (j : Nat) (hd : decode cc pc = .ok (.aload_n k, 1)) (hi : (k : Nat) = i) (hj : lv[j]? = some (i, .ref x)) (kk : RG X Fm Q kc ks R cc own nL l ws lv (.ref x :: rest) (pc + 1)) : RG X Fm Q kc ks R cc own nL l ws lv rest pc :=
  fun p e s m args below meth c H locs ls C F h => lv_aload_n C.1 C.2.1 hd hi (lv_at h j hj) (kk p e s m args below meth c H locs ls C F h)
theorem rg_istore_n {k : Fin 4} {i : Nat} {x : Int32} (hd : decode cc pc = .ok (.istore_n k, 1)) (hi : (k : Nat) = i) (hn : i < nL) (hl : (i, Value.int x) :: lv.filter (fun q => !(q.1 == i) && !(q.1 + 1 == i && q.2.category == 2)) = lv') (kk : RG X Fm Q kc ks R cc own nL l ws lv' rest (pc + 1)) : RG X Fm Q kc ks R cc own nL l ws lv (.int x :: rest) pc :=
  fun p e s m args below meth c H locs ls C F h => lv_istore_n C.1 C.2.1 hd hi h hn hl (fun ls h => kk p e s m args below meth c H locs ls C F h)
theorem rg_astore_n {k : Fin 4} {i x : Nat} (hd : decode cc pc = .ok (.astore_n k, 1)) (hi : (k : Nat) = i) (hn : i < nL) (hl : (i, Value.ref x) :: lv.filter (fun q => !(q.1 == i) && !(q.1 + 1 == i && q.2.category == 2)) = lv') (kk : RG X Fm Q kc ks R cc own nL l ws lv' rest (pc + 1)) : RG X Fm Q kc ks R cc own nL l ws lv (.ref x :: rest) pc :=
  fun p e s m args below meth c H locs ls C F h => lv_astore_n C.1 C.2.1 hd hi h hn hl (fun ls h => kk p e s m args below meth c H locs ls C F h)
theorem rg_iinc {i k : Nat} {n : Int} {x v : Int32} (hd : decode cc pc = .ok (.iinc i n, 3)) (hk : lv[k]? = some (i, .int x)) (hv : x + Int32.ofInt n = v) (hn : i < nL) (hl : (i, Value.int v) :: lv.filter (fun q => !(q.1 == i) && !(q.1 + 1 == i && q.2.category == 2)) = lv') (kk : RG X Fm Q kc ks R cc own nL l ws lv' rest (pc + 3)) : RG X Fm Q kc ks R cc own nL l ws lv rest pc :=
  fun p e s m args below meth c H locs ls C F h => lv_iinc C.1 C.2.1 hd h hk hv hn hl (fun ls h => kk p e s m args below meth c H locs ls C F h)
theorem rg_goto {off : Int} {tgt : Nat} (hd : decode cc pc = .ok (.goto off, 3)) (ht : (pc : Int) + off = (tgt : Int)) (k : RG X Fm Q kc ks R cc own nL l ws lv rest tgt) : RG X Fm Q kc ks R cc own nL l ws lv rest pc :=
  fun p e s m args below meth c H locs ls C F h => lv_goto C.1 C.2.1 hd ht (k p e s m args below meth c H locs ls C F h)
theorem rg_geT {x y : Int32} {off : Int} {tgt : Nat} (hc : y ≤ x) (hd : decode cc pc = .ok (.if_icmp .ge off, 3)) (ht : (pc : Int) + off = (tgt : Int)) (k : RG X Fm Q kc ks R cc own nL l ws lv rest tgt) : RG X Fm Q kc ks R cc own nL l ws lv (.int y :: .int x :: rest) pc :=
  fun p e s m args below meth c H locs ls C F h => lv_icmp_ge C.1 C.2.1 hd ht (fun _ => k p e s m args below meth c H locs ls C F h) (fun q => absurd hc q)
theorem rg_geF {x y : Int32} {off : Int} {tgt : Nat} (hc : ¬ y ≤ x) (hd : decode cc pc = .ok (.if_icmp .ge off, 3)) (ht : (pc : Int) + off = (tgt : Int)) (k : RG X Fm Q kc ks R cc own nL l ws lv rest (pc + 3)) : RG X Fm Q kc ks R cc own nL l ws lv (.int y :: .int x :: rest) pc :=
  fun p e s m args below meth c H locs ls C F h => lv_icmp_ge C.1 C.2.1 hd ht (fun q => absurd q hc) (fun _ => k p e s m args below meth c H locs ls C F h)
theorem rg_obj {idx a : Nat} (hl : Cond.methodLink own idx objectInit ∈ mW) (hi : Cond.instanceMethod objectInit ∈ mW) (hc : Cond.code objectInit ⟨#[0xb1]⟩ 1 none ∈ mW) (hd : decode cc pc = .ok (.invokespecial idx, 3)) (hf : 1 ≤ R.frames) (hlo : (rest.map fun v => v.category).sum + 12 ≤ R.locals) (k : RG X Fm Q kc ks R cc own nL l ws lv rest (pc + 3)) : RG X Fm Q kc ks R cc own nL l ws lv (.ref a :: rest) pc :=
  fun p e s m args below meth c H locs ls C F h => W.objInit C.1 C.2.1 C.2.2.2.1 (C.2.2.2.2.1 _ hl) (C.2.2.2.2.1 _ hi) (C.2.2.2.2.1 _ hc) rfl (by rw [C.2.2.1]; exact h.1) rfl hd hf (by simpa [JFrame.monitorRoom] using hlo) (W.eq (g2 := F0 m (pc + 3) ls rest) rfl (k p e s m args below meth c H locs ls C F h))
theorem rg_new {C : String} {T : u_T} {N ci idx : Nat} {fs : List Value} (hin : ∀ w ∈ u_ws C T N, w ∈ mW) (ty : Nat → FieldType) (hty : ∀ k, k < N → parseFieldDescriptor (T k).2.2.1 = some (ty k)) (hcl : Cond.classLink own idx C ∈ mW) (hinst : Cond.instantiable C N ∈ mW) (hini : Cond.initialized C ∈ mW) (hc : vwCl[ci]? = some (C, T, N)) (hfs : ∀ j, j < N → defaultValue (ty j) = vp_V fs j) (hcells : kc + 1 ≤ R.cells) (hslots : ks + N ≤ R.slots) (hd : decode cc pc = .ok (.new idx, 3))
    (kk : ∀ q, RG X Fm Q (kc + 1) (ks + N) R cc own nL l (ws ++ [(q, .inr (ci, fs))]) lv (.ref q :: rest) (pc + 3)) : RG X Fm Q kc ks R cc own nL l ws lv rest pc :=
  fun p e s m args below meth c H locs ls C F h => va_new C.1 C.2.1 C.2.2.2.2.1 hin ty hty C.2.2.2.1 (C.2.2.2.2.1 _ hcl) (C.2.2.2.2.1 _ hinst) (C.2.2.2.2.1 _ hini) C.2.2.2.2.2.1.1 C.2.2.2.2.2.2.2.1 C.2.2.2.2.2.2.2.2.1 C.2.2.2.2.2.2.2.2.2 C.2.2.2.2.2.2.1 hc hfs hcells hslots hd (fun q H1 hP hD hS => kk q p e s m args below meth c H1 locs ls ⟨C.1, C.2.1, C.2.2.1, C.2.2.2.1, C.2.2.2.2.1, C.2.2.2.2.2.1, C.2.2.2.2.2.2.1, hP, hD, hS⟩ F h)
theorem rg_newa {atype : ArrayType} {ty : FieldType} {n : Int32} {N t : Nat} {cA : ClassId} {a0 : vp_A} (harr : Cond.arrayClass (newarray.typeOf atype) ∈ mW) (hty : newarray.typeOf atype = ty) (hobj : ∀ C, ty ≠ .object C) (ht : (mTys X)[t]? = some (cA, ty)) (ha : ∀ cA : ClassId, vp_cell cA a0 = arrV cA N (fun _ => defaultValue ty)) (hn : ¬ n < 0) (hN : n.toNatClampNeg = N) (hby : N * componentBytes ty ≤ 536870912) (hcells : kc + 1 ≤ R.cells) (hslots : ks + N ≤ R.slots) (hd : decode cc pc = .ok (.newarray atype, 2))
    (kk : ∀ q, RG X Fm Q (kc + 1) (ks + N) R cc own nL l (ws ++ [(q, .inl (cA, a0))]) lv (.ref q :: rest) (pc + 2)) : RG X Fm Q kc ks R cc own nL l ws lv (.int n :: rest) pc :=
  fun p e s m args below meth c H locs ls C F h => va_newa C.1 C.2.1 (C.2.2.2.2.1 _ harr) hty C.2.2.2.2.2.1.1 C.2.2.2.2.2.2.2.1 C.2.2.2.2.2.2.2.2.1 C.2.2.2.2.2.2.2.2.2 C.2.2.2.2.2.2.1 ha hn hN hby hcells hslots hd (fun q cB H1 hK hP hD hS => by
    have e1 := (C.2.2.2.2.2.1.1.2 t _ ht).2
    have e2 := (hK.2 (mTys X).length (cB, ty) (by simp)).2
    have e3 : cB = cA := by
      cases ty <;> first | (exact absurd rfl (hobj _)) | exact Option.some.inj ((show s.vm.findClass _ = some cB from e2).symm.trans (show s.vm.findClass _ = some cA from e1))
    subst e3
    exact kk q p e s m args below meth c H1 locs ls ⟨C.1, C.2.1, C.2.2.1, C.2.2.2.1, C.2.2.2.2.1, C.2.2.2.2.2.1, C.2.2.2.2.2.2.1, hP, hD, hS⟩ F h)
theorem rg_newq {C : String} {n : Int32} {N t idx : Nat} {cA : ClassId} (hAO : ∀ s, rGood X s → va_AO C s) (hcl : Cond.classLink own idx C ∈ mW) (ht : (mTys X)[t]? = some (cA, .object C)) (hn : ¬ n < 0) (hN : n.toNatClampNeg = N) (hby : N * 4 ≤ 536870912) (hcells : kc + 1 ≤ R.cells) (hslots : ks + N ≤ R.slots) (hd : decode cc pc = .ok (.anewarray idx, 3))
    (kk : ∀ q, RG X Fm Q (kc + 1) (ks + N) R cc own nL l (ws ++ [(q, .inl (cA, N, .inr (.inr (.inr (.inr (fun _ => none))))))]) lv (.ref q :: rest) (pc + 3)) : RG X Fm Q kc ks R cc own nL l ws lv (.int n :: rest) pc :=
  fun p e s m args below meth c H locs ls Cx F h => va_newq Cx.1 Cx.2.1 Cx.2.2.2.1 (Cx.2.2.2.2.1 _ hcl) (hAO s Cx.2.2.2.2.2.1) Cx.2.2.2.2.2.1.1 Cx.2.2.2.2.2.2.2.1 Cx.2.2.2.2.2.2.2.2.1 Cx.2.2.2.2.2.2.2.2.2 Cx.2.2.2.2.2.2.1 hn hN hby hcells hslots hd (fun q cB H1 hK hP hD hS => by
    obtain ⟨_, _, -, -, -, e1⟩ := (Cx.2.2.2.2.2.1.1.2 t _ ht).2
    obtain ⟨_, _, -, -, -, e2⟩ := (hK.2 (mTys X).length (cB, .object C) (by simp)).2
    have e3 : cB = cA := Option.some.inj (e2.symm.trans e1)
    subst e3
    exact kk q p e s m args below meth c H1 locs ls ⟨Cx.1, Cx.2.1, Cx.2.2.1, Cx.2.2.2.1, Cx.2.2.2.2.1, Cx.2.2.2.2.2.1, Cx.2.2.2.2.2.2.1, hP, hD, hS⟩ F h)
theorem rg_get {a ci k idx N i : Nat} {fs : List Value} {v : Value} {C : String} {T : u_T} (hc : ws[i]? = some (a, .inr (ci, fs))) (hcl : vwCl[ci]? = some (C, T, N)) (hk : k < N) (hv : fs[k]? = some v) (hin : ∀ w ∈ u_ws C T N, w ∈ mW) (hl : Cond.fieldLink own idx (T k).1 (T k).2.1 (T k).2.2.1 ∈ mW) (hd : decode cc pc = .ok (.getfield idx, 3)) (kk : RG X Fm Q kc ks R cc own nL l ws lv (v :: rest) (pc + 3)) : RG X Fm Q kc ks R cc own nL l ws lv (.ref a :: rest) pc :=
  fun p e s m args below meth c H locs ls Cx F h => va_get Cx.1 Cx.2.1 Cx.2.2.2.2.1 hin Cx.2.2.2.1 Cx.2.2.2.2.2.1.1 Cx.2.2.2.2.2.2.2.1 i hc hcl k hk (Cx.2.2.2.2.1 _ hl) (fun _ h9 => h9) hv hd (kk p e s m args below meth c H locs ls Cx F h)
theorem rg_put {a ci k idx N i : Nat} {fs : List Value} {v : Value} {C : String} {T : u_T} {ty : FieldType} (hc : ws[i]? = some (a, .inr (ci, fs))) (hcl : vwCl[ci]? = some (C, T, N)) (hk : k < N) (hl9 : k < fs.length) (hin : ∀ w ∈ u_ws C T N, w ∈ mW) (ty0 : Nat → FieldType) (hty : ∀ k, k < N → parseFieldDescriptor (T k).2.2.1 = some (ty0 k)) (hnm : ∀ a, a < N → ∀ b, b < N → a ≠ b → (T a).2.1 ≠ (T b).2.1) (hl : Cond.fieldLink own idx (T k).1 (T k).2.1 (T k).2.2.1 ∈ mW) (hfin : (T k).2.2.2 = false) (hdt : parseFieldDescriptor (T k).2.2.1 = some ty) (hn : narrow ty v = v) (hfit : fits ty v = true) (hset : ws.set i (a, .inr (ci, fs.set k v)) = ws') (hd : decode cc pc = .ok (.putfield idx, 3)) (kk : RG X Fm Q kc ks R cc own nL l ws' lv rest (pc + 3)) : RG X Fm Q kc ks R cc own nL l ws lv (v :: .ref a :: rest) pc :=
  fun p e s m args below meth c H locs ls C F h => va_put C.1 C.2.1 C.2.2.2.2.1 hin ty0 hty hnm C.2.2.2.1 C.2.2.2.2.2.1.1 C.2.2.2.2.2.2.2.1 C.2.2.2.2.2.2.2.2.1 C.2.2.2.2.2.2.2.2.2 i hc hcl k hk (C.2.2.2.2.1 _ hl) (fun _ h9 => h9) hfin hdt hn hfit hl9 hd (fun H1 locs1 hP hD hS => kk p e s m args below meth c H1 locs1 ls ⟨C.1, C.2.1, C.2.2.1, C.2.2.2.1, C.2.2.2.2.1, C.2.2.2.2.2.1, C.2.2.2.2.2.2.1, by rw [← hset]; exact hP, by rw [← hset]; exact hD, hS⟩ F h)
theorem rg_putF {a ci k idx N i : Nat} {fs : List Value} {v : Value} {C : String} {T : u_T} {ty : FieldType} (hc : ws[i]? = some (a, .inr (ci, fs))) (hcl : vwCl[ci]? = some (C, T, N)) (hk : k < N) (hl9 : k < fs.length) (hin : ∀ w ∈ u_ws C T N, w ∈ mW) (ty0 : Nat → FieldType) (hty : ∀ k, k < N → parseFieldDescriptor (T k).2.2.1 = some (ty0 k)) (hnm : ∀ a, a < N → ∀ b, b < N → a ≠ b → (T a).2.1 ≠ (T b).2.1) (hl : Cond.fieldLink own idx (T k).1 (T k).2.1 (T k).2.2.1 ∈ mW) (hfin : (T k).2.2.2 = true) (hown : (T k).1 = own) (hdt : parseFieldDescriptor (T k).2.2.1 = some ty) (hn : narrow ty v = v) (hfit : fits ty v = true) (hset : ws.set i (a, .inr (ci, fs.set k v)) = ws') (hd : decode cc pc = .ok (.putfield idx, 3)) (hF : ∀ s a m, Fm s a m → m.name = "<init>") (kk : RG X Fm Q kc ks R cc own nL l ws' lv rest (pc + 3)) : RG X Fm Q kc ks R cc own nL l ws lv (v :: .ref a :: rest) pc :=
  fun p e s m args below meth c H locs ls C F h => va_putF C.1 C.2.1 C.2.2.2.2.1 hin ty0 hty hnm C.2.2.2.1 C.2.2.2.2.2.1.1 C.2.2.2.2.2.2.2.1 C.2.2.2.2.2.2.2.2.1 C.2.2.2.2.2.2.2.2.2 i hc hcl k hk (C.2.2.2.2.1 _ hl) (fun _ h9 => h9) hfin (hF _ _ _ F) hown hdt hn hfit hl9 hd (fun H1 locs1 hP hD hS => kk p e s m args below meth c H1 locs1 ls ⟨C.1, C.2.1, C.2.2.1, C.2.2.2.1, C.2.2.2.2.1, C.2.2.2.2.2.1, C.2.2.2.2.2.2.1, by rw [← hset]; exact hP, by rw [← hset]; exact hD, hS⟩ F h)
theorem rg_astore {a i iv ci t n v : Nat} {j : Int32} {cA : ClassId} {r : vw_C} {vs : List Value} {f : Nat → Option Nat} (ha : ws[i]? = some (a, .inl (cA, n, .inr (.inr (.inr (.inr f)))))) (ht : (mTys X)[t]? = some (cA, .object r.1)) (hv : ws[iv]? = some (v, .inr (ci, vs))) (hc : vwCl[ci]? = some r) (hj : 0 ≤ j ∧ j.toNatClampNeg < n) (hset : ws.set i (a, .inl (cA, n, .inr (.inr (.inr (.inr (va_up f j.toNatClampNeg (some v))))))) = ws') (hd : decode cc pc = .ok (.aastore, 1)) (kk : RG X Fm Q kc ks R cc own nL l ws' lv rest (pc + 1)) : RG X Fm Q kc ks R cc own nL l ws lv (.ref v :: .int j :: .ref a :: rest) pc :=
  fun p e s m args below meth c H locs ls C F h => va_astq C.1 C.2.1 C.2.2.2.2.2.1.1 C.2.2.2.2.2.2.2.1 C.2.2.2.2.2.2.2.2.1 C.2.2.2.2.2.2.2.2.2 i t iv ci ha ht hv hc (mIn_of hj) hd (fun H1 locs1 hP hD hS => kk p e s m args below meth c H1 locs1 ls ⟨C.1, C.2.1, C.2.2.1, C.2.2.2.1, C.2.2.2.2.1, C.2.2.2.2.2.1, C.2.2.2.2.2.2.1, by rw [← hset]; exact hP, by rw [← hset]; exact hD, hS⟩ F h)
theorem rg_iastore {a i n : Nat} {j x : Int32} {f : Nat → Int32} (ha : ws[i]? = some (a, .inl (X.2.2.1 1, n, .inl f))) (hj : 0 ≤ j ∧ j.toNatClampNeg < n) (hset : ws.set i (a, .inl (X.2.2.1 1, n, .inl (upd f j.toNatClampNeg x))) = ws') (hd : decode cc pc = .ok (.iastore, 1)) (kk : RG X Fm Q kc ks R cc own nL l ws' lv rest (pc + 1)) : RG X Fm Q kc ks R cc own nL l ws lv (.int x :: .int j :: .ref a :: rest) pc :=
  fun p e s m args below meth c H locs ls C F h => va_iast C.1 C.2.1 C.2.2.2.2.2.1.1 C.2.2.2.2.2.2.2.1 C.2.2.2.2.2.2.2.2.1 C.2.2.2.2.2.2.2.2.2 i 1 ha rfl (mIn_of hj) hd (fun H1 locs1 hP hD hS => kk p e s m args below meth c H1 locs1 ls ⟨C.1, C.2.1, C.2.2.1, C.2.2.2.1, C.2.2.2.2.1, C.2.2.2.2.2.1, C.2.2.2.2.2.2.1, by rw [← hset]; exact hP, by rw [← hset]; exact hD, hS⟩ F h)
theorem rg_return {Post : va_W → Prop} {mc ms : Nat} (hp : Post ws) (hd : decode cc pc = .ok (.return_, 1)) : RG X rInit (rEnd X Post mc ms) mc ms R cc own nL l ws lv [] pc :=
  fun p e s m args below meth c H locs ls C F h => W.vret C.1 C.2.1 F.1 (fun t ht hW => ⟨rfl, ⟨ws, hp, by rw [ht]; exact C.2.2.2.2.2.2.2.1, C.2.2.2.2.2.2.2.2.1⟩, C.2.2.2.2.2.2.2.2.2.F ht⟩) C.2.2.2.2.2.2.2.2.2.2.2 hd F.2.1
variable {y : MethodName} {bc : ByteArray} {nB idx n b mc ms : Nat} {rm : Room} {As : List Value} {host : String} {Post : va_W → Prop}
theorem rBlind : FrameBlind (va_Pc As (fun U => rGood X U ∧ (∀ q, U.heap.size ≤ q → X.2.2.2.1 q) ∧ va_P X.1 vwCl ws U.heap ∧ va_D X.2.2.2.1 ws)) := fun _ _ _ _ q => ⟨q.1, q.2.1.calling, q.2.2⟩
theorem rg_run (a0 : Array Value) (hrun : ∀ (p : Program) (e : Env) (s : State) (m : MethodId) (args : Array Value) (below : List Frame) (meth : Method) (c : Code) (H : Heap) (locs : List Loc) (ls : Array Slot), rAt X cc own nL p s m args c H locs ws → Fm s args meth → lv_has ls nL lv → va_Run p l e R s m args below meth c H locs kc ks mc ms (F0 m pc ls (As.reverse ++ .ref b :: rest)) rest (rQc X Post a0) X.2.2.2.1)
    (kk : ∀ ws, Post ws → RG X Fm Q (kc + mc) (ks + ms) R cc own nL l ws lv rest (pc + 3)) : RG X Fm Q kc ks R cc own nL l ws lv (As.reverse ++ .ref b :: rest) pc := by
  intro p e s m args below meth c H locs ls C F h T hT Y
  obtain ⟨v, st₀, t, T', L, g0, Y', hL, e1, e2, ⟨hv, ⟨ws1, hp1, hP1, hD1⟩, hF⟩, st⟩ := hrun p e s m args below meth c H locs ls C F h T hT Y
  cases hv
  have hz := hF.1
  have hk := hF.2
  rw [g0] at hz hk
  have hS := C.2.2.2.2.2.2.2.2.2
  obtain ⟨t2, a1, b1⟩ := kk ws1 hp1 p e s m args below meth c T'.heap (locs ++ L) ls ⟨C.1, C.2.1, C.2.2.1, C.2.2.2.1, C.2.2.2.2.1, C.2.2.2.2.2.1, C.2.2.2.2.2.2.1, by rw [e1]; exact hP1, hD1,
    ⟨Nat.le_trans hS.1 (by rw [e1]; exact hz), fun q h1 h2 => by rw [e1, hk q (Nat.lt_of_lt_of_le h1 hS.1) h2]; exact hS.2.1 q h1 h2, fun q hq => by
      rcases List.mem_append.mp hq with h | h
      · exact hS.2.2 q h
      · exact hL q h⟩⟩ F h T' rfl Y'
  exact ⟨t2, st t2 a1, b1⟩
theorem rPre {s : State} {m : MethodId} {p : Program} {args : Array Value} {c : Code} {H : Heap} {locs : List Loc} (C : rAt X cc own nL p s m args c H locs ws) : ∀ U : State, U.heap = H → s.WarmedH U.vm → va_Pc As (fun U => rGood X U ∧ (∀ q, U.heap.size ≤ q → X.2.2.2.1 q) ∧ va_P X.1 vwCl ws U.heap ∧ va_D X.2.2.2.1 ws) As.toArray U :=
  fun U hU hW => ⟨rfl, C.2.2.2.2.2.1.moved hW, fun q hq => C.2.2.2.2.2.2.1 q (Nat.le_trans C.2.2.2.2.2.2.2.2.2.1 (by rw [← hU]; exact hq)), by rw [hU]; exact C.2.2.2.2.2.2.2.1, C.2.2.2.2.2.2.2.2.1⟩
theorem rg_callI (hM : RMet X y bc nB rm mc ms (.ref b :: As) l ws Post) (hc : Cond.code y bc nB none ∈ mW) (hl : Cond.methodLink own idx y ∈ mW) (hi : Cond.instanceMethod y ∈ mW) (hini : Cond.initialized y.cls ∈ mW) (hdc : mDesc y n) (hnm : y.name = "<init>") (hz : rm.cells = mc ∧ rm.slots = ms) (hR : rm.frames + 1 ≤ R.frames ∧ 8 + (nB + 11) + rm.locals ≤ R.locals) (hn : As.length = n) (hr8 : (rest.map fun v => v.category).sum ≤ 8) (hcs : kc + mc ≤ R.cells ∧ ks + ms ≤ R.slots) (hd : decode cc pc = .ok (.invokespecial idx, 3))
    (kk : ∀ ws, Post ws → RG X Fm Q (kc + mc) (ks + ms) R cc own nL l ws lv rest (pc + 3)) : RG X Fm Q kc ks R cc own nL l ws lv (As.reverse ++ .ref b :: rest) pc := by
  refine rg_run (Value.ref b :: As).toArray (fun p e s m args below meth c H locs ls C F h => ?_) kk
  have ok := C.2.2.2.2.1
  exact va_runI (As := As) (rest := rest) ⟨C.1, C.2.1, C.2.2.1, C.2.2.2.1, ok⟩ hM ⟨callB_of n ok (mGoodIn hc) rfl hz.1 hz.2 (ok _ hini) (ok _ hl) hdc hR, hnm, ok _ hi⟩ ⟨rBlind, rPre C⟩ rfl hn h.1 rfl (lv_room hr8) hd hcs
theorem rg_callIN (hM : RMet X y bc nB rm mc ms (.ref b :: As) l ws Post) (hc : Cond.code y bc nB none ∈ mW) (hl : Cond.methodLinkNest own idx y host ∈ mN) (hi : Cond.instanceMethod y ∈ mW) (hini : Cond.initialized y.cls ∈ mW) (hdc : mDesc y n) (hnm : y.name = "<init>") (hz : rm.cells = mc ∧ rm.slots = ms) (hR : rm.frames + 1 ≤ R.frames ∧ 8 + (nB + 11) + rm.locals ≤ R.locals) (hn : As.length = n) (hr8 : (rest.map fun v => v.category).sum ≤ 8) (hcs : kc + mc ≤ R.cells ∧ ks + ms ≤ R.slots) (hd : decode cc pc = .ok (.invokespecial idx, 3))
    (kk : ∀ ws, Post ws → RG X Fm Q (kc + mc) (ks + ms) R cc own nL l ws lv rest (pc + 3)) : RG X Fm Q kc ks R cc own nL l ws lv (As.reverse ++ .ref b :: rest) pc := by
  refine rg_run (Value.ref b :: As).toArray (fun p e s m args below meth c H locs ls C F h => ?_) kk
  have ok := C.2.2.2.2.1
  exact va_runIN (As := As) (rest := rest) ⟨C.1, C.2.1, C.2.2.1, C.2.2.2.1, ok⟩ hM ⟨va_cnB n ok (mGoodIn hc) rfl hz.1 hz.2 (C.2.2.2.2.2.1.2.1 _ hl) (ok _ hini) hdc hR, hnm, ok _ hi⟩ ⟨rBlind, rPre C⟩ rfl hn h.1 rfl (lv_room hr8) hd hcs
theorem RMet_of (hy : plainFor y = true) (ho : y.cls = own) (hnm : y.name = "<init>") (hn : (lg_sl As).length ≤ nL) (h : RG X rInit (rEnd X Post mc ms) 0 0 R cc own nL l ws (lv_args 0 As) [] 0) : RMet X y cc nL R mc ms As l ws Post := by
  subst ho
  unfold RMet
  refine MetFree.of_bodySF (code := cc) (maxLocals := nL) (ret := none) hy ?_ ?_
  · intro args s m h hn
    obtain ⟨meth, c, h1, h2, h3, h4, h5, h6, -, -⟩ := Cond.code_spec hn (atoms_spec (ws := Cond.code y cc nL none :: mW) h _ List.mem_cons_self)
    exact ⟨meth, c, h1, h2, h3, h4, h5, h6⟩
  · intro p e s m args below meth c s₁ B hml hv _
    obtain ⟨rfl, hG, hA, hP, hD⟩ := hv
    have hts := atoms_spec (ws := Cond.code y cc nL none :: mW) B.pre
    have hl := lv_entry As (n := nL) hn
    have hh0 : s₁.heap = s.heap := by rw [B.state]; rfl
    have K := h p e s m _ below meth c s.heap [] _ ⟨B.exec, B.bytes, hml, findClass_of_methodNamed B.named, fun w hw => hts w (List.mem_cons_of_mem _ hw), hG, hA, hP, hD, va_S.rf⟩ ⟨B.returns, B.notSynchronized, (name_of_methodNamed B.named B.method).1.trans hnm⟩ hl
    rw [lg_entry_eq]
    obtain ⟨t, a1, o, b1, b2, b3⟩ := K s₁ hh0 (Stand.of_body B)
    exact ⟨t, o, a1, b1, b2, b3.1, b3.2⟩
end RGR
theorem rGet {w0 tl : va_W} {k : Nat} : (w0 ++ tl)[w0.length + k]? = tl[k]? := by
  rw [List.getElem?_append_right (Nat.le_add_right _ _), Nat.add_sub_cancel_left]
theorem rSet {w0 tl : va_W} {k : Nat} {x : Nat × va_E} : (w0 ++ tl).set (w0.length + k) x = w0 ++ tl.set k x := by
  rw [List.set_append_right _ _ (Nat.le_add_right _ _), Nat.add_sub_cancel_left]
