/-! rows of MW that touch the heap; calls; returns; the entry -/
def mBind {α β : Type} (x : Option (α × mM)) (k : α → mM → Option (β × mM)) : Option (β × mM) := match x with
  | none => none
  | some q => k q.1 q.2
theorem mBind_some {α β : Type} {x : Option (α × mM)} {k : α → mM → Option (β × mM)} {q : β × mM} (h : mBind x k = some q) : ∃ r S, x = some (r, S) ∧ k r S = some q := by
  cases x with
  | none => cases h
  | some z => exact ⟨z.1, z.2, rfl, h⟩
theorem mBind_of {α β : Type} {k : α → mM → Option (β × mM)} (r : α) (S : mM) : mBind (some (r, S)) k = k r S := rfl
section MWH
variable {α : Type} {X : mX} {E : State → Prop} {Qf : List Frame → Array Value → State → α → mM → State → Prop} {kc ks : Nat} {R : Room} {cc : ByteArray} {own : String} {nL : Nat} {ret : Option FieldType} {l : Launch} {S S1 : mM} {lv lv' : List (Nat × Value)} {rest : List Value} {pc : Nat} {res A B : Option (α × mM)}
theorem mw_get {a ci k idx N : Nat} {fs : List Value} {v : Value} {C : String} {T : u_T} (hlt : a < mNA) (hc : mCell X S a = .inr (ci, fs)) (hcl : vwCl[ci]? = some (C, T, N)) (hk : k < N) (hv : fs[k]? = some v) (hin : ∀ w ∈ u_ws C T N, w ∈ mW) (hl : Cond.fieldLink own idx (T k).1 (T k).2.1 (T k).2.2.1 ∈ mW) (hd : decode cc pc = .ok (.getfield idx, 3)) (kk : MG X E Qf kc ks R cc own nL ret l S lv (v :: rest) (pc + 3) res) : MG X E Qf kc ks R cc own nL ret l S lv (.ref (X.2.1 a) :: rest) pc res :=
  fun r S' hr p e s m args below meth c H locs ls Cx hP hS h => va_get Cx.1.1 Cx.1.2.1 Cx.1.2.2.2.2.2.1 hin Cx.1.2.2.2.2.1 Cx.1.2.2.2.2.2.2.2.1 hP a ((mWs_at hlt).trans (by rw [hc])) hcl k hk (Cx.1.2.2.2.2.2.1 _ hl) (fun _ h9 => h9) hv hd (kk r S' hr p e s m args below meth c H locs ls Cx hP hS h)
theorem mw_getN {a ci k idx N : Nat} {fs : List Value} {v : Value} {C host : String} {T : u_T} (hlt : a < mNA) (hc : mCell X S a = .inr (ci, fs)) (hcl : vwCl[ci]? = some (C, T, N)) (hk : k < N) (hv : fs[k]? = some v) (hin : ∀ w ∈ u_ws C T N, w ∈ mW) (hl : Cond.fieldLinkNest own idx (T k).1 (T k).2.1 (T k).2.2.1 host ∈ mN) (hd : decode cc pc = .ok (.getfield idx, 3)) (kk : MG X E Qf kc ks R cc own nL ret l S lv (v :: rest) (pc + 3) res) : MG X E Qf kc ks R cc own nL ret l S lv (.ref (X.2.1 a) :: rest) pc res :=
  fun r S' hr p e s m args below meth c H locs ls Cx hP hS h => va_getN Cx.1.1 Cx.1.2.1 Cx.1.2.2.2.2.2.1 hin Cx.1.2.2.2.2.1 Cx.1.2.2.2.2.2.2.2.1 hP a ((mWs_at hlt).trans (by rw [hc])) hcl k hk (va_Nw.use rfl (Cx.1.2.2.2.2.2.2.2.2.1 _ hl)) (fun _ h9 => h9) hv hd (kk r S' hr p e s m args below meth c H locs ls Cx hP hS h)
theorem mw_put {a ci k idx N : Nat} {fs : List Value} {v : Value} {C : String} {T : u_T} {ty : FieldType} (hlt : a < mNA) (hc : mCell X S a = .inr (ci, fs)) (hcl : vwCl[ci]? = some (C, T, N)) (hk : k < N) (hl9 : k < fs.length) (hin : ∀ w ∈ u_ws C T N, w ∈ mW) (ty0 : Nat → FieldType) (hty : ∀ k, k < N → parseFieldDescriptor (T k).2.2.1 = some (ty0 k)) (hnm : ∀ a, a < N → ∀ b, b < N → a ≠ b → (T a).2.1 ≠ (T b).2.1) (hl : Cond.fieldLink own idx (T k).1 (T k).2.1 (T k).2.2.1 ∈ mW) (hfin : (T k).2.2.2 = false) (hdt : parseFieldDescriptor (T k).2.2.1 = some ty) (hn : narrow ty v = v) (hfit : fits ty v = true) (hset : (mWs X S).set a (X.2.1 a, .inr (ci, fs.set k v)) = mWs X S1) (hd : decode cc pc = .ok (.putfield idx, 3)) (kk : MG X E Qf kc ks R cc own nL ret l S1 lv rest (pc + 3) res) : MG X E Qf kc ks R cc own nL ret l S lv (v :: .ref (X.2.1 a) :: rest) pc res :=
  fun r S' hr p e s m args below meth c H locs ls Cx hP hS h => va_put Cx.1.1 Cx.1.2.1 Cx.1.2.2.2.2.2.1 hin ty0 hty hnm Cx.1.2.2.2.2.1 Cx.1.2.2.2.2.2.2.2.1 hP (Cx.1.2.2.2.2.2.2.2.D S) hS a ((mWs_at hlt).trans (by rw [hc])) hcl k hk (Cx.1.2.2.2.2.2.1 _ hl) (fun _ h9 => h9) hfin hdt hn hfit hl9 hd (fun H1 locs1 hP1 _ hS1 => kk r S' hr p e s m args below meth c H1 locs1 ls Cx (by rw [← hset]; exact hP1) hS1 h)
theorem mw_putN {a ci k idx N : Nat} {fs : List Value} {v : Value} {C host : String} {T : u_T} {ty : FieldType} (hlt : a < mNA) (hc : mCell X S a = .inr (ci, fs)) (hcl : vwCl[ci]? = some (C, T, N)) (hk : k < N) (hl9 : k < fs.length) (hin : ∀ w ∈ u_ws C T N, w ∈ mW) (ty0 : Nat → FieldType) (hty : ∀ k, k < N → parseFieldDescriptor (T k).2.2.1 = some (ty0 k)) (hnm : ∀ a, a < N → ∀ b, b < N → a ≠ b → (T a).2.1 ≠ (T b).2.1) (hl : Cond.fieldLinkNest own idx (T k).1 (T k).2.1 (T k).2.2.1 host ∈ mN) (hfin : (T k).2.2.2 = false) (hdt : parseFieldDescriptor (T k).2.2.1 = some ty) (hn : narrow ty v = v) (hfit : fits ty v = true) (hset : (mWs X S).set a (X.2.1 a, .inr (ci, fs.set k v)) = mWs X S1) (hd : decode cc pc = .ok (.putfield idx, 3)) (kk : MG X E Qf kc ks R cc own nL ret l S1 lv rest (pc + 3) res) : MG X E Qf kc ks R cc own nL ret l S lv (v :: .ref (X.2.1 a) :: rest) pc res :=
  fun r S' hr p e s m args below meth c H locs ls Cx hP hS h => va_putN Cx.1.1 Cx.1.2.1 Cx.1.2.2.2.2.2.1 hin ty0 hty hnm Cx.1.2.2.2.2.1 Cx.1.2.2.2.2.2.2.2.1 hP (Cx.1.2.2.2.2.2.2.2.D S) hS a ((mWs_at hlt).trans (by rw [hc])) hcl k hk (va_Nw.use rfl (Cx.1.2.2.2.2.2.2.2.2.1 _ hl)) (fun _ h9 => h9) hfin hdt hn hfit hl9 hd (fun H1 locs1 hP1 _ hS1 => kk r S' hr p e s m args below meth c H1 locs1 ls Cx (by rw [← hset]; exact hP1) hS1 h)
theorem mIn_of {i : Int32} {n : Nat} (h : 0 ≤ i ∧ i.toNatClampNeg < n) : vp_in i n := fun q => by
  rcases q with q | q
  · exact absurd h.1 (Int32.not_le.mpr q)
  · exact absurd h.2 (Nat.not_lt.mpr q)
theorem mCell_k {a k : Nat} (h : mKind a = k) : mCell X S a = mRow X k a (S.1 a) (S.2.1 a) (S.2.2 a) := by rw [mCell, h]
theorem mw_iaload {a n : Nat} {i : Int32} (hk : mKind a = 21) (hn : mLen a = n) (hd : decode cc pc = .ok (.iaload, 1)) (kk : MG X E Qf kc ks R cc own nL ret l S lv (.int (S.1 a i.toNatClampNeg) :: rest) (pc + 1) A) : MG X E Qf kc ks R cc own nL ret l S lv (.int i :: .ref (X.2.1 a) :: rest) pc (if 0 ≤ i ∧ i.toNatClampNeg < n then A else none) :=
  mw_chk (fun q r S' hr p e s m args below meth c H locs ls Cx hP hS h => va_iald Cx.1.1 Cx.1.2.1 Cx.1.2.2.2.2.2.2.2.1 hP a 1 (f := S.1 a) ((mWs_at (mKind_lt hk (by decide))).trans (by rw [mCell_k hk]; rfl)) rfl (mIn_of (by rw [hn]; exact q)) hd (kk r S' hr p e s m args below meth c H locs ls Cx hP hS h))
theorem mw_laload {a n : Nat} {i : Int32} (hk : mKind a = 22) (hn : mLen a = n) (hd : decode cc pc = .ok (.laload, 1)) (kk : MG X E Qf kc ks R cc own nL ret l S lv (.long (S.2.1 a i.toNatClampNeg) :: rest) (pc + 1) A) : MG X E Qf kc ks R cc own nL ret l S lv (.int i :: .ref (X.2.1 a) :: rest) pc (if 0 ≤ i ∧ i.toNatClampNeg < n then A else none) :=
  mw_chk (fun q r S' hr p e s m args below meth c H locs ls Cx hP hS h => va_lald Cx.1.1 Cx.1.2.1 Cx.1.2.2.2.2.2.2.2.1 hP a 2 (f := S.2.1 a) ((mWs_at (mKind_lt hk (by decide))).trans (by rw [mCell_k hk]; rfl)) rfl (mIn_of (by rw [hn]; exact q)) hd (kk r S' hr p e s m args below meth c H locs ls Cx hP hS h))
theorem mw_baload {a n : Nat} {i : Int32} (hk : mKind a = 20) (hn : mLen a = n) (hd : decode cc pc = .ok (.baload, 1)) (kk : MG X E Qf kc ks R cc own nL ret l S lv (.int (S.1 a i.toNatClampNeg) :: rest) (pc + 1) A) : MG X E Qf kc ks R cc own nL ret l S lv (.int i :: .ref (X.2.1 a) :: rest) pc (if 0 ≤ i ∧ i.toNatClampNeg < n then A else none) :=
  mw_chk (fun q r S' hr p e s m args below meth c H locs ls Cx hP hS h => va_bald Cx.1.1 Cx.1.2.1 Cx.1.2.2.2.2.2.2.2.1 hP a 0 (f := S.1 a) ((mWs_at (mKind_lt hk (by decide))).trans (by rw [mCell_k hk]; rfl)) rfl (mIn_of (by rw [hn]; exact q)) hd (kk r S' hr p e s m args below meth c H locs ls Cx hP hS h))
theorem mw_zaload {a n : Nat} {i : Int32} (hk : mKind a = 23) (hn : mLen a = n) (hd : decode cc pc = .ok (.baload, 1)) (kk : MG X E Qf kc ks R cc own nL ret l S lv (.int (S.1 a i.toNatClampNeg) :: rest) (pc + 1) A) : MG X E Qf kc ks R cc own nL ret l S lv (.int i :: .ref (X.2.1 a) :: rest) pc (if 0 ≤ i ∧ i.toNatClampNeg < n then A else none) :=
  mw_chk (fun q r S' hr p e s m args below meth c H locs ls Cx hP hS h => va_zald Cx.1.1 Cx.1.2.1 Cx.1.2.2.2.2.2.2.2.1 hP a 3 (f := S.1 a) ((mWs_at (mKind_lt hk (by decide))).trans (by rw [mCell_k hk]; rfl)) rfl (mIn_of (by rw [hn]; exact q)) hd (kk r S' hr p e s m args below meth c H locs ls Cx hP hS h))
theorem mw_iastore {a n : Nat} {i x : Int32} (hk : mKind a = 21) (hn : mLen a = n) (hd : decode cc pc = .ok (.iastore, 1)) (kk : MG X E Qf kc ks R cc own nL ret l (setI S a i.toNatClampNeg x) lv rest (pc + 1) A) : MG X E Qf kc ks R cc own nL ret l S lv (.int x :: .int i :: .ref (X.2.1 a) :: rest) pc (if 0 ≤ i ∧ i.toNatClampNeg < n then A else none) :=
  mw_chk (fun q r S' hr p e s m args below meth c H locs ls Cx hP hS h => va_iast Cx.1.1 Cx.1.2.1 Cx.1.2.2.2.2.2.2.2.1 hP (Cx.1.2.2.2.2.2.2.2.D S) hS a 1 (f := S.1 a) ((mWs_at (mKind_lt hk (by decide))).trans (by rw [mCell_k hk]; rfl)) rfl (mIn_of (by rw [hn]; exact q)) hd (fun H1 locs1 hP1 _ hS1 => kk r S' hr p e s m args below meth c H1 locs1 ls Cx (by rw [← mWs_set (mKind_lt hk (by decide)) (fun b hb => mSetI_ne b hb) (mSetI_at.trans (by rw [hk]))]; exact hP1) hS1 h))
theorem mw_lastore {a n : Nat} {i : Int32} {x : Int64} (hk : mKind a = 22) (hn : mLen a = n) (hd : decode cc pc = .ok (.lastore, 1)) (kk : MG X E Qf kc ks R cc own nL ret l (setJ S a i.toNatClampNeg x) lv rest (pc + 1) A) : MG X E Qf kc ks R cc own nL ret l S lv (.long x :: .int i :: .ref (X.2.1 a) :: rest) pc (if 0 ≤ i ∧ i.toNatClampNeg < n then A else none) :=
  mw_chk (fun q r S' hr p e s m args below meth c H locs ls Cx hP hS h => va_last Cx.1.1 Cx.1.2.1 Cx.1.2.2.2.2.2.2.2.1 hP (Cx.1.2.2.2.2.2.2.2.D S) hS a 2 (f := S.2.1 a) ((mWs_at (mKind_lt hk (by decide))).trans (by rw [mCell_k hk]; rfl)) rfl (mIn_of (by rw [hn]; exact q)) hd (fun H1 locs1 hP1 _ hS1 => kk r S' hr p e s m args below meth c H1 locs1 ls Cx (by rw [← mWs_set (mKind_lt hk (by decide)) (fun b hb => mSetJ_ne b hb) (mSetJ_at.trans (by rw [hk]))]; exact hP1) hS1 h))
theorem mw_bastore {a n : Nat} {i x : Int32} (hk : mKind a = 20) (hn : mLen a = n) (hd : decode cc pc = .ok (.bastore, 1)) (kk : MG X E Qf kc ks R cc own nL ret l (setI S a i.toNatClampNeg (vp_nar .byte x)) lv rest (pc + 1) A) : MG X E Qf kc ks R cc own nL ret l S lv (.int x :: .int i :: .ref (X.2.1 a) :: rest) pc (if 0 ≤ i ∧ i.toNatClampNeg < n then A else none) :=
  mw_chk (fun q r S' hr p e s m args below meth c H locs ls Cx hP hS h => va_bast Cx.1.1 Cx.1.2.1 Cx.1.2.2.2.2.2.2.2.1 hP (Cx.1.2.2.2.2.2.2.2.D S) hS a 0 (f := S.1 a) ((mWs_at (mKind_lt hk (by decide))).trans (by rw [mCell_k hk]; rfl)) rfl (mIn_of (by rw [hn]; exact q)) hd (fun H1 locs1 hP1 _ hS1 => kk r S' hr p e s m args below meth c H1 locs1 ls Cx (by rw [← mWs_set (mKind_lt hk (by decide)) (fun b hb => mSetI_ne b hb) (mSetI_at.trans (by rw [hk]))]; exact hP1) hS1 h))
theorem mw_zastore {a n : Nat} {i x : Int32} (hk : mKind a = 23) (hn : mLen a = n) (hd : decode cc pc = .ok (.bastore, 1)) (kk : MG X E Qf kc ks R cc own nL ret l (setI S a i.toNatClampNeg (vp_nar .boolean x)) lv rest (pc + 1) A) : MG X E Qf kc ks R cc own nL ret l S lv (.int x :: .int i :: .ref (X.2.1 a) :: rest) pc (if 0 ≤ i ∧ i.toNatClampNeg < n then A else none) :=
  mw_chk (fun q r S' hr p e s m args below meth c H locs ls Cx hP hS h => va_zast Cx.1.1 Cx.1.2.1 Cx.1.2.2.2.2.2.2.2.1 hP (Cx.1.2.2.2.2.2.2.2.D S) hS a 3 (f := S.1 a) ((mWs_at (mKind_lt hk (by decide))).trans (by rw [mCell_k hk]; rfl)) rfl (mIn_of (by rw [hn]; exact q)) hd (fun H1 locs1 hP1 _ hS1 => kk r S' hr p e s m args below meth c H1 locs1 ls Cx (by rw [← mWs_set (mKind_lt hk (by decide)) (fun b hb => mSetI_ne b hb) (mSetI_at.trans (by rw [hk]))]; exact hP1) hS1 h))
theorem mw_alen {a n k t : Nat} {v : Int32} {x : vp_A} {cA : ClassId} {ty : FieldType} (hk : mKind a = k) (hk9 : k ≠ 99) (hc : mRow X k a (S.1 a) (S.2.1 a) (S.2.2 a) = .inl (cA, x)) (ht : (mTys X)[t]? = some (cA, ty)) (hv : Int32.ofNat x.1 = v) (hd : decode cc pc = .ok (.arraylength, 1)) (kk : MG X E Qf kc ks R cc own nL ret l S lv (.int v :: rest) (pc + 1) A) : MG X E Qf kc ks R cc own nL ret l S lv (.ref (X.2.1 a) :: rest) pc A :=
  fun r S' hr p e s m args below meth c H locs ls Cx hP hS h => va_alen Cx.1.1 Cx.1.2.1 Cx.1.2.2.2.2.2.2.2.1 hP a t ((mWs_at (mKind_lt hk hk9)).trans (by rw [mCell_k hk, hc])) ht hv hd (kk r S' hr p e s m args below meth c H locs ls Cx hP hS h)
theorem mw_aaload {a n k t : Nat} {i : Int32} {g : Nat → Nat} {cA : ClassId} {C : String} (hk : mKind a = k) (hk9 : k ≠ 99) (hc : mRow X k a (S.1 a) (S.2.1 a) (S.2.2 a) = .inl (cA, n, .inr (.inr (.inr (.inr (fun i => some (X.2.1 (g i)))))))) (ht : (mTys X)[t]? = some (cA, .object C)) (hd : decode cc pc = .ok (.aaload, 1)) (kk : (0 ≤ i ∧ i.toNatClampNeg < n) → MG X E Qf kc ks R cc own nL ret l S lv (.ref (X.2.1 (g i.toNatClampNeg)) :: rest) (pc + 1) A) : MG X E Qf kc ks R cc own nL ret l S lv (.int i :: .ref (X.2.1 a) :: rest) pc (if 0 ≤ i ∧ i.toNatClampNeg < n then A else none) :=
  mw_chk (fun q r S' hr p e s m args below meth c H locs ls Cx hP hS h => va_aldq (f := fun i => some (X.2.1 (g i))) Cx.1.1 Cx.1.2.1 Cx.1.2.2.2.2.2.2.2.1 hP a t ((mWs_at (mKind_lt hk hk9)).trans (by rw [mCell_k hk, hc])) ht (mIn_of q) hd (kk q r S' hr p e s m args below meth c H locs ls Cx hP hS h))
theorem mw_ldc2 {idx : Nat} {v : Int64} (hc : Cond.constantLong own idx v ∈ mW) (hd : decode cc pc = .ok (.ldc2_w idx, 3)) (kk : MG X E Qf kc ks R cc own nL ret l S lv (.long v :: rest) (pc + 3) A) : MG X E Qf kc ks R cc own nL ret l S lv rest pc A :=
  fun r S' hr p e s m args below meth c H locs ls Cx hP hS h => lv_ldc2 Cx.1.1 Cx.1.2.1 Cx.1.2.2.2.2.1 (Cx.1.2.2.2.2.2.1 _ hc) hd (kk r S' hr p e s m args below meth c H locs ls Cx hP hS h)
theorem mw_ldc {idx : Nat} {v : Int32} (hc : Cond.constant own idx v ∈ mW) (hd : decode cc pc = .ok (.ldc idx, 2)) (kk : MG X E Qf kc ks R cc own nL ret l S lv (.int v :: rest) (pc + 2) A) : MG X E Qf kc ks R cc own nL ret l S lv rest pc A :=
  fun r S' hr p e s m args below meth c H locs ls Cx hP hS h => lv_ldc Cx.1.1 Cx.1.2.1 Cx.1.2.2.2.2.1 (Cx.1.2.2.2.2.2.1 _ hc) hd (kk r S' hr p e s m args below meth c H locs ls Cx hP hS h)
theorem mw_tab {dflt lo hi : Int} {offs : Array Int} {len tgt : Nat} {x v : Int32} {off : Int} (hx : x = v) (hd : decode cc pc = .ok (.tableswitch dflt lo hi offs, len)) (h1 : ¬ v.toInt < lo) (h2 : ¬ hi < v.toInt) (ho : offs[(v.toInt - lo).toNat]? = some off) (ht : (pc : Int) + off = (tgt : Int)) (kk : MG X E Qf kc ks R cc own nL ret l S lv rest tgt A) : MG X E Qf kc ks R cc own nL ret l S lv (.int x :: rest) pc A := by
  subst hx
  exact fun r S' hr p e s m args below meth c H locs ls Cx hP hS h => lv_tableIn Cx.1.1 Cx.1.2.1 hd h1 h2 ho ht (kk r S' hr p e s m args below meth c H locs ls Cx hP hS h)
theorem mw_tabD {dflt lo hi : Int} {offs : Array Int} {len tgt : Nat} {x : Int32} (hd : decode cc pc = .ok (.tableswitch dflt lo hi offs, len)) (hx : x.toInt < lo ∨ hi < x.toInt) (ht : (pc : Int) + dflt = (tgt : Int)) (kk : MG X E Qf kc ks R cc own nL ret l S lv rest tgt A) : MG X E Qf kc ks R cc own nL ret l S lv (.int x :: rest) pc A :=
  fun r S' hr p e s m args below meth c H locs ls Cx hP hS h => lv_tableOut Cx.1.1 Cx.1.2.1 hd hx ht (kk r S' hr p e s m args below meth c H locs ls Cx hP hS h)
theorem mw_look {dflt : Int} {ps : Array (Int × Int)} {len tgt : Nat} {x : Int32} {off : Int} (hd : decode cc pc = .ok (.lookupswitch dflt ps, len)) (hp : (ps.toList.zip (ps.toList.drop 1)).all (fun (a, next) => a.1 < next.1) = true) (ho : Op.lookupswitch.offset ps.toList dflt x.toInt = off) (ht : (pc : Int) + off = (tgt : Int)) (kk : MG X E Qf kc ks R cc own nL ret l S lv rest tgt A) : MG X E Qf kc ks R cc own nL ret l S lv (.int x :: rest) pc A :=
  fun r S' hr p e s m args below meth c H locs ls Cx hP hS h => lv_lookup Cx.1.1 Cx.1.2.1 hd hp ho ht (kk r S' hr p e s m args below meth c H locs ls Cx hP hS h)
theorem mw_bndS {st : List Value} {K : mM → Option (α × mM)} (k : ∀ S, MG X E Qf kc ks R cc own nL ret l S lv st pc (K S)) : MG X E Qf kc ks R cc own nL ret l S lv st pc (bnd S K) := k S
theorem mw_bndA {x kd : Nat} {K : Nat → Option (α × mM)} (hk : mKind x = kd) (k : ∀ x, mKind x = kd → MG X E Qf kc ks R cc own nL ret l S lv (.ref (X.2.1 x) :: rest) pc (K x)) : MG X E Qf kc ks R cc own nL ret l S lv (.ref (X.2.1 x) :: rest) pc (bnd x K) := k x hk
theorem mw_iincB {i k : Nat} {n : Int} {x c : Int32} {lvf : Int32 → List (Nat × Value)} {K : Int32 → Option (α × mM)} (hd : decode cc pc = .ok (.iinc i n, 3)) (hk : lv[k]? = some (i, .int x)) (hc : Int32.ofInt n = c) (hn : i < nL) (hl : ∀ v, (i, Value.int v) :: lv.filter (fun q => !(q.1 == i) && !(q.1 + 1 == i && q.2.category == 2)) = lvf v) (kk : ∀ v, MG X E Qf kc ks R cc own nL ret l S (lvf v) rest (pc + 3) (K v)) : MG X E Qf kc ks R cc own nL ret l S lv rest pc (bnd (x + c) K) :=
  mw_iinc hd hk (by rw [hc]) hn (hl _) (kk (x + c))
end MWH
section MWE
variable {X : mX} {R : Room} {cc : ByteArray} {own : String} {nL : Nat} {ret : Option FieldType} {l : Launch} {S S1 : mM} {lv lv' : List (Nat × Value)} {rest : List Value} {pc : Nat}
theorem mw_ireturn {v : Int32} (hd : decode cc pc = .ok (.ireturn, 1)) : MW X viI R cc own nL (some .int) l S lv [.int v] pc (some (v, S)) := by
  intro r S' hr p e s m args below meth c H locs ls Cx hP hS h
  cases hr
  exact W.iret Cx.1.1 Cx.1.2.1 Cx.1.2.2.1 (fun t ht hW => ⟨rfl, by rw [ht]; exact hP, hS.F ht⟩) hS.2.2 hd Cx.1.2.2.2.2.2.2.1
theorem mw_zreturn {v : Int32} (hd : decode cc pc = .ok (.ireturn, 1)) : MW X viI R cc own nL (some .boolean) l S lv [.int v] pc (if v = 0 ∨ v = 1 then some (v, S) else none) := by
  refine mw_chk (fun q => ?_)
  intro r S' hr p e s m args below meth c H locs ls Cx hP hS h
  cases hr
  exact W.zret Cx.1.1 Cx.1.2.1 Cx.1.2.2.1 (by rcases q with rfl | rfl <;> rfl) (fun t ht hW => ⟨rfl, by rw [ht]; exact hP, hS.F ht⟩) hS.2.2 hd Cx.1.2.2.2.2.2.2.1
theorem mw_zret {v : Int32} (hv : v = 0 ∨ v = 1) (hd : decode cc pc = .ok (.ireturn, 1)) : MW X viI R cc own nL (some .boolean) l S lv [.int v] pc (some (v, S)) := by
  have := mw_zreturn (X := X) (R := R) (own := own) (nL := nL) (l := l) (S := S) (lv := lv) (v := v) hd
  rwa [if_pos hv] at this
theorem mw_lreturn {v : Int64} (hd : decode cc pc = .ok (.lreturn, 1)) : MW X viJ R cc own nL (some .long) l S lv [.long v] pc (some (v, S)) := by
  intro r S' hr p e s m args below meth c H locs ls Cx hP hS h
  cases hr
  exact W.lret Cx.1.1 Cx.1.2.1 Cx.1.2.2.1 (fun t ht hW => ⟨rfl, by rw [ht]; exact hP, hS.F ht⟩) hS.2.2 hd Cx.1.2.2.2.2.2.2.1
theorem mw_return (hd : decode cc pc = .ok (.return_, 1)) : MW X viV R cc own nL none l S lv [] pc (some ((), S)) := by
  intro r S' hr p e s m args below meth c H locs ls Cx hP hS h
  cases hr
  exact W.vret Cx.1.1 Cx.1.2.1 Cx.1.2.2.1 (fun t ht hW => ⟨rfl, by rw [ht]; exact hP, hS.F ht⟩) hS.2.2 hd Cx.1.2.2.2.2.2.2.1
theorem mw_areturn {v : Nat} {n : String} (hd : decode cc pc = .ok (.areturn, 1)) : MW X (viR X) R cc own nL (some (.object n)) l S lv [.ref (X.2.1 v)] pc (some (v, S)) := by
  intro r S' hr p e s m args below meth c H locs ls Cx hP hS h
  cases hr
  exact W.aret Cx.1.1 Cx.1.2.1 Cx.1.2.2.1 (Or.inl ⟨n, rfl⟩) (Or.inr ⟨_, rfl⟩) (fun t ht hW => ⟨rfl, by rw [ht]; exact hP, hS.F ht⟩) hS.2.2 hd Cx.1.2.2.2.2.2.2.1
/-- a method's contract out of the walk of its body -/
theorem mMet_of {α : Type} {vi : α → Option Value} {y : MethodName} {As : List Value} {res : Option (α × mM)} (hy : plainFor y = true) (ho : y.cls = own) (hn : (lg_sl As).length ≤ nL) (h : MW X vi R cc own nL ret l S (lv_args 0 As) [] 0 res) : mMet X vi y cc nL ret R As l S res := by
  intro r S' hr
  subst ho
  refine MetFree.of_bodySF (code := cc) (maxLocals := nL) (ret := ret) hy ?_ ?_
  · intro args s m h hn
    obtain ⟨meth, c, h1, h2, h3, h4, h5, h6, -, -⟩ := Cond.code_spec hn (atoms_spec (ws := Cond.code y cc nL ret :: mW) h _ List.mem_cons_self)
    exact ⟨meth, c, h1, h2, h3, h4, h5, h6⟩
  · intro p e s m args below meth c s₁ B hml hv _
    obtain ⟨rfl, hG, hP⟩ := hv
    have hts := atoms_spec (ws := Cond.code y cc nL ret :: mW) B.pre
    have hl := lv_entry As (n := nL) hn
    have hh0 : s₁.heap = s.heap := by rw [B.state]; rfl
    have K := h r S' hr p e s m _ below meth c s.heap [] _ ⟨⟨B.exec, B.bytes, B.returns, hml, findClass_of_methodNamed B.named, fun w hw => hts w (List.mem_cons_of_mem _ hw), B.notSynchronized, hG⟩, trivial⟩ hP va_S.rf hl
    rw [lg_entry_eq]
    obtain ⟨t, a1, o, b1, b2, b3⟩ := K s₁ hh0 (Stand.of_body B)
    exact ⟨t, o, a1, b1, b2, b3.1, b3.2⟩
end MWE
section MWC
variable {α β : Type} {X : mX} {E : State → Prop} {Qf : List Frame → Array Value → State → α → mM → State → Prop} {kc ks : Nat} {vi0 : β → Option Value} {R : Room} {cc : ByteArray} {own : String} {nL : Nat} {ret : Option FieldType} {l : Launch} {S S1 : mM} {lv lv' : List (Nat × Value)} {st0 rest : List Value} {pc : Nat} {res0 : Option (β × mM)} {K : β → mM → Option (α × mM)} {a0 : Array Value}
theorem mw_run (hrun : ∀ r0 S0, res0 = some (r0, S0) → ∀ (p : Program) (e : Env) (s : State) (m : MethodId) (args : Array Value) (below : List Frame) (meth : Method) (c : Code) (H : Heap) (locs : List Loc) (ls : Array Slot), (mCtx X cc own nL ret p s m args meth c ∧ E s) → va_P X.1 vwCl (mWs X S) H → va_S X.2.2.2.1 s.heap H locs → lv_has ls nL lv → va_Run p l e R s m args below meth c H locs kc ks 0 0 (F0 m pc ls st0) rest (mQc X (vi0 r0) S0 a0) X.2.2.2.1)
    (kk : ∀ r0 S0, MG X E Qf kc ks R cc own nL ret l S0 lv ((vi0 r0).toList ++ rest) (pc + 3) (K r0 S0)) : MG X E Qf kc ks R cc own nL ret l S lv st0 pc (mBind res0 K) := by
  intro r S' hr p e s m args below meth c H locs ls Cx hP hS h
  obtain ⟨r0, S0, h0, h1⟩ := mBind_some hr
  intro T hT Y
  obtain ⟨v, st₀, t, T', L, g0, Y', hL, e1, e2, ⟨hv, hP1, hF⟩, st⟩ := hrun r0 S0 h0 p e s m args below meth c H locs ls Cx hP hS h T hT Y
  cases hv
  have hz := hF.1
  have hk := hF.2
  rw [g0] at hz hk
  obtain ⟨t2, a1, b1⟩ := kk r0 S0 r S' h1 p e s m args below meth c T'.heap (locs ++ L) ls Cx (by rw [e1]; exact hP1)
    ⟨Nat.le_trans hS.1 (by rw [e1]; exact hz), fun q h1 h2 => by rw [e1, hk q (Nat.lt_of_lt_of_le h1 hS.1) h2]; exact hS.2.1 q h1 h2, fun q hq => by
      rcases List.mem_append.mp hq with h | h
      · exact hS.2.2 q h
      · exact hL q h⟩ h T' rfl Y'
  exact ⟨t2, st t2 a1, b1⟩
theorem mPre {As : List Value} {s : State} {H : Heap} {locs : List Loc} (hG : mGood X s) (hP : va_P X.1 vwCl (mWs X S) H) (hS : va_S X.2.2.2.1 s.heap H locs) : ∀ U : State, U.heap = H → s.WarmedH U.vm → va_Pc As (fun U => mGood X U ∧ va_P X.1 vwCl (mWs X S) U.heap) As.toArray U :=
  fun U hU hW => ⟨rfl, hG.moved hW (fun q h1 h2 => by rw [hU]; exact hS.2.1 q h1 h2), by rw [hU]; exact hP⟩
theorem mBlind {As : List Value} : FrameBlind (va_Pc As (fun U => mGood X U ∧ va_P X.1 vwCl (mWs X S) U.heap)) := fun _ _ _ _ q => ⟨q.1, q.2.1.calling, q.2.2⟩
variable {y : MethodName} {bc : ByteArray} {nB idx n ci b : Nat} {rb : Option FieldType} {rm : Room} {As : List Value} {C host : String} {fs : List Value} {q9 : vw_C}
theorem mGoodIn (hc : Cond.code y bc nB rb ∈ mW) : GoodIn mW (Cond.code y bc nB rb :: mW) := fun w h => by
  rcases List.mem_cons.mp h with h | h
  · subst h; exact mW_good _ hc
  · exact mW_good w h
abbrev mDesc (y : MethodName) (n : Nat) : Prop := y.cls ≠ "java/lang/invoke/MethodHandle" ∧ y.cls ≠ "java/lang/invoke/VarHandle" ∧ (parseMethodDescriptor y.desc).map (fun d => d.parameters.length) = some n
theorem mw_callV (hM : mMet X vi0 y bc nB rb rm (.ref (X.2.1 b) :: As) l S res0) (hc : Cond.code y bc nB rb ∈ mW) (hl : Cond.methodLink own idx y ∈ mW) (hi : Cond.instanceMethod y ∈ mW) (hs : Cond.selects y.cls y y ∈ mW) (hini : Cond.initialized y.cls ∈ mW) (hdc : mDesc y n) (hz : rm.cells = 0 ∧ rm.slots = 0) (hR : rm.frames + 1 ≤ R.frames ∧ 8 + (nB + 11) + rm.locals ≤ R.locals) (hlt : b < mNA) (hcell : mCell X S b = .inr (ci, fs)) (hcl : vwCl[ci]? = some q9) (hq : q9.1 = y.cls) (hn : As.length = n) (hst : st0 = As.reverse ++ .ref (X.2.1 b) :: rest) (hkk : kc ≤ R.cells ∧ ks ≤ R.slots) (hr8 : (rest.map fun v => v.category).sum ≤ 8) (hd : decode cc pc = .ok (.invokevirtual idx, 3))
    (kk : ∀ r0 S0, MG X E Qf kc ks R cc own nL ret l S0 lv ((vi0 r0).toList ++ rest) (pc + 3) (K r0 S0)) : MG X E Qf kc ks R cc own nL ret l S lv st0 pc (mBind res0 K) := by
  subst hst
  refine mw_run (a0 := (Value.ref (X.2.1 b) :: As).toArray) (fun r0 S0 h0 p e s m args below meth c H locs ls Cx hP hS h => ?_) kk
  have ok := Cx.1.2.2.2.2.2.1
  exact va_runV (As := As) (rest := rest) ⟨Cx.1.1, Cx.1.2.1, Cx.1.2.2.2.1, Cx.1.2.2.2.2.1, ok⟩ (hM r0 S0 h0) ⟨callB_of n ok (mGoodIn hc) rfl hz.1 hz.2 (ok _ hini) (ok _ hl) hdc hR, ok _ hi, ok _ hs⟩ ⟨mBlind, by rw [← hq]; exact va_recv Cx.1.2.2.2.2.2.2.2.1 hP hcl ((mWs_at hlt).trans (by rw [hcell])), mPre Cx.1.2.2.2.2.2.2.2 hP hS⟩ rfl hn h.1 rfl (lv_room hr8) hd hkk
theorem mw_callVN (hM : mMet X vi0 y bc nB rb rm (.ref (X.2.1 b) :: As) l S res0) (hc : Cond.code y bc nB rb ∈ mW) (hl : Cond.methodLinkNest own idx y host ∈ mN) (hi : Cond.instanceMethod y ∈ mW) (hs : Cond.selects y.cls y y ∈ mW) (hini : Cond.initialized y.cls ∈ mW) (hdc : mDesc y n) (hz : rm.cells = 0 ∧ rm.slots = 0) (hR : rm.frames + 1 ≤ R.frames ∧ 8 + (nB + 11) + rm.locals ≤ R.locals) (hlt : b < mNA) (hcell : mCell X S b = .inr (ci, fs)) (hcl : vwCl[ci]? = some q9) (hq : q9.1 = y.cls) (hn : As.length = n) (hst : st0 = As.reverse ++ .ref (X.2.1 b) :: rest) (hkk : kc ≤ R.cells ∧ ks ≤ R.slots) (hr8 : (rest.map fun v => v.category).sum ≤ 8) (hd : decode cc pc = .ok (.invokevirtual idx, 3))
    (kk : ∀ r0 S0, MG X E Qf kc ks R cc own nL ret l S0 lv ((vi0 r0).toList ++ rest) (pc + 3) (K r0 S0)) : MG X E Qf kc ks R cc own nL ret l S lv st0 pc (mBind res0 K) := by
  subst hst
  refine mw_run (a0 := (Value.ref (X.2.1 b) :: As).toArray) (fun r0 S0 h0 p e s m args below meth c H locs ls Cx hP hS h => ?_) kk
  have ok := Cx.1.2.2.2.2.2.1
  exact va_runVN (As := As) (rest := rest) ⟨Cx.1.1, Cx.1.2.1, Cx.1.2.2.2.1, Cx.1.2.2.2.2.1, ok⟩ (hM r0 S0 h0) ⟨va_cnB n ok (mGoodIn hc) rfl hz.1 hz.2 (Cx.1.2.2.2.2.2.2.2.2.1 _ hl) (ok _ hini) hdc hR, ok _ hi, ok _ hs⟩ ⟨mBlind, by rw [← hq]; exact va_recv Cx.1.2.2.2.2.2.2.2.1 hP hcl ((mWs_at hlt).trans (by rw [hcell])), mPre Cx.1.2.2.2.2.2.2.2 hP hS⟩ rfl hn h.1 rfl (lv_room hr8) hd hkk
theorem mw_callS (hM : mMet X vi0 y bc nB rb rm As l S res0) (hc : Cond.code y bc nB rb ∈ mW) (hl : Cond.methodLink own idx y ∈ mW) (hi : Cond.static y ∈ mW) (hini : Cond.initialized y.cls ∈ mW) (hdc : mDesc y n) (hz : rm.cells = 0 ∧ rm.slots = 0) (hR : rm.frames + 1 ≤ R.frames ∧ 8 + (nB + 11) + rm.locals ≤ R.locals) (hn : As.length = n) (hst : st0 = As.reverse ++ rest) (hkk : kc ≤ R.cells ∧ ks ≤ R.slots) (hr8 : (rest.map fun v => v.category).sum ≤ 8) (hd : decode cc pc = .ok (.invokestatic idx, 3))
    (kk : ∀ r0 S0, MG X E Qf kc ks R cc own nL ret l S0 lv ((vi0 r0).toList ++ rest) (pc + 3) (K r0 S0)) : MG X E Qf kc ks R cc own nL ret l S lv st0 pc (mBind res0 K) := by
  subst hst
  refine mw_run (a0 := As.toArray) (fun r0 S0 h0 p e s m args below meth c H locs ls Cx hP hS h => ?_) kk
  have ok := Cx.1.2.2.2.2.2.1
  exact va_runS (As := As) (rest := rest) ⟨Cx.1.1, Cx.1.2.1, Cx.1.2.2.2.1, Cx.1.2.2.2.2.1, ok⟩ (hM r0 S0 h0) ⟨callB_of n ok (mGoodIn hc) rfl hz.1 hz.2 (ok _ hini) (ok _ hl) hdc hR, ok _ hi⟩ ⟨mBlind, mPre Cx.1.2.2.2.2.2.2.2 hP hS⟩ rfl hn h.1 rfl (lv_room hr8) hd hkk
theorem mw_callSN (hM : mMet X vi0 y bc nB rb rm As l S res0) (hc : Cond.code y bc nB rb ∈ mW) (hl : Cond.methodLinkNest own idx y host ∈ mN) (hi : Cond.static y ∈ mW) (hini : Cond.initialized y.cls ∈ mW) (hdc : mDesc y n) (hz : rm.cells = 0 ∧ rm.slots = 0) (hR : rm.frames + 1 ≤ R.frames ∧ 8 + (nB + 11) + rm.locals ≤ R.locals) (hn : As.length = n) (hst : st0 = As.reverse ++ rest) (hkk : kc ≤ R.cells ∧ ks ≤ R.slots) (hr8 : (rest.map fun v => v.category).sum ≤ 8) (hd : decode cc pc = .ok (.invokestatic idx, 3))
    (kk : ∀ r0 S0, MG X E Qf kc ks R cc own nL ret l S0 lv ((vi0 r0).toList ++ rest) (pc + 3) (K r0 S0)) : MG X E Qf kc ks R cc own nL ret l S lv st0 pc (mBind res0 K) := by
  subst hst
  refine mw_run (a0 := As.toArray) (fun r0 S0 h0 p e s m args below meth c H locs ls Cx hP hS h => ?_) kk
  have ok := Cx.1.2.2.2.2.2.1
  exact va_runSN (As := As) (rest := rest) ⟨Cx.1.1, Cx.1.2.1, Cx.1.2.2.2.1, Cx.1.2.2.2.2.1, ok⟩ (hM r0 S0 h0) ⟨va_cnB n ok (mGoodIn hc) rfl hz.1 hz.2 (Cx.1.2.2.2.2.2.2.2.2.1 _ hl) (ok _ hini) hdc hR, ok _ hi, trivial⟩ ⟨mBlind, mPre Cx.1.2.2.2.2.2.2.2 hP hS⟩ rfl hn h.1 rfl (lv_room hr8) hd hkk
end MWC
