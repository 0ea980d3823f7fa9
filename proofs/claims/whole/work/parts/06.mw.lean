/-! the world: the cells by their numbers, typed memory; the judgement MW and its rows (laid by wip/whole/mkmw.py) -/
abbrev mM : Type := (Nat → Nat → Int32) × (Nat → Nat → Int64) × (Nat → Nat → Nat)
/-- D, the addresses, the classes of the arrays, what may change, the strings (their addresses, their bytes' addresses) -/
abbrev mX : Type := va_G × (Nat → Nat) × (Nat → ClassId) × (Nat → Prop) × (Nat → Nat) × (Nat → Nat)
def mNA : Nat := 98
def mKinds : List Nat := [11, 9, 20, 21, 21, 21, 1, 4, 2, 21, 8, 25, 5, 21, 5, 21, 5, 21, 5, 21, 5, 21, 5, 21, 5, 21, 5, 21, 0, 27, 7, 7, 7, 7, 7, 7, 0, 27, 7, 7, 7, 7, 7, 7, 26, 6, 21, 6, 21, 6, 21, 6, 21, 24, 3, 22, 23, 3, 22, 23, 3, 22, 23, 3, 22, 23, 10, 21, 21, 12, 21, 21, 21, 21, 21, 21, 21, 21, 21, 21, 21, 21, 21, 21, 21, 21, 21, 21, 21, 21, 21, 21, 22, 23, 22, 23, 21, 21]
def mLens : List Nat := [0, 0, 200, 201, 201, 201, 0, 0, 0, 256, 0, 8, 0, 201, 0, 201, 0, 201, 0, 201, 0, 201, 0, 201, 0, 201, 0, 201, 0, 6, 0, 0, 0, 0, 0, 0, 0, 6, 0, 0, 0, 0, 0, 0, 4, 0, 64, 0, 64, 0, 64, 0, 64, 4, 0, 201, 201, 0, 201, 201, 0, 201, 201, 0, 201, 201, 0, 20, 20, 0, 200, 33000, 6, 6, 6, 6, 6, 6, 6, 6, 6, 6, 6, 6, 8, 8, 8, 1608, 4, 4, 256, 4, 804, 804, 201, 201, 20, 20]
def mKind (a : Nat) : Nat := mKinds.getD a 99
def mLen (a : Nat) : Nat := mLens.getD a 0
def mRow (X : mX) (k a : Nat) (ri : Nat → Int32) (rj : Nat → Int64) (rp : Nat → Nat) : va_E := match k with
  | 0 => .inr (0, [.ref (X.2.1 (a + 1)), .int (ri 1)])
  | 1 => .inr (1, [.ref (X.2.1 (1)), .int (ri 1), .int (ri 2), .int (ri 3), .int (ri 4)])
  | 2 => .inr (2, [.ref (X.2.1 (a + 1)), .int (ri 1)])
  | 3 => .inr (3, [.ref (X.2.1 (a + 1)), .ref (X.2.1 (a + 2)), .int (ri 2)])
  | 4 => .inr (4, [.ref (X.2.1 (8)), .ref (X.2.1 (10)), .ref (X.2.1 (rp 2)), .ref (X.2.1 (rp 3)), .int (ri 4), .int (ri 5), .int (ri 6), .int (ri 7), .int (ri 8), .int (ri 9), .int (ri 10), .int (ri 11), .int (ri 12)])
  | 5 => .inr (5, [.ref (X.2.1 (a + 1)), .int (ri 1), .int (ri 2), .int (ri 3)])
  | 6 => .inr (6, [.ref (X.2.1 (a + 1)), .int (ri 1), .int (ri 2)])
  | 7 => .inr (7, [.int (ri 0), .int (ri 1), .int (ri 2), .int (ri 3), .int (ri 4), .int (ri 5), .int (ri 6), .int (ri 7), .int (ri 8), .int (ri 9)])
  | 8 => .inr (8, [.ref (X.2.1 (a + 1)), .int (ri 1)])
  | 9 => .inr (9, [.ref (X.2.1 (2)), .int (ri 1), .ref (X.2.1 (3)), .ref (X.2.1 (4)), .ref (X.2.1 (5)), .int (ri 5)])
  | 10 => .inr (10, [.ref (X.2.1 (67)), .ref (X.2.1 (68)), .int (ri 2), .int (ri 3), .int (ri 4), .int (ri 5), .int (ri 6), .int (ri 7)])
  | 11 => .inr (11, [.ref (X.2.1 (1)), .ref (X.2.1 (6)), .ref (X.2.1 (7)), .ref (X.2.1 (44)), .ref (X.2.1 (53)), .ref (X.2.1 (66)), .int (ri 6)])
  | 12 => .inr (12, [.ref (X.2.1 (70)), .int (ri 1), .ref (X.2.1 (71)), .int (ri 3), .int (ri 4), .ref (X.2.1 (72)), .ref (X.2.1 (73)), .ref (X.2.1 (74)), .ref (X.2.1 (75)), .ref (X.2.1 (76)), .ref (X.2.1 (77)), .int (ri 11), .ref (X.2.1 (78)), .ref (X.2.1 (79)), .ref (X.2.1 (80)), .ref (X.2.1 (81)), .ref (X.2.1 (82)), .ref (X.2.1 (83)), .int (ri 18), .int (ri 19), .int (ri 20), .int (ri 21), .int (ri 22), .int (ri 23), .long (rj 24), .int (ri 25), .int (ri 26), .int (ri 27), .int (ri 28), .int (ri 29), .int (ri 30), .int (ri 31), .int (ri 32), .int (ri 33), .int (ri 34), .ref (X.2.1 (84)), .ref (X.2.1 (85)), .ref (X.2.1 (86)), .ref (X.2.1 (87)), .ref (X.2.1 (88)), .ref (X.2.1 (89)), .ref (X.2.1 (90)), .int (ri 42), .ref (X.2.1 (91)), .ref (X.2.1 (92)), .ref (X.2.1 (93)), .ref (X.2.1 (94)), .ref (X.2.1 (95)), .int (ri 48), .ref (X.2.1 (96)), .ref (X.2.1 (97)), .int (ri 51)])
  | 20 => .inl (X.2.2.1 0, mLen a, .inl ri)
  | 21 => .inl (X.2.2.1 1, mLen a, .inl ri)
  | 22 => .inl (X.2.2.1 2, mLen a, .inr (.inl rj))
  | 23 => .inl (X.2.2.1 3, mLen a, .inl ri)
  | 24 => .inl (X.2.2.1 4, mLen a, .inr (.inr (.inr (.inr (fun i => some (X.2.1 (a + 1 + 3 * i)))))))
  | 25 => .inl (X.2.2.1 5, mLen a, .inr (.inr (.inr (.inr (fun i => some (X.2.1 (a + 1 + 2 * i)))))))
  | 26 => .inl (X.2.2.1 6, mLen a, .inr (.inr (.inr (.inr (fun i => some (X.2.1 (a + 1 + 2 * i)))))))
  | 27 => .inl (X.2.2.1 7, mLen a, .inr (.inr (.inr (.inr (fun i => some (X.2.1 (a + 1 + i)))))))
  | _ => .inr (99, [])
def mTys (X : mX) : List (ClassId × FieldType) := [(X.2.2.1 0, .byte), (X.2.2.1 1, .int), (X.2.2.1 2, .long), (X.2.2.1 3, .boolean), (X.2.2.1 4, .object RX3), (X.2.2.1 5, .object RX5), (X.2.2.1 6, .object RX6), (X.2.2.1 7, .object RX7)]
def mCell (X : mX) (S : mM) (a : Nat) : va_E := mRow X (mKind a) a (S.1 a) (S.2.1 a) (S.2.2 a)
def mWs (X : mX) (S : mM) : va_W := (List.range mNA).map (fun a => (X.2.1 a, mCell X S a))
def setI (S : mM) (a k : Nat) (v : Int32) : mM := (fun b => if b = a then upd (S.1 a) k v else S.1 b, S.2)
def setJ (S : mM) (a k : Nat) (v : Int64) : mM := (S.1, fun b => if b = a then vp_updL (S.2.1 a) k v else S.2.1 b, S.2.2)
def setP (S : mM) (a k : Nat) (v : Nat) : mM := (S.1, S.2.1, fun b => if b = a then va_up (S.2.2 a) k v else S.2.2 b)
theorem mWs_at {X : mX} {S : mM} {a : Nat} (h : a < mNA) : (mWs X S)[a]? = some (X.2.1 a, mCell X S a) := by
  simp [mWs, h]
theorem mWs_set {X : mX} {S S' : mM} {a : Nat} {e : va_E} (h : a < mNA) (hne : ∀ b, b ≠ a → mCell X S' b = mCell X S b) (he : mCell X S' a = e) : (mWs X S).set a (X.2.1 a, e) = mWs X S' := by
  apply List.ext_getElem?
  intro i
  rw [List.getElem?_set]
  by_cases hi : a = i
  · subst hi
    have hl : a < (mWs X S).length := by simpa [mWs] using h
    rw [if_pos rfl, if_pos hl, mWs_at h, he]
  · rw [if_neg hi]
    by_cases hl : i < mNA
    · rw [mWs_at hl, mWs_at hl, hne i (fun q => hi q.symm)]
    · have e1 : (mWs X S)[i]? = none := List.getElem?_eq_none (by simpa [mWs] using hl)
      have e2 : (mWs X S')[i]? = none := List.getElem?_eq_none (by simpa [mWs] using hl)
      rw [e1, e2]
theorem mKind_lt {a k : Nat} (h : mKind a = k) (hk : k ≠ 99) : a < mNA := by
  rcases Nat.lt_or_ge a mNA with q | q
  · exact q
  · exfalso
    apply hk
    rw [← h]
    have h9 : mKinds[a]? = none := List.getElem?_eq_none q
    simp [mKind, List.getD, h9]
theorem mSetI_ne {X : mX} {S : mM} {a k : Nat} {v : Int32} (b : Nat) (h : b ≠ a) : mCell X (setI S a k v) b = mCell X S b := by
  simp only [mCell, setI, if_neg h]
theorem mSetJ_ne {X : mX} {S : mM} {a k : Nat} {v : Int64} (b : Nat) (h : b ≠ a) : mCell X (setJ S a k v) b = mCell X S b := by
  simp only [mCell, setJ, if_neg h]
theorem mSetP_ne {X : mX} {S : mM} {a k : Nat} {v : Nat} (b : Nat) (h : b ≠ a) : mCell X (setP S a k v) b = mCell X S b := by
  simp only [mCell, setP, if_neg h]
theorem mSetI_at {X : mX} {S : mM} {a k : Nat} {v : Int32} : mCell X (setI S a k v) a = mRow X (mKind a) a (upd (S.1 a) k v) (S.2.1 a) (S.2.2 a) := by
  simp only [mCell, setI, if_true]
theorem mSetJ_at {X : mX} {S : mM} {a k : Nat} {v : Int64} : mCell X (setJ S a k v) a = mRow X (mKind a) a (S.1 a) (vp_updL (S.2.1 a) k v) (S.2.2 a) := by
  simp only [mCell, setJ, if_true]
theorem mSetP_at {X : mX} {S : mM} {a k : Nat} {v : Nat} : mCell X (setP S a k v) a = mRow X (mKind a) a (S.1 a) (S.2.1 a) (va_up (S.2.2 a) k v) := by
  simp only [mCell, setP, if_true]
/-- the words that every method may use: what of the tables stays -/
def mW : List Cond := lw_tbl.filter goodWord
def mIsNest (w : Cond) : Bool := match w with
  | .fieldLinkNest _ _ _ _ _ _ => true
  | .methodLinkNest _ _ _ _ => true
  | _ => false
def mN : List Cond := tables_1.filter mIsNest
theorem mW_good : GoodIn mW mW := fun w h => ⟨h, good_of_word (List.mem_filter.mp h).2⟩
theorem mW_of {w : Cond} (h : w ∈ lw_tbl) (hg : goodWord w = true) : w ∈ mW := List.mem_filter.mpr ⟨h, hg⟩
/-- the nine words of the tape: their lengths, bytes, places in the pool, texts -/
def mSL : List Nat := [4, 4, 4, 4, 4, 2, 3, 5, 6]
def mSB : List (List Int32) := [[114, 105, 115, 101], [102, 97, 108, 108], [119, 105, 100, 101], [116, 104, 105, 110], [114, 117, 110, 116], [105, 110], [111, 117, 116], [101, 113, 117, 97, 108], [119, 105, 116, 104, 105, 110]]
def mSI : List Nat := [59, 65, 67, 69, 71, 73, 75, 77, 79]
def mST : List String := ["rise", "fall", "wide", "thin", "runt", "in", "out", "equal", "within"]
def mStr (X : mX) (U : State) : Prop := vk_S 9 mSL mSB X.2.2.2.2.1 X.2.2.2.2.2 X.2.2.2.1 U U.heap ∧ (∀ i, i < 9 → vk_R RX9 (mSI.getD i 0) (mST.getD i "") (X.2.2.2.2.1 i) U) ∧ va_Z "java/lang/String" "COMPACT_STRINGS" "Z" (.int 1) X.2.2.2.1 U U.heap ∧ va_Zq "jdk/internal/util/Preconditions" "SIOOBE_FORMATTER" "Ljava/util/function/BiFunction;" X.2.2.2.1 U U.heap
/-- what stays of the launch: tables, nests, addresses apart, strings -/
def mGood (X : mX) (U : State) : Prop := va_K X.1 vwCl (mTys X) U ∧ (∀ w ∈ mN, va_Nw w U) ∧ ((∀ i j, i < mNA → j < mNA → X.2.1 i = X.2.1 j → i = j) ∧ (∀ a, a < mNA → X.2.2.2.1 (X.2.1 a))) ∧ mStr X U
theorem mGood.D {X : mX} {U : State} (h : mGood X U) (S : mM) : va_D X.2.2.2.1 (mWs X S) := by
  have hlt : ∀ {i : Nat} {q : Nat × va_E}, (mWs X S)[i]? = some q → i < mNA := fun {i q} hq => by
    have := (List.getElem?_eq_some_iff.mp hq).1
    simpa [mWs] using this
  refine ⟨fun i j p q hi hj hpq => ?_, fun k q hk => ?_⟩
  · have h1 := hlt hi
    have h2 := hlt hj
    rw [mWs_at h1] at hi
    rw [mWs_at h2] at hj
    cases hi
    cases hj
    exact h.2.2.1.1 i j h1 h2 hpq
  · have h1 := hlt hk
    rw [mWs_at h1] at hk
    cases hk
    exact h.2.2.1.2 k h1
theorem mNest_warm {w : Cond} (hw : mIsNest w = true) {s U : State} (hW : s.WarmedH U.vm) (h : va_Nw w s) : va_Nw w U := by
  cases w <;> first | (exact va_Nw.warmF hW h) | (exact va_Nw.warmM hW h) | (cases hw)
theorem mNest_tabs {w : Cond} (hw : mIsNest w = true) : w.onTables = true := by
  cases w <;> first | rfl | (cases hw)
theorem mGood.moved {X : mX} {s U : State} (hW : s.WarmedH U.vm) (hk : ∀ q : Nat, q < s.heap.size → ¬ X.2.2.2.1 q → U.heap[q]? = s.heap[q]?) (h : mGood X s) : mGood X U :=
  ⟨va_K.moved hW.alike h.1, fun w hw => mNest_warm (List.mem_filter.mp hw).2 hW (h.2.1 w hw), h.2.2.1, (h.2.2.2.1.kept hk).moved hW.alike, fun i hi => (h.2.2.2.2.1 i hi).warm hW, (h.2.2.2.2.2.1.kept hk).moved hW.alike, (h.2.2.2.2.2.2.kept hk).moved hW.alike⟩
theorem mGood.calling {X : mX} {U : State} {g : JFrame} {mk : MethodId} {a : Array Value} (h : mGood X U) : mGood X (U.calling g mk a) :=
  ⟨va_K.moved (u := U) (U := U.calling g mk a) (Vm.Alike.refl U.vm) h.1, fun w hw => va_Nw.same (mNest_tabs (List.mem_filter.mp hw).2) (u := U) (U := U.calling g mk a) rfl (h.2.1 w hw), h.2.2.1,
    vk_S.moved (u := U) (U := U.calling g mk a) (Vm.Alike.refl U.vm) h.2.2.2.1, fun i hi => vk_R.same (u := U) (U := U.calling g mk a) rfl (h.2.2.2.2.1 i hi), va_Z.moved (u := U) (U := U.calling g mk a) (Vm.Alike.refl U.vm) h.2.2.2.2.2.1, va_Zq.moved (u := U) (U := U.calling g mk a) (Vm.Alike.refl U.vm) h.2.2.2.2.2.2⟩
def mCtx (X : mX) (cc : ByteArray) (own : String) (nL : Nat) (ret : Option FieldType) (p : Program) (s : State) (m : MethodId) (args : Array Value) (meth : Method) (c : Code) : Prop :=
  p.tables.exec = Jvm.exec ∧ c.code = cc ∧ meth.sig.returnType = ret ∧ c.maxLocals = nL ∧ s.vm.findClass own = some m.cls ∧ (∀ w ∈ mW, w.before args s = true) ∧ meth.locks = false ∧ mGood X s
def mQc (X : mX) (v : Option Value) (S : mM) : Array Value → State → Outcome → State → Prop := fun _ st o t => o = .returned v ∧ va_P X.1 vwCl (mWs X S) t.heap ∧ va_F X.2.2.2.1 st t
def mQf {α : Type} (X : mX) (vi : α → Option Value) : List Frame → Array Value → State → α → mM → State → Prop := fun below args s r S' => MQ below (mQc X (vi r) S') args s 0 0 X.2.2.2.1
/-- at pc, with locals lv, stack st, memory S: if res is some (r, S'), the machine comes to a state with Qf r S' -/
def MG {α : Type} (X : mX) (E : State → Prop) (Qf : List Frame → Array Value → State → α → mM → State → Prop) (kc ks : Nat) (R : Room) (cc : ByteArray) (own : String) (nL : Nat) (ret : Option FieldType) (l : Launch) (S : mM) (lv : List (Nat × Value)) (st : List Value) (pc : Nat) (res : Option (α × mM)) : Prop :=
  ∀ r S', res = some (r, S') → ∀ (p : Program) (e : Env) (s : State) (m : MethodId) (args : Array Value) (below : List Frame) (meth : Method) (c : Code) (H : Heap) (locs : List Loc) (ls : Array Slot), (mCtx X cc own nL ret p s m args meth c ∧ E s) → va_P X.1 vwCl (mWs X S) H → va_S X.2.2.2.1 s.heap H locs → lv_has ls nL lv →
    W p l e R s m args below meth c H locs kc ks (Qf below args s r S') (F0 m pc ls st)
abbrev MW {α : Type} (X : mX) (vi : α → Option Value) (R : Room) (cc : ByteArray) (own : String) (nL : Nat) (ret : Option FieldType) (l : Launch) (S : mM) (lv : List (Nat × Value)) (st : List Value) (pc : Nat) (res : Option (α × mM)) : Prop := MG X (fun _ => True) (mQf X vi) 0 0 R cc own nL ret l S lv st pc res
def mMet {α : Type} (X : mX) (vi : α → Option Value) (y : MethodName) (cc : ByteArray) (nL : Nat) (ret : Option FieldType) (rm : Room) (As : List Value) (l : Launch) (S : mM) (res : Option (α × mM)) : Prop :=
  ∀ r S', res = some (r, S') → Met l y (Cond.code y cc nL ret :: mW) rm (va_Pc As (fun U => mGood X U ∧ va_P X.1 vwCl (mWs X S) U.heap)) (mQc X (vi r) S') 0 0 X.2.2.2.1
/-- a number gets a name -/
def bnd {α β : Type} (x : α) (f : α → β) : β := f x
def viI : Int32 → Option Value := fun r => some (.int r)
def viJ : Int64 → Option Value := fun r => some (.long r)
def viV : Unit → Option Value := fun _ => none
def viR (X : mX) : Nat → Option Value := fun r => some (.ref (X.2.1 r))
section MWR
variable {α : Type} {X : mX} {E : State → Prop} {Qf : List Frame → Array Value → State → α → mM → State → Prop} {kc ks : Nat} {R : Room} {cc : ByteArray} {own : String} {nL : Nat} {ret : Option FieldType} {l : Launch} {S : mM} {lv lv' : List (Nat × Value)} {rest : List Value} {pc : Nat} {res A B : Option (α × mM)}
theorem mw_none {st : List Value} : MG X E Qf kc ks R cc own nL ret l S lv st pc none := fun _ _ h => by cases h
theorem mw_eq {st st' : List Value} {res' : Option (α × mM)} (h1 : st = st') (h2 : res = res') (k : MG X E Qf kc ks R cc own nL ret l S lv st' pc res') : MG X E Qf kc ks R cc own nL ret l S lv st pc res := by subst h1; subst h2; exact k
theorem mw_ite {c : Prop} [Decidable c] {st : List Value} (kt : c → MG X E Qf kc ks R cc own nL ret l S lv st pc A) (kf : ¬ c → MG X E Qf kc ks R cc own nL ret l S lv st pc B) : MG X E Qf kc ks R cc own nL ret l S lv st pc (if c then A else B) := by
  by_cases h : c
  · rw [if_pos h]; exact kt h
  · rw [if_neg h]; exact kf h
theorem mw_chk {c : Prop} [Decidable c] {st : List Value} (kt : c → MG X E Qf kc ks R cc own nL ret l S lv st pc A) : MG X E Qf kc ks R cc own nL ret l S lv st pc (if c then A else none) := mw_ite kt (fun _ => mw_none)
theorem mw_bndI {x : Int32} {K : Int32 → Option (α × mM)} (k : ∀ x, MG X E Qf kc ks R cc own nL ret l S lv (.int x :: rest) pc (K x)) : MG X E Qf kc ks R cc own nL ret l S lv (.int x :: rest) pc (bnd x K) := k x
theorem mw_bndJ {x : Int64} {K : Int64 → Option (α × mM)} (k : ∀ x, MG X E Qf kc ks R cc own nL ret l S lv (.long x :: rest) pc (K x)) : MG X E Qf kc ks R cc own nL ret l S lv (.long x :: rest) pc (bnd x K) := k x
theorem mw_sub {st : List Value} (places : List Nat) (hl : lv_pick lv places = lv') (k : MG X E Qf kc ks R cc own nL ret l S lv' st pc res) : MG X E Qf kc ks R cc own nL ret l S lv st pc res :=
  fun r S' hr p e s m args below meth c H locs ls C hP hS h => k r S' hr p e s m args below meth c H locs ls C hP hS (lv_sub h places hl)
theorem mw_iadd {x y : Int32} (hd : decode cc pc = .ok (.iadd, 1))  (k : MG X E Qf kc ks R cc own nL ret l S lv (.int (x + y) :: rest) (pc + 1) res) : MG X E Qf kc ks R cc own nL ret l S lv (.int y :: .int x :: rest) pc res :=
  fun r S' hr p e s m args below meth c H locs ls C hP hS h => lv_iadd C.1.1 C.1.2.1 hd (k r S' hr p e s m args below meth c H locs ls C hP hS h)
theorem mw_isub {x y : Int32} (hd : decode cc pc = .ok (.isub, 1))  (k : MG X E Qf kc ks R cc own nL ret l S lv (.int (x - y) :: rest) (pc + 1) res) : MG X E Qf kc ks R cc own nL ret l S lv (.int y :: .int x :: rest) pc res :=
  fun r S' hr p e s m args below meth c H locs ls C hP hS h => lv_isub C.1.1 C.1.2.1 hd (k r S' hr p e s m args below meth c H locs ls C hP hS h)
theorem mw_imul {x y : Int32} (hd : decode cc pc = .ok (.imul, 1))  (k : MG X E Qf kc ks R cc own nL ret l S lv (.int (x * y) :: rest) (pc + 1) res) : MG X E Qf kc ks R cc own nL ret l S lv (.int y :: .int x :: rest) pc res :=
  fun r S' hr p e s m args below meth c H locs ls C hP hS h => lv_imul C.1.1 C.1.2.1 hd (k r S' hr p e s m args below meth c H locs ls C hP hS h)
theorem mw_iand {x y : Int32} (hd : decode cc pc = .ok (.iand, 1))  (k : MG X E Qf kc ks R cc own nL ret l S lv (.int (x &&& y) :: rest) (pc + 1) res) : MG X E Qf kc ks R cc own nL ret l S lv (.int y :: .int x :: rest) pc res :=
  fun r S' hr p e s m args below meth c H locs ls C hP hS h => lv_iand C.1.1 C.1.2.1 hd (k r S' hr p e s m args below meth c H locs ls C hP hS h)
theorem mw_ior {x y : Int32} (hd : decode cc pc = .ok (.ior, 1))  (k : MG X E Qf kc ks R cc own nL ret l S lv (.int (x ||| y) :: rest) (pc + 1) res) : MG X E Qf kc ks R cc own nL ret l S lv (.int y :: .int x :: rest) pc res :=
  fun r S' hr p e s m args below meth c H locs ls C hP hS h => lv_ior C.1.1 C.1.2.1 hd (k r S' hr p e s m args below meth c H locs ls C hP hS h)
theorem mw_ixor {x y : Int32} (hd : decode cc pc = .ok (.ixor, 1))  (k : MG X E Qf kc ks R cc own nL ret l S lv (.int (x ^^^ y) :: rest) (pc + 1) res) : MG X E Qf kc ks R cc own nL ret l S lv (.int y :: .int x :: rest) pc res :=
  fun r S' hr p e s m args below meth c H locs ls C hP hS h => lv_ixor C.1.1 C.1.2.1 hd (k r S' hr p e s m args below meth c H locs ls C hP hS h)
theorem mw_ladd {x y : Int64} (hd : decode cc pc = .ok (.ladd, 1))  (k : MG X E Qf kc ks R cc own nL ret l S lv (.long (x + y) :: rest) (pc + 1) res) : MG X E Qf kc ks R cc own nL ret l S lv (.long y :: .long x :: rest) pc res :=
  fun r S' hr p e s m args below meth c H locs ls C hP hS h => lv_ladd C.1.1 C.1.2.1 hd (k r S' hr p e s m args below meth c H locs ls C hP hS h)
theorem mw_lsub {x y : Int64} (hd : decode cc pc = .ok (.lsub, 1))  (k : MG X E Qf kc ks R cc own nL ret l S lv (.long (x - y) :: rest) (pc + 1) res) : MG X E Qf kc ks R cc own nL ret l S lv (.long y :: .long x :: rest) pc res :=
  fun r S' hr p e s m args below meth c H locs ls C hP hS h => lv_lsub C.1.1 C.1.2.1 hd (k r S' hr p e s m args below meth c H locs ls C hP hS h)
theorem mw_lmul {x y : Int64} (hd : decode cc pc = .ok (.lmul, 1))  (k : MG X E Qf kc ks R cc own nL ret l S lv (.long (x * y) :: rest) (pc + 1) res) : MG X E Qf kc ks R cc own nL ret l S lv (.long y :: .long x :: rest) pc res :=
  fun r S' hr p e s m args below meth c H locs ls C hP hS h => lv_lmul C.1.1 C.1.2.1 hd (k r S' hr p e s m args below meth c H locs ls C hP hS h)
theorem mw_land {x y : Int64} (hd : decode cc pc = .ok (.land, 1))  (k : MG X E Qf kc ks R cc own nL ret l S lv (.long (x &&& y) :: rest) (pc + 1) res) : MG X E Qf kc ks R cc own nL ret l S lv (.long y :: .long x :: rest) pc res :=
  fun r S' hr p e s m args below meth c H locs ls C hP hS h => lv_land C.1.1 C.1.2.1 hd (k r S' hr p e s m args below meth c H locs ls C hP hS h)
theorem mw_lor {x y : Int64} (hd : decode cc pc = .ok (.lor, 1))  (k : MG X E Qf kc ks R cc own nL ret l S lv (.long (x ||| y) :: rest) (pc + 1) res) : MG X E Qf kc ks R cc own nL ret l S lv (.long y :: .long x :: rest) pc res :=
  fun r S' hr p e s m args below meth c H locs ls C hP hS h => lv_lor C.1.1 C.1.2.1 hd (k r S' hr p e s m args below meth c H locs ls C hP hS h)
theorem mw_lxor {x y : Int64} (hd : decode cc pc = .ok (.lxor, 1))  (k : MG X E Qf kc ks R cc own nL ret l S lv (.long (x ^^^ y) :: rest) (pc + 1) res) : MG X E Qf kc ks R cc own nL ret l S lv (.long y :: .long x :: rest) pc res :=
  fun r S' hr p e s m args below meth c H locs ls C hP hS h => lv_lxor C.1.1 C.1.2.1 hd (k r S' hr p e s m args below meth c H locs ls C hP hS h)
theorem mw_idiv {x y : Int32} (hd : decode cc pc = .ok (.idiv, 1)) (hne : ¬ y = 0) (k : MG X E Qf kc ks R cc own nL ret l S lv (.int (x / y) :: rest) (pc + 1) res) : MG X E Qf kc ks R cc own nL ret l S lv (.int y :: .int x :: rest) pc res :=
  fun r S' hr p e s m args below meth c H locs ls C hP hS h => lv_idiv C.1.1 C.1.2.1 hd hne (k r S' hr p e s m args below meth c H locs ls C hP hS h)
theorem mw_irem {x y : Int32} (hd : decode cc pc = .ok (.irem, 1)) (hne : ¬ y = 0) (k : MG X E Qf kc ks R cc own nL ret l S lv (.int (x - x / y * y) :: rest) (pc + 1) res) : MG X E Qf kc ks R cc own nL ret l S lv (.int y :: .int x :: rest) pc res :=
  fun r S' hr p e s m args below meth c H locs ls C hP hS h => lv_irem C.1.1 C.1.2.1 hd hne (k r S' hr p e s m args below meth c H locs ls C hP hS h)
theorem mw_ldiv {x y : Int64} (hd : decode cc pc = .ok (.ldiv, 1)) (hne : ¬ y = 0) (k : MG X E Qf kc ks R cc own nL ret l S lv (.long (x / y) :: rest) (pc + 1) res) : MG X E Qf kc ks R cc own nL ret l S lv (.long y :: .long x :: rest) pc res :=
  fun r S' hr p e s m args below meth c H locs ls C hP hS h => lv_ldiv C.1.1 C.1.2.1 hd hne (k r S' hr p e s m args below meth c H locs ls C hP hS h)
theorem mw_lrem {x y : Int64} (hd : decode cc pc = .ok (.lrem, 1)) (hne : ¬ y = 0) (k : MG X E Qf kc ks R cc own nL ret l S lv (.long (x - x / y * y) :: rest) (pc + 1) res) : MG X E Qf kc ks R cc own nL ret l S lv (.long y :: .long x :: rest) pc res :=
  fun r S' hr p e s m args below meth c H locs ls C hP hS h => lv_lrem C.1.1 C.1.2.1 hd hne (k r S' hr p e s m args below meth c H locs ls C hP hS h)
theorem mw_ineg {x : Int32} (hd : decode cc pc = .ok (.ineg, 1))  (k : MG X E Qf kc ks R cc own nL ret l S lv (.int (-x) :: rest) (pc + 1) res) : MG X E Qf kc ks R cc own nL ret l S lv (.int x :: rest) pc res :=
  fun r S' hr p e s m args below meth c H locs ls C hP hS h => lv_ineg C.1.1 C.1.2.1 hd (k r S' hr p e s m args below meth c H locs ls C hP hS h)
theorem mw_lcmp {x y : Int64} (hd : decode cc pc = .ok (.lcmp, 1))  (k : MG X E Qf kc ks R cc own nL ret l S lv (.int (lg_cmp x y) :: rest) (pc + 1) res) : MG X E Qf kc ks R cc own nL ret l S lv (.long y :: .long x :: rest) pc res :=
  fun r S' hr p e s m args below meth c H locs ls C hP hS h => W.lcmp C.1.1 C.1.2.1 hd (k r S' hr p e s m args below meth c H locs ls C hP hS h)
theorem mw_i2l {x : Int32} (hd : decode cc pc = .ok (.i2l, 1))  (k : MG X E Qf kc ks R cc own nL ret l S lv (.long x.toInt64 :: rest) (pc + 1) res) : MG X E Qf kc ks R cc own nL ret l S lv (.int x :: rest) pc res :=
  fun r S' hr p e s m args below meth c H locs ls C hP hS h => lv_i2l C.1.1 C.1.2.1 hd rfl (k r S' hr p e s m args below meth c H locs ls C hP hS h)
theorem mw_l2i {x : Int64} (hd : decode cc pc = .ok (.l2i, 1))  (k : MG X E Qf kc ks R cc own nL ret l S lv (.int x.toInt32 :: rest) (pc + 1) res) : MG X E Qf kc ks R cc own nL ret l S lv (.long x :: rest) pc res :=
  fun r S' hr p e s m args below meth c H locs ls C hP hS h => lv_l2i C.1.1 C.1.2.1 hd rfl (k r S' hr p e s m args below meth c H locs ls C hP hS h)
theorem mw_i2b {x : Int32} (hd : decode cc pc = .ok (.i2b, 1))  (k : MG X E Qf kc ks R cc own nL ret l S lv (.int x.toInt8.toInt32 :: rest) (pc + 1) res) : MG X E Qf kc ks R cc own nL ret l S lv (.int x :: rest) pc res :=
  fun r S' hr p e s m args below meth c H locs ls C hP hS h => lv_i2b C.1.1 C.1.2.1 hd rfl (k r S' hr p e s m args below meth c H locs ls C hP hS h)
theorem mw_i2s {x : Int32} (hd : decode cc pc = .ok (.i2s, 1))  (k : MG X E Qf kc ks R cc own nL ret l S lv (.int x.toInt16.toInt32 :: rest) (pc + 1) res) : MG X E Qf kc ks R cc own nL ret l S lv (.int x :: rest) pc res :=
  fun r S' hr p e s m args below meth c H locs ls C hP hS h => lv_i2s C.1.1 C.1.2.1 hd rfl (k r S' hr p e s m args below meth c H locs ls C hP hS h)
theorem mw_ishl {x y : Int32} (hd : decode cc pc = .ok (.ishl, 1))  (k : MG X E Qf kc ks R cc own nL ret l S lv (.int (x <<< (y &&& 31)) :: rest) (pc + 1) res) : MG X E Qf kc ks R cc own nL ret l S lv (.int y :: .int x :: rest) pc res :=
  fun r S' hr p e s m args below meth c H locs ls C hP hS h => lv_ishl C.1.1 C.1.2.1 hd (k r S' hr p e s m args below meth c H locs ls C hP hS h)
theorem mw_ishr {x y : Int32} (hd : decode cc pc = .ok (.ishr, 1))  (k : MG X E Qf kc ks R cc own nL ret l S lv (.int (x >>> (y &&& 31)) :: rest) (pc + 1) res) : MG X E Qf kc ks R cc own nL ret l S lv (.int y :: .int x :: rest) pc res :=
  fun r S' hr p e s m args below meth c H locs ls C hP hS h => lv_ishr C.1.1 C.1.2.1 hd (k r S' hr p e s m args below meth c H locs ls C hP hS h)
theorem mw_lshl {x : Int64} {y : Int32} (hd : decode cc pc = .ok (.lshl, 1))  (k : MG X E Qf kc ks R cc own nL ret l S lv (.long (x <<< (y.toInt64 &&& 63)) :: rest) (pc + 1) res) : MG X E Qf kc ks R cc own nL ret l S lv (.int y :: .long x :: rest) pc res :=
  fun r S' hr p e s m args below meth c H locs ls C hP hS h => lv_lshl C.1.1 C.1.2.1 hd rfl (k r S' hr p e s m args below meth c H locs ls C hP hS h)
theorem mw_lshr {x : Int64} {y : Int32} (hd : decode cc pc = .ok (.lshr, 1))  (k : MG X E Qf kc ks R cc own nL ret l S lv (.long (x >>> (y.toInt64 &&& 63)) :: rest) (pc + 1) res) : MG X E Qf kc ks R cc own nL ret l S lv (.int y :: .long x :: rest) pc res :=
  fun r S' hr p e s m args below meth c H locs ls C hP hS h => lv_lshr C.1.1 C.1.2.1 hd rfl (k r S' hr p e s m args below meth c H locs ls C hP hS h)
theorem mw_iconst {n : Int} {v : Int32} (hd : decode cc pc = .ok (.iconst n, 1)) (hv : Int32.ofInt n = v) (k : MG X E Qf kc ks R cc own nL ret l S lv (.int v :: rest) (pc + 1) res) : MG X E Qf kc ks R cc own nL ret l S lv (rest) pc res :=
  fun r S' hr p e s m args below meth c H locs ls C hP hS h => lv_iconst C.1.1 C.1.2.1 hd hv (k r S' hr p e s m args below meth c H locs ls C hP hS h)
theorem mw_bipush {n : Int} {v : Int32} (hd : decode cc pc = .ok (.bipush n, 2)) (hv : (Int8.ofInt n).toInt32 = v) (k : MG X E Qf kc ks R cc own nL ret l S lv (.int v :: rest) (pc + 2) res) : MG X E Qf kc ks R cc own nL ret l S lv (rest) pc res :=
  fun r S' hr p e s m args below meth c H locs ls C hP hS h => lv_bipush C.1.1 C.1.2.1 hd hv (k r S' hr p e s m args below meth c H locs ls C hP hS h)
theorem mw_sipush {n : Int} {v : Int32} (hd : decode cc pc = .ok (.sipush n, 3)) (hv : (Int16.ofInt n).toInt32 = v) (k : MG X E Qf kc ks R cc own nL ret l S lv (.int v :: rest) (pc + 3) res) : MG X E Qf kc ks R cc own nL ret l S lv (rest) pc res :=
  fun r S' hr p e s m args below meth c H locs ls C hP hS h => lv_sipush C.1.1 C.1.2.1 hd hv (k r S' hr p e s m args below meth c H locs ls C hP hS h)
theorem mw_lconst {n : Fin 2} {v : Int64} (hd : decode cc pc = .ok (.lconst n, 1)) (hv : Int64.ofNat (n : Nat) = v) (k : MG X E Qf kc ks R cc own nL ret l S lv (.long v :: rest) (pc + 1) res) : MG X E Qf kc ks R cc own nL ret l S lv (rest) pc res :=
  fun r S' hr p e s m args below meth c H locs ls C hP hS h => lv_lconst C.1.1 C.1.2.1 hd hv (k r S' hr p e s m args below meth c H locs ls C hP hS h)
theorem mw_dup {x : Value} (hd : decode cc pc = .ok (.dup, 1)) (hx : x.category = 1) (k : MG X E Qf kc ks R cc own nL ret l S lv (x :: x :: rest) (pc + 1) res) : MG X E Qf kc ks R cc own nL ret l S lv (x :: rest) pc res :=
  fun r S' hr p e s m args below meth c H locs ls C hP hS h => lv_dup C.1.1 C.1.2.1 hd hx (k r S' hr p e s m args below meth c H locs ls C hP hS h)
theorem mw_pop {x : Value} (hd : decode cc pc = .ok (.pop, 1)) (hx : x.category = 1) (k : MG X E Qf kc ks R cc own nL ret l S lv (rest) (pc + 1) res) : MG X E Qf kc ks R cc own nL ret l S lv (x :: rest) pc res :=
  fun r S' hr p e s m args below meth c H locs ls C hP hS h => lv_pop C.1.1 C.1.2.1 hd hx (k r S' hr p e s m args below meth c H locs ls C hP hS h)
theorem mw_iload_n {k : Fin 4} {i : Nat} {x : Int32} (j : Nat) (hd : decode cc pc = .ok (.iload_n k, 1)) (hi : (k : Nat) = i) (hj : lv[j]? = some (i, .int x)) (kk : MG X E Qf kc ks R cc own nL ret l S lv (.int x :: rest) (pc + 1) res) : MG X E Qf kc ks R cc own nL ret l S lv rest pc res :=
  fun r S' hr p e s m args below meth c H locs ls C hP hS h => lv_iload_n C.1.1 C.1.2.1 hd hi (lv_at h j hj) (kk r S' hr p e s m args below meth c H locs ls C hP hS h)
theorem mw_iload {i : Nat} {x : Int32} (j : Nat) (hd : decode cc pc = .ok (.iload i, 2)) (hj : lv[j]? = some (i, .int x)) (kk : MG X E Qf kc ks R cc own nL ret l S lv (.int x :: rest) (pc + 2) res) : MG X E Qf kc ks R cc own nL ret l S lv rest pc res :=
  fun r S' hr p e s m args below meth c H locs ls C hP hS h => lv_iload C.1.1 C.1.2.1 hd (lv_at h j hj) (kk r S' hr p e s m args below meth c H locs ls C hP hS h)
theorem mw_istore_n {k : Fin 4} {i : Nat} {x : Int32} (hd : decode cc pc = .ok (.istore_n k, 1)) (hi : (k : Nat) = i) (hn : i < nL) (hl : (i, Value.int x) :: lv.filter (fun q => !(q.1 == i) && !(q.1 + 1 == i && q.2.category == 2)) = lv') (kk : MG X E Qf kc ks R cc own nL ret l S lv' rest (pc + 1) res) : MG X E Qf kc ks R cc own nL ret l S lv (.int x :: rest) pc res :=
  fun r S' hr p e s m args below meth c H locs ls C hP hS h => lv_istore_n C.1.1 C.1.2.1 hd hi h hn hl (fun ls h => kk r S' hr p e s m args below meth c H locs ls C hP hS h)
theorem mw_istore {i : Nat} {x : Int32} (hd : decode cc pc = .ok (.istore i, 2)) (hn : i < nL) (hl : (i, Value.int x) :: lv.filter (fun q => !(q.1 == i) && !(q.1 + 1 == i && q.2.category == 2)) = lv') (kk : MG X E Qf kc ks R cc own nL ret l S lv' rest (pc + 2) res) : MG X E Qf kc ks R cc own nL ret l S lv (.int x :: rest) pc res :=
  fun r S' hr p e s m args below meth c H locs ls C hP hS h => lv_istore C.1.1 C.1.2.1 hd h hn hl (fun ls h => kk r S' hr p e s m args below meth c H locs ls C hP hS h)
theorem mw_lload_n {k : Fin 4} {i : Nat} {x : Int64} (j : Nat) (hd : decode cc pc = .ok (.lload_n k, 1)) (hi : (k : Nat) = i) (hj : lv[j]? = some (i, .long x)) (kk : MG X E Qf kc ks R cc own nL ret l S lv (.long x :: rest) (pc + 1) res) : MG X E Qf kc ks R cc own nL ret l S lv rest pc res :=
  fun r S' hr p e s m args below meth c H locs ls C hP hS h => lv_lload_n C.1.1 C.1.2.1 hd hi (lv_at h j hj) (kk r S' hr p e s m args below meth c H locs ls C hP hS h)
theorem mw_lload {i : Nat} {x : Int64} (j : Nat) (hd : decode cc pc = .ok (.lload i, 2)) (hj : lv[j]? = some (i, .long x)) (kk : MG X E Qf kc ks R cc own nL ret l S lv (.long x :: rest) (pc + 2) res) : MG X E Qf kc ks R cc own nL ret l S lv rest pc res :=
  fun r S' hr p e s m args below meth c H locs ls C hP hS h => lv_lload C.1.1 C.1.2.1 hd (lv_at h j hj) (kk r S' hr p e s m args below meth c H locs ls C hP hS h)
theorem mw_lstore_n {k : Fin 4} {i : Nat} {x : Int64} (hd : decode cc pc = .ok (.lstore_n k, 1)) (hi : (k : Nat) = i) (hn : i + 1 < nL) (hl : (i, Value.long x) :: lv.filter (fun q => !(q.1 == i) && (!(q.1 == i + 1) && !(q.1 + 1 == i && q.2.category == 2))) = lv') (kk : MG X E Qf kc ks R cc own nL ret l S lv' rest (pc + 1) res) : MG X E Qf kc ks R cc own nL ret l S lv (.long x :: rest) pc res :=
  fun r S' hr p e s m args below meth c H locs ls C hP hS h => lv_lstore_n C.1.1 C.1.2.1 hd hi h hn hl (fun ls h => kk r S' hr p e s m args below meth c H locs ls C hP hS h)
theorem mw_lstore {i : Nat} {x : Int64} (hd : decode cc pc = .ok (.lstore i, 2)) (hn : i + 1 < nL) (hl : (i, Value.long x) :: lv.filter (fun q => !(q.1 == i) && (!(q.1 == i + 1) && !(q.1 + 1 == i && q.2.category == 2))) = lv') (kk : MG X E Qf kc ks R cc own nL ret l S lv' rest (pc + 2) res) : MG X E Qf kc ks R cc own nL ret l S lv (.long x :: rest) pc res :=
  fun r S' hr p e s m args below meth c H locs ls C hP hS h => lv_lstore C.1.1 C.1.2.1 hd h hn hl (fun ls h => kk r S' hr p e s m args below meth c H locs ls C hP hS h)
theorem mw_aload_n {k : Fin 4} {i : Nat} {x : Nat} (j : Nat) (hd : decode cc pc = .ok (.aload_n k, 1)) (hi : (k : Nat) = i) (hj : lv[j]? = some (i, .ref x)) (kk : MG X E Qf kc ks R cc own nL ret l S lv (.ref x :: rest) (pc + 1) res) : MG X E Qf kc ks R cc own nL ret l S lv rest pc res :=
  fun r S' hr p e s m args below meth c H locs ls C hP hS h => lv_aload_n C.1.1 C.1.2.1 hd hi (lv_at h j hj) (kk r S' hr p e s m args below meth c H locs ls C hP hS h)
theorem mw_aload {i : Nat} {x : Nat} (j : Nat) (hd : decode cc pc = .ok (.aload i, 2)) (hj : lv[j]? = some (i, .ref x)) (kk : MG X E Qf kc ks R cc own nL ret l S lv (.ref x :: rest) (pc + 2) res) : MG X E Qf kc ks R cc own nL ret l S lv rest pc res :=
  fun r S' hr p e s m args below meth c H locs ls C hP hS h => lv_aload C.1.1 C.1.2.1 hd (lv_at h j hj) (kk r S' hr p e s m args below meth c H locs ls C hP hS h)
theorem mw_astore_n {k : Fin 4} {i : Nat} {x : Nat} (hd : decode cc pc = .ok (.astore_n k, 1)) (hi : (k : Nat) = i) (hn : i < nL) (hl : (i, Value.ref x) :: lv.filter (fun q => !(q.1 == i) && !(q.1 + 1 == i && q.2.category == 2)) = lv') (kk : MG X E Qf kc ks R cc own nL ret l S lv' rest (pc + 1) res) : MG X E Qf kc ks R cc own nL ret l S lv (.ref x :: rest) pc res :=
  fun r S' hr p e s m args below meth c H locs ls C hP hS h => lv_astore_n C.1.1 C.1.2.1 hd hi h hn hl (fun ls h => kk r S' hr p e s m args below meth c H locs ls C hP hS h)
theorem mw_astore {i : Nat} {x : Nat} (hd : decode cc pc = .ok (.astore i, 2)) (hn : i < nL) (hl : (i, Value.ref x) :: lv.filter (fun q => !(q.1 == i) && !(q.1 + 1 == i && q.2.category == 2)) = lv') (kk : MG X E Qf kc ks R cc own nL ret l S lv' rest (pc + 2) res) : MG X E Qf kc ks R cc own nL ret l S lv (.ref x :: rest) pc res :=
  fun r S' hr p e s m args below meth c H locs ls C hP hS h => lv_astore C.1.1 C.1.2.1 hd h hn hl (fun ls h => kk r S' hr p e s m args below meth c H locs ls C hP hS h)
theorem mw_iinc {i k : Nat} {n : Int} {x v : Int32} (hd : decode cc pc = .ok (.iinc i n, 3)) (hk : lv[k]? = some (i, .int x)) (hv : x + Int32.ofInt n = v) (hn : i < nL) (hl : (i, Value.int v) :: lv.filter (fun q => !(q.1 == i) && !(q.1 + 1 == i && q.2.category == 2)) = lv') (kk : MG X E Qf kc ks R cc own nL ret l S lv' rest (pc + 3) res) : MG X E Qf kc ks R cc own nL ret l S lv rest pc res :=
  fun r S' hr p e s m args below meth c H locs ls C hP hS h => lv_iinc C.1.1 C.1.2.1 hd h hk hv hn hl (fun ls h => kk r S' hr p e s m args below meth c H locs ls C hP hS h)
theorem mw_goto {off : Int} {tgt : Nat} (hd : decode cc pc = .ok (.goto off, 3)) (ht : (pc : Int) + off = (tgt : Int)) (k : MG X E Qf kc ks R cc own nL ret l S lv rest tgt res) : MG X E Qf kc ks R cc own nL ret l S lv rest pc res :=
  fun r S' hr p e s m args below meth c H locs ls C hP hS h => lv_goto C.1.1 C.1.2.1 hd ht (k r S' hr p e s m args below meth c H locs ls C hP hS h)
theorem mw_icmp_eq {x y : Int32} {off : Int} {tgt : Nat} (hd : decode cc pc = .ok (.if_icmp .eq off, 3)) (ht : (pc : Int) + off = (tgt : Int)) (kt : MG X E Qf kc ks R cc own nL ret l S lv rest tgt A) (kf : MG X E Qf kc ks R cc own nL ret l S lv rest (pc + 3) B) : MG X E Qf kc ks R cc own nL ret l S lv (.int y :: .int x :: rest) pc (if x = y then A else B) := by
  intro r S' hr p e s m args below meth c H locs ls C hP hS h
  refine lv_icmp_eq C.1.1 C.1.2.1 hd ht (fun q => kt r S' (by rw [if_pos q] at hr; exact hr) p e s m args below meth c H locs ls C hP hS h) (fun q => kf r S' (by rw [if_neg q] at hr; exact hr) p e s m args below meth c H locs ls C hP hS h)
theorem mw_if_eq {x : Int32} {off : Int} {tgt : Nat} (hd : decode cc pc = .ok (.ifCond .eq off, 3)) (ht : (pc : Int) + off = (tgt : Int)) (kt : MG X E Qf kc ks R cc own nL ret l S lv rest tgt A) (kf : MG X E Qf kc ks R cc own nL ret l S lv rest (pc + 3) B) : MG X E Qf kc ks R cc own nL ret l S lv (.int x :: rest) pc (if x = 0 then A else B) := by
  intro r S' hr p e s m args below meth c H locs ls C hP hS h
  refine lv_if_eq C.1.1 C.1.2.1 hd ht (fun q => kt r S' (by rw [if_pos q] at hr; exact hr) p e s m args below meth c H locs ls C hP hS h) (fun q => kf r S' (by rw [if_neg q] at hr; exact hr) p e s m args below meth c H locs ls C hP hS h)
theorem mw_icmp_ne {x y : Int32} {off : Int} {tgt : Nat} (hd : decode cc pc = .ok (.if_icmp .ne off, 3)) (ht : (pc : Int) + off = (tgt : Int)) (kf : MG X E Qf kc ks R cc own nL ret l S lv rest (pc + 3) A) (kt : MG X E Qf kc ks R cc own nL ret l S lv rest tgt B) : MG X E Qf kc ks R cc own nL ret l S lv (.int y :: .int x :: rest) pc (if x = y then A else B) := by
  intro r S' hr p e s m args below meth c H locs ls C hP hS h
  refine lv_icmp_ne C.1.1 C.1.2.1 hd ht (fun q => kt r S' (by rw [if_neg q] at hr; exact hr) p e s m args below meth c H locs ls C hP hS h) (fun q => kf r S' (by rw [if_pos q] at hr; exact hr) p e s m args below meth c H locs ls C hP hS h)
theorem mw_if_ne {x : Int32} {off : Int} {tgt : Nat} (hd : decode cc pc = .ok (.ifCond .ne off, 3)) (ht : (pc : Int) + off = (tgt : Int)) (kf : MG X E Qf kc ks R cc own nL ret l S lv rest (pc + 3) A) (kt : MG X E Qf kc ks R cc own nL ret l S lv rest tgt B) : MG X E Qf kc ks R cc own nL ret l S lv (.int x :: rest) pc (if x = 0 then A else B) := by
  intro r S' hr p e s m args below meth c H locs ls C hP hS h
  refine lv_if_ne C.1.1 C.1.2.1 hd ht (fun q => kt r S' (by rw [if_neg q] at hr; exact hr) p e s m args below meth c H locs ls C hP hS h) (fun q => kf r S' (by rw [if_pos q] at hr; exact hr) p e s m args below meth c H locs ls C hP hS h)
theorem mw_icmp_lt {x y : Int32} {off : Int} {tgt : Nat} (hd : decode cc pc = .ok (.if_icmp .lt off, 3)) (ht : (pc : Int) + off = (tgt : Int)) (kt : MG X E Qf kc ks R cc own nL ret l S lv rest tgt A) (kf : MG X E Qf kc ks R cc own nL ret l S lv rest (pc + 3) B) : MG X E Qf kc ks R cc own nL ret l S lv (.int y :: .int x :: rest) pc (if x < y then A else B) := by
  intro r S' hr p e s m args below meth c H locs ls C hP hS h
  refine lv_icmp_lt C.1.1 C.1.2.1 hd ht (fun q => kt r S' (by rw [if_pos q] at hr; exact hr) p e s m args below meth c H locs ls C hP hS h) (fun q => kf r S' (by rw [if_neg q] at hr; exact hr) p e s m args below meth c H locs ls C hP hS h)
theorem mw_if_lt {x : Int32} {off : Int} {tgt : Nat} (hd : decode cc pc = .ok (.ifCond .lt off, 3)) (ht : (pc : Int) + off = (tgt : Int)) (kt : MG X E Qf kc ks R cc own nL ret l S lv rest tgt A) (kf : MG X E Qf kc ks R cc own nL ret l S lv rest (pc + 3) B) : MG X E Qf kc ks R cc own nL ret l S lv (.int x :: rest) pc (if x < 0 then A else B) := by
  intro r S' hr p e s m args below meth c H locs ls C hP hS h
  refine lv_if_lt C.1.1 C.1.2.1 hd ht (fun q => kt r S' (by rw [if_pos q] at hr; exact hr) p e s m args below meth c H locs ls C hP hS h) (fun q => kf r S' (by rw [if_neg q] at hr; exact hr) p e s m args below meth c H locs ls C hP hS h)
theorem mw_icmp_ge {x y : Int32} {off : Int} {tgt : Nat} (hd : decode cc pc = .ok (.if_icmp .ge off, 3)) (ht : (pc : Int) + off = (tgt : Int)) (kt : MG X E Qf kc ks R cc own nL ret l S lv rest tgt A) (kf : MG X E Qf kc ks R cc own nL ret l S lv rest (pc + 3) B) : MG X E Qf kc ks R cc own nL ret l S lv (.int y :: .int x :: rest) pc (if y ≤ x then A else B) := by
  intro r S' hr p e s m args below meth c H locs ls C hP hS h
  refine lv_icmp_ge C.1.1 C.1.2.1 hd ht (fun q => kt r S' (by rw [if_pos q] at hr; exact hr) p e s m args below meth c H locs ls C hP hS h) (fun q => kf r S' (by rw [if_neg q] at hr; exact hr) p e s m args below meth c H locs ls C hP hS h)
theorem mw_if_ge {x : Int32} {off : Int} {tgt : Nat} (hd : decode cc pc = .ok (.ifCond .ge off, 3)) (ht : (pc : Int) + off = (tgt : Int)) (kt : MG X E Qf kc ks R cc own nL ret l S lv rest tgt A) (kf : MG X E Qf kc ks R cc own nL ret l S lv rest (pc + 3) B) : MG X E Qf kc ks R cc own nL ret l S lv (.int x :: rest) pc (if 0 ≤ x then A else B) := by
  intro r S' hr p e s m args below meth c H locs ls C hP hS h
  refine lv_if_ge C.1.1 C.1.2.1 hd ht (fun q => kt r S' (by rw [if_pos q] at hr; exact hr) p e s m args below meth c H locs ls C hP hS h) (fun q => kf r S' (by rw [if_neg q] at hr; exact hr) p e s m args below meth c H locs ls C hP hS h)
theorem mw_icmp_gt {x y : Int32} {off : Int} {tgt : Nat} (hd : decode cc pc = .ok (.if_icmp .gt off, 3)) (ht : (pc : Int) + off = (tgt : Int)) (kt : MG X E Qf kc ks R cc own nL ret l S lv rest tgt A) (kf : MG X E Qf kc ks R cc own nL ret l S lv rest (pc + 3) B) : MG X E Qf kc ks R cc own nL ret l S lv (.int y :: .int x :: rest) pc (if y < x then A else B) := by
  intro r S' hr p e s m args below meth c H locs ls C hP hS h
  refine lv_icmp_gt C.1.1 C.1.2.1 hd ht (fun q => kt r S' (by rw [if_pos q] at hr; exact hr) p e s m args below meth c H locs ls C hP hS h) (fun q => kf r S' (by rw [if_neg q] at hr; exact hr) p e s m args below meth c H locs ls C hP hS h)
theorem mw_if_gt {x : Int32} {off : Int} {tgt : Nat} (hd : decode cc pc = .ok (.ifCond .gt off, 3)) (ht : (pc : Int) + off = (tgt : Int)) (kt : MG X E Qf kc ks R cc own nL ret l S lv rest tgt A) (kf : MG X E Qf kc ks R cc own nL ret l S lv rest (pc + 3) B) : MG X E Qf kc ks R cc own nL ret l S lv (.int x :: rest) pc (if 0 < x then A else B) := by
  intro r S' hr p e s m args below meth c H locs ls C hP hS h
  refine lv_if_gt C.1.1 C.1.2.1 hd ht (fun q => kt r S' (by rw [if_pos q] at hr; exact hr) p e s m args below meth c H locs ls C hP hS h) (fun q => kf r S' (by rw [if_neg q] at hr; exact hr) p e s m args below meth c H locs ls C hP hS h)
theorem mw_icmp_le {x y : Int32} {off : Int} {tgt : Nat} (hd : decode cc pc = .ok (.if_icmp .le off, 3)) (ht : (pc : Int) + off = (tgt : Int)) (kt : MG X E Qf kc ks R cc own nL ret l S lv rest tgt A) (kf : MG X E Qf kc ks R cc own nL ret l S lv rest (pc + 3) B) : MG X E Qf kc ks R cc own nL ret l S lv (.int y :: .int x :: rest) pc (if x ≤ y then A else B) := by
  intro r S' hr p e s m args below meth c H locs ls C hP hS h
  refine lv_icmp_le C.1.1 C.1.2.1 hd ht (fun q => kt r S' (by rw [if_pos q] at hr; exact hr) p e s m args below meth c H locs ls C hP hS h) (fun q => kf r S' (by rw [if_neg q] at hr; exact hr) p e s m args below meth c H locs ls C hP hS h)
theorem mw_if_le {x : Int32} {off : Int} {tgt : Nat} (hd : decode cc pc = .ok (.ifCond .le off, 3)) (ht : (pc : Int) + off = (tgt : Int)) (kt : MG X E Qf kc ks R cc own nL ret l S lv rest tgt A) (kf : MG X E Qf kc ks R cc own nL ret l S lv rest (pc + 3) B) : MG X E Qf kc ks R cc own nL ret l S lv (.int x :: rest) pc (if x ≤ 0 then A else B) := by
  intro r S' hr p e s m args below meth c H locs ls C hP hS h
  refine lv_if_le C.1.1 C.1.2.1 hd ht (fun q => kt r S' (by rw [if_pos q] at hr; exact hr) p e s m args below meth c H locs ls C hP hS h) (fun q => kf r S' (by rw [if_neg q] at hr; exact hr) p e s m args below meth c H locs ls C hP hS h)
end MWR
