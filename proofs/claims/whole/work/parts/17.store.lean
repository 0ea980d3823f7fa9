/-! TraceBench$Store.isFull()Z -/
def f_X8_isFull (S : mM) : Option (Int32 × mM) :=
  if (S.1 10 1) < (8 : Int32) then
    some ((0 : Int32), S)
  else
    some ((1 : Int32), S)
set_option maxRecDepth 100000 in
set_option maxHeartbeats 4000000 in
theorem w_X8_isFull (X : mX) (l : Launch) (S : mM) : MW X viI rm_X8_isFull cX8_isFull RX8 1 (some .boolean) l S [(0, .ref (X.2.1 10))] [] 0 (f_X8_isFull  S) := by
  unfold f_X8_isFull
  refine mw_aload_n 0 dX8_isFull_0 rfl rfl ?_
  refine gf_RX8_18 mk_10 dX8_isFull_1 ?_
  refine mw_bipush (v := (8 : Int32)) dX8_isFull_4 (by decide) ?_
  refine mw_icmp_lt (tgt := 13) dX8_isFull_6 (by decide) ?_ ?_
  · refine mw_iconst (v := (0 : Int32)) dX8_isFull_13 (by decide) ?_
    exact mw_zret (by decide) dX8_isFull_14
  · refine mw_iconst (v := (1 : Int32)) dX8_isFull_9 (by decide) ?_
    refine mw_goto (tgt := 14) dX8_isFull_10 (by decide) ?_
    exact mw_zret (by decide) dX8_isFull_14
theorem t_X8_isFull (X : mX) (l : Launch) (S : mM) : mMet X viI yX8_isFull cX8_isFull 1 (some .boolean) rm_X8_isFull [.ref (X.2.1 10)] l S (f_X8_isFull  S) :=
  mMet_of (by decide +kernel) rfl (Nat.le_of_ble_eq_true rfl) (w_X8_isFull X l  S )
/-! TraceBench$Store.has(I)Z -/
def f_X8_has (p1 : Int32) (S : mM) : Option (Int32 × mM) :=
  mBind (f_X11_isIn p1 (0 : Int32) ((S.1 10 1) - (1 : Int32)) S) fun r1 S2 =>
  if r1 = 0 ∨ r1 = 1 then some (r1, S2) else none
set_option maxRecDepth 100000 in
set_option maxHeartbeats 4000000 in
theorem w_X8_has (X : mX) (l : Launch) (p1 : Int32) (S : mM) : MW X viI rm_X8_has cX8_has RX8 2 (some .boolean) l S [(0, .ref (X.2.1 10)), (1, .int p1)] [] 0 (f_X8_has p1 S) := by
  unfold f_X8_has
  refine mw_iload_n 1 dX8_has_0 rfl rfl ?_
  refine mw_iconst (v := (0 : Int32)) dX8_has_1 (by decide) ?_
  refine mw_aload_n 0 dX8_has_2 rfl rfl ?_
  refine gf_RX8_18 mk_10 dX8_has_3 ?_
  refine mw_iconst (v := (1 : Int32)) dX8_has_6 (by decide) ?_
  refine mw_isub dX8_has_7 ?_
  refine mw_callSN (t_X11_isIn X l p1 (0 : Int32) ((S.1 10 1) - (1 : Int32)) S) cd_X11_isIn lk_RX8_22 sn_X11_isIn in_RX11 de_X11_isIn ⟨rfl, rfl⟩ ⟨Nat.le_of_ble_eq_true rfl, Nat.le_of_ble_eq_true rfl⟩ rfl rfl ⟨Nat.le_of_ble_eq_true rfl, Nat.le_of_ble_eq_true rfl⟩ (Nat.le_of_ble_eq_true rfl) dX8_has_8 (fun r1 S2 => ?_)
  refine mw_eq (st' := [.int r1]) rfl rfl ?_
  exact mw_zreturn dX8_has_11
theorem t_X8_has (X : mX) (l : Launch) (p1 : Int32) (S : mM) : mMet X viI yX8_has cX8_has 2 (some .boolean) rm_X8_has [.ref (X.2.1 10), .int p1] l S (f_X8_has p1 S) :=
  mMet_of (by decide +kernel) rfl (Nat.le_of_ble_eq_true rfl) (w_X8_has X l p1 S )
/-! TraceBench$Store.get(I)LTraceBench$Segment; -/
def f_X8_get (p1 : Int32) (S : mM) : Option (Nat × mM) :=
  mBind (f_X8_has p1 S) fun r1 S2 =>
  if r1 = 0 then
    if 0 ≤ (0 : Int32) ∧ (0 : Int32).toNatClampNeg < 8 then
    (bnd (11 + 1 + 2 * (0 : Int32).toNatClampNeg) fun a4 =>
    some (a4, S2))
    else none
  else
    if 0 ≤ p1 ∧ p1.toNatClampNeg < 8 then
    (bnd (11 + 1 + 2 * p1.toNatClampNeg) fun a6 =>
    some (a6, S2))
    else none
set_option maxRecDepth 100000 in
set_option maxHeartbeats 4000000 in
theorem w_X8_get (X : mX) (l : Launch) (p1 : Int32) (S : mM) : MW X (viR X) rm_X8_get cX8_get RX8 2 (some (.object "TraceBench$Segment")) l S [(0, .ref (X.2.1 10)), (1, .int p1)] [] 0 (f_X8_get p1 S) := by
  unfold f_X8_get
  refine mw_aload_n 0 dX8_get_0 rfl rfl ?_
  refine gf_RX8_11 mk_10 dX8_get_1 ?_
  refine mw_aload_n 0 dX8_get_4 rfl rfl ?_
  refine mw_iload_n 1 dX8_get_5 rfl rfl ?_
  refine mw_callV (t_X8_has X l p1 S) cd_X8_has lk_RX8_26 im_X8_has se_X8_has in_RX8 de_X8_has ⟨rfl, rfl⟩ ⟨Nat.le_of_ble_eq_true rfl, Nat.le_of_ble_eq_true rfl⟩ (mKind_lt mk_10 (by decide)) (mCell_k mk_10) rfl rfl rfl rfl ⟨Nat.le_of_ble_eq_true rfl, Nat.le_of_ble_eq_true rfl⟩ (Nat.le_of_ble_eq_true rfl) dX8_get_6 (fun r1 S2 => ?_)
  refine mw_eq (st' := [.int r1, .ref (X.2.1 11)]) rfl rfl ?_
  refine mw_if_eq (tgt := 16) dX8_get_9 (by decide) ?_ ?_
  · refine mw_iconst (v := (0 : Int32)) dX8_get_16 (by decide) ?_
    refine mw_aaload (n := 8) (t := 5) (g := fun i => 11 + 1 + 2 * i) mk_11 (by decide) (kr_25 mk_11 ml_11) rfl dX8_get_17 (fun h3 => ?_)
    refine mw_bndA (ke_25 mk_11 h3.2) (fun a4 ha4 => ?_)
    exact mw_areturn dX8_get_18
  · refine mw_iload_n 1 dX8_get_12 rfl rfl ?_
    refine mw_goto (tgt := 17) dX8_get_13 (by decide) ?_
    refine mw_aaload (n := 8) (t := 5) (g := fun i => 11 + 1 + 2 * i) mk_11 (by decide) (kr_25 mk_11 ml_11) rfl dX8_get_17 (fun h5 => ?_)
    refine mw_bndA (ke_25 mk_11 h5.2) (fun a6 ha6 => ?_)
    exact mw_areturn dX8_get_18
theorem t_X8_get (X : mX) (l : Launch) (p1 : Int32) (S : mM) : mMet X (viR X) yX8_get cX8_get 2 (some (.object "TraceBench$Segment")) rm_X8_get [.ref (X.2.1 10), .int p1] l S (f_X8_get p1 S) :=
  mMet_of (by decide +kernel) rfl (Nat.le_of_ble_eq_true rfl) (w_X8_get X l p1 S )
/-! TraceBench$Store.add(LTraceBench$Ring;III)V -/
def f_X8_add (p2 : Int32) (p3 : Int32) (p4 : Int32) (S : mM) : Option (Unit × mM) :=
  mBind (f_X8_isFull S) fun r1 S2 =>
  if r1 = 0 then
    if 0 ≤ (S2.1 10 1) ∧ (S2.1 10 1).toNatClampNeg < 8 then
    (bnd (11 + 1 + 2 * (S2.1 10 1).toNatClampNeg) fun a4 =>
    mBind (f_X5_copyOf a4 p2 p3 p4 S2) fun r5 S6 =>
    bnd (setI S6 10 1 ((S6.1 10 1) + (1 : Int32))) fun S7 =>
    some ((), S7))
    else none
  else
    some ((), S2)
set_option maxRecDepth 100000 in
set_option maxHeartbeats 4000000 in
theorem w_X8_add (X : mX) (l : Launch) (p2 : Int32) (p3 : Int32) (p4 : Int32) (S : mM) : MW X viV rm_X8_add cX8_add RX8 5 none l S [(0, .ref (X.2.1 10)), (1, .ref (X.2.1 8)), (2, .int p2), (3, .int p3), (4, .int p4)] [] 0 (f_X8_add p2 p3 p4 S) := by
  unfold f_X8_add
  refine mw_aload_n 0 dX8_add_0 rfl rfl ?_
  refine mw_callV (t_X8_isFull X l S) cd_X8_isFull lk_RX8_30 im_X8_isFull se_X8_isFull in_RX8 de_X8_isFull ⟨rfl, rfl⟩ ⟨Nat.le_of_ble_eq_true rfl, Nat.le_of_ble_eq_true rfl⟩ (mKind_lt mk_10 (by decide)) (mCell_k mk_10) rfl rfl rfl rfl ⟨Nat.le_of_ble_eq_true rfl, Nat.le_of_ble_eq_true rfl⟩ (Nat.le_of_ble_eq_true rfl) dX8_add_1 (fun r1 S2 => ?_)
  refine mw_eq (st' := [.int r1]) rfl rfl ?_
  refine mw_if_ne (tgt := 34) dX8_add_4 (by decide) ?_ ?_
  · refine mw_aload_n 0 dX8_add_7 rfl rfl ?_
    refine gf_RX8_11 mk_10 dX8_add_8 ?_
    refine mw_aload_n 0 dX8_add_11 rfl rfl ?_
    refine gf_RX8_18 mk_10 dX8_add_12 ?_
    refine mw_aaload (n := 8) (t := 5) (g := fun i => 11 + 1 + 2 * i) mk_11 (by decide) (kr_25 mk_11 ml_11) rfl dX8_add_15 (fun h3 => ?_)
    refine mw_bndA (ke_25 mk_11 h3.2) (fun a4 ha4 => ?_)
    refine mw_aload_n 1 dX8_add_16 rfl rfl ?_
    refine mw_iload_n 2 dX8_add_17 rfl rfl ?_
    refine mw_iload_n 3 dX8_add_18 rfl rfl ?_
    refine mw_iload 4 dX8_add_19 rfl ?_
    refine mw_callV (t_X5_copyOf X l a4 p2 p3 p4 S2 ha4) cd_X5_copyOf lk_RX8_34 im_X5_copyOf se_X5_copyOf in_RX5 de_X5_copyOf ⟨rfl, rfl⟩ ⟨Nat.le_of_ble_eq_true rfl, Nat.le_of_ble_eq_true rfl⟩ (mKind_lt ha4 (by decide)) (mCell_k ha4) rfl rfl rfl rfl ⟨Nat.le_of_ble_eq_true rfl, Nat.le_of_ble_eq_true rfl⟩ (Nat.le_of_ble_eq_true rfl) dX8_add_21 (fun r5 S6 => ?_)
    refine mw_eq (st' := []) rfl rfl ?_
    refine mw_aload_n 0 dX8_add_24 rfl rfl ?_
    refine mw_dup dX8_add_25 rfl ?_
    refine gf_RX8_18 mk_10 dX8_add_26 ?_
    refine mw_iconst (v := (1 : Int32)) dX8_add_29 (by decide) ?_
    refine mw_iadd dX8_add_30 ?_
    refine pf_RX8_18 mk_10 dX8_add_31 ?_
    refine mw_bndS (fun S7 => ?_)
    exact mw_return dX8_add_34
  · exact mw_return dX8_add_34
theorem t_X8_add (X : mX) (l : Launch) (p2 : Int32) (p3 : Int32) (p4 : Int32) (S : mM) : mMet X viV yX8_add cX8_add 5 none rm_X8_add [.ref (X.2.1 10), .ref (X.2.1 8), .int p2, .int p3, .int p4] l S (f_X8_add p2 p3 p4 S) :=
  mMet_of (by decide +kernel) rfl (Nat.le_of_ble_eq_true rfl) (w_X8_add X l p2 p3 p4 S )
/-! TraceBench$Store.removeLatest()Z -/
def f_X8_removeLatest (S : mM) : Option (Int32 × mM) :=
  if (S.1 10 1) = 0 then
    some ((0 : Int32), S)
  else
    bnd (setI S 10 1 ((S.1 10 1) - (1 : Int32))) fun S1 =>
    some ((1 : Int32), S1)
set_option maxRecDepth 100000 in
set_option maxHeartbeats 4000000 in
theorem w_X8_removeLatest (X : mX) (l : Launch) (S : mM) : MW X viI rm_X8_removeLatest cX8_removeLatest RX8 1 (some .boolean) l S [(0, .ref (X.2.1 10))] [] 0 (f_X8_removeLatest  S) := by
  unfold f_X8_removeLatest
  refine mw_aload_n 0 dX8_removeLatest_0 rfl rfl ?_
  refine gf_RX8_18 mk_10 dX8_removeLatest_1 ?_
  refine mw_if_ne (tgt := 9) dX8_removeLatest_4 (by decide) ?_ ?_
  · refine mw_iconst (v := (0 : Int32)) dX8_removeLatest_7 (by decide) ?_
    exact mw_zret (by decide) dX8_removeLatest_8
  · refine mw_aload_n 0 dX8_removeLatest_9 rfl rfl ?_
    refine mw_dup dX8_removeLatest_10 rfl ?_
    refine gf_RX8_18 mk_10 dX8_removeLatest_11 ?_
    refine mw_iconst (v := (1 : Int32)) dX8_removeLatest_14 (by decide) ?_
    refine mw_isub dX8_removeLatest_15 ?_
    refine pf_RX8_18 mk_10 dX8_removeLatest_16 ?_
    refine mw_bndS (fun S1 => ?_)
    refine mw_iconst (v := (1 : Int32)) dX8_removeLatest_19 (by decide) ?_
    exact mw_zret (by decide) dX8_removeLatest_20
theorem t_X8_removeLatest (X : mX) (l : Launch) (S : mM) : mMet X viI yX8_removeLatest cX8_removeLatest 1 (some .boolean) rm_X8_removeLatest [.ref (X.2.1 10)] l S (f_X8_removeLatest  S) :=
  mMet_of (by decide +kernel) rfl (Nat.le_of_ble_eq_true rfl) (w_X8_removeLatest X l  S )
