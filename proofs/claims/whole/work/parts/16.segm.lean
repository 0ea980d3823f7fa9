/-! TraceBench$Segment.has(I)Z -/
def f_X5_has (t : Nat) (p1 : Int32) (S : mM) : Option (Int32 × mM) :=
  mBind (f_X11_isIn p1 (0 : Int32) ((S.1 t 2) - (1 : Int32)) S) fun r1 S2 =>
  if r1 = 0 ∨ r1 = 1 then some (r1, S2) else none
set_option maxRecDepth 100000 in
set_option maxHeartbeats 4000000 in
theorem w_X5_has (X : mX) (l : Launch) (t : Nat) (p1 : Int32) (S : mM) (ht : mKind t = 5) : MW X viI rm_X5_has cX5_has RX5 2 (some .boolean) l S [(0, .ref (X.2.1 t)), (1, .int p1)] [] 0 (f_X5_has t p1 S) := by
  unfold f_X5_has
  refine mw_iload_n 1 dX5_has_0 rfl rfl ?_
  refine mw_iconst (v := (0 : Int32)) dX5_has_1 (by decide) ?_
  refine mw_aload_n 0 dX5_has_2 rfl rfl ?_
  refine gf_RX5_25 ht dX5_has_3 ?_
  refine mw_iconst (v := (1 : Int32)) dX5_has_6 (by decide) ?_
  refine mw_isub dX5_has_7 ?_
  refine mw_callSN (t_X11_isIn X l p1 (0 : Int32) ((S.1 t 2) - (1 : Int32)) S) cd_X11_isIn lk_RX5_37 sn_X11_isIn in_RX11 de_X11_isIn ⟨rfl, rfl⟩ ⟨Nat.le_of_ble_eq_true rfl, Nat.le_of_ble_eq_true rfl⟩ rfl rfl ⟨Nat.le_of_ble_eq_true rfl, Nat.le_of_ble_eq_true rfl⟩ (Nat.le_of_ble_eq_true rfl) dX5_has_8 (fun r1 S2 => ?_)
  refine mw_eq (st' := [.int r1]) rfl rfl ?_
  exact mw_zreturn dX5_has_11
theorem t_X5_has (X : mX) (l : Launch) (t : Nat) (p1 : Int32) (S : mM) (ht : mKind t = 5) : mMet X viI yX5_has cX5_has 2 (some .boolean) rm_X5_has [.ref (X.2.1 t), .int p1] l S (f_X5_has t p1 S) :=
  mMet_of (by decide +kernel) rfl (Nat.le_of_ble_eq_true rfl) (w_X5_has X l t p1 S ht)
/-! TraceBench$Segment.numberAt(II)I -/
def f_X5_numberAt (t : Nat) (p1 : Int32) (p2 : Int32) (S : mM) : Option (Int32 × mM) :=
  mBind (f_X5_has t p2 S) fun r1 S2 =>
  if r1 = 0 then
    some ((0 : Int32), S2)
  else
    if 0 ≤ p2 ∧ p2.toNatClampNeg < 201 then
    (mBind (f_X11_numberOn p1 (S2.1 (t + 1) p2.toNatClampNeg) S2) fun r3 S4 =>
    some (r3, S4))
    else none
set_option maxRecDepth 100000 in
set_option maxHeartbeats 4000000 in
theorem w_X5_numberAt (X : mX) (l : Launch) (t : Nat) (p1 : Int32) (p2 : Int32) (S : mM) (ht : mKind t = 5) : MW X viI rm_X5_numberAt cX5_numberAt RX5 3 (some .int) l S [(0, .ref (X.2.1 t)), (1, .int p1), (2, .int p2)] [] 0 (f_X5_numberAt t p1 p2 S) := by
  unfold f_X5_numberAt
  refine mw_aload_n 0 dX5_numberAt_0 rfl rfl ?_
  refine mw_iload_n 2 dX5_numberAt_1 rfl rfl ?_
  refine mw_callV (t_X5_has X l t p2 S ht) cd_X5_has lk_RX5_41 im_X5_has se_X5_has in_RX5 de_X5_has ⟨rfl, rfl⟩ ⟨Nat.le_of_ble_eq_true rfl, Nat.le_of_ble_eq_true rfl⟩ (mKind_lt ht (by decide)) (mCell_k ht) rfl rfl rfl rfl ⟨Nat.le_of_ble_eq_true rfl, Nat.le_of_ble_eq_true rfl⟩ (Nat.le_of_ble_eq_true rfl) dX5_numberAt_2 (fun r1 S2 => ?_)
  refine mw_eq (st' := [.int r1]) rfl rfl ?_
  refine mw_if_eq (tgt := 21) dX5_numberAt_5 (by decide) ?_ ?_
  · refine mw_iconst (v := (0 : Int32)) dX5_numberAt_21 (by decide) ?_
    exact mw_ireturn dX5_numberAt_22
  · refine mw_iload_n 1 dX5_numberAt_8 rfl rfl ?_
    refine mw_aload_n 0 dX5_numberAt_9 rfl rfl ?_
    refine gf_RX5_9 ht dX5_numberAt_10 ?_
    refine mw_iload_n 2 dX5_numberAt_13 rfl rfl ?_
    refine mw_iaload (ko_5_0 ht) (lo_5_0 ht) dX5_numberAt_14 ?_
    refine mw_callSN (t_X11_numberOn X l p1 (S2.1 (t + 1) p2.toNatClampNeg) S2) cd_X11_numberOn lk_RX5_45 sn_X11_numberOn in_RX11 de_X11_numberOn ⟨rfl, rfl⟩ ⟨Nat.le_of_ble_eq_true rfl, Nat.le_of_ble_eq_true rfl⟩ rfl rfl ⟨Nat.le_of_ble_eq_true rfl, Nat.le_of_ble_eq_true rfl⟩ (Nat.le_of_ble_eq_true rfl) dX5_numberAt_15 (fun r3 S4 => ?_)
    refine mw_eq (st' := [.int r3]) rfl rfl ?_
    refine mw_goto (tgt := 22) dX5_numberAt_18 (by decide) ?_
    exact mw_ireturn dX5_numberAt_22
theorem t_X5_numberAt (X : mX) (l : Launch) (t : Nat) (p1 : Int32) (p2 : Int32) (S : mM) (ht : mKind t = 5) : mMet X viI yX5_numberAt cX5_numberAt 3 (some .int) rm_X5_numberAt [.ref (X.2.1 t), .int p1, .int p2] l S (f_X5_numberAt t p1 p2 S) :=
  mMet_of (by decide +kernel) rfl (Nat.le_of_ble_eq_true rfl) (w_X5_numberAt X l t p1 p2 S ht)
/-! TraceBench$Segment.isOne(II)Z -/
def f_X5_isOne (t : Nat) (p1 : Int32) (p2 : Int32) (S : mM) : Option (Int32 × mM) :=
  mBind (f_X5_numberAt t p1 p2 S) fun r1 S2 =>
  if r1 < 0 then
    some ((0 : Int32), S2)
  else
    some ((1 : Int32), S2)
set_option maxRecDepth 100000 in
set_option maxHeartbeats 4000000 in
theorem w_X5_isOne (X : mX) (l : Launch) (t : Nat) (p1 : Int32) (p2 : Int32) (S : mM) (ht : mKind t = 5) : MW X viI rm_X5_isOne cX5_isOne RX5 3 (some .boolean) l S [(0, .ref (X.2.1 t)), (1, .int p1), (2, .int p2)] [] 0 (f_X5_isOne t p1 p2 S) := by
  unfold f_X5_isOne
  refine mw_aload_n 0 dX5_isOne_0 rfl rfl ?_
  refine mw_iload_n 1 dX5_isOne_1 rfl rfl ?_
  refine mw_iload_n 2 dX5_isOne_2 rfl rfl ?_
  refine mw_callV (t_X5_numberAt X l t p1 p2 S ht) cd_X5_numberAt lk_RX5_48 im_X5_numberAt se_X5_numberAt in_RX5 de_X5_numberAt ⟨rfl, rfl⟩ ⟨Nat.le_of_ble_eq_true rfl, Nat.le_of_ble_eq_true rfl⟩ (mKind_lt ht (by decide)) (mCell_k ht) rfl rfl rfl rfl ⟨Nat.le_of_ble_eq_true rfl, Nat.le_of_ble_eq_true rfl⟩ (Nat.le_of_ble_eq_true rfl) dX5_isOne_3 (fun r1 S2 => ?_)
  refine mw_eq (st' := [.int r1]) rfl rfl ?_
  refine mw_if_lt (tgt := 13) dX5_isOne_6 (by decide) ?_ ?_
  · refine mw_iconst (v := (0 : Int32)) dX5_isOne_13 (by decide) ?_
    exact mw_zret (by decide) dX5_isOne_14
  · refine mw_iconst (v := (1 : Int32)) dX5_isOne_9 (by decide) ?_
    refine mw_goto (tgt := 14) dX5_isOne_10 (by decide) ?_
    exact mw_zret (by decide) dX5_isOne_14
theorem t_X5_isOne (X : mX) (l : Launch) (t : Nat) (p1 : Int32) (p2 : Int32) (S : mM) (ht : mKind t = 5) : mMet X viI yX5_isOne cX5_isOne 3 (some .boolean) rm_X5_isOne [.ref (X.2.1 t), .int p1, .int p2] l S (f_X5_isOne t p1 p2 S) :=
  mMet_of (by decide +kernel) rfl (Nat.le_of_ble_eq_true rfl) (w_X5_isOne X l t p1 p2 S ht)
/-! TraceBench$Segment.copyOf(LTraceBench$Ring;III)V -/
def f_X5_copyOf_29 (n : Nat) (y0 : Nat) (y2 : Int32) (y5 : Int32) (S : mM) : Option (Unit × mM) := match n with
  | 0 => none
  | n + 1 =>
    if (S.1 y0 2) ≤ y5 then
      some ((), S)
    else
      mBind (f_X2_get (y2 + y5) S) fun r1 S2 =>
      if 0 ≤ y5 ∧ y5.toNatClampNeg < 201 then
      (bnd (setI S2 (y0 + 1) y5.toNatClampNeg r1) fun S3 =>
      bnd (y5 + (1 : Int32)) fun x4 =>
      f_X5_copyOf_29 n y0 y2 x4 S3)
      else none
set_option maxRecDepth 100000 in
set_option maxHeartbeats 4000000 in
theorem w_X5_copyOf_29 (X : mX) (l : Launch) (n : Nat) (y0 : Nat) (y2 : Int32) (y5 : Int32) (S : mM) (hy0 : mKind y0 = 5) : MW X viV rm_X5_copyOf cX5_copyOf RX5 6 none l S [(0, .ref (X.2.1 y0)), (1, .ref (X.2.1 8)), (2, .int y2), (5, .int y5)] [] 29 (f_X5_copyOf_29 n y0 y2 y5 S) := by
  induction n generalizing y0 y2 y5 S with
  | zero => exact mw_none
  | succ n ih =>
    unfold f_X5_copyOf_29
    refine mw_iload 3 dX5_copyOf_29 rfl ?_
    refine mw_aload_n 0 dX5_copyOf_31 rfl rfl ?_
    refine gf_RX5_25 hy0 dX5_copyOf_32 ?_
    refine mw_icmp_ge (tgt := 59) dX5_copyOf_35 (by decide) ?_ ?_
    · exact mw_return dX5_copyOf_59
    · refine mw_aload_n 0 dX5_copyOf_38 rfl rfl ?_
      refine gf_RX5_9 hy0 dX5_copyOf_39 ?_
      refine mw_iload 3 dX5_copyOf_42 rfl ?_
      refine mw_aload_n 1 dX5_copyOf_44 rfl rfl ?_
      refine mw_iload_n 2 dX5_copyOf_45 rfl rfl ?_
      refine mw_iload 3 dX5_copyOf_46 rfl ?_
      refine mw_iadd dX5_copyOf_48 ?_
      refine mw_callV (t_X2_get X l (y2 + y5) S) cd_X2_get lk_RX5_31 im_X2_get se_X2_get in_RX2 de_X2_get ⟨rfl, rfl⟩ ⟨Nat.le_of_ble_eq_true rfl, Nat.le_of_ble_eq_true rfl⟩ (mKind_lt mk_8 (by decide)) (mCell_k mk_8) rfl rfl rfl rfl ⟨Nat.le_of_ble_eq_true rfl, Nat.le_of_ble_eq_true rfl⟩ (Nat.le_of_ble_eq_true rfl) dX5_copyOf_49 (fun r1 S2 => ?_)
      refine mw_eq (st' := [.int r1, .int y5, .ref (X.2.1 (y0 + 1))]) rfl rfl ?_
      refine mw_iastore (ko_5_0 hy0) (lo_5_0 hy0) dX5_copyOf_52 ?_
      refine mw_bndS (fun S3 => ?_)
      refine mw_iincB (lvf := fun x4 => [(5, .int x4), (0, .ref (X.2.1 y0)), (1, .ref (X.2.1 8)), (2, .int y2)]) (k := 3) dX5_copyOf_53 rfl (by decide) (by decide) (fun _ => rfl) (fun x4 => ?_)
      refine mw_goto (tgt := 29) dX5_copyOf_56 (by decide) ?_
      exact mw_sub [1, 2, 3, 0] rfl (ih y0 y2 x4 S3 hy0)
def f_X5_copyOf (t : Nat) (p2 : Int32) (p3 : Int32) (p4 : Int32) (S : mM) : Option (Unit × mM) :=
  bnd (setI S t 1 p2) fun S1 =>
  mBind (f_J9_min_7cf53 ((p3 - p2) + (1 : Int32)) (201 : Int32) S1) fun r2 S3 =>
  bnd (setI S3 t 2 r2) fun S4 =>
  bnd (setI S4 t 3 p4) fun S5 =>
  f_X5_copyOf_29 mFuel t p2 (0 : Int32) S5
set_option maxRecDepth 100000 in
set_option maxHeartbeats 4000000 in
theorem w_X5_copyOf (X : mX) (l : Launch) (t : Nat) (p2 : Int32) (p3 : Int32) (p4 : Int32) (S : mM) (ht : mKind t = 5) : MW X viV rm_X5_copyOf cX5_copyOf RX5 6 none l S [(0, .ref (X.2.1 t)), (1, .ref (X.2.1 8)), (2, .int p2), (3, .int p3), (4, .int p4)] [] 0 (f_X5_copyOf t p2 p3 p4 S) := by
  unfold f_X5_copyOf
  refine mw_aload_n 0 dX5_copyOf_0 rfl rfl ?_
  refine mw_iload_n 2 dX5_copyOf_1 rfl rfl ?_
  refine pf_RX5_15 ht dX5_copyOf_2 ?_
  refine mw_bndS (fun S1 => ?_)
  refine mw_aload_n 0 dX5_copyOf_5 rfl rfl ?_
  refine mw_iload_n 3 dX5_copyOf_6 rfl rfl ?_
  refine mw_iload_n 2 dX5_copyOf_7 rfl rfl ?_
  refine mw_isub dX5_copyOf_8 ?_
  refine mw_iconst (v := (1 : Int32)) dX5_copyOf_9 (by decide) ?_
  refine mw_iadd dX5_copyOf_10 ?_
  refine mw_sipush (v := (201 : Int32)) dX5_copyOf_11 (by decide) ?_
  refine mw_callS (t_J9_min_7cf53 X l ((p3 - p2) + (1 : Int32)) (201 : Int32) S1) cd_J9_min_7cf53 lk_RX5_19 sn_J9_min_7cf53 in_RJ9 de_J9_min_7cf53 ⟨rfl, rfl⟩ ⟨Nat.le_of_ble_eq_true rfl, Nat.le_of_ble_eq_true rfl⟩ rfl rfl ⟨Nat.le_of_ble_eq_true rfl, Nat.le_of_ble_eq_true rfl⟩ (Nat.le_of_ble_eq_true rfl) dX5_copyOf_14 (fun r2 S3 => ?_)
  refine mw_eq (st' := [.int r2, .ref (X.2.1 t)]) rfl rfl ?_
  refine pf_RX5_25 ht dX5_copyOf_17 ?_
  refine mw_bndS (fun S4 => ?_)
  refine mw_aload_n 0 dX5_copyOf_20 rfl rfl ?_
  refine mw_iload 4 dX5_copyOf_21 rfl ?_
  refine pf_RX5_28 ht dX5_copyOf_23 ?_
  refine mw_bndS (fun S5 => ?_)
  refine mw_iconst (v := (0 : Int32)) dX5_copyOf_26 (by decide) ?_
  refine mw_istore (lv' := [(5, .int (0 : Int32)), (0, .ref (X.2.1 t)), (1, .ref (X.2.1 8)), (2, .int p2), (3, .int p3), (4, .int p4)]) dX5_copyOf_27 (by decide) rfl ?_
  exact mw_sub [1, 2, 3, 0] rfl (w_X5_copyOf_29 X l mFuel t p2 (0 : Int32) S5 ht)
theorem t_X5_copyOf (X : mX) (l : Launch) (t : Nat) (p2 : Int32) (p3 : Int32) (p4 : Int32) (S : mM) (ht : mKind t = 5) : mMet X viV yX5_copyOf cX5_copyOf 6 none rm_X5_copyOf [.ref (X.2.1 t), .ref (X.2.1 8), .int p2, .int p3, .int p4] l S (f_X5_copyOf t p2 p3 p4 S) :=
  mMet_of (by decide +kernel) rfl (Nat.le_of_ble_eq_true rfl) (w_X5_copyOf X l t p2 p3 p4 S ht)
