/-! TraceBench$Ring.add(I)V -/
def f_X2_add (p1 : Int32) (S : mM) : Option (Unit × mM) :=
  mBind (f_J9_floorMod_7cf53 (S.1 8 1) (256 : Int32) S) fun r1 S2 =>
  if 0 ≤ r1 ∧ r1.toNatClampNeg < 256 then
  (bnd (setI S2 9 r1.toNatClampNeg p1) fun S3 =>
  bnd (setI S3 8 1 ((S3.1 8 1) + (1 : Int32))) fun S4 =>
  some ((), S4))
  else none
set_option maxRecDepth 100000 in
set_option maxHeartbeats 4000000 in
theorem w_X2_add (X : mX) (l : Launch) (p1 : Int32) (S : mM) : MW X viV rm_X2_add cX2_add RX2 2 none l S [(0, .ref (X.2.1 8)), (1, .int p1)] [] 0 (f_X2_add p1 S) := by
  unfold f_X2_add
  refine mw_aload_n 0 dX2_add_0 rfl rfl ?_
  refine gf_RX2_9 mk_8 dX2_add_1 ?_
  refine mw_aload_n 0 dX2_add_4 rfl rfl ?_
  refine gf_RX2_15 mk_8 dX2_add_5 ?_
  refine mw_sipush (v := (256 : Int32)) dX2_add_8 (by decide) ?_
  refine mw_callS (t_J9_floorMod_7cf53 X l (S.1 8 1) (256 : Int32) S) cd_J9_floorMod_7cf53 lk_RX2_19 sn_J9_floorMod_7cf53 in_RJ9 de_J9_floorMod_7cf53 ⟨rfl, rfl⟩ ⟨Nat.le_of_ble_eq_true rfl, Nat.le_of_ble_eq_true rfl⟩ rfl rfl ⟨Nat.le_of_ble_eq_true rfl, Nat.le_of_ble_eq_true rfl⟩ (Nat.le_of_ble_eq_true rfl) dX2_add_11 (fun r1 S2 => ?_)
  refine mw_eq (st' := [.int r1, .ref (X.2.1 9)]) rfl rfl ?_
  refine mw_iload_n 1 dX2_add_14 rfl rfl ?_
  refine mw_iastore mk_9 ml_9 dX2_add_15 ?_
  refine mw_bndS (fun S3 => ?_)
  refine mw_aload_n 0 dX2_add_16 rfl rfl ?_
  refine mw_dup dX2_add_17 rfl ?_
  refine gf_RX2_15 mk_8 dX2_add_18 ?_
  refine mw_iconst (v := (1 : Int32)) dX2_add_21 (by decide) ?_
  refine mw_iadd dX2_add_22 ?_
  refine pf_RX2_15 mk_8 dX2_add_23 ?_
  refine mw_bndS (fun S4 => ?_)
  exact mw_return dX2_add_26
theorem t_X2_add (X : mX) (l : Launch) (p1 : Int32) (S : mM) : mMet X viV yX2_add cX2_add 2 none rm_X2_add [.ref (X.2.1 8), .int p1] l S (f_X2_add p1 S) :=
  mMet_of (by decide +kernel) rfl (Nat.le_of_ble_eq_true rfl) (w_X2_add X l p1 S )
/-! TraceBench$Ring.get(I)I -/
def f_X2_get (p1 : Int32) (S : mM) : Option (Int32 × mM) :=
  mBind (f_J9_floorMod_7cf53 p1 (256 : Int32) S) fun r1 S2 =>
  if 0 ≤ r1 ∧ r1.toNatClampNeg < 256 then
  (some ((S2.1 9 r1.toNatClampNeg), S2))
  else none
set_option maxRecDepth 100000 in
set_option maxHeartbeats 4000000 in
theorem w_X2_get (X : mX) (l : Launch) (p1 : Int32) (S : mM) : MW X viI rm_X2_get cX2_get RX2 2 (some .int) l S [(0, .ref (X.2.1 8)), (1, .int p1)] [] 0 (f_X2_get p1 S) := by
  unfold f_X2_get
  refine mw_aload_n 0 dX2_get_0 rfl rfl ?_
  refine gf_RX2_9 mk_8 dX2_get_1 ?_
  refine mw_iload_n 1 dX2_get_4 rfl rfl ?_
  refine mw_sipush (v := (256 : Int32)) dX2_get_5 (by decide) ?_
  refine mw_callS (t_J9_floorMod_7cf53 X l p1 (256 : Int32) S) cd_J9_floorMod_7cf53 lk_RX2_19 sn_J9_floorMod_7cf53 in_RJ9 de_J9_floorMod_7cf53 ⟨rfl, rfl⟩ ⟨Nat.le_of_ble_eq_true rfl, Nat.le_of_ble_eq_true rfl⟩ rfl rfl ⟨Nat.le_of_ble_eq_true rfl, Nat.le_of_ble_eq_true rfl⟩ (Nat.le_of_ble_eq_true rfl) dX2_get_8 (fun r1 S2 => ?_)
  refine mw_eq (st' := [.int r1, .ref (X.2.1 9)]) rfl rfl ?_
  refine mw_iaload mk_9 ml_9 dX2_get_11 ?_
  exact mw_ireturn dX2_get_12
theorem t_X2_get (X : mX) (l : Launch) (p1 : Int32) (S : mM) : mMet X viI yX2_get cX2_get 2 (some .int) rm_X2_get [.ref (X.2.1 8), .int p1] l S (f_X2_get p1 S) :=
  mMet_of (by decide +kernel) rfl (Nat.le_of_ble_eq_true rfl) (w_X2_get X l p1 S )
/-! TraceBench$Ring.oldest()I -/
def f_X2_oldest (S : mM) : Option (Int32 × mM) :=
  mBind (f_J9_max_7cf53 (0 : Int32) ((S.1 8 1) - (256 : Int32)) S) fun r1 S2 =>
  some (r1, S2)
set_option maxRecDepth 100000 in
set_option maxHeartbeats 4000000 in
theorem w_X2_oldest (X : mX) (l : Launch) (S : mM) : MW X viI rm_X2_oldest cX2_oldest RX2 1 (some .int) l S [(0, .ref (X.2.1 8))] [] 0 (f_X2_oldest  S) := by
  unfold f_X2_oldest
  refine mw_iconst (v := (0 : Int32)) dX2_oldest_0 (by decide) ?_
  refine mw_aload_n 0 dX2_oldest_1 rfl rfl ?_
  refine gf_RX2_15 mk_8 dX2_oldest_2 ?_
  refine mw_sipush (v := (256 : Int32)) dX2_oldest_5 (by decide) ?_
  refine mw_isub dX2_oldest_8 ?_
  refine mw_callS (t_J9_max_7cf53 X l (0 : Int32) ((S.1 8 1) - (256 : Int32)) S) cd_J9_max_7cf53 lk_RX2_25 sn_J9_max_7cf53 in_RJ9 de_J9_max_7cf53 ⟨rfl, rfl⟩ ⟨Nat.le_of_ble_eq_true rfl, Nat.le_of_ble_eq_true rfl⟩ rfl rfl ⟨Nat.le_of_ble_eq_true rfl, Nat.le_of_ble_eq_true rfl⟩ (Nat.le_of_ble_eq_true rfl) dX2_oldest_9 (fun r1 S2 => ?_)
  refine mw_eq (st' := [.int r1]) rfl rfl ?_
  exact mw_ireturn dX2_oldest_12
theorem t_X2_oldest (X : mX) (l : Launch) (S : mM) : mMet X viI yX2_oldest cX2_oldest 1 (some .int) rm_X2_oldest [.ref (X.2.1 8)] l S (f_X2_oldest  S) :=
  mMet_of (by decide +kernel) rfl (Nat.le_of_ble_eq_true rfl) (w_X2_oldest X l  S )
/-! TraceBench$Ring.has(I)Z -/
def f_X2_has (p1 : Int32) (S : mM) : Option (Int32 × mM) :=
  mBind (f_X2_oldest S) fun r1 S2 =>
  mBind (f_X11_isIn p1 r1 ((S2.1 8 1) - (1 : Int32)) S2) fun r3 S4 =>
  if r3 = 0 ∨ r3 = 1 then some (r3, S4) else none
set_option maxRecDepth 100000 in
set_option maxHeartbeats 4000000 in
theorem w_X2_has (X : mX) (l : Launch) (p1 : Int32) (S : mM) : MW X viI rm_X2_has cX2_has RX2 2 (some .boolean) l S [(0, .ref (X.2.1 8)), (1, .int p1)] [] 0 (f_X2_has p1 S) := by
  unfold f_X2_has
  refine mw_iload_n 1 dX2_has_0 rfl rfl ?_
  refine mw_aload_n 0 dX2_has_1 rfl rfl ?_
  refine mw_callV (t_X2_oldest X l S) cd_X2_oldest lk_RX2_28 im_X2_oldest se_X2_oldest in_RX2 de_X2_oldest ⟨rfl, rfl⟩ ⟨Nat.le_of_ble_eq_true rfl, Nat.le_of_ble_eq_true rfl⟩ (mKind_lt mk_8 (by decide)) (mCell_k mk_8) rfl rfl rfl rfl ⟨Nat.le_of_ble_eq_true rfl, Nat.le_of_ble_eq_true rfl⟩ (Nat.le_of_ble_eq_true rfl) dX2_has_2 (fun r1 S2 => ?_)
  refine mw_eq (st' := [.int r1, .int p1]) rfl rfl ?_
  refine mw_aload_n 0 dX2_has_5 rfl rfl ?_
  refine gf_RX2_15 mk_8 dX2_has_6 ?_
  refine mw_iconst (v := (1 : Int32)) dX2_has_9 (by decide) ?_
  refine mw_isub dX2_has_10 ?_
  refine mw_callSN (t_X11_isIn X l p1 r1 ((S2.1 8 1) - (1 : Int32)) S2) cd_X11_isIn lk_RX2_32 sn_X11_isIn in_RX11 de_X11_isIn ⟨rfl, rfl⟩ ⟨Nat.le_of_ble_eq_true rfl, Nat.le_of_ble_eq_true rfl⟩ rfl rfl ⟨Nat.le_of_ble_eq_true rfl, Nat.le_of_ble_eq_true rfl⟩ (Nat.le_of_ble_eq_true rfl) dX2_has_11 (fun r3 S4 => ?_)
  refine mw_eq (st' := [.int r3]) rfl rfl ?_
  exact mw_zreturn dX2_has_14
theorem t_X2_has (X : mX) (l : Launch) (p1 : Int32) (S : mM) : mMet X viI yX2_has cX2_has 2 (some .boolean) rm_X2_has [.ref (X.2.1 8), .int p1] l S (f_X2_has p1 S) :=
  mMet_of (by decide +kernel) rfl (Nat.le_of_ble_eq_true rfl) (w_X2_has X l p1 S )
