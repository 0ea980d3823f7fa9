/-! TraceBench$Wire.add(II)V -/
def f_X10_add (p1 : Int32) (p2 : Int32) (S : mM) : Option (Unit × mM) :=
  if (20 : Int32) ≤ (S.1 66 2) then
    some ((), S)
  else
    if 0 ≤ (S.1 66 2) ∧ (S.1 66 2).toNatClampNeg < 20 then
    (bnd (setI S 67 (S.1 66 2).toNatClampNeg p1) fun S1 =>
    if 0 ≤ (S1.1 66 2) ∧ (S1.1 66 2).toNatClampNeg < 20 then
    (bnd (setI S1 68 (S1.1 66 2).toNatClampNeg p2) fun S2 =>
    bnd (setI S2 66 2 ((S2.1 66 2) + (1 : Int32))) fun S3 =>
    some ((), S3))
    else none)
    else none
set_option maxRecDepth 100000 in
set_option maxHeartbeats 4000000 in
theorem w_X10_add (X : mX) (l : Launch) (p1 : Int32) (p2 : Int32) (S : mM) : MW X viV rm_X10_add cX10_add RX10 3 none l S [(0, .ref (X.2.1 66)), (1, .int p1), (2, .int p2)] [] 0 (f_X10_add p1 p2 S) := by
  unfold f_X10_add
  refine mw_aload_n 0 dX10_add_0 rfl rfl ?_
  refine gf_RX10_22 mk_66 dX10_add_1 ?_
  refine mw_bipush (v := (20 : Int32)) dX10_add_4 (by decide) ?_
  refine mw_icmp_ge (tgt := 39) dX10_add_6 (by decide) ?_ ?_
  · exact mw_return dX10_add_39
  · refine mw_aload_n 0 dX10_add_9 rfl rfl ?_
    refine gf_RX10_9 mk_66 dX10_add_10 ?_
    refine mw_aload_n 0 dX10_add_13 rfl rfl ?_
    refine gf_RX10_22 mk_66 dX10_add_14 ?_
    refine mw_iload_n 1 dX10_add_17 rfl rfl ?_
    refine mw_iastore mk_67 ml_67 dX10_add_18 ?_
    refine mw_bndS (fun S1 => ?_)
    refine mw_aload_n 0 dX10_add_19 rfl rfl ?_
    refine gf_RX10_15 mk_66 dX10_add_20 ?_
    refine mw_aload_n 0 dX10_add_23 rfl rfl ?_
    refine gf_RX10_22 mk_66 dX10_add_24 ?_
    refine mw_iload_n 2 dX10_add_27 rfl rfl ?_
    refine mw_iastore mk_68 ml_68 dX10_add_28 ?_
    refine mw_bndS (fun S2 => ?_)
    refine mw_aload_n 0 dX10_add_29 rfl rfl ?_
    refine mw_dup dX10_add_30 rfl ?_
    refine gf_RX10_22 mk_66 dX10_add_31 ?_
    refine mw_iconst (v := (1 : Int32)) dX10_add_34 (by decide) ?_
    refine mw_iadd dX10_add_35 ?_
    refine pf_RX10_22 mk_66 dX10_add_36 ?_
    refine mw_bndS (fun S3 => ?_)
    exact mw_return dX10_add_39
theorem t_X10_add (X : mX) (l : Launch) (p1 : Int32) (p2 : Int32) (S : mM) : mMet X viV yX10_add cX10_add 3 none rm_X10_add [.ref (X.2.1 66), .int p1, .int p2] l S (f_X10_add p1 p2 S) :=
  mMet_of (by decide +kernel) rfl (Nat.le_of_ble_eq_true rfl) (w_X10_add X l p1 p2 S )
/-! TraceBench$Wire.beginsByte(LTraceBench$Segment;III)Z -/
def f_X10_beginsByte_29 (y0 : Nat) (y1 : Int32) (y2 : Int32) (y3 : Int32) (z0 : Int32) (S : mM) : Option (Int32 × mM) :=
  if z0 = 0 then
    some ((0 : Int32), S)
  else
    mBind (f_X5_isOne y0 y1 (y2 + y3) S) fun r1 S2 =>
    if r1 = 0 then
      some ((1 : Int32), S2)
    else
      some ((0 : Int32), S2)
set_option maxRecDepth 100000 in
set_option maxHeartbeats 4000000 in
theorem w_X10_beginsByte_29 (X : mX) (l : Launch) (y0 : Nat) (y1 : Int32) (y2 : Int32) (y3 : Int32) (z0 : Int32) (S : mM) (hy0 : mKind y0 = 5) : MW X viI rm_X10_beginsByte cX10_beginsByte RX10 5 (some .boolean) l S [(0, .ref (X.2.1 y0)), (1, .int y1), (2, .int y2), (3, .int y3)] [.int z0] 29 (f_X10_beginsByte_29 y0 y1 y2 y3 z0 S) := by
  unfold f_X10_beginsByte_29
  refine mw_istore (lv' := [(4, .int z0), (0, .ref (X.2.1 y0)), (1, .int y1), (2, .int y2), (3, .int y3)]) dX10_beginsByte_29 (by decide) rfl ?_
  refine mw_iload 0 dX10_beginsByte_31 rfl ?_
  refine mw_if_eq (tgt := 51) dX10_beginsByte_33 (by decide) ?_ ?_
  · refine mw_iconst (v := (0 : Int32)) dX10_beginsByte_51 (by decide) ?_
    exact mw_zret (by decide) dX10_beginsByte_52
  · refine mw_aload_n 1 dX10_beginsByte_36 rfl rfl ?_
    refine mw_iload_n 2 dX10_beginsByte_37 rfl rfl ?_
    refine mw_iload_n 3 dX10_beginsByte_38 rfl rfl ?_
    refine mw_iload_n 4 dX10_beginsByte_39 rfl rfl ?_
    refine mw_iadd dX10_beginsByte_40 ?_
    refine mw_callV (t_X5_isOne X l y0 y1 (y2 + y3) S hy0) cd_X5_isOne lk_RX10_48 im_X5_isOne se_X5_isOne in_RX5 de_X5_isOne ⟨rfl, rfl⟩ ⟨Nat.le_of_ble_eq_true rfl, Nat.le_of_ble_eq_true rfl⟩ (mKind_lt hy0 (by decide)) (mCell_k hy0) rfl rfl rfl rfl ⟨Nat.le_of_ble_eq_true rfl, Nat.le_of_ble_eq_true rfl⟩ (Nat.le_of_ble_eq_true rfl) dX10_beginsByte_41 (fun r1 S2 => ?_)
    refine mw_eq (st' := [.int r1]) rfl rfl ?_
    refine mw_if_ne (tgt := 51) dX10_beginsByte_44 (by decide) ?_ ?_
    · refine mw_iconst (v := (1 : Int32)) dX10_beginsByte_47 (by decide) ?_
      refine mw_goto (tgt := 52) dX10_beginsByte_48 (by decide) ?_
      exact mw_zret (by decide) dX10_beginsByte_52
    · refine mw_iconst (v := (0 : Int32)) dX10_beginsByte_51 (by decide) ?_
      exact mw_zret (by decide) dX10_beginsByte_52
def f_X10_beginsByte_24 (y0 : Nat) (y1 : Int32) (y2 : Int32) (y3 : Int32) (S : mM) : Option (Int32 × mM) :=
  f_X10_beginsByte_29 y0 y1 y2 y3 (1 : Int32) S
set_option maxRecDepth 100000 in
set_option maxHeartbeats 4000000 in
theorem w_X10_beginsByte_24 (X : mX) (l : Launch) (y0 : Nat) (y1 : Int32) (y2 : Int32) (y3 : Int32) (S : mM) (hy0 : mKind y0 = 5) : MW X viI rm_X10_beginsByte cX10_beginsByte RX10 5 (some .boolean) l S [(0, .ref (X.2.1 y0)), (1, .int y1), (2, .int y2), (3, .int y3)] [] 24 (f_X10_beginsByte_24 y0 y1 y2 y3 S) := by
  unfold f_X10_beginsByte_24
  refine mw_iconst (v := (1 : Int32)) dX10_beginsByte_24 (by decide) ?_
  refine mw_goto (tgt := 29) dX10_beginsByte_25 (by decide) ?_
  exact mw_sub [0, 1, 2, 3] rfl (w_X10_beginsByte_29 X l y0 y1 y2 y3 (1 : Int32) S hy0)
def f_X10_beginsByte_28 (y0 : Nat) (y1 : Int32) (y2 : Int32) (y3 : Int32) (S : mM) : Option (Int32 × mM) :=
  f_X10_beginsByte_29 y0 y1 y2 y3 (0 : Int32) S
set_option maxRecDepth 100000 in
set_option maxHeartbeats 4000000 in
theorem w_X10_beginsByte_28 (X : mX) (l : Launch) (y0 : Nat) (y1 : Int32) (y2 : Int32) (y3 : Int32) (S : mM) (hy0 : mKind y0 = 5) : MW X viI rm_X10_beginsByte cX10_beginsByte RX10 5 (some .boolean) l S [(0, .ref (X.2.1 y0)), (1, .int y1), (2, .int y2), (3, .int y3)] [] 28 (f_X10_beginsByte_28 y0 y1 y2 y3 S) := by
  unfold f_X10_beginsByte_28
  refine mw_iconst (v := (0 : Int32)) dX10_beginsByte_28 (by decide) ?_
  exact mw_sub [0, 1, 2, 3] rfl (w_X10_beginsByte_29 X l y0 y1 y2 y3 (0 : Int32) S hy0)
def f_X10_beginsByte (p0 : Nat) (p1 : Int32) (p2 : Int32) (p3 : Int32) (S : mM) : Option (Int32 × mM) :=
  mBind (f_X5_isOne p0 p1 p2 S) fun r1 S2 =>
  if r1 = 0 then
    if p2 = 0 then
      f_X10_beginsByte_24 p0 p1 p2 p3 S2
    else
      mBind (f_X5_isOne p0 p1 (p2 - (1 : Int32)) S2) fun r3 S4 =>
      if r3 = 0 then
        f_X10_beginsByte_28 p0 p1 p2 p3 S4
      else
        f_X10_beginsByte_24 p0 p1 p2 p3 S4
  else
    f_X10_beginsByte_28 p0 p1 p2 p3 S2
set_option maxRecDepth 100000 in
set_option maxHeartbeats 4000000 in
theorem w_X10_beginsByte (X : mX) (l : Launch) (p0 : Nat) (p1 : Int32) (p2 : Int32) (p3 : Int32) (S : mM) (hp0 : mKind p0 = 5) : MW X viI rm_X10_beginsByte cX10_beginsByte RX10 5 (some .boolean) l S [(0, .ref (X.2.1 p0)), (1, .int p1), (2, .int p2), (3, .int p3)] [] 0 (f_X10_beginsByte p0 p1 p2 p3 S) := by
  unfold f_X10_beginsByte
  refine mw_aload_n 0 dX10_beginsByte_0 rfl rfl ?_
  refine mw_iload_n 1 dX10_beginsByte_1 rfl rfl ?_
  refine mw_iload_n 2 dX10_beginsByte_2 rfl rfl ?_
  refine mw_callV (t_X5_isOne X l p0 p1 p2 S hp0) cd_X5_isOne lk_RX10_48 im_X5_isOne se_X5_isOne in_RX5 de_X5_isOne ⟨rfl, rfl⟩ ⟨Nat.le_of_ble_eq_true rfl, Nat.le_of_ble_eq_true rfl⟩ (mKind_lt hp0 (by decide)) (mCell_k hp0) rfl rfl rfl rfl ⟨Nat.le_of_ble_eq_true rfl, Nat.le_of_ble_eq_true rfl⟩ (Nat.le_of_ble_eq_true rfl) dX10_beginsByte_3 (fun r1 S2 => ?_)
  refine mw_eq (st' := [.int r1]) rfl rfl ?_
  refine mw_if_ne (tgt := 28) dX10_beginsByte_6 (by decide) ?_ ?_
  · refine mw_iload_n 2 dX10_beginsByte_9 rfl rfl ?_
    refine mw_if_eq (tgt := 24) dX10_beginsByte_10 (by decide) ?_ ?_
    · exact mw_sub [0, 1, 2, 3] rfl (w_X10_beginsByte_24 X l p0 p1 p2 p3 S2 hp0)
    · refine mw_aload_n 0 dX10_beginsByte_13 rfl rfl ?_
      refine mw_iload_n 1 dX10_beginsByte_14 rfl rfl ?_
      refine mw_iload_n 2 dX10_beginsByte_15 rfl rfl ?_
      refine mw_iconst (v := (1 : Int32)) dX10_beginsByte_16 (by decide) ?_
      refine mw_isub dX10_beginsByte_17 ?_
      refine mw_callV (t_X5_isOne X l p0 p1 (p2 - (1 : Int32)) S2 hp0) cd_X5_isOne lk_RX10_48 im_X5_isOne se_X5_isOne in_RX5 de_X5_isOne ⟨rfl, rfl⟩ ⟨Nat.le_of_ble_eq_true rfl, Nat.le_of_ble_eq_true rfl⟩ (mKind_lt hp0 (by decide)) (mCell_k hp0) rfl rfl rfl rfl ⟨Nat.le_of_ble_eq_true rfl, Nat.le_of_ble_eq_true rfl⟩ (Nat.le_of_ble_eq_true rfl) dX10_beginsByte_18 (fun r3 S4 => ?_)
      refine mw_eq (st' := [.int r3]) rfl rfl ?_
      refine mw_if_eq (tgt := 28) dX10_beginsByte_21 (by decide) ?_ ?_
      · exact mw_sub [0, 1, 2, 3] rfl (w_X10_beginsByte_28 X l p0 p1 p2 p3 S4 hp0)
      · exact mw_sub [0, 1, 2, 3] rfl (w_X10_beginsByte_24 X l p0 p1 p2 p3 S4 hp0)
  · exact mw_sub [0, 1, 2, 3] rfl (w_X10_beginsByte_28 X l p0 p1 p2 p3 S2 hp0)
theorem t_X10_beginsByte (X : mX) (l : Launch) (p0 : Nat) (p1 : Int32) (p2 : Int32) (p3 : Int32) (S : mM) (hp0 : mKind p0 = 5) : mMet X viI yX10_beginsByte cX10_beginsByte 5 (some .boolean) rm_X10_beginsByte [.ref (X.2.1 p0), .int p1, .int p2, .int p3] l S (f_X10_beginsByte p0 p1 p2 p3 S) :=
  mMet_of (by decide +kernel) rfl (Nat.le_of_ble_eq_true rfl) (w_X10_beginsByte X l p0 p1 p2 p3 S hp0)
/-! TraceBench$Wire.byteBehind(LTraceBench$Segment;III)I -/
def f_X10_byteBehind_6 (n : Nat) (y0 : Nat) (y1 : Int32) (y2 : Int32) (y3 : Int32) (y4 : Int32) (y5 : Int32) (S : mM) : Option (Int32 × mM) := match n with
  | 0 => none
  | n + 1 =>
    if (8 : Int32) ≤ y5 then
      some (y4, S)
    else
      mBind (f_X5_isOne y0 y1 (y2 + (y3 * (y5 + (1 : Int32)))) S) fun r1 S2 =>
      if r1 = 0 then
        bnd (y5 + (1 : Int32)) fun x3 =>
        f_X10_byteBehind_6 n y0 y1 y2 y3 y4 x3 S2
      else
        bnd (y4 ||| ((1 : Int32) <<< (y5 &&& 31))) fun x4 =>
        bnd (y5 + (1 : Int32)) fun x5 =>
        f_X10_byteBehind_6 n y0 y1 y2 y3 x4 x5 S2
set_option maxRecDepth 100000 in
set_option maxHeartbeats 4000000 in
theorem w_X10_byteBehind_6 (X : mX) (l : Launch) (n : Nat) (y0 : Nat) (y1 : Int32) (y2 : Int32) (y3 : Int32) (y4 : Int32) (y5 : Int32) (S : mM) (hy0 : mKind y0 = 5) : MW X viI rm_X10_byteBehind cX10_byteBehind RX10 6 (some .int) l S [(0, .ref (X.2.1 y0)), (1, .int y1), (2, .int y2), (3, .int y3), (4, .int y4), (5, .int y5)] [] 6 (f_X10_byteBehind_6 n y0 y1 y2 y3 y4 y5 S) := by
  induction n generalizing y0 y1 y2 y3 y4 y5 S with
  | zero => exact mw_none
  | succ n ih =>
    unfold f_X10_byteBehind_6
    refine mw_iload 5 dX10_byteBehind_6 rfl ?_
    refine mw_bipush (v := (8 : Int32)) dX10_byteBehind_8 (by decide) ?_
    refine mw_icmp_ge (tgt := 44) dX10_byteBehind_10 (by decide) ?_ ?_
    · refine mw_iload 4 dX10_byteBehind_44 rfl ?_
      exact mw_ireturn dX10_byteBehind_46
    · refine mw_aload_n 0 dX10_byteBehind_13 rfl rfl ?_
      refine mw_iload_n 1 dX10_byteBehind_14 rfl rfl ?_
      refine mw_iload_n 2 dX10_byteBehind_15 rfl rfl ?_
      refine mw_iload_n 3 dX10_byteBehind_16 rfl rfl ?_
      refine mw_iload 5 dX10_byteBehind_17 rfl ?_
      refine mw_iconst (v := (1 : Int32)) dX10_byteBehind_19 (by decide) ?_
      refine mw_iadd dX10_byteBehind_20 ?_
      refine mw_imul dX10_byteBehind_21 ?_
      refine mw_iadd dX10_byteBehind_22 ?_
      refine mw_callV (t_X5_isOne X l y0 y1 (y2 + (y3 * (y5 + (1 : Int32)))) S hy0) cd_X5_isOne lk_RX10_48 im_X5_isOne se_X5_isOne in_RX5 de_X5_isOne ⟨rfl, rfl⟩ ⟨Nat.le_of_ble_eq_true rfl, Nat.le_of_ble_eq_true rfl⟩ (mKind_lt hy0 (by decide)) (mCell_k hy0) rfl rfl rfl rfl ⟨Nat.le_of_ble_eq_true rfl, Nat.le_of_ble_eq_true rfl⟩ (Nat.le_of_ble_eq_true rfl) dX10_byteBehind_23 (fun r1 S2 => ?_)
      refine mw_eq (st' := [.int r1]) rfl rfl ?_
      refine mw_if_eq (tgt := 38) dX10_byteBehind_26 (by decide) ?_ ?_
      · refine mw_iincB (lvf := fun x3 => [(5, .int x3), (0, .ref (X.2.1 y0)), (1, .int y1), (2, .int y2), (3, .int y3), (4, .int y4)]) (k := 5) dX10_byteBehind_38 rfl (by decide) (by decide) (fun _ => rfl) (fun x3 => ?_)
        refine mw_goto (tgt := 6) dX10_byteBehind_41 (by decide) ?_
        exact mw_sub [1, 2, 3, 4, 5, 0] rfl (ih y0 y1 y2 y3 y4 x3 S2 hy0)
      · refine mw_iload 4 dX10_byteBehind_29 rfl ?_
        refine mw_iconst (v := (1 : Int32)) dX10_byteBehind_31 (by decide) ?_
        refine mw_iload 5 dX10_byteBehind_32 rfl ?_
        refine mw_ishl dX10_byteBehind_34 ?_
        refine mw_ior dX10_byteBehind_35 ?_
        refine mw_bndI (fun x4 => ?_)
        refine mw_istore (lv' := [(4, .int x4), (0, .ref (X.2.1 y0)), (1, .int y1), (2, .int y2), (3, .int y3), (5, .int y5)]) dX10_byteBehind_36 (by decide) rfl ?_
        refine mw_iincB (lvf := fun x5 => [(5, .int x5), (4, .int x4), (0, .ref (X.2.1 y0)), (1, .int y1), (2, .int y2), (3, .int y3)]) (k := 5) dX10_byteBehind_38 rfl (by decide) (by decide) (fun _ => rfl) (fun x5 => ?_)
        refine mw_goto (tgt := 6) dX10_byteBehind_41 (by decide) ?_
        exact mw_sub [2, 3, 4, 5, 1, 0] rfl (ih y0 y1 y2 y3 x4 x5 S2 hy0)
def f_X10_byteBehind (p0 : Nat) (p1 : Int32) (p2 : Int32) (p3 : Int32) (S : mM) : Option (Int32 × mM) :=
  f_X10_byteBehind_6 mFuel p0 p1 p2 p3 (0 : Int32) (0 : Int32) S
set_option maxRecDepth 100000 in
set_option maxHeartbeats 4000000 in
theorem w_X10_byteBehind (X : mX) (l : Launch) (p0 : Nat) (p1 : Int32) (p2 : Int32) (p3 : Int32) (S : mM) (hp0 : mKind p0 = 5) : MW X viI rm_X10_byteBehind cX10_byteBehind RX10 6 (some .int) l S [(0, .ref (X.2.1 p0)), (1, .int p1), (2, .int p2), (3, .int p3)] [] 0 (f_X10_byteBehind p0 p1 p2 p3 S) := by
  unfold f_X10_byteBehind
  refine mw_iconst (v := (0 : Int32)) dX10_byteBehind_0 (by decide) ?_
  refine mw_istore (lv' := [(4, .int (0 : Int32)), (0, .ref (X.2.1 p0)), (1, .int p1), (2, .int p2), (3, .int p3)]) dX10_byteBehind_1 (by decide) rfl ?_
  refine mw_iconst (v := (0 : Int32)) dX10_byteBehind_3 (by decide) ?_
  refine mw_istore (lv' := [(5, .int (0 : Int32)), (4, .int (0 : Int32)), (0, .ref (X.2.1 p0)), (1, .int p1), (2, .int p2), (3, .int p3)]) dX10_byteBehind_4 (by decide) rfl ?_
  exact mw_sub [2, 3, 4, 5, 1, 0] rfl (w_X10_byteBehind_6 X l mFuel p0 p1 p2 p3 (0 : Int32) (0 : Int32) S hp0)
theorem t_X10_byteBehind (X : mX) (l : Launch) (p0 : Nat) (p1 : Int32) (p2 : Int32) (p3 : Int32) (S : mM) (hp0 : mKind p0 = 5) : mMet X viI yX10_byteBehind cX10_byteBehind 6 (some .int) rm_X10_byteBehind [.ref (X.2.1 p0), .int p1, .int p2, .int p3] l S (f_X10_byteBehind p0 p1 p2 p3 S) :=
  mMet_of (by decide +kernel) rfl (Nat.le_of_ble_eq_true rfl) (w_X10_byteBehind X l p0 p1 p2 p3 S hp0)
/-! TraceBench$Wire.clear()V -/
def f_X10_clear (S : mM) : Option (Unit × mM) :=
  bnd (setI S 66 2 (0 : Int32)) fun S1 =>
  bnd (setI S1 66 3 (-4 : Int32)) fun S2 =>
  bnd (setI S2 66 4 (0 : Int32)) fun S3 =>
  bnd (setI S3 66 5 (0 : Int32)) fun S4 =>
  some ((), S4)
set_option maxRecDepth 100000 in
set_option maxHeartbeats 4000000 in
theorem w_X10_clear (X : mX) (l : Launch) (S : mM) : MW X viV rm_X10_clear cX10_clear RX10 1 none l S [(0, .ref (X.2.1 66))] [] 0 (f_X10_clear  S) := by
  unfold f_X10_clear
  refine mw_aload_n 0 dX10_clear_0 rfl rfl ?_
  refine mw_iconst (v := (0 : Int32)) dX10_clear_1 (by decide) ?_
  refine pf_RX10_22 mk_66 dX10_clear_2 ?_
  refine mw_bndS (fun S1 => ?_)
  refine mw_aload_n 0 dX10_clear_5 rfl rfl ?_
  refine mw_bipush (v := (-4 : Int32)) dX10_clear_6 (by decide) ?_
  refine pf_RX10_18 mk_66 dX10_clear_8 ?_
  refine mw_bndS (fun S2 => ?_)
  refine mw_aload_n 0 dX10_clear_11 rfl rfl ?_
  refine mw_iconst (v := (0 : Int32)) dX10_clear_12 (by decide) ?_
  refine pf_RX10_29 mk_66 (by decide) dX10_clear_13 ?_
  refine mw_bndS (fun S3 => ?_)
  refine mw_aload_n 0 dX10_clear_16 rfl rfl ?_
  refine mw_iconst (v := (0 : Int32)) dX10_clear_17 (by decide) ?_
  refine pf_RX10_33 mk_66 dX10_clear_18 ?_
  refine mw_bndS (fun S4 => ?_)
  exact mw_return dX10_clear_21
theorem t_X10_clear (X : mX) (l : Launch) (S : mM) : mMet X viV yX10_clear cX10_clear 1 none rm_X10_clear [.ref (X.2.1 66)] l S (f_X10_clear  S) :=
  mMet_of (by decide +kernel) rfl (Nat.le_of_ble_eq_true rfl) (w_X10_clear X l  S )
/-! TraceBench$Wire.readOne(LTraceBench$Segment;II)V -/
def f_X10_readOne_21 (n : Nat) (y1 : Nat) (y2 : Int32) (y3 : Int32) (y4 : Int32) (y5 : Int32) (y6 : Int32) (S : mM) : Option (Unit × mM) := match n with
  | 0 => none
  | n + 1 =>
    if (S.1 y1 2) ≤ (y6 + y5) then
      some ((), S)
    else
      if (20 : Int32) ≤ (S.1 66 2) then
        some ((), S)
      else
        mBind (f_X10_beginsByte y1 y2 y6 y4 S) fun r1 S2 =>
        if r1 = 0 then
          bnd (y6 + (1 : Int32)) fun x3 =>
          f_X10_readOne_21 n y1 y2 y3 y4 y5 x3 S2
        else
          mBind (f_X5_isOne y1 y2 (y6 + y5) S2) fun r4 S5 =>
          if r4 = 0 then
            bnd (setI S5 66 3 (y6 + y5)) fun S6 =>
            some ((), S6)
          else
            mBind (f_X10_byteBehind y1 y2 (y6 + y4) y3 S5) fun r7 S8 =>
            mBind (f_X10_add r7 y6 S8) fun r9 S10 =>
            bnd (y6 + (y5 + (1 : Int32))) fun x11 =>
            f_X10_readOne_21 n y1 y2 y3 y4 y5 x11 S10
set_option maxRecDepth 100000 in
set_option maxHeartbeats 4000000 in
theorem w_X10_readOne_21 (X : mX) (l : Launch) (n : Nat) (y1 : Nat) (y2 : Int32) (y3 : Int32) (y4 : Int32) (y5 : Int32) (y6 : Int32) (S : mM) (hy1 : mKind y1 = 5) : MW X viV rm_X10_readOne cX10_readOne RX10 7 none l S [(0, .ref (X.2.1 66)), (1, .ref (X.2.1 y1)), (2, .int y2), (3, .int y3), (4, .int y4), (5, .int y5), (6, .int y6)] [] 21 (f_X10_readOne_21 n y1 y2 y3 y4 y5 y6 S) := by
  induction n generalizing y1 y2 y3 y4 y5 y6 S with
  | zero => exact mw_none
  | succ n ih =>
    unfold f_X10_readOne_21
    refine mw_iload 6 dX10_readOne_21 rfl ?_
    refine mw_iload 5 dX10_readOne_23 rfl ?_
    refine mw_iadd dX10_readOne_25 ?_
    refine mw_aload_n 1 dX10_readOne_26 rfl rfl ?_
    refine gf_RX10_39 hy1 dX10_readOne_27 ?_
    refine mw_icmp_ge (tgt := 112) dX10_readOne_30 (by decide) ?_ ?_
    · exact mw_return dX10_readOne_112
    · refine mw_aload_n 0 dX10_readOne_33 rfl rfl ?_
      refine gf_RX10_22 mk_66 dX10_readOne_34 ?_
      refine mw_bipush (v := (20 : Int32)) dX10_readOne_37 (by decide) ?_
      refine mw_icmp_ge (tgt := 112) dX10_readOne_39 (by decide) ?_ ?_
      · exact mw_return dX10_readOne_112
      · refine mw_aload_n 1 dX10_readOne_42 rfl rfl ?_
        refine mw_iload_n 2 dX10_readOne_43 rfl rfl ?_
        refine mw_iload 6 dX10_readOne_44 rfl ?_
        refine mw_iload 4 dX10_readOne_46 rfl ?_
        refine mw_callS (t_X10_beginsByte X l y1 y2 y6 y4 S hy1) cd_X10_beginsByte lk_RX10_44 sn_X10_beginsByte in_RX10 de_X10_beginsByte ⟨rfl, rfl⟩ ⟨Nat.le_of_ble_eq_true rfl, Nat.le_of_ble_eq_true rfl⟩ rfl rfl ⟨Nat.le_of_ble_eq_true rfl, Nat.le_of_ble_eq_true rfl⟩ (Nat.le_of_ble_eq_true rfl) dX10_readOne_48 (fun r1 S2 => ?_)
        refine mw_eq (st' := [.int r1]) rfl rfl ?_
        refine mw_if_ne (tgt := 60) dX10_readOne_51 (by decide) ?_ ?_
        · refine mw_iincB (lvf := fun x3 => [(6, .int x3), (0, .ref (X.2.1 66)), (1, .ref (X.2.1 y1)), (2, .int y2), (3, .int y3), (4, .int y4), (5, .int y5)]) (k := 6) dX10_readOne_54 rfl (by decide) (by decide) (fun _ => rfl) (fun x3 => ?_)
          refine mw_goto (tgt := 21) dX10_readOne_57 (by decide) ?_
          exact mw_sub [1, 2, 3, 4, 5, 6, 0] rfl (ih y1 y2 y3 y4 y5 x3 S2 hy1)
        · refine mw_aload_n 1 dX10_readOne_60 rfl rfl ?_
          refine mw_iload_n 2 dX10_readOne_61 rfl rfl ?_
          refine mw_iload 6 dX10_readOne_62 rfl ?_
          refine mw_iload 5 dX10_readOne_64 rfl ?_
          refine mw_iadd dX10_readOne_66 ?_
          refine mw_callV (t_X5_isOne X l y1 y2 (y6 + y5) S2 hy1) cd_X5_isOne lk_RX10_48 im_X5_isOne se_X5_isOne in_RX5 de_X5_isOne ⟨rfl, rfl⟩ ⟨Nat.le_of_ble_eq_true rfl, Nat.le_of_ble_eq_true rfl⟩ (mKind_lt hy1 (by decide)) (mCell_k hy1) rfl rfl rfl rfl ⟨Nat.le_of_ble_eq_true rfl, Nat.le_of_ble_eq_true rfl⟩ (Nat.le_of_ble_eq_true rfl) dX10_readOne_67 (fun r4 S5 => ?_)
          refine mw_eq (st' := [.int r4]) rfl rfl ?_
          refine mw_if_ne (tgt := 83) dX10_readOne_70 (by decide) ?_ ?_
          · refine mw_aload_n 0 dX10_readOne_73 rfl rfl ?_
            refine mw_iload 6 dX10_readOne_74 rfl ?_
            refine mw_iload 5 dX10_readOne_76 rfl ?_
            refine mw_iadd dX10_readOne_78 ?_
            refine pf_RX10_18 mk_66 dX10_readOne_79 ?_
            refine mw_bndS (fun S6 => ?_)
            exact mw_return dX10_readOne_82
          · refine mw_aload_n 0 dX10_readOne_83 rfl rfl ?_
            refine mw_aload_n 1 dX10_readOne_84 rfl rfl ?_
            refine mw_iload_n 2 dX10_readOne_85 rfl rfl ?_
            refine mw_iload 6 dX10_readOne_86 rfl ?_
            refine mw_iload 4 dX10_readOne_88 rfl ?_
            refine mw_iadd dX10_readOne_90 ?_
            refine mw_iload_n 3 dX10_readOne_91 rfl rfl ?_
            refine mw_callS (t_X10_byteBehind X l y1 y2 (y6 + y4) y3 S5 hy1) cd_X10_byteBehind lk_RX10_52 sn_X10_byteBehind in_RX10 de_X10_byteBehind ⟨rfl, rfl⟩ ⟨Nat.le_of_ble_eq_true rfl, Nat.le_of_ble_eq_true rfl⟩ rfl rfl ⟨Nat.le_of_ble_eq_true rfl, Nat.le_of_ble_eq_true rfl⟩ (Nat.le_of_ble_eq_true rfl) dX10_readOne_92 (fun r7 S8 => ?_)
            refine mw_eq (st' := [.int r7, .ref (X.2.1 66)]) rfl rfl ?_
            refine mw_iload 6 dX10_readOne_95 rfl ?_
            refine mw_callV (t_X10_add X l r7 y6 S8) cd_X10_add lk_RX10_56 im_X10_add se_X10_add in_RX10 de_X10_add ⟨rfl, rfl⟩ ⟨Nat.le_of_ble_eq_true rfl, Nat.le_of_ble_eq_true rfl⟩ (mKind_lt mk_66 (by decide)) (mCell_k mk_66) rfl rfl rfl rfl ⟨Nat.le_of_ble_eq_true rfl, Nat.le_of_ble_eq_true rfl⟩ (Nat.le_of_ble_eq_true rfl) dX10_readOne_97 (fun r9 S10 => ?_)
            refine mw_eq (st' := []) rfl rfl ?_
            refine mw_iload 6 dX10_readOne_100 rfl ?_
            refine mw_iload 5 dX10_readOne_102 rfl ?_
            refine mw_iconst (v := (1 : Int32)) dX10_readOne_104 (by decide) ?_
            refine mw_iadd dX10_readOne_105 ?_
            refine mw_iadd dX10_readOne_106 ?_
            refine mw_bndI (fun x11 => ?_)
            refine mw_istore (lv' := [(6, .int x11), (0, .ref (X.2.1 66)), (1, .ref (X.2.1 y1)), (2, .int y2), (3, .int y3), (4, .int y4), (5, .int y5)]) dX10_readOne_107 (by decide) rfl ?_
            refine mw_goto (tgt := 21) dX10_readOne_109 (by decide) ?_
            exact mw_sub [1, 2, 3, 4, 5, 6, 0] rfl (ih y1 y2 y3 y4 y5 x11 S10 hy1)
def f_X10_readOne (p1 : Nat) (p2 : Int32) (p3 : Int32) (S : mM) : Option (Unit × mM) :=
  mBind (f_X10_clear S) fun r1 S2 =>
  bnd (p3 / (2 : Int32)) fun x3 =>
  bnd (x3 + ((9 : Int32) * p3)) fun x4 =>
  f_X10_readOne_21 mFuel p1 p2 p3 x3 x4 (0 : Int32) S2
set_option maxRecDepth 100000 in
set_option maxHeartbeats 4000000 in
theorem w_X10_readOne (X : mX) (l : Launch) (p1 : Nat) (p2 : Int32) (p3 : Int32) (S : mM) (hp1 : mKind p1 = 5) : MW X viV rm_X10_readOne cX10_readOne RX10 7 none l S [(0, .ref (X.2.1 66)), (1, .ref (X.2.1 p1)), (2, .int p2), (3, .int p3)] [] 0 (f_X10_readOne p1 p2 p3 S) := by
  unfold f_X10_readOne
  refine mw_aload_n 0 dX10_readOne_0 rfl rfl ?_
  refine mw_callV (t_X10_clear X l S) cd_X10_clear lk_RX10_36 im_X10_clear se_X10_clear in_RX10 de_X10_clear ⟨rfl, rfl⟩ ⟨Nat.le_of_ble_eq_true rfl, Nat.le_of_ble_eq_true rfl⟩ (mKind_lt mk_66 (by decide)) (mCell_k mk_66) rfl rfl rfl rfl ⟨Nat.le_of_ble_eq_true rfl, Nat.le_of_ble_eq_true rfl⟩ (Nat.le_of_ble_eq_true rfl) dX10_readOne_1 (fun r1 S2 => ?_)
  refine mw_eq (st' := []) rfl rfl ?_
  refine mw_iload_n 3 dX10_readOne_4 rfl rfl ?_
  refine mw_iconst (v := (2 : Int32)) dX10_readOne_5 (by decide) ?_
  refine mw_idiv dX10_readOne_6 (by decide) ?_
  refine mw_bndI (fun x3 => ?_)
  refine mw_istore (lv' := [(4, .int x3), (0, .ref (X.2.1 66)), (1, .ref (X.2.1 p1)), (2, .int p2), (3, .int p3)]) dX10_readOne_7 (by decide) rfl ?_
  refine mw_iload 0 dX10_readOne_9 rfl ?_
  refine mw_bipush (v := (9 : Int32)) dX10_readOne_11 (by decide) ?_
  refine mw_iload_n 4 dX10_readOne_13 rfl rfl ?_
  refine mw_imul dX10_readOne_14 ?_
  refine mw_iadd dX10_readOne_15 ?_
  refine mw_bndI (fun x4 => ?_)
  refine mw_istore (lv' := [(5, .int x4), (4, .int x3), (0, .ref (X.2.1 66)), (1, .ref (X.2.1 p1)), (2, .int p2), (3, .int p3)]) dX10_readOne_16 (by decide) rfl ?_
  refine mw_iconst (v := (0 : Int32)) dX10_readOne_18 (by decide) ?_
  refine mw_istore (lv' := [(6, .int (0 : Int32)), (5, .int x4), (4, .int x3), (0, .ref (X.2.1 66)), (1, .ref (X.2.1 p1)), (2, .int p2), (3, .int p3)]) dX10_readOne_19 (by decide) rfl ?_
  exact mw_sub [3, 4, 5, 6, 2, 1, 0] rfl (w_X10_readOne_21 X l mFuel p1 p2 p3 x3 x4 (0 : Int32) S2 hp1)
theorem t_X10_readOne (X : mX) (l : Launch) (p1 : Nat) (p2 : Int32) (p3 : Int32) (S : mM) (hp1 : mKind p1 = 5) : mMet X viV yX10_readOne cX10_readOne 7 none rm_X10_readOne [.ref (X.2.1 66), .ref (X.2.1 p1), .int p2, .int p3] l S (f_X10_readOne p1 p2 p3 S) :=
  mMet_of (by decide +kernel) rfl (Nat.le_of_ble_eq_true rfl) (w_X10_readOne X l p1 p2 p3 S hp1)
/-! TraceBench$Wire.has(I)Z -/
def f_X10_has (p1 : Int32) (S : mM) : Option (Int32 × mM) :=
  mBind (f_X11_isIn p1 (0 : Int32) ((S.1 66 2) - (1 : Int32)) S) fun r1 S2 =>
  if r1 = 0 ∨ r1 = 1 then some (r1, S2) else none
set_option maxRecDepth 100000 in
set_option maxHeartbeats 4000000 in
theorem w_X10_has (X : mX) (l : Launch) (p1 : Int32) (S : mM) : MW X viI rm_X10_has cX10_has RX10 2 (some .boolean) l S [(0, .ref (X.2.1 66)), (1, .int p1)] [] 0 (f_X10_has p1 S) := by
  unfold f_X10_has
  refine mw_iload_n 1 dX10_has_0 rfl rfl ?_
  refine mw_iconst (v := (0 : Int32)) dX10_has_1 (by decide) ?_
  refine mw_aload_n 0 dX10_has_2 rfl rfl ?_
  refine gf_RX10_22 mk_66 dX10_has_3 ?_
  refine mw_iconst (v := (1 : Int32)) dX10_has_6 (by decide) ?_
  refine mw_isub dX10_has_7 ?_
  refine mw_callSN (t_X11_isIn X l p1 (0 : Int32) ((S.1 66 2) - (1 : Int32)) S) cd_X11_isIn lk_RX10_25 sn_X11_isIn in_RX11 de_X11_isIn ⟨rfl, rfl⟩ ⟨Nat.le_of_ble_eq_true rfl, Nat.le_of_ble_eq_true rfl⟩ rfl rfl ⟨Nat.le_of_ble_eq_true rfl, Nat.le_of_ble_eq_true rfl⟩ (Nat.le_of_ble_eq_true rfl) dX10_has_8 (fun r1 S2 => ?_)
  refine mw_eq (st' := [.int r1]) rfl rfl ?_
  exact mw_zreturn dX10_has_11
theorem t_X10_has (X : mX) (l : Launch) (p1 : Int32) (S : mM) : mMet X viI yX10_has cX10_has 2 (some .boolean) rm_X10_has [.ref (X.2.1 66), .int p1] l S (f_X10_has p1 S) :=
  mMet_of (by decide +kernel) rfl (Nat.le_of_ble_eq_true rfl) (w_X10_has X l p1 S )
/-! TraceBench$Wire.lowByte(I)I -/
def f_X10_lowByte (p1 : Int32) (S : mM) : Option (Int32 × mM) :=
  mBind (f_X10_has p1 S) fun r1 S2 =>
  if r1 = 0 then
    some ((0 : Int32), S2)
  else
    if 0 ≤ p1 ∧ p1.toNatClampNeg < 20 then
    (some (((S2.1 67 p1.toNatClampNeg) &&& (255 : Int32)), S2))
    else none
set_option maxRecDepth 100000 in
set_option maxHeartbeats 4000000 in
theorem w_X10_lowByte (X : mX) (l : Launch) (p1 : Int32) (S : mM) : MW X viI rm_X10_lowByte cX10_lowByte RX10 2 (some .int) l S [(0, .ref (X.2.1 66)), (1, .int p1)] [] 0 (f_X10_lowByte p1 S) := by
  unfold f_X10_lowByte
  refine mw_aload_n 0 dX10_lowByte_0 rfl rfl ?_
  refine mw_iload_n 1 dX10_lowByte_1 rfl rfl ?_
  refine mw_callV (t_X10_has X l p1 S) cd_X10_has lk_RX10_83 im_X10_has se_X10_has in_RX10 de_X10_has ⟨rfl, rfl⟩ ⟨Nat.le_of_ble_eq_true rfl, Nat.le_of_ble_eq_true rfl⟩ (mKind_lt mk_66 (by decide)) (mCell_k mk_66) rfl rfl rfl rfl ⟨Nat.le_of_ble_eq_true rfl, Nat.le_of_ble_eq_true rfl⟩ (Nat.le_of_ble_eq_true rfl) dX10_lowByte_2 (fun r1 S2 => ?_)
  refine mw_eq (st' := [.int r1]) rfl rfl ?_
  refine mw_if_eq (tgt := 21) dX10_lowByte_5 (by decide) ?_ ?_
  · refine mw_iconst (v := (0 : Int32)) dX10_lowByte_21 (by decide) ?_
    exact mw_ireturn dX10_lowByte_22
  · refine mw_aload_n 0 dX10_lowByte_8 rfl rfl ?_
    refine gf_RX10_9 mk_66 dX10_lowByte_9 ?_
    refine mw_iload_n 1 dX10_lowByte_12 rfl rfl ?_
    refine mw_iaload mk_67 ml_67 dX10_lowByte_13 ?_
    refine mw_sipush (v := (255 : Int32)) dX10_lowByte_14 (by decide) ?_
    refine mw_iand dX10_lowByte_17 ?_
    refine mw_goto (tgt := 22) dX10_lowByte_18 (by decide) ?_
    exact mw_ireturn dX10_lowByte_22
theorem t_X10_lowByte (X : mX) (l : Launch) (p1 : Int32) (S : mM) : mMet X viI yX10_lowByte cX10_lowByte 2 (some .int) rm_X10_lowByte [.ref (X.2.1 66), .int p1] l S (f_X10_lowByte p1 S) :=
  mMet_of (by decide +kernel) rfl (Nat.le_of_ble_eq_true rfl) (w_X10_lowByte X l p1 S )
/-! TraceBench$Wire.beginsFrame(I)Z -/
def f_X10_beginsFrame_47 (n : Nat) (y1 : Int32) (y2 : Int32) (y3 : Int32) (y4 : Int32) (S : mM) : Option (Int32 × mM) := match n with
  | 0 => none
  | n + 1 =>
    if y2 ≤ y4 then
      mBind (f_X10_lowByte ((y1 + y2) + (2 : Int32)) S) fun r1 S2 =>
      if r1 = (y3 &&& (255 : Int32)) then
        some ((1 : Int32), S2)
      else
        some ((0 : Int32), S2)
    else
      mBind (f_X10_lowByte ((y1 + (2 : Int32)) + y4) S) fun r3 S4 =>
      bnd (y3 + r3) fun x5 =>
      bnd (y4 + (1 : Int32)) fun x6 =>
      f_X10_beginsFrame_47 n y1 y2 x5 x6 S4
set_option maxRecDepth 100000 in
set_option maxHeartbeats 4000000 in
theorem w_X10_beginsFrame_47 (X : mX) (l : Launch) (n : Nat) (y1 : Int32) (y2 : Int32) (y3 : Int32) (y4 : Int32) (S : mM) : MW X viI rm_X10_beginsFrame cX10_beginsFrame RX10 5 (some .boolean) l S [(0, .ref (X.2.1 66)), (1, .int y1), (2, .int y2), (3, .int y3), (4, .int y4)] [] 47 (f_X10_beginsFrame_47 n y1 y2 y3 y4 S) := by
  induction n generalizing y1 y2 y3 y4 S with
  | zero => exact mw_none
  | succ n ih =>
    unfold f_X10_beginsFrame_47
    refine mw_iload 4 dX10_beginsFrame_47 rfl ?_
    refine mw_iload_n 2 dX10_beginsFrame_49 rfl rfl ?_
    refine mw_icmp_ge (tgt := 72) dX10_beginsFrame_50 (by decide) ?_ ?_
    · refine mw_aload_n 0 dX10_beginsFrame_72 rfl rfl ?_
      refine mw_iload_n 1 dX10_beginsFrame_73 rfl rfl ?_
      refine mw_iload_n 2 dX10_beginsFrame_74 rfl rfl ?_
      refine mw_iadd dX10_beginsFrame_75 ?_
      refine mw_iconst (v := (2 : Int32)) dX10_beginsFrame_76 (by decide) ?_
      refine mw_iadd dX10_beginsFrame_77 ?_
      refine mw_callV (t_X10_lowByte X l ((y1 + y2) + (2 : Int32)) S) cd_X10_lowByte lk_RX10_86 im_X10_lowByte se_X10_lowByte in_RX10 de_X10_lowByte ⟨rfl, rfl⟩ ⟨Nat.le_of_ble_eq_true rfl, Nat.le_of_ble_eq_true rfl⟩ (mKind_lt mk_66 (by decide)) (mCell_k mk_66) rfl rfl rfl rfl ⟨Nat.le_of_ble_eq_true rfl, Nat.le_of_ble_eq_true rfl⟩ (Nat.le_of_ble_eq_true rfl) dX10_beginsFrame_78 (fun r1 S2 => ?_)
      refine mw_eq (st' := [.int r1]) rfl rfl ?_
      refine mw_iload_n 3 dX10_beginsFrame_81 rfl rfl ?_
      refine mw_sipush (v := (255 : Int32)) dX10_beginsFrame_82 (by decide) ?_
      refine mw_iand dX10_beginsFrame_85 ?_
      refine mw_icmp_ne (tgt := 93) dX10_beginsFrame_86 (by decide) ?_ ?_
      · refine mw_iconst (v := (1 : Int32)) dX10_beginsFrame_89 (by decide) ?_
        refine mw_goto (tgt := 94) dX10_beginsFrame_90 (by decide) ?_
        exact mw_zret (by decide) dX10_beginsFrame_94
      · refine mw_iconst (v := (0 : Int32)) dX10_beginsFrame_93 (by decide) ?_
        exact mw_zret (by decide) dX10_beginsFrame_94
    · refine mw_iload_n 3 dX10_beginsFrame_53 rfl rfl ?_
      refine mw_aload_n 0 dX10_beginsFrame_54 rfl rfl ?_
      refine mw_iload_n 1 dX10_beginsFrame_55 rfl rfl ?_
      refine mw_iconst (v := (2 : Int32)) dX10_beginsFrame_56 (by decide) ?_
      refine mw_iadd dX10_beginsFrame_57 ?_
      refine mw_iload 4 dX10_beginsFrame_58 rfl ?_
      refine mw_iadd dX10_beginsFrame_60 ?_
      refine mw_callV (t_X10_lowByte X l ((y1 + (2 : Int32)) + y4) S) cd_X10_lowByte lk_RX10_86 im_X10_lowByte se_X10_lowByte in_RX10 de_X10_lowByte ⟨rfl, rfl⟩ ⟨Nat.le_of_ble_eq_true rfl, Nat.le_of_ble_eq_true rfl⟩ (mKind_lt mk_66 (by decide)) (mCell_k mk_66) rfl rfl rfl rfl ⟨Nat.le_of_ble_eq_true rfl, Nat.le_of_ble_eq_true rfl⟩ (Nat.le_of_ble_eq_true rfl) dX10_beginsFrame_61 (fun r3 S4 => ?_)
      refine mw_eq (st' := [.int r3, .int y3]) rfl rfl ?_
      refine mw_iadd dX10_beginsFrame_64 ?_
      refine mw_bndI (fun x5 => ?_)
      refine mw_istore_n (lv' := [(3, .int x5), (0, .ref (X.2.1 66)), (1, .int y1), (2, .int y2), (4, .int y4)]) dX10_beginsFrame_65 rfl (by decide) rfl ?_
      refine mw_iincB (lvf := fun x6 => [(4, .int x6), (3, .int x5), (0, .ref (X.2.1 66)), (1, .int y1), (2, .int y2)]) (k := 4) dX10_beginsFrame_66 rfl (by decide) (by decide) (fun _ => rfl) (fun x6 => ?_)
      refine mw_goto (tgt := 47) dX10_beginsFrame_69 (by decide) ?_
      exact mw_sub [2, 3, 4, 1, 0] rfl (ih y1 y2 x5 x6 S4)
def f_X10_beginsFrame (p1 : Int32) (S : mM) : Option (Int32 × mM) :=
  mBind (f_X10_lowByte (p1 + (1 : Int32)) S) fun r1 S2 =>
  mBind (f_X10_lowByte p1 S2) fun r3 S4 =>
  if r3 = (85 : Int32) then
    mBind (f_X11_isIn r1 (1 : Int32) (8 : Int32) S4) fun r5 S6 =>
    if r5 = 0 then
      some ((0 : Int32), S6)
    else
      mBind (f_X10_has ((p1 + r1) + (2 : Int32)) S6) fun r7 S8 =>
      if r7 = 0 then
        some ((0 : Int32), S8)
      else
        f_X10_beginsFrame_47 mFuel p1 r1 r1 (0 : Int32) S8
  else
    some ((0 : Int32), S4)
set_option maxRecDepth 100000 in
set_option maxHeartbeats 4000000 in
theorem w_X10_beginsFrame (X : mX) (l : Launch) (p1 : Int32) (S : mM) : MW X viI rm_X10_beginsFrame cX10_beginsFrame RX10 5 (some .boolean) l S [(0, .ref (X.2.1 66)), (1, .int p1)] [] 0 (f_X10_beginsFrame p1 S) := by
  unfold f_X10_beginsFrame
  refine mw_aload_n 0 dX10_beginsFrame_0 rfl rfl ?_
  refine mw_iload_n 1 dX10_beginsFrame_1 rfl rfl ?_
  refine mw_iconst (v := (1 : Int32)) dX10_beginsFrame_2 (by decide) ?_
  refine mw_iadd dX10_beginsFrame_3 ?_
  refine mw_callV (t_X10_lowByte X l (p1 + (1 : Int32)) S) cd_X10_lowByte lk_RX10_86 im_X10_lowByte se_X10_lowByte in_RX10 de_X10_lowByte ⟨rfl, rfl⟩ ⟨Nat.le_of_ble_eq_true rfl, Nat.le_of_ble_eq_true rfl⟩ (mKind_lt mk_66 (by decide)) (mCell_k mk_66) rfl rfl rfl rfl ⟨Nat.le_of_ble_eq_true rfl, Nat.le_of_ble_eq_true rfl⟩ (Nat.le_of_ble_eq_true rfl) dX10_beginsFrame_4 (fun r1 S2 => ?_)
  refine mw_eq (st' := [.int r1]) rfl rfl ?_
  refine mw_istore_n (lv' := [(2, .int r1), (0, .ref (X.2.1 66)), (1, .int p1)]) dX10_beginsFrame_7 rfl (by decide) rfl ?_
  refine mw_aload_n 1 dX10_beginsFrame_8 rfl rfl ?_
  refine mw_iload_n 2 dX10_beginsFrame_9 rfl rfl ?_
  refine mw_callV (t_X10_lowByte X l p1 S2) cd_X10_lowByte lk_RX10_86 im_X10_lowByte se_X10_lowByte in_RX10 de_X10_lowByte ⟨rfl, rfl⟩ ⟨Nat.le_of_ble_eq_true rfl, Nat.le_of_ble_eq_true rfl⟩ (mKind_lt mk_66 (by decide)) (mCell_k mk_66) rfl rfl rfl rfl ⟨Nat.le_of_ble_eq_true rfl, Nat.le_of_ble_eq_true rfl⟩ (Nat.le_of_ble_eq_true rfl) dX10_beginsFrame_10 (fun r3 S4 => ?_)
  refine mw_eq (st' := [.int r3]) rfl rfl ?_
  refine mw_bipush (v := (85 : Int32)) dX10_beginsFrame_13 (by decide) ?_
  refine mw_icmp_ne (tgt := 40) dX10_beginsFrame_15 (by decide) ?_ ?_
  · refine mw_iload_n 0 dX10_beginsFrame_18 rfl rfl ?_
    refine mw_iconst (v := (1 : Int32)) dX10_beginsFrame_19 (by decide) ?_
    refine mw_bipush (v := (8 : Int32)) dX10_beginsFrame_20 (by decide) ?_
    refine mw_callSN (t_X11_isIn X l r1 (1 : Int32) (8 : Int32) S4) cd_X11_isIn lk_RX10_25 sn_X11_isIn in_RX11 de_X11_isIn ⟨rfl, rfl⟩ ⟨Nat.le_of_ble_eq_true rfl, Nat.le_of_ble_eq_true rfl⟩ rfl rfl ⟨Nat.le_of_ble_eq_true rfl, Nat.le_of_ble_eq_true rfl⟩ (Nat.le_of_ble_eq_true rfl) dX10_beginsFrame_22 (fun r5 S6 => ?_)
    refine mw_eq (st' := [.int r5]) rfl rfl ?_
    refine mw_if_eq (tgt := 40) dX10_beginsFrame_25 (by decide) ?_ ?_
    · refine mw_iconst (v := (0 : Int32)) dX10_beginsFrame_40 (by decide) ?_
      exact mw_zret (by decide) dX10_beginsFrame_41
    · refine mw_aload_n 1 dX10_beginsFrame_28 rfl rfl ?_
      refine mw_iload_n 2 dX10_beginsFrame_29 rfl rfl ?_
      refine mw_iload_n 0 dX10_beginsFrame_30 rfl rfl ?_
      refine mw_iadd dX10_beginsFrame_31 ?_
      refine mw_iconst (v := (2 : Int32)) dX10_beginsFrame_32 (by decide) ?_
      refine mw_iadd dX10_beginsFrame_33 ?_
      refine mw_callV (t_X10_has X l ((p1 + r1) + (2 : Int32)) S6) cd_X10_has lk_RX10_83 im_X10_has se_X10_has in_RX10 de_X10_has ⟨rfl, rfl⟩ ⟨Nat.le_of_ble_eq_true rfl, Nat.le_of_ble_eq_true rfl⟩ (mKind_lt mk_66 (by decide)) (mCell_k mk_66) rfl rfl rfl rfl ⟨Nat.le_of_ble_eq_true rfl, Nat.le_of_ble_eq_true rfl⟩ (Nat.le_of_ble_eq_true rfl) dX10_beginsFrame_34 (fun r7 S8 => ?_)
      refine mw_eq (st' := [.int r7]) rfl rfl ?_
      refine mw_if_ne (tgt := 42) dX10_beginsFrame_37 (by decide) ?_ ?_
      · refine mw_iconst (v := (0 : Int32)) dX10_beginsFrame_40 (by decide) ?_
        exact mw_zret (by decide) dX10_beginsFrame_41
      · refine mw_iload_n 0 dX10_beginsFrame_42 rfl rfl ?_
        refine mw_istore_n (lv' := [(3, .int r1), (2, .int r1), (0, .ref (X.2.1 66)), (1, .int p1)]) dX10_beginsFrame_43 rfl (by decide) rfl ?_
        refine mw_iconst (v := (0 : Int32)) dX10_beginsFrame_44 (by decide) ?_
        refine mw_istore (lv' := [(4, .int (0 : Int32)), (3, .int r1), (2, .int r1), (0, .ref (X.2.1 66)), (1, .int p1)]) dX10_beginsFrame_45 (by decide) rfl ?_
        exact mw_sub [3, 4, 2, 1, 0] rfl (w_X10_beginsFrame_47 X l mFuel p1 r1 r1 (0 : Int32) S8)
  · refine mw_iconst (v := (0 : Int32)) dX10_beginsFrame_40 (by decide) ?_
    exact mw_zret (by decide) dX10_beginsFrame_41
theorem t_X10_beginsFrame (X : mX) (l : Launch) (p1 : Int32) (S : mM) : mMet X viI yX10_beginsFrame cX10_beginsFrame 5 (some .boolean) rm_X10_beginsFrame [.ref (X.2.1 66), .int p1] l S (f_X10_beginsFrame p1 S) :=
  mMet_of (by decide +kernel) rfl (Nat.le_of_ble_eq_true rfl) (w_X10_beginsFrame X l p1 S )
/-! TraceBench$Wire.findFrame(I)I -/
def f_X10_findFrame_6 (n : Nat) (y2 : Int32) (S : mM) : Option (Int32 × mM) := match n with
  | 0 => none
  | n + 1 =>
    if (S.1 66 2) ≤ y2 then
      some ((-4 : Int32), S)
    else
      mBind (f_X10_beginsFrame y2 S) fun r1 S2 =>
      if r1 = 0 then
        bnd (y2 + (1 : Int32)) fun x3 =>
        f_X10_findFrame_6 n x3 S2
      else
        some (y2, S2)
set_option maxRecDepth 100000 in
set_option maxHeartbeats 4000000 in
theorem w_X10_findFrame_6 (X : mX) (l : Launch) (n : Nat) (y2 : Int32) (S : mM) : MW X viI rm_X10_findFrame cX10_findFrame RX10 3 (some .int) l S [(0, .ref (X.2.1 66)), (2, .int y2)] [] 6 (f_X10_findFrame_6 n y2 S) := by
  induction n generalizing y2 S with
  | zero => exact mw_none
  | succ n ih =>
    unfold f_X10_findFrame_6
    refine mw_iload_n 1 dX10_findFrame_6 rfl rfl ?_
    refine mw_aload_n 0 dX10_findFrame_7 rfl rfl ?_
    refine gf_RX10_22 mk_66 dX10_findFrame_8 ?_
    refine mw_icmp_ge (tgt := 30) dX10_findFrame_11 (by decide) ?_ ?_
    · refine mw_bipush (v := (-4 : Int32)) dX10_findFrame_30 (by decide) ?_
      exact mw_ireturn dX10_findFrame_32
    · refine mw_aload_n 0 dX10_findFrame_14 rfl rfl ?_
      refine mw_iload_n 1 dX10_findFrame_15 rfl rfl ?_
      refine mw_callV (t_X10_beginsFrame X l y2 S) cd_X10_beginsFrame lk_RX10_79 im_X10_beginsFrame se_X10_beginsFrame in_RX10 de_X10_beginsFrame ⟨rfl, rfl⟩ ⟨Nat.le_of_ble_eq_true rfl, Nat.le_of_ble_eq_true rfl⟩ (mKind_lt mk_66 (by decide)) (mCell_k mk_66) rfl rfl rfl rfl ⟨Nat.le_of_ble_eq_true rfl, Nat.le_of_ble_eq_true rfl⟩ (Nat.le_of_ble_eq_true rfl) dX10_findFrame_16 (fun r1 S2 => ?_)
      refine mw_eq (st' := [.int r1]) rfl rfl ?_
      refine mw_if_eq (tgt := 24) dX10_findFrame_19 (by decide) ?_ ?_
      · refine mw_iincB (lvf := fun x3 => [(2, .int x3), (0, .ref (X.2.1 66))]) (k := 1) dX10_findFrame_24 rfl (by decide) (by decide) (fun _ => rfl) (fun x3 => ?_)
        refine mw_goto (tgt := 6) dX10_findFrame_27 (by decide) ?_
        exact mw_sub [1, 0] rfl (ih x3 S2)
      · refine mw_iload_n 1 dX10_findFrame_22 rfl rfl ?_
        exact mw_ireturn dX10_findFrame_23
def f_X10_findFrame (p1 : Int32) (S : mM) : Option (Int32 × mM) :=
  mBind (f_J9_max_7cf53 p1 (0 : Int32) S) fun r1 S2 =>
  f_X10_findFrame_6 mFuel r1 S2
set_option maxRecDepth 100000 in
set_option maxHeartbeats 4000000 in
theorem w_X10_findFrame (X : mX) (l : Launch) (p1 : Int32) (S : mM) : MW X viI rm_X10_findFrame cX10_findFrame RX10 3 (some .int) l S [(0, .ref (X.2.1 66)), (1, .int p1)] [] 0 (f_X10_findFrame p1 S) := by
  unfold f_X10_findFrame
  refine mw_iload_n 1 dX10_findFrame_0 rfl rfl ?_
  refine mw_iconst (v := (0 : Int32)) dX10_findFrame_1 (by decide) ?_
  refine mw_callS (t_J9_max_7cf53 X l p1 (0 : Int32) S) cd_J9_max_7cf53 lk_RX10_73 sn_J9_max_7cf53 in_RJ9 de_J9_max_7cf53 ⟨rfl, rfl⟩ ⟨Nat.le_of_ble_eq_true rfl, Nat.le_of_ble_eq_true rfl⟩ rfl rfl ⟨Nat.le_of_ble_eq_true rfl, Nat.le_of_ble_eq_true rfl⟩ (Nat.le_of_ble_eq_true rfl) dX10_findFrame_2 (fun r1 S2 => ?_)
  refine mw_eq (st' := [.int r1]) rfl rfl ?_
  refine mw_istore_n (lv' := [(2, .int r1), (0, .ref (X.2.1 66)), (1, .int p1)]) dX10_findFrame_5 rfl (by decide) rfl ?_
  exact mw_sub [1, 0] rfl (w_X10_findFrame_6 X l mFuel r1 S2)
theorem t_X10_findFrame (X : mX) (l : Launch) (p1 : Int32) (S : mM) : mMet X viI yX10_findFrame cX10_findFrame 3 (some .int) rm_X10_findFrame [.ref (X.2.1 66), .int p1] l S (f_X10_findFrame p1 S) :=
  mMet_of (by decide +kernel) rfl (Nat.le_of_ble_eq_true rfl) (w_X10_findFrame X l p1 S )
/-! TraceBench$Wire.startOrStop(ZI)V -/
def f_X10_startOrStop_24 (y1 : Int32) (S : mM) : Option (Unit × mM) :=
  if y1 = 0 then
    bnd (setI S 66 4 (1 : Int32)) fun S1 =>
    bnd (setI S1 66 5 (0 : Int32)) fun S2 =>
    some ((), S2)
  else
    bnd (setI S 66 4 (0 : Int32)) fun S3 =>
    bnd (setI S3 66 5 (0 : Int32)) fun S4 =>
    some ((), S4)
set_option maxRecDepth 100000 in
set_option maxHeartbeats 4000000 in
theorem w_X10_startOrStop_24 (X : mX) (l : Launch) (y1 : Int32) (S : mM) : MW X viV rm_X10_startOrStop cX10_startOrStop RX10 3 none l S [(0, .ref (X.2.1 66)), (1, .int y1)] [] 24 (f_X10_startOrStop_24 y1 S) := by
  unfold f_X10_startOrStop_24
  refine mw_aload_n 0 dX10_startOrStop_24 rfl rfl ?_
  refine mw_iload_n 1 dX10_startOrStop_25 rfl rfl ?_
  refine mw_if_ne (tgt := 33) dX10_startOrStop_26 (by decide) ?_ ?_
  · refine mw_iconst (v := (1 : Int32)) dX10_startOrStop_29 (by decide) ?_
    refine mw_goto (tgt := 34) dX10_startOrStop_30 (by decide) ?_
    refine pf_RX10_29 mk_66 (by decide) dX10_startOrStop_34 ?_
    refine mw_bndS (fun S1 => ?_)
    refine mw_aload_n 0 dX10_startOrStop_37 rfl rfl ?_
    refine mw_iconst (v := (0 : Int32)) dX10_startOrStop_38 (by decide) ?_
    refine pf_RX10_33 mk_66 dX10_startOrStop_39 ?_
    refine mw_bndS (fun S2 => ?_)
    exact mw_return dX10_startOrStop_42
  · refine mw_iconst (v := (0 : Int32)) dX10_startOrStop_33 (by decide) ?_
    refine pf_RX10_29 mk_66 (by decide) dX10_startOrStop_34 ?_
    refine mw_bndS (fun S3 => ?_)
    refine mw_aload_n 0 dX10_startOrStop_37 rfl rfl ?_
    refine mw_iconst (v := (0 : Int32)) dX10_startOrStop_38 (by decide) ?_
    refine pf_RX10_33 mk_66 dX10_startOrStop_39 ?_
    refine mw_bndS (fun S4 => ?_)
    exact mw_return dX10_startOrStop_42
def f_X10_startOrStop_19 (y1 : Int32) (y2 : Int32) (S : mM) : Option (Unit × mM) :=
  bnd (setI S 66 3 y2) fun S1 =>
  f_X10_startOrStop_24 y1 S1
set_option maxRecDepth 100000 in
set_option maxHeartbeats 4000000 in
theorem w_X10_startOrStop_19 (X : mX) (l : Launch) (y1 : Int32) (y2 : Int32) (S : mM) : MW X viV rm_X10_startOrStop cX10_startOrStop RX10 3 none l S [(0, .ref (X.2.1 66)), (1, .int y1), (2, .int y2)] [] 19 (f_X10_startOrStop_19 y1 y2 S) := by
  unfold f_X10_startOrStop_19
  refine mw_aload_n 0 dX10_startOrStop_19 rfl rfl ?_
  refine mw_iload_n 2 dX10_startOrStop_20 rfl rfl ?_
  refine pf_RX10_18 mk_66 dX10_startOrStop_21 ?_
  refine mw_bndS (fun S1 => ?_)
  exact mw_sub [0, 1] rfl (w_X10_startOrStop_24 X l y1 S1)
def f_X10_startOrStop (p1 : Int32) (p2 : Int32) (S : mM) : Option (Unit × mM) :=
  if p1 = 0 then
    f_X10_startOrStop_24 p1 S
  else
    if (S.1 66 4) = 0 then
      f_X10_startOrStop_19 p1 p2 S
    else
      if (S.1 66 5) < (2 : Int32) then
        f_X10_startOrStop_24 p1 S
      else
        f_X10_startOrStop_19 p1 p2 S
set_option maxRecDepth 100000 in
set_option maxHeartbeats 4000000 in
theorem w_X10_startOrStop (X : mX) (l : Launch) (p1 : Int32) (p2 : Int32) (S : mM) : MW X viV rm_X10_startOrStop cX10_startOrStop RX10 3 none l S [(0, .ref (X.2.1 66)), (1, .int p1), (2, .int p2)] [] 0 (f_X10_startOrStop p1 p2 S) := by
  unfold f_X10_startOrStop
  refine mw_iload_n 1 dX10_startOrStop_0 rfl rfl ?_
  refine mw_if_eq (tgt := 24) dX10_startOrStop_1 (by decide) ?_ ?_
  · exact mw_sub [0, 1] rfl (w_X10_startOrStop_24 X l p1 S)
  · refine mw_aload_n 0 dX10_startOrStop_4 rfl rfl ?_
    refine gf_RX10_29 mk_66 dX10_startOrStop_5 ?_
    refine mw_if_eq (tgt := 19) dX10_startOrStop_8 (by decide) ?_ ?_
    · exact mw_sub [0, 1, 2] rfl (w_X10_startOrStop_19 X l p1 p2 S)
    · refine mw_aload_n 0 dX10_startOrStop_11 rfl rfl ?_
      refine gf_RX10_33 mk_66 dX10_startOrStop_12 ?_
      refine mw_iconst (v := (2 : Int32)) dX10_startOrStop_15 (by decide) ?_
      refine mw_icmp_lt (tgt := 24) dX10_startOrStop_16 (by decide) ?_ ?_
      · exact mw_sub [0, 1] rfl (w_X10_startOrStop_24 X l p1 S)
      · exact mw_sub [0, 1, 2] rfl (w_X10_startOrStop_19 X l p1 p2 S)
theorem t_X10_startOrStop (X : mX) (l : Launch) (p1 : Int32) (p2 : Int32) (S : mM) : mMet X viV yX10_startOrStop cX10_startOrStop 3 none rm_X10_startOrStop [.ref (X.2.1 66), .int p1, .int p2] l S (f_X10_startOrStop p1 p2 S) :=
  mMet_of (by decide +kernel) rfl (Nat.le_of_ble_eq_true rfl) (w_X10_startOrStop X l p1 p2 S )
/-! TraceBench$Wire.takeBit(II)V -/
def f_X10_takeBit_25 (y1 : Int32) (S : mM) : Option (Unit × mM) :=
  bnd (setI S 66 5 ((S.1 66 5) + (1 : Int32))) fun S1 =>
  if (8 : Int32) < (S1.1 66 5) then
    mBind (f_X10_add ((S1.1 66 6) + ((256 : Int32) * y1)) (S1.1 66 7) S1) fun r2 S3 =>
    bnd (setI S3 66 5 (0 : Int32)) fun S4 =>
    some ((), S4)
  else
    bnd (setI S1 66 6 (((2 : Int32) * (S1.1 66 6)) + y1)) fun S5 =>
    some ((), S5)
set_option maxRecDepth 100000 in
set_option maxHeartbeats 4000000 in
theorem w_X10_takeBit_25 (X : mX) (l : Launch) (y1 : Int32) (S : mM) : MW X viV rm_X10_takeBit cX10_takeBit RX10 3 none l S [(0, .ref (X.2.1 66)), (1, .int y1)] [] 25 (f_X10_takeBit_25 y1 S) := by
  unfold f_X10_takeBit_25
  refine mw_aload_n 0 dX10_takeBit_25 rfl rfl ?_
  refine mw_dup dX10_takeBit_26 rfl ?_
  refine gf_RX10_33 mk_66 dX10_takeBit_27 ?_
  refine mw_iconst (v := (1 : Int32)) dX10_takeBit_30 (by decide) ?_
  refine mw_iadd dX10_takeBit_31 ?_
  refine pf_RX10_33 mk_66 dX10_takeBit_32 ?_
  refine mw_bndS (fun S1 => ?_)
  refine mw_aload_n 0 dX10_takeBit_35 rfl rfl ?_
  refine gf_RX10_33 mk_66 dX10_takeBit_36 ?_
  refine mw_bipush (v := (8 : Int32)) dX10_takeBit_39 (by decide) ?_
  refine mw_icmp_gt (tgt := 59) dX10_takeBit_41 (by decide) ?_ ?_
  · refine mw_aload_n 0 dX10_takeBit_59 rfl rfl ?_
    refine mw_aload_n 0 dX10_takeBit_60 rfl rfl ?_
    refine gf_RX10_70 mk_66 dX10_takeBit_61 ?_
    refine mw_sipush (v := (256 : Int32)) dX10_takeBit_64 (by decide) ?_
    refine mw_iload_n 1 dX10_takeBit_67 rfl rfl ?_
    refine mw_imul dX10_takeBit_68 ?_
    refine mw_iadd dX10_takeBit_69 ?_
    refine mw_aload_n 0 dX10_takeBit_70 rfl rfl ?_
    refine gf_RX10_67 mk_66 dX10_takeBit_71 ?_
    refine mw_callV (t_X10_add X l ((S1.1 66 6) + ((256 : Int32) * y1)) (S1.1 66 7) S1) cd_X10_add lk_RX10_56 im_X10_add se_X10_add in_RX10 de_X10_add ⟨rfl, rfl⟩ ⟨Nat.le_of_ble_eq_true rfl, Nat.le_of_ble_eq_true rfl⟩ (mKind_lt mk_66 (by decide)) (mCell_k mk_66) rfl rfl rfl rfl ⟨Nat.le_of_ble_eq_true rfl, Nat.le_of_ble_eq_true rfl⟩ (Nat.le_of_ble_eq_true rfl) dX10_takeBit_74 (fun r2 S3 => ?_)
    refine mw_eq (st' := []) rfl rfl ?_
    refine mw_aload_n 0 dX10_takeBit_77 rfl rfl ?_
    refine mw_iconst (v := (0 : Int32)) dX10_takeBit_78 (by decide) ?_
    refine pf_RX10_33 mk_66 dX10_takeBit_79 ?_
    refine mw_bndS (fun S4 => ?_)
    exact mw_return dX10_takeBit_82
  · refine mw_aload_n 0 dX10_takeBit_44 rfl rfl ?_
    refine mw_iconst (v := (2 : Int32)) dX10_takeBit_45 (by decide) ?_
    refine mw_aload_n 0 dX10_takeBit_46 rfl rfl ?_
    refine gf_RX10_70 mk_66 dX10_takeBit_47 ?_
    refine mw_imul dX10_takeBit_50 ?_
    refine mw_iload_n 1 dX10_takeBit_51 rfl rfl ?_
    refine mw_iadd dX10_takeBit_52 ?_
    refine pf_RX10_70 mk_66 dX10_takeBit_53 ?_
    refine mw_bndS (fun S5 => ?_)
    refine mw_goto (tgt := 82) dX10_takeBit_56 (by decide) ?_
    exact mw_return dX10_takeBit_82
def f_X10_takeBit (p1 : Int32) (p2 : Int32) (S : mM) : Option (Unit × mM) :=
  if (S.1 66 4) = 0 then
    some ((), S)
  else
    if (S.1 66 5) = 0 then
      bnd (setI S 66 7 p2) fun S1 =>
      bnd (setI S1 66 6 (0 : Int32)) fun S2 =>
      f_X10_takeBit_25 p1 S2
    else
      f_X10_takeBit_25 p1 S
set_option maxRecDepth 100000 in
set_option maxHeartbeats 4000000 in
theorem w_X10_takeBit (X : mX) (l : Launch) (p1 : Int32) (p2 : Int32) (S : mM) : MW X viV rm_X10_takeBit cX10_takeBit RX10 3 none l S [(0, .ref (X.2.1 66)), (1, .int p1), (2, .int p2)] [] 0 (f_X10_takeBit p1 p2 S) := by
  unfold f_X10_takeBit
  refine mw_aload_n 0 dX10_takeBit_0 rfl rfl ?_
  refine gf_RX10_29 mk_66 dX10_takeBit_1 ?_
  refine mw_if_ne (tgt := 8) dX10_takeBit_4 (by decide) ?_ ?_
  · exact mw_return dX10_takeBit_7
  · refine mw_aload_n 0 dX10_takeBit_8 rfl rfl ?_
    refine gf_RX10_33 mk_66 dX10_takeBit_9 ?_
    refine mw_if_ne (tgt := 25) dX10_takeBit_12 (by decide) ?_ ?_
    · refine mw_aload_n 0 dX10_takeBit_15 rfl rfl ?_
      refine mw_iload_n 2 dX10_takeBit_16 rfl rfl ?_
      refine pf_RX10_67 mk_66 dX10_takeBit_17 ?_
      refine mw_bndS (fun S1 => ?_)
      refine mw_aload_n 0 dX10_takeBit_20 rfl rfl ?_
      refine mw_iconst (v := (0 : Int32)) dX10_takeBit_21 (by decide) ?_
      refine pf_RX10_70 mk_66 dX10_takeBit_22 ?_
      refine mw_bndS (fun S2 => ?_)
      exact mw_sub [0, 1] rfl (w_X10_takeBit_25 X l p1 S2)
    · exact mw_sub [0, 1] rfl (w_X10_takeBit_25 X l p1 S)
theorem t_X10_takeBit (X : mX) (l : Launch) (p1 : Int32) (p2 : Int32) (S : mM) : mMet X viV yX10_takeBit cX10_takeBit 3 none rm_X10_takeBit [.ref (X.2.1 66), .int p1, .int p2] l S (f_X10_takeBit p1 p2 S) :=
  mMet_of (by decide +kernel) rfl (Nat.le_of_ble_eq_true rfl) (w_X10_takeBit X l p1 p2 S )
/-! TraceBench$Wire.readTwo(LTraceBench$Segment;II)V -/
def f_X10_readTwo_7 (n : Nat) (y1 : Nat) (y2 : Int32) (y3 : Int32) (y4 : Int32) (S : mM) : Option (Unit × mM) := match n with
  | 0 => none
  | n + 1 =>
    if (S.1 y1 2) ≤ y4 then
      some ((), S)
    else
      if (20 : Int32) ≤ (S.1 66 2) then
        some ((), S)
      else
        if (S.1 66 3) = (-4 : Int32) then
          mBind (f_X5_isOne y1 y3 y4 S) fun r1 S2 =>
          mBind (f_X5_isOne y1 y2 y4 S2) fun r3 S4 =>
          if r3 = 0 then
            bnd (y4 + (1 : Int32)) fun x5 =>
            f_X10_readTwo_7 n y1 y2 y3 x5 S4
          else
            mBind (f_X5_isOne y1 y2 (y4 - (1 : Int32)) S4) fun r6 S7 =>
            if r6 = 0 then
              if r1 = 0 then
                mBind (f_X10_takeBit (0 : Int32) y4 S7) fun r8 S9 =>
                bnd (y4 + (1 : Int32)) fun x10 =>
                f_X10_readTwo_7 n y1 y2 y3 x10 S9
              else
                mBind (f_X10_takeBit (1 : Int32) y4 S7) fun r11 S12 =>
                bnd (y4 + (1 : Int32)) fun x13 =>
                f_X10_readTwo_7 n y1 y2 y3 x13 S12
            else
              mBind (f_X5_isOne y1 y3 (y4 - (1 : Int32)) S7) fun r14 S15 =>
              if r1 = r14 then
                bnd (y4 + (1 : Int32)) fun x16 =>
                f_X10_readTwo_7 n y1 y2 y3 x16 S15
              else
                mBind (f_X10_startOrStop r1 y4 S15) fun r17 S18 =>
                bnd (y4 + (1 : Int32)) fun x19 =>
                f_X10_readTwo_7 n y1 y2 y3 x19 S18
        else
          some ((), S)
set_option maxRecDepth 100000 in
set_option maxHeartbeats 4000000 in
theorem w_X10_readTwo_7 (X : mX) (l : Launch) (n : Nat) (y1 : Nat) (y2 : Int32) (y3 : Int32) (y4 : Int32) (S : mM) (hy1 : mKind y1 = 5) : MW X viV rm_X10_readTwo cX10_readTwo RX10 6 none l S [(0, .ref (X.2.1 66)), (1, .ref (X.2.1 y1)), (2, .int y2), (3, .int y3), (4, .int y4)] [] 7 (f_X10_readTwo_7 n y1 y2 y3 y4 S) := by
  induction n generalizing y1 y2 y3 y4 S with
  | zero => exact mw_none
  | succ n ih =>
    unfold f_X10_readTwo_7
    refine mw_iload 4 dX10_readTwo_7 rfl ?_
    refine mw_aload_n 1 dX10_readTwo_9 rfl rfl ?_
    refine gf_RX10_39 hy1 dX10_readTwo_10 ?_
    refine mw_icmp_ge (tgt := 115) dX10_readTwo_13 (by decide) ?_ ?_
    · exact mw_return dX10_readTwo_115
    · refine mw_aload_n 0 dX10_readTwo_16 rfl rfl ?_
      refine gf_RX10_22 mk_66 dX10_readTwo_17 ?_
      refine mw_bipush (v := (20 : Int32)) dX10_readTwo_20 (by decide) ?_
      refine mw_icmp_ge (tgt := 115) dX10_readTwo_22 (by decide) ?_ ?_
      · exact mw_return dX10_readTwo_115
      · refine mw_aload_n 0 dX10_readTwo_25 rfl rfl ?_
        refine gf_RX10_18 mk_66 dX10_readTwo_26 ?_
        refine mw_bipush (v := (-4 : Int32)) dX10_readTwo_29 (by decide) ?_
        refine mw_icmp_ne (tgt := 115) dX10_readTwo_31 (by decide) ?_ ?_
        · refine mw_aload_n 1 dX10_readTwo_34 rfl rfl ?_
          refine mw_iload_n 3 dX10_readTwo_35 rfl rfl ?_
          refine mw_iload 4 dX10_readTwo_36 rfl ?_
          refine mw_callV (t_X5_isOne X l y1 y3 y4 S hy1) cd_X5_isOne lk_RX10_48 im_X5_isOne se_X5_isOne in_RX5 de_X5_isOne ⟨rfl, rfl⟩ ⟨Nat.le_of_ble_eq_true rfl, Nat.le_of_ble_eq_true rfl⟩ (mKind_lt hy1 (by decide)) (mCell_k hy1) rfl rfl rfl rfl ⟨Nat.le_of_ble_eq_true rfl, Nat.le_of_ble_eq_true rfl⟩ (Nat.le_of_ble_eq_true rfl) dX10_readTwo_38 (fun r1 S2 => ?_)
          refine mw_eq (st' := [.int r1]) rfl rfl ?_
          refine mw_istore (lv' := [(5, .int r1), (0, .ref (X.2.1 66)), (1, .ref (X.2.1 y1)), (2, .int y2), (3, .int y3), (4, .int y4)]) dX10_readTwo_41 (by decide) rfl ?_
          refine mw_aload_n 2 dX10_readTwo_43 rfl rfl ?_
          refine mw_iload_n 3 dX10_readTwo_44 rfl rfl ?_
          refine mw_iload 5 dX10_readTwo_45 rfl ?_
          refine mw_callV (t_X5_isOne X l y1 y2 y4 S2 hy1) cd_X5_isOne lk_RX10_48 im_X5_isOne se_X5_isOne in_RX5 de_X5_isOne ⟨rfl, rfl⟩ ⟨Nat.le_of_ble_eq_true rfl, Nat.le_of_ble_eq_true rfl⟩ (mKind_lt hy1 (by decide)) (mCell_k hy1) rfl rfl rfl rfl ⟨Nat.le_of_ble_eq_true rfl, Nat.le_of_ble_eq_true rfl⟩ (Nat.le_of_ble_eq_true rfl) dX10_readTwo_47 (fun r3 S4 => ?_)
          refine mw_eq (st' := [.int r3]) rfl rfl ?_
          refine mw_if_ne (tgt := 56) dX10_readTwo_50 (by decide) ?_ ?_
          · refine mw_goto (tgt := 109) dX10_readTwo_53 (by decide) ?_
            refine mw_iincB (lvf := fun x5 => [(4, .int x5), (5, .int r1), (0, .ref (X.2.1 66)), (1, .ref (X.2.1 y1)), (2, .int y2), (3, .int y3)]) (k := 5) dX10_readTwo_109 rfl (by decide) (by decide) (fun _ => rfl) (fun x5 => ?_)
            refine mw_goto (tgt := 7) dX10_readTwo_112 (by decide) ?_
            exact mw_sub [2, 3, 4, 5, 0] rfl (ih y1 y2 y3 x5 S4 hy1)
          · refine mw_aload_n 2 dX10_readTwo_56 rfl rfl ?_
            refine mw_iload_n 3 dX10_readTwo_57 rfl rfl ?_
            refine mw_iload 5 dX10_readTwo_58 rfl ?_
            refine mw_iconst (v := (1 : Int32)) dX10_readTwo_60 (by decide) ?_
            refine mw_isub dX10_readTwo_61 ?_
            refine mw_callV (t_X5_isOne X l y1 y2 (y4 - (1 : Int32)) S4 hy1) cd_X5_isOne lk_RX10_48 im_X5_isOne se_X5_isOne in_RX5 de_X5_isOne ⟨rfl, rfl⟩ ⟨Nat.le_of_ble_eq_true rfl, Nat.le_of_ble_eq_true rfl⟩ (mKind_lt hy1 (by decide)) (mCell_k hy1) rfl rfl rfl rfl ⟨Nat.le_of_ble_eq_true rfl, Nat.le_of_ble_eq_true rfl⟩ (Nat.le_of_ble_eq_true rfl) dX10_readTwo_62 (fun r6 S7 => ?_)
            refine mw_eq (st' := [.int r6]) rfl rfl ?_
            refine mw_if_ne (tgt := 87) dX10_readTwo_65 (by decide) ?_ ?_
            · refine mw_aload_n 1 dX10_readTwo_68 rfl rfl ?_
              refine mw_iload 0 dX10_readTwo_69 rfl ?_
              refine mw_if_eq (tgt := 78) dX10_readTwo_71 (by decide) ?_ ?_
              · refine mw_iconst (v := (0 : Int32)) dX10_readTwo_78 (by decide) ?_
                refine mw_iload 5 dX10_readTwo_79 rfl ?_
                refine mw_callV (t_X10_takeBit X l (0 : Int32) y4 S7) cd_X10_takeBit lk_RX10_60 im_X10_takeBit se_X10_takeBit in_RX10 de_X10_takeBit ⟨rfl, rfl⟩ ⟨Nat.le_of_ble_eq_true rfl, Nat.le_of_ble_eq_true rfl⟩ (mKind_lt mk_66 (by decide)) (mCell_k mk_66) rfl rfl rfl rfl ⟨Nat.le_of_ble_eq_true rfl, Nat.le_of_ble_eq_true rfl⟩ (Nat.le_of_ble_eq_true rfl) dX10_readTwo_81 (fun r8 S9 => ?_)
                refine mw_eq (st' := []) rfl rfl ?_
                refine mw_goto (tgt := 109) dX10_readTwo_84 (by decide) ?_
                refine mw_iincB (lvf := fun x10 => [(4, .int x10), (5, .int r1), (0, .ref (X.2.1 66)), (1, .ref (X.2.1 y1)), (2, .int y2), (3, .int y3)]) (k := 5) dX10_readTwo_109 rfl (by decide) (by decide) (fun _ => rfl) (fun x10 => ?_)
                refine mw_goto (tgt := 7) dX10_readTwo_112 (by decide) ?_
                exact mw_sub [2, 3, 4, 5, 0] rfl (ih y1 y2 y3 x10 S9 hy1)
              · refine mw_iconst (v := (1 : Int32)) dX10_readTwo_74 (by decide) ?_
                refine mw_goto (tgt := 79) dX10_readTwo_75 (by decide) ?_
                refine mw_iload 5 dX10_readTwo_79 rfl ?_
                refine mw_callV (t_X10_takeBit X l (1 : Int32) y4 S7) cd_X10_takeBit lk_RX10_60 im_X10_takeBit se_X10_takeBit in_RX10 de_X10_takeBit ⟨rfl, rfl⟩ ⟨Nat.le_of_ble_eq_true rfl, Nat.le_of_ble_eq_true rfl⟩ (mKind_lt mk_66 (by decide)) (mCell_k mk_66) rfl rfl rfl rfl ⟨Nat.le_of_ble_eq_true rfl, Nat.le_of_ble_eq_true rfl⟩ (Nat.le_of_ble_eq_true rfl) dX10_readTwo_81 (fun r11 S12 => ?_)
                refine mw_eq (st' := []) rfl rfl ?_
                refine mw_goto (tgt := 109) dX10_readTwo_84 (by decide) ?_
                refine mw_iincB (lvf := fun x13 => [(4, .int x13), (5, .int r1), (0, .ref (X.2.1 66)), (1, .ref (X.2.1 y1)), (2, .int y2), (3, .int y3)]) (k := 5) dX10_readTwo_109 rfl (by decide) (by decide) (fun _ => rfl) (fun x13 => ?_)
                refine mw_goto (tgt := 7) dX10_readTwo_112 (by decide) ?_
                exact mw_sub [2, 3, 4, 5, 0] rfl (ih y1 y2 y3 x13 S12 hy1)
            · refine mw_iload 0 dX10_readTwo_87 rfl ?_
              refine mw_aload_n 2 dX10_readTwo_89 rfl rfl ?_
              refine mw_iload_n 4 dX10_readTwo_90 rfl rfl ?_
              refine mw_iload 5 dX10_readTwo_91 rfl ?_
              refine mw_iconst (v := (1 : Int32)) dX10_readTwo_93 (by decide) ?_
              refine mw_isub dX10_readTwo_94 ?_
              refine mw_callV (t_X5_isOne X l y1 y3 (y4 - (1 : Int32)) S7 hy1) cd_X5_isOne lk_RX10_48 im_X5_isOne se_X5_isOne in_RX5 de_X5_isOne ⟨rfl, rfl⟩ ⟨Nat.le_of_ble_eq_true rfl, Nat.le_of_ble_eq_true rfl⟩ (mKind_lt hy1 (by decide)) (mCell_k hy1) rfl rfl rfl rfl ⟨Nat.le_of_ble_eq_true rfl, Nat.le_of_ble_eq_true rfl⟩ (Nat.le_of_ble_eq_true rfl) dX10_readTwo_95 (fun r14 S15 => ?_)
              refine mw_eq (st' := [.int r14, .int r1]) rfl rfl ?_
              refine mw_icmp_eq (tgt := 109) dX10_readTwo_98 (by decide) ?_ ?_
              · refine mw_iincB (lvf := fun x16 => [(4, .int x16), (5, .int r1), (0, .ref (X.2.1 66)), (1, .ref (X.2.1 y1)), (2, .int y2), (3, .int y3)]) (k := 5) dX10_readTwo_109 rfl (by decide) (by decide) (fun _ => rfl) (fun x16 => ?_)
                refine mw_goto (tgt := 7) dX10_readTwo_112 (by decide) ?_
                exact mw_sub [2, 3, 4, 5, 0] rfl (ih y1 y2 y3 x16 S15 hy1)
              · refine mw_aload_n 1 dX10_readTwo_101 rfl rfl ?_
                refine mw_iload 0 dX10_readTwo_102 rfl ?_
                refine mw_iload 5 dX10_readTwo_104 rfl ?_
                refine mw_callV (t_X10_startOrStop X l r1 y4 S15) cd_X10_startOrStop lk_RX10_63 im_X10_startOrStop se_X10_startOrStop in_RX10 de_X10_startOrStop ⟨rfl, rfl⟩ ⟨Nat.le_of_ble_eq_true rfl, Nat.le_of_ble_eq_true rfl⟩ (mKind_lt mk_66 (by decide)) (mCell_k mk_66) rfl rfl rfl rfl ⟨Nat.le_of_ble_eq_true rfl, Nat.le_of_ble_eq_true rfl⟩ (Nat.le_of_ble_eq_true rfl) dX10_readTwo_106 (fun r17 S18 => ?_)
                refine mw_eq (st' := []) rfl rfl ?_
                refine mw_iincB (lvf := fun x19 => [(4, .int x19), (5, .int r1), (0, .ref (X.2.1 66)), (1, .ref (X.2.1 y1)), (2, .int y2), (3, .int y3)]) (k := 5) dX10_readTwo_109 rfl (by decide) (by decide) (fun _ => rfl) (fun x19 => ?_)
                refine mw_goto (tgt := 7) dX10_readTwo_112 (by decide) ?_
                exact mw_sub [2, 3, 4, 5, 0] rfl (ih y1 y2 y3 x19 S18 hy1)
        · exact mw_return dX10_readTwo_115
def f_X10_readTwo (p1 : Nat) (p2 : Int32) (p3 : Int32) (S : mM) : Option (Unit × mM) :=
  mBind (f_X10_clear S) fun r1 S2 =>
  f_X10_readTwo_7 mFuel p1 p2 p3 (1 : Int32) S2
set_option maxRecDepth 100000 in
set_option maxHeartbeats 4000000 in
theorem w_X10_readTwo (X : mX) (l : Launch) (p1 : Nat) (p2 : Int32) (p3 : Int32) (S : mM) (hp1 : mKind p1 = 5) : MW X viV rm_X10_readTwo cX10_readTwo RX10 6 none l S [(0, .ref (X.2.1 66)), (1, .ref (X.2.1 p1)), (2, .int p2), (3, .int p3)] [] 0 (f_X10_readTwo p1 p2 p3 S) := by
  unfold f_X10_readTwo
  refine mw_aload_n 0 dX10_readTwo_0 rfl rfl ?_
  refine mw_callV (t_X10_clear X l S) cd_X10_clear lk_RX10_36 im_X10_clear se_X10_clear in_RX10 de_X10_clear ⟨rfl, rfl⟩ ⟨Nat.le_of_ble_eq_true rfl, Nat.le_of_ble_eq_true rfl⟩ (mKind_lt mk_66 (by decide)) (mCell_k mk_66) rfl rfl rfl rfl ⟨Nat.le_of_ble_eq_true rfl, Nat.le_of_ble_eq_true rfl⟩ (Nat.le_of_ble_eq_true rfl) dX10_readTwo_1 (fun r1 S2 => ?_)
  refine mw_eq (st' := []) rfl rfl ?_
  refine mw_iconst (v := (1 : Int32)) dX10_readTwo_4 (by decide) ?_
  refine mw_istore (lv' := [(4, .int (1 : Int32)), (0, .ref (X.2.1 66)), (1, .ref (X.2.1 p1)), (2, .int p2), (3, .int p3)]) dX10_readTwo_5 (by decide) rfl ?_
  exact mw_sub [1, 2, 3, 4, 0] rfl (w_X10_readTwo_7 X l mFuel p1 p2 p3 (1 : Int32) S2 hp1)
theorem t_X10_readTwo (X : mX) (l : Launch) (p1 : Nat) (p2 : Int32) (p3 : Int32) (S : mM) (hp1 : mKind p1 = 5) : mMet X viV yX10_readTwo cX10_readTwo 6 none rm_X10_readTwo [.ref (X.2.1 66), .ref (X.2.1 p1), .int p2, .int p3] l S (f_X10_readTwo p1 p2 p3 S) :=
  mMet_of (by decide +kernel) rfl (Nat.le_of_ble_eq_true rfl) (w_X10_readTwo X l p1 p2 p3 S hp1)
