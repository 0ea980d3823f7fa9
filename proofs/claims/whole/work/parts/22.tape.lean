/-! TraceBench$Tape.cutTo(I)Z -/
def f_X9_cutTo (p1 : Int32) (S : mM) : Option (Int32 × mM) :=
  mBind (f_X11_isIn p1 (0 : Int32) (S.1 1 1) S) fun r1 S2 =>
  if r1 = 0 then
    some ((0 : Int32), S2)
  else
    bnd (setI S2 1 1 p1) fun S3 =>
    some ((1 : Int32), S3)
set_option maxRecDepth 100000 in
set_option maxHeartbeats 4000000 in
theorem w_X9_cutTo (X : mX) (l : Launch) (p1 : Int32) (S : mM) : MW X viI rm_X9_cutTo cX9_cutTo RX9 2 (some .boolean) l S [(0, .ref (X.2.1 1)), (1, .int p1)] [] 0 (f_X9_cutTo p1 S) := by
  unfold f_X9_cutTo
  refine mw_iload_n 1 dX9_cutTo_0 rfl rfl ?_
  refine mw_iconst (v := (0 : Int32)) dX9_cutTo_1 (by decide) ?_
  refine mw_aload_n 0 dX9_cutTo_2 rfl rfl ?_
  refine gf_RX9_25 mk_1 dX9_cutTo_3 ?_
  refine mw_callSN (t_X11_isIn X l p1 (0 : Int32) (S.1 1 1) S) cd_X11_isIn lk_RX9_29 sn_X11_isIn in_RX11 de_X11_isIn ⟨rfl, rfl⟩ ⟨Nat.le_of_ble_eq_true rfl, Nat.le_of_ble_eq_true rfl⟩ rfl rfl ⟨Nat.le_of_ble_eq_true rfl, Nat.le_of_ble_eq_true rfl⟩ (Nat.le_of_ble_eq_true rfl) dX9_cutTo_6 (fun r1 S2 => ?_)
  refine mw_eq (st' := [.int r1]) rfl rfl ?_
  refine mw_if_ne (tgt := 14) dX9_cutTo_9 (by decide) ?_ ?_
  · refine mw_iconst (v := (0 : Int32)) dX9_cutTo_12 (by decide) ?_
    exact mw_zret (by decide) dX9_cutTo_13
  · refine mw_aload_n 0 dX9_cutTo_14 rfl rfl ?_
    refine mw_iload_n 1 dX9_cutTo_15 rfl rfl ?_
    refine pf_RX9_25 mk_1 dX9_cutTo_16 ?_
    refine mw_bndS (fun S3 => ?_)
    refine mw_iconst (v := (1 : Int32)) dX9_cutTo_19 (by decide) ?_
    exact mw_zret (by decide) dX9_cutTo_20
theorem t_X9_cutTo (X : mX) (l : Launch) (p1 : Int32) (S : mM) : mMet X viI yX9_cutTo cX9_cutTo 2 (some .boolean) rm_X9_cutTo [.ref (X.2.1 1), .int p1] l S (f_X9_cutTo p1 S) :=
  mMet_of (by decide +kernel) rfl (Nat.le_of_ble_eq_true rfl) (w_X9_cutTo X l p1 S )
/-! TraceBench$Tape.append(J)Z -/
def f_X9_append_15 (n : Nat) (y1 : Int64) (y3 : Int32) (S : mM) : Option (Int32 × mM) := match n with
  | 0 => none
  | n + 1 =>
    if y3 < 0 then
      some ((1 : Int32), S)
    else
      if 0 ≤ (S.1 1 1) ∧ (S.1 1 1).toNatClampNeg < 200 then
      (bnd (setI S 2 (S.1 1 1).toNatClampNeg (vp_nar .byte (((y1 >>> (y3.toInt64 &&& 63)).toInt32).toInt8.toInt32))) fun S1 =>
      bnd (setI S1 1 1 ((S1.1 1 1) + (1 : Int32))) fun S2 =>
      bnd (y3 + (-8 : Int32)) fun x3 =>
      f_X9_append_15 n y1 x3 S2)
      else none
set_option maxRecDepth 100000 in
set_option maxHeartbeats 4000000 in
theorem w_X9_append_15 (X : mX) (l : Launch) (n : Nat) (y1 : Int64) (y3 : Int32) (S : mM) : MW X viI rm_X9_append cX9_append RX9 4 (some .boolean) l S [(0, .ref (X.2.1 1)), (1, .long y1), (3, .int y3)] [] 15 (f_X9_append_15 n y1 y3 S) := by
  induction n generalizing y1 y3 S with
  | zero => exact mw_none
  | succ n ih =>
    unfold f_X9_append_15
    refine mw_iload_n 2 dX9_append_15 rfl rfl ?_
    refine mw_if_lt (tgt := 49) dX9_append_16 (by decide) ?_ ?_
    · refine mw_iconst (v := (1 : Int32)) dX9_append_49 (by decide) ?_
      exact mw_zret (by decide) dX9_append_50
    · refine mw_aload_n 0 dX9_append_19 rfl rfl ?_
      refine gf_RX9_9 mk_1 dX9_append_20 ?_
      refine mw_aload_n 0 dX9_append_23 rfl rfl ?_
      refine gf_RX9_25 mk_1 dX9_append_24 ?_
      refine mw_lload_n 1 dX9_append_27 rfl rfl ?_
      refine mw_iload_n 2 dX9_append_28 rfl rfl ?_
      refine mw_lshr dX9_append_29 ?_
      refine mw_l2i dX9_append_30 ?_
      refine mw_i2b dX9_append_31 ?_
      refine mw_bastore mk_2 ml_2 dX9_append_32 ?_
      refine mw_bndS (fun S1 => ?_)
      refine mw_aload_n 0 dX9_append_33 rfl rfl ?_
      refine mw_dup dX9_append_34 rfl ?_
      refine gf_RX9_25 mk_1 dX9_append_35 ?_
      refine mw_iconst (v := (1 : Int32)) dX9_append_38 (by decide) ?_
      refine mw_iadd dX9_append_39 ?_
      refine pf_RX9_25 mk_1 dX9_append_40 ?_
      refine mw_bndS (fun S2 => ?_)
      refine mw_iincB (lvf := fun x3 => [(3, .int x3), (0, .ref (X.2.1 1)), (1, .long y1)]) (k := 2) dX9_append_43 rfl (by decide) (by decide) (fun _ => rfl) (fun x3 => ?_)
      refine mw_goto (tgt := 15) dX9_append_46 (by decide) ?_
      exact mw_sub [1, 2, 0] rfl (ih y1 x3 S2)
def f_X9_append (p1 : Int64) (S : mM) : Option (Int32 × mM) :=
  if (S.1 1 1) ≤ (192 : Int32) then
    f_X9_append_15 mFuel p1 (56 : Int32) S
  else
    some ((0 : Int32), S)
set_option maxRecDepth 100000 in
set_option maxHeartbeats 4000000 in
theorem w_X9_append (X : mX) (l : Launch) (p1 : Int64) (S : mM) : MW X viI rm_X9_append cX9_append RX9 4 (some .boolean) l S [(0, .ref (X.2.1 1)), (1, .long p1)] [] 0 (f_X9_append p1 S) := by
  unfold f_X9_append
  refine mw_aload_n 0 dX9_append_0 rfl rfl ?_
  refine gf_RX9_25 mk_1 dX9_append_1 ?_
  refine mw_sipush (v := (192 : Int32)) dX9_append_4 (by decide) ?_
  refine mw_icmp_le (tgt := 12) dX9_append_7 (by decide) ?_ ?_
  · refine mw_bipush (v := (56 : Int32)) dX9_append_12 (by decide) ?_
    refine mw_istore_n (lv' := [(3, .int (56 : Int32)), (0, .ref (X.2.1 1)), (1, .long p1)]) dX9_append_14 rfl (by decide) rfl ?_
    exact mw_sub [1, 2, 0] rfl (w_X9_append_15 X l mFuel p1 (56 : Int32) S)
  · refine mw_iconst (v := (0 : Int32)) dX9_append_10 (by decide) ?_
    exact mw_zret (by decide) dX9_append_11
theorem t_X9_append (X : mX) (l : Launch) (p1 : Int64) (S : mM) : mMet X viI yX9_append cX9_append 4 (some .boolean) rm_X9_append [.ref (X.2.1 1), .long p1] l S (f_X9_append p1 S) :=
  mMet_of (by decide +kernel) rfl (Nat.le_of_ble_eq_true rfl) (w_X9_append X l p1 S )
/-! TraceBench$Tape.put(III)V -/
def f_X9_put (p1 : Int32) (p2 : Int32) (p3 : Int32) (S : mM) : Option (Unit × mM) :=
  if (201 : Int32) ≤ (S.1 1 5) then
    some ((), S)
  else
    if 0 ≤ (S.1 1 5) ∧ (S.1 1 5).toNatClampNeg < 201 then
    (bnd (setI S 3 (S.1 1 5).toNatClampNeg p1) fun S1 =>
    if 0 ≤ (S1.1 1 5) ∧ (S1.1 1 5).toNatClampNeg < 201 then
    (bnd (setI S1 4 (S1.1 1 5).toNatClampNeg p2) fun S2 =>
    if 0 ≤ (S2.1 1 5) ∧ (S2.1 1 5).toNatClampNeg < 201 then
    (bnd (setI S2 5 (S2.1 1 5).toNatClampNeg p3) fun S3 =>
    bnd (setI S3 1 5 ((S3.1 1 5) + (1 : Int32))) fun S4 =>
    some ((), S4))
    else none)
    else none)
    else none
set_option maxRecDepth 100000 in
set_option maxHeartbeats 4000000 in
theorem w_X9_put (X : mX) (l : Launch) (p1 : Int32) (p2 : Int32) (p3 : Int32) (S : mM) : MW X viV rm_X9_put cX9_put RX9 4 none l S [(0, .ref (X.2.1 1)), (1, .int p1), (2, .int p2), (3, .int p3)] [] 0 (f_X9_put p1 p2 p3 S) := by
  unfold f_X9_put
  refine mw_aload_n 0 dX9_put_0 rfl rfl ?_
  refine gf_RX9_33 mk_1 dX9_put_1 ?_
  refine mw_aload_n 0 dX9_put_4 rfl rfl ?_
  refine gf_RX9_15 mk_1 dX9_put_5 ?_
  refine mw_alen (n := 0) (t := 1) (v := 201) mk_3 (by decide) rfl rfl (by rw [show (mLen 3) = 201 from ml_3]; rfl) dX9_put_8 ?_
  refine mw_icmp_ge (tgt := 52) dX9_put_9 (by decide) ?_ ?_
  · exact mw_return dX9_put_52
  · refine mw_aload_n 0 dX9_put_12 rfl rfl ?_
    refine gf_RX9_15 mk_1 dX9_put_13 ?_
    refine mw_aload_n 0 dX9_put_16 rfl rfl ?_
    refine gf_RX9_33 mk_1 dX9_put_17 ?_
    refine mw_iload_n 1 dX9_put_20 rfl rfl ?_
    refine mw_iastore mk_3 ml_3 dX9_put_21 ?_
    refine mw_bndS (fun S1 => ?_)
    refine mw_aload_n 0 dX9_put_22 rfl rfl ?_
    refine gf_RX9_19 mk_1 dX9_put_23 ?_
    refine mw_aload_n 0 dX9_put_26 rfl rfl ?_
    refine gf_RX9_33 mk_1 dX9_put_27 ?_
    refine mw_iload_n 2 dX9_put_30 rfl rfl ?_
    refine mw_iastore mk_4 ml_4 dX9_put_31 ?_
    refine mw_bndS (fun S2 => ?_)
    refine mw_aload_n 0 dX9_put_32 rfl rfl ?_
    refine gf_RX9_22 mk_1 dX9_put_33 ?_
    refine mw_aload_n 0 dX9_put_36 rfl rfl ?_
    refine gf_RX9_33 mk_1 dX9_put_37 ?_
    refine mw_iload_n 3 dX9_put_40 rfl rfl ?_
    refine mw_iastore mk_5 ml_5 dX9_put_41 ?_
    refine mw_bndS (fun S3 => ?_)
    refine mw_aload_n 0 dX9_put_42 rfl rfl ?_
    refine mw_dup dX9_put_43 rfl ?_
    refine gf_RX9_33 mk_1 dX9_put_44 ?_
    refine mw_iconst (v := (1 : Int32)) dX9_put_47 (by decide) ?_
    refine mw_iadd dX9_put_48 ?_
    refine pf_RX9_33 mk_1 dX9_put_49 ?_
    refine mw_bndS (fun S4 => ?_)
    exact mw_return dX9_put_52
theorem t_X9_put (X : mX) (l : Launch) (p1 : Int32) (p2 : Int32) (p3 : Int32) (S : mM) : mMet X viV yX9_put cX9_put 4 none rm_X9_put [.ref (X.2.1 1), .int p1, .int p2, .int p3] l S (f_X9_put p1 p2 p3 S) :=
  mMet_of (by decide +kernel) rfl (Nat.le_of_ble_eq_true rfl) (w_X9_put X l p1 p2 p3 S )
/-! TraceBench$Tape.addNumber(I)I -/
def f_X9_addNumber_107 (y1 : Int32) (y2 : Int32) (y4 : Int32) (y5 : Int32) (z0 : Int32) (S : mM) : Option (Int32 × mM) :=
  if y2 = 0 then
    mBind (f_X9_put z0 y1 y5 S) fun r1 S2 =>
    some (y4, S2)
  else
    mBind (f_X9_put z0 y1 (-y5) S) fun r3 S4 =>
    some (y4, S4)
set_option maxRecDepth 100000 in
set_option maxHeartbeats 4000000 in
theorem w_X9_addNumber_107 (X : mX) (l : Launch) (y1 : Int32) (y2 : Int32) (y4 : Int32) (y5 : Int32) (z0 : Int32) (S : mM) : MW X viI rm_X9_addNumber cX9_addNumber RX9 7 (some .int) l S [(1, .int y1), (2, .int y2), (4, .int y4), (5, .int y5)] [.int z0, .ref (X.2.1 1)] 107 (f_X9_addNumber_107 y1 y2 y4 y5 z0 S) := by
  unfold f_X9_addNumber_107
  refine mw_iload_n 0 dX9_addNumber_107 rfl rfl ?_
  refine mw_iload_n 1 dX9_addNumber_108 rfl rfl ?_
  refine mw_if_eq (tgt := 118) dX9_addNumber_109 (by decide) ?_ ?_
  · refine mw_iload 3 dX9_addNumber_118 rfl ?_
    refine mw_callV (t_X9_put X l z0 y1 y5 S) cd_X9_put lk_RX9_46 im_X9_put se_X9_put in_RX9 de_X9_put ⟨rfl, rfl⟩ ⟨Nat.le_of_ble_eq_true rfl, Nat.le_of_ble_eq_true rfl⟩ (mKind_lt mk_1 (by decide)) (mCell_k mk_1) rfl rfl rfl rfl ⟨Nat.le_of_ble_eq_true rfl, Nat.le_of_ble_eq_true rfl⟩ (Nat.le_of_ble_eq_true rfl) dX9_addNumber_120 (fun r1 S2 => ?_)
    refine mw_eq (st' := []) rfl rfl ?_
    refine mw_iload 2 dX9_addNumber_123 rfl ?_
    exact mw_ireturn dX9_addNumber_125
  · refine mw_iload 3 dX9_addNumber_112 rfl ?_
    refine mw_ineg dX9_addNumber_114 ?_
    refine mw_goto (tgt := 120) dX9_addNumber_115 (by decide) ?_
    refine mw_callV (t_X9_put X l z0 y1 (-y5) S) cd_X9_put lk_RX9_46 im_X9_put se_X9_put in_RX9 de_X9_put ⟨rfl, rfl⟩ ⟨Nat.le_of_ble_eq_true rfl, Nat.le_of_ble_eq_true rfl⟩ (mKind_lt mk_1 (by decide)) (mCell_k mk_1) rfl rfl rfl rfl ⟨Nat.le_of_ble_eq_true rfl, Nat.le_of_ble_eq_true rfl⟩ (Nat.le_of_ble_eq_true rfl) dX9_addNumber_120 (fun r3 S4 => ?_)
    refine mw_eq (st' := []) rfl rfl ?_
    refine mw_iload 2 dX9_addNumber_123 rfl ?_
    exact mw_ireturn dX9_addNumber_125
def f_X9_addNumber_85 (y1 : Int32) (y2 : Int32) (y3 : Int32) (y4 : Int32) (y5 : Int32) (S : mM) : Option (Int32 × mM) :=
  mBind (f_X11_isIn (y4 - y3) (1 : Int32) (3 : Int32) S) fun r1 S2 =>
  if r1 = 0 then
    f_X9_addNumber_107 y1 y2 y4 y5 (5 : Int32) S2
  else
    f_X9_addNumber_107 y1 y2 y4 y5 (2 : Int32) S2
set_option maxRecDepth 100000 in
set_option maxHeartbeats 4000000 in
theorem w_X9_addNumber_85 (X : mX) (l : Launch) (y1 : Int32) (y2 : Int32) (y3 : Int32) (y4 : Int32) (y5 : Int32) (S : mM) : MW X viI rm_X9_addNumber cX9_addNumber RX9 7 (some .int) l S [(0, .ref (X.2.1 1)), (1, .int y1), (2, .int y2), (3, .int y3), (4, .int y4), (5, .int y5)] [] 85 (f_X9_addNumber_85 y1 y2 y3 y4 y5 S) := by
  unfold f_X9_addNumber_85
  refine mw_iload 4 dX9_addNumber_85 rfl ?_
  refine mw_iload_n 3 dX9_addNumber_87 rfl rfl ?_
  refine mw_isub dX9_addNumber_88 ?_
  refine mw_iconst (v := (1 : Int32)) dX9_addNumber_89 (by decide) ?_
  refine mw_iconst (v := (3 : Int32)) dX9_addNumber_90 (by decide) ?_
  refine mw_callSN (t_X11_isIn X l (y4 - y3) (1 : Int32) (3 : Int32) S) cd_X11_isIn lk_RX9_29 sn_X11_isIn in_RX11 de_X11_isIn ⟨rfl, rfl⟩ ⟨Nat.le_of_ble_eq_true rfl, Nat.le_of_ble_eq_true rfl⟩ rfl rfl ⟨Nat.le_of_ble_eq_true rfl, Nat.le_of_ble_eq_true rfl⟩ (Nat.le_of_ble_eq_true rfl) dX9_addNumber_91 (fun r1 S2 => ?_)
  refine mw_eq (st' := [.int r1]) rfl rfl ?_
  refine mw_istore (lv' := [(6, .int r1), (0, .ref (X.2.1 1)), (1, .int y1), (2, .int y2), (3, .int y3), (4, .int y4), (5, .int y5)]) dX9_addNumber_94 (by decide) rfl ?_
  refine mw_aload_n 1 dX9_addNumber_96 rfl rfl ?_
  refine mw_iload 0 dX9_addNumber_97 rfl ?_
  refine mw_if_eq (tgt := 106) dX9_addNumber_99 (by decide) ?_ ?_
  · refine mw_iconst (v := (5 : Int32)) dX9_addNumber_106 (by decide) ?_
    exact mw_sub [2, 3, 5, 6] rfl (w_X9_addNumber_107 X l y1 y2 y4 y5 (5 : Int32) S2)
  · refine mw_iconst (v := (2 : Int32)) dX9_addNumber_102 (by decide) ?_
    refine mw_goto (tgt := 107) dX9_addNumber_103 (by decide) ?_
    exact mw_sub [2, 3, 5, 6] rfl (w_X9_addNumber_107 X l y1 y2 y4 y5 (2 : Int32) S2)
def f_X9_addNumber_35 (n : Nat) (y1 : Int32) (y2 : Int32) (y3 : Int32) (y4 : Int32) (y5 : Int32) (S : mM) : Option (Int32 × mM) := match n with
  | 0 => none
  | n + 1 =>
    if (S.1 1 1) ≤ y4 then
      f_X9_addNumber_85 y1 y2 y3 y4 y5 S
    else
      if 0 ≤ y4 ∧ y4.toNatClampNeg < 200 then
      (mBind (f_X11_isIn (S.1 2 y4.toNatClampNeg) (48 : Int32) (57 : Int32) S) fun r1 S2 =>
      if r1 = 0 then
        f_X9_addNumber_85 y1 y2 y3 y4 y5 S2
      else
        if 0 ≤ y4 ∧ y4.toNatClampNeg < 200 then
        (bnd ((((10 : Int32) * y5) + (S2.1 2 y4.toNatClampNeg)) - (48 : Int32)) fun x3 =>
        bnd (y4 + (1 : Int32)) fun x4 =>
        f_X9_addNumber_35 n y1 y2 y3 x4 x3 S2)
        else none)
      else none
set_option maxRecDepth 100000 in
set_option maxHeartbeats 4000000 in
theorem w_X9_addNumber_35 (X : mX) (l : Launch) (n : Nat) (y1 : Int32) (y2 : Int32) (y3 : Int32) (y4 : Int32) (y5 : Int32) (S : mM) : MW X viI rm_X9_addNumber cX9_addNumber RX9 7 (some .int) l S [(0, .ref (X.2.1 1)), (1, .int y1), (2, .int y2), (3, .int y3), (4, .int y4), (5, .int y5)] [] 35 (f_X9_addNumber_35 n y1 y2 y3 y4 y5 S) := by
  induction n generalizing y1 y2 y3 y4 y5 S with
  | zero => exact mw_none
  | succ n ih =>
    unfold f_X9_addNumber_35
    refine mw_iload 4 dX9_addNumber_35 rfl ?_
    refine mw_aload_n 0 dX9_addNumber_37 rfl rfl ?_
    refine gf_RX9_25 mk_1 dX9_addNumber_38 ?_
    refine mw_icmp_ge (tgt := 85) dX9_addNumber_41 (by decide) ?_ ?_
    · exact mw_sub [0, 1, 2, 3, 4, 5] rfl (w_X9_addNumber_85 X l y1 y2 y3 y4 y5 S)
    · refine mw_aload_n 0 dX9_addNumber_44 rfl rfl ?_
      refine gf_RX9_9 mk_1 dX9_addNumber_45 ?_
      refine mw_iload 4 dX9_addNumber_48 rfl ?_
      refine mw_baload mk_2 ml_2 dX9_addNumber_50 ?_
      refine mw_bipush (v := (48 : Int32)) dX9_addNumber_51 (by decide) ?_
      refine mw_bipush (v := (57 : Int32)) dX9_addNumber_53 (by decide) ?_
      refine mw_callSN (t_X11_isIn X l (S.1 2 y4.toNatClampNeg) (48 : Int32) (57 : Int32) S) cd_X11_isIn lk_RX9_29 sn_X11_isIn in_RX11 de_X11_isIn ⟨rfl, rfl⟩ ⟨Nat.le_of_ble_eq_true rfl, Nat.le_of_ble_eq_true rfl⟩ rfl rfl ⟨Nat.le_of_ble_eq_true rfl, Nat.le_of_ble_eq_true rfl⟩ (Nat.le_of_ble_eq_true rfl) dX9_addNumber_55 (fun r1 S2 => ?_)
      refine mw_eq (st' := [.int r1]) rfl rfl ?_
      refine mw_if_eq (tgt := 85) dX9_addNumber_58 (by decide) ?_ ?_
      · exact mw_sub [0, 1, 2, 3, 4, 5] rfl (w_X9_addNumber_85 X l y1 y2 y3 y4 y5 S2)
      · refine mw_bipush (v := (10 : Int32)) dX9_addNumber_61 (by decide) ?_
        refine mw_iload 5 dX9_addNumber_63 rfl ?_
        refine mw_imul dX9_addNumber_65 ?_
        refine mw_aload_n 0 dX9_addNumber_66 rfl rfl ?_
        refine gf_RX9_9 mk_1 dX9_addNumber_67 ?_
        refine mw_iload 4 dX9_addNumber_70 rfl ?_
        refine mw_baload mk_2 ml_2 dX9_addNumber_72 ?_
        refine mw_iadd dX9_addNumber_73 ?_
        refine mw_bipush (v := (48 : Int32)) dX9_addNumber_74 (by decide) ?_
        refine mw_isub dX9_addNumber_76 ?_
        refine mw_bndI (fun x3 => ?_)
        refine mw_istore (lv' := [(5, .int x3), (0, .ref (X.2.1 1)), (1, .int y1), (2, .int y2), (3, .int y3), (4, .int y4)]) dX9_addNumber_77 (by decide) rfl ?_
        refine mw_iincB (lvf := fun x4 => [(4, .int x4), (5, .int x3), (0, .ref (X.2.1 1)), (1, .int y1), (2, .int y2), (3, .int y3)]) (k := 5) dX9_addNumber_79 rfl (by decide) (by decide) (fun _ => rfl) (fun x4 => ?_)
        refine mw_goto (tgt := 35) dX9_addNumber_82 (by decide) ?_
        exact mw_sub [2, 3, 4, 5, 0, 1] rfl (ih y1 y2 y3 x4 x3 S2)
def f_X9_addNumber_16 (y1 : Int32) (z0 : Int32) (S : mM) : Option (Int32 × mM) :=
  if z0 = 0 then
    f_X9_addNumber_35 mFuel y1 z0 y1 y1 (0 : Int32) S
  else
    bnd (y1 + (1 : Int32)) fun x1 =>
    f_X9_addNumber_35 mFuel y1 z0 x1 x1 (0 : Int32) S
set_option maxRecDepth 100000 in
set_option maxHeartbeats 4000000 in
theorem w_X9_addNumber_16 (X : mX) (l : Launch) (y1 : Int32) (z0 : Int32) (S : mM) : MW X viI rm_X9_addNumber cX9_addNumber RX9 7 (some .int) l S [(0, .ref (X.2.1 1)), (1, .int y1)] [.int z0] 16 (f_X9_addNumber_16 y1 z0 S) := by
  unfold f_X9_addNumber_16
  refine mw_istore_n (lv' := [(2, .int z0), (0, .ref (X.2.1 1)), (1, .int y1)]) dX9_addNumber_16 rfl (by decide) rfl ?_
  refine mw_iload_n 0 dX9_addNumber_17 rfl rfl ?_
  refine mw_if_eq (tgt := 27) dX9_addNumber_18 (by decide) ?_ ?_
  · refine mw_iload_n 2 dX9_addNumber_27 rfl rfl ?_
    refine mw_istore_n (lv' := [(3, .int y1), (2, .int z0), (0, .ref (X.2.1 1)), (1, .int y1)]) dX9_addNumber_28 rfl (by decide) rfl ?_
    refine mw_iload_n 0 dX9_addNumber_29 rfl rfl ?_
    refine mw_istore (lv' := [(4, .int y1), (3, .int y1), (2, .int z0), (0, .ref (X.2.1 1)), (1, .int y1)]) dX9_addNumber_30 (by decide) rfl ?_
    refine mw_iconst (v := (0 : Int32)) dX9_addNumber_32 (by decide) ?_
    refine mw_istore (lv' := [(5, .int (0 : Int32)), (4, .int y1), (3, .int y1), (2, .int z0), (0, .ref (X.2.1 1)), (1, .int y1)]) dX9_addNumber_33 (by decide) rfl ?_
    exact mw_sub [4, 5, 3, 2, 1, 0] rfl (w_X9_addNumber_35 X l mFuel y1 z0 y1 y1 (0 : Int32) S)
  · refine mw_iload_n 2 dX9_addNumber_21 rfl rfl ?_
    refine mw_iconst (v := (1 : Int32)) dX9_addNumber_22 (by decide) ?_
    refine mw_iadd dX9_addNumber_23 ?_
    refine mw_goto (tgt := 28) dX9_addNumber_24 (by decide) ?_
    refine mw_bndI (fun x1 => ?_)
    refine mw_istore_n (lv' := [(3, .int x1), (2, .int z0), (0, .ref (X.2.1 1)), (1, .int y1)]) dX9_addNumber_28 rfl (by decide) rfl ?_
    refine mw_iload_n 0 dX9_addNumber_29 rfl rfl ?_
    refine mw_istore (lv' := [(4, .int x1), (3, .int x1), (2, .int z0), (0, .ref (X.2.1 1)), (1, .int y1)]) dX9_addNumber_30 (by decide) rfl ?_
    refine mw_iconst (v := (0 : Int32)) dX9_addNumber_32 (by decide) ?_
    refine mw_istore (lv' := [(5, .int (0 : Int32)), (4, .int x1), (3, .int x1), (2, .int z0), (0, .ref (X.2.1 1)), (1, .int y1)]) dX9_addNumber_33 (by decide) rfl ?_
    exact mw_sub [4, 5, 3, 2, 1, 0] rfl (w_X9_addNumber_35 X l mFuel y1 z0 x1 x1 (0 : Int32) S)
def f_X9_addNumber (p1 : Int32) (S : mM) : Option (Int32 × mM) :=
  if 0 ≤ p1 ∧ p1.toNatClampNeg < 200 then
  (if (S.1 2 p1.toNatClampNeg) = (45 : Int32) then
    f_X9_addNumber_16 p1 (1 : Int32) S
  else
    f_X9_addNumber_16 p1 (0 : Int32) S)
  else none
set_option maxRecDepth 100000 in
set_option maxHeartbeats 4000000 in
theorem w_X9_addNumber (X : mX) (l : Launch) (p1 : Int32) (S : mM) : MW X viI rm_X9_addNumber cX9_addNumber RX9 7 (some .int) l S [(0, .ref (X.2.1 1)), (1, .int p1)] [] 0 (f_X9_addNumber p1 S) := by
  unfold f_X9_addNumber
  refine mw_aload_n 0 dX9_addNumber_0 rfl rfl ?_
  refine gf_RX9_9 mk_1 dX9_addNumber_1 ?_
  refine mw_iload_n 1 dX9_addNumber_4 rfl rfl ?_
  refine mw_baload mk_2 ml_2 dX9_addNumber_5 ?_
  refine mw_bipush (v := (45 : Int32)) dX9_addNumber_6 (by decide) ?_
  refine mw_icmp_ne (tgt := 15) dX9_addNumber_8 (by decide) ?_ ?_
  · refine mw_iconst (v := (1 : Int32)) dX9_addNumber_11 (by decide) ?_
    refine mw_goto (tgt := 16) dX9_addNumber_12 (by decide) ?_
    exact mw_sub [0, 1] rfl (w_X9_addNumber_16 X l p1 (1 : Int32) S)
  · refine mw_iconst (v := (0 : Int32)) dX9_addNumber_15 (by decide) ?_
    exact mw_sub [0, 1] rfl (w_X9_addNumber_16 X l p1 (0 : Int32) S)
theorem t_X9_addNumber (X : mX) (l : Launch) (p1 : Int32) (S : mM) : mMet X viI yX9_addNumber cX9_addNumber 7 (some .int) rm_X9_addNumber [.ref (X.2.1 1), .int p1] l S (f_X9_addNumber p1 S) :=
  mMet_of (by decide +kernel) rfl (Nat.le_of_ble_eq_true rfl) (w_X9_addNumber X l p1 S )
/-! TraceBench$Tape.spells(IILjava/lang/String;)Z -/
def f_X9_spells_27 (n : Nat) (y1 : Int32) (y3 : Nat) (y4 : Int32) (S : mM) : Option (Int32 × mM) := match n with
  | 0 => none
  | n + 1 =>
    bnd S fun S1 =>
    if (Int32.ofNat (mSL.getD y3 0)) ≤ y4 then
      some ((1 : Int32), S1)
    else
      if 0 ≤ (y1 + y4) ∧ (y1 + y4).toNatClampNeg < 200 then
      (if 0 ≤ y4 ∧ y4.toNatClampNeg < mSL.getD y3 0 then
      (bnd S1 fun S2 =>
      if (S1.1 2 (y1 + y4).toNatClampNeg) = ((mSB.getD y3 []).getD y4.toNatClampNeg 0) then
        bnd (y4 + (1 : Int32)) fun x3 =>
        f_X9_spells_27 n y1 y3 x3 S2
      else
        some ((0 : Int32), S2))
      else none)
      else none
set_option maxRecDepth 100000 in
set_option maxHeartbeats 4000000 in
theorem w_X9_spells_27 (X : mX) (l : Launch) (n : Nat) (y1 : Int32) (y3 : Nat) (y4 : Int32) (S : mM) (hy3 : y3 < 9) : MW X viI rm_X9_spells cX9_spells RX9 5 (some .boolean) l S [(0, .ref (X.2.1 1)), (1, .int y1), (3, .ref (X.2.2.2.2.1 y3)), (4, .int y4)] [] 27 (f_X9_spells_27 n y1 y3 y4 S) := by
  induction n generalizing y1 y3 y4 S with
  | zero => exact mw_none
  | succ n ih =>
    unfold f_X9_spells_27
    refine mw_iload 3 dX9_spells_27 rfl ?_
    refine mw_aload_n 2 dX9_spells_29 rfl rfl ?_
    refine mw_strlen hy3 (Nat.le_of_ble_eq_true rfl) dX9_spells_30 (fun S1 => ?_)
    refine mw_icmp_ge (tgt := 62) dX9_spells_33 (by decide) ?_ ?_
    · refine mw_iconst (v := (1 : Int32)) dX9_spells_62 (by decide) ?_
      exact mw_zret (by decide) dX9_spells_63
    · refine mw_aload_n 0 dX9_spells_36 rfl rfl ?_
      refine gf_RX9_9 mk_1 dX9_spells_37 ?_
      refine mw_iload_n 1 dX9_spells_40 rfl rfl ?_
      refine mw_iload 3 dX9_spells_41 rfl ?_
      refine mw_iadd dX9_spells_43 ?_
      refine mw_baload mk_2 ml_2 dX9_spells_44 ?_
      refine mw_aload_n 2 dX9_spells_45 rfl rfl ?_
      refine mw_iload 3 dX9_spells_46 rfl ?_
      refine mw_charAt hy3 (Nat.le_of_ble_eq_true rfl) dX9_spells_48 (fun S2 => ?_)
      refine mw_icmp_eq (tgt := 56) dX9_spells_51 (by decide) ?_ ?_
      · refine mw_iincB (lvf := fun x3 => [(4, .int x3), (0, .ref (X.2.1 1)), (1, .int y1), (3, .ref (X.2.2.2.2.1 y3))]) (k := 3) dX9_spells_56 rfl (by decide) (by decide) (fun _ => rfl) (fun x3 => ?_)
        refine mw_goto (tgt := 27) dX9_spells_59 (by decide) ?_
        exact mw_sub [1, 2, 3, 0] rfl (ih y1 y3 x3 S2 hy3)
      · refine mw_iconst (v := (0 : Int32)) dX9_spells_54 (by decide) ?_
        exact mw_zret (by decide) dX9_spells_55
def f_X9_spells (p1 : Int32) (p2 : Int32) (p3 : Nat) (S : mM) : Option (Int32 × mM) :=
  if p1 < 0 then
    some ((0 : Int32), S)
  else
    if (S.1 1 1) < p2 then
      some ((0 : Int32), S)
    else
      bnd S fun S1 =>
      if (p2 - p1) = (Int32.ofNat (mSL.getD p3 0)) then
        f_X9_spells_27 mFuel p1 p3 (0 : Int32) S1
      else
        some ((0 : Int32), S1)
set_option maxRecDepth 100000 in
set_option maxHeartbeats 4000000 in
theorem w_X9_spells (X : mX) (l : Launch) (p1 : Int32) (p2 : Int32) (p3 : Nat) (S : mM) (hp3 : p3 < 9) : MW X viI rm_X9_spells cX9_spells RX9 5 (some .boolean) l S [(0, .ref (X.2.1 1)), (1, .int p1), (2, .int p2), (3, .ref (X.2.2.2.2.1 p3))] [] 0 (f_X9_spells p1 p2 p3 S) := by
  unfold f_X9_spells
  refine mw_iload_n 1 dX9_spells_0 rfl rfl ?_
  refine mw_if_lt (tgt := 22) dX9_spells_1 (by decide) ?_ ?_
  · refine mw_iconst (v := (0 : Int32)) dX9_spells_22 (by decide) ?_
    exact mw_zret (by decide) dX9_spells_23
  · refine mw_iload_n 2 dX9_spells_4 rfl rfl ?_
    refine mw_aload_n 0 dX9_spells_5 rfl rfl ?_
    refine gf_RX9_25 mk_1 dX9_spells_6 ?_
    refine mw_icmp_gt (tgt := 22) dX9_spells_9 (by decide) ?_ ?_
    · refine mw_iconst (v := (0 : Int32)) dX9_spells_22 (by decide) ?_
      exact mw_zret (by decide) dX9_spells_23
    · refine mw_iload_n 2 dX9_spells_12 rfl rfl ?_
      refine mw_iload_n 1 dX9_spells_13 rfl rfl ?_
      refine mw_isub dX9_spells_14 ?_
      refine mw_aload_n 3 dX9_spells_15 rfl rfl ?_
      refine mw_strlen hp3 (Nat.le_of_ble_eq_true rfl) dX9_spells_16 (fun S1 => ?_)
      refine mw_icmp_eq (tgt := 24) dX9_spells_19 (by decide) ?_ ?_
      · refine mw_iconst (v := (0 : Int32)) dX9_spells_24 (by decide) ?_
        refine mw_istore (lv' := [(4, .int (0 : Int32)), (0, .ref (X.2.1 1)), (1, .int p1), (2, .int p2), (3, .ref (X.2.2.2.2.1 p3))]) dX9_spells_25 (by decide) rfl ?_
        exact mw_sub [1, 2, 4, 0] rfl (w_X9_spells_27 X l mFuel p1 p3 (0 : Int32) S1 hp3)
      · refine mw_iconst (v := (0 : Int32)) dX9_spells_22 (by decide) ?_
        exact mw_zret (by decide) dX9_spells_23
theorem t_X9_spells (X : mX) (l : Launch) (p1 : Int32) (p2 : Int32) (p3 : Nat) (S : mM) (hp3 : p3 < 9) : mMet X viI yX9_spells cX9_spells 5 (some .boolean) rm_X9_spells [.ref (X.2.1 1), .int p1, .int p2, .ref (X.2.2.2.2.1 p3)] l S (f_X9_spells p1 p2 p3 S) :=
  mMet_of (by decide +kernel) rfl (Nat.le_of_ble_eq_true rfl) (w_X9_spells X l p1 p2 p3 S hp3)
/-! TraceBench$Tape.wordOf(II)I -/
def f_X9_wordOf (p1 : Int32) (p2 : Int32) (S : mM) : Option (Int32 × mM) :=
  mBind (f_X9_spells p1 p2 0 S) fun r1 S2 =>
  if r1 = 0 then
    mBind (f_X9_spells p1 p2 1 S2) fun r3 S4 =>
    if r3 = 0 then
      mBind (f_X9_spells p1 p2 2 S4) fun r5 S6 =>
      if r5 = 0 then
        mBind (f_X9_spells p1 p2 3 S6) fun r7 S8 =>
        if r7 = 0 then
          mBind (f_X9_spells p1 p2 4 S8) fun r9 S10 =>
          if r9 = 0 then
            mBind (f_X9_spells p1 p2 5 S10) fun r11 S12 =>
            if r11 = 0 then
              mBind (f_X9_spells p1 p2 6 S12) fun r13 S14 =>
              if r13 = 0 then
                mBind (f_X9_spells p1 p2 7 S14) fun r15 S16 =>
                if r15 = 0 then
                  mBind (f_X9_spells p1 p2 8 S16) fun r17 S18 =>
                  if r17 = 0 then
                    some ((9 : Int32), S18)
                  else
                    some ((8 : Int32), S18)
                else
                  some ((7 : Int32), S16)
              else
                some ((6 : Int32), S14)
            else
              some ((5 : Int32), S12)
          else
            some ((4 : Int32), S10)
        else
          some ((3 : Int32), S8)
      else
        some ((2 : Int32), S6)
    else
      some ((1 : Int32), S4)
  else
    some ((0 : Int32), S2)
set_option maxRecDepth 100000 in
set_option maxHeartbeats 4000000 in
theorem w_X9_wordOf (X : mX) (l : Launch) (p1 : Int32) (p2 : Int32) (S : mM) : MW X viI rm_X9_wordOf cX9_wordOf RX9 3 (some .int) l S [(0, .ref (X.2.1 1)), (1, .int p1), (2, .int p2)] [] 0 (f_X9_wordOf p1 p2 S) := by
  unfold f_X9_wordOf
  refine mw_aload_n 0 dX9_wordOf_0 rfl rfl ?_
  refine mw_iload_n 1 dX9_wordOf_1 rfl rfl ?_
  refine mw_iload_n 2 dX9_wordOf_2 rfl rfl ?_
  refine mw_ldcS 0 (by decide) rfl dX9_wordOf_3 ?_
  refine mw_callV (t_X9_spells X l p1 p2 0 S (by decide)) cd_X9_spells lk_RX9_61 im_X9_spells se_X9_spells in_RX9 de_X9_spells ⟨rfl, rfl⟩ ⟨Nat.le_of_ble_eq_true rfl, Nat.le_of_ble_eq_true rfl⟩ (mKind_lt mk_1 (by decide)) (mCell_k mk_1) rfl rfl rfl rfl ⟨Nat.le_of_ble_eq_true rfl, Nat.le_of_ble_eq_true rfl⟩ (Nat.le_of_ble_eq_true rfl) dX9_wordOf_5 (fun r1 S2 => ?_)
  refine mw_eq (st' := [.int r1]) rfl rfl ?_
  refine mw_if_eq (tgt := 13) dX9_wordOf_8 (by decide) ?_ ?_
  · refine mw_aload_n 0 dX9_wordOf_13 rfl rfl ?_
    refine mw_iload_n 1 dX9_wordOf_14 rfl rfl ?_
    refine mw_iload_n 2 dX9_wordOf_15 rfl rfl ?_
    refine mw_ldcS 1 (by decide) rfl dX9_wordOf_16 ?_
    refine mw_callV (t_X9_spells X l p1 p2 1 S2 (by decide)) cd_X9_spells lk_RX9_61 im_X9_spells se_X9_spells in_RX9 de_X9_spells ⟨rfl, rfl⟩ ⟨Nat.le_of_ble_eq_true rfl, Nat.le_of_ble_eq_true rfl⟩ (mKind_lt mk_1 (by decide)) (mCell_k mk_1) rfl rfl rfl rfl ⟨Nat.le_of_ble_eq_true rfl, Nat.le_of_ble_eq_true rfl⟩ (Nat.le_of_ble_eq_true rfl) dX9_wordOf_18 (fun r3 S4 => ?_)
    refine mw_eq (st' := [.int r3]) rfl rfl ?_
    refine mw_if_eq (tgt := 26) dX9_wordOf_21 (by decide) ?_ ?_
    · refine mw_aload_n 0 dX9_wordOf_26 rfl rfl ?_
      refine mw_iload_n 1 dX9_wordOf_27 rfl rfl ?_
      refine mw_iload_n 2 dX9_wordOf_28 rfl rfl ?_
      refine mw_ldcS 2 (by decide) rfl dX9_wordOf_29 ?_
      refine mw_callV (t_X9_spells X l p1 p2 2 S4 (by decide)) cd_X9_spells lk_RX9_61 im_X9_spells se_X9_spells in_RX9 de_X9_spells ⟨rfl, rfl⟩ ⟨Nat.le_of_ble_eq_true rfl, Nat.le_of_ble_eq_true rfl⟩ (mKind_lt mk_1 (by decide)) (mCell_k mk_1) rfl rfl rfl rfl ⟨Nat.le_of_ble_eq_true rfl, Nat.le_of_ble_eq_true rfl⟩ (Nat.le_of_ble_eq_true rfl) dX9_wordOf_31 (fun r5 S6 => ?_)
      refine mw_eq (st' := [.int r5]) rfl rfl ?_
      refine mw_if_eq (tgt := 39) dX9_wordOf_34 (by decide) ?_ ?_
      · refine mw_aload_n 0 dX9_wordOf_39 rfl rfl ?_
        refine mw_iload_n 1 dX9_wordOf_40 rfl rfl ?_
        refine mw_iload_n 2 dX9_wordOf_41 rfl rfl ?_
        refine mw_ldcS 3 (by decide) rfl dX9_wordOf_42 ?_
        refine mw_callV (t_X9_spells X l p1 p2 3 S6 (by decide)) cd_X9_spells lk_RX9_61 im_X9_spells se_X9_spells in_RX9 de_X9_spells ⟨rfl, rfl⟩ ⟨Nat.le_of_ble_eq_true rfl, Nat.le_of_ble_eq_true rfl⟩ (mKind_lt mk_1 (by decide)) (mCell_k mk_1) rfl rfl rfl rfl ⟨Nat.le_of_ble_eq_true rfl, Nat.le_of_ble_eq_true rfl⟩ (Nat.le_of_ble_eq_true rfl) dX9_wordOf_44 (fun r7 S8 => ?_)
        refine mw_eq (st' := [.int r7]) rfl rfl ?_
        refine mw_if_eq (tgt := 52) dX9_wordOf_47 (by decide) ?_ ?_
        · refine mw_aload_n 0 dX9_wordOf_52 rfl rfl ?_
          refine mw_iload_n 1 dX9_wordOf_53 rfl rfl ?_
          refine mw_iload_n 2 dX9_wordOf_54 rfl rfl ?_
          refine mw_ldcS 4 (by decide) rfl dX9_wordOf_55 ?_
          refine mw_callV (t_X9_spells X l p1 p2 4 S8 (by decide)) cd_X9_spells lk_RX9_61 im_X9_spells se_X9_spells in_RX9 de_X9_spells ⟨rfl, rfl⟩ ⟨Nat.le_of_ble_eq_true rfl, Nat.le_of_ble_eq_true rfl⟩ (mKind_lt mk_1 (by decide)) (mCell_k mk_1) rfl rfl rfl rfl ⟨Nat.le_of_ble_eq_true rfl, Nat.le_of_ble_eq_true rfl⟩ (Nat.le_of_ble_eq_true rfl) dX9_wordOf_57 (fun r9 S10 => ?_)
          refine mw_eq (st' := [.int r9]) rfl rfl ?_
          refine mw_if_eq (tgt := 65) dX9_wordOf_60 (by decide) ?_ ?_
          · refine mw_aload_n 0 dX9_wordOf_65 rfl rfl ?_
            refine mw_iload_n 1 dX9_wordOf_66 rfl rfl ?_
            refine mw_iload_n 2 dX9_wordOf_67 rfl rfl ?_
            refine mw_ldcS 5 (by decide) rfl dX9_wordOf_68 ?_
            refine mw_callV (t_X9_spells X l p1 p2 5 S10 (by decide)) cd_X9_spells lk_RX9_61 im_X9_spells se_X9_spells in_RX9 de_X9_spells ⟨rfl, rfl⟩ ⟨Nat.le_of_ble_eq_true rfl, Nat.le_of_ble_eq_true rfl⟩ (mKind_lt mk_1 (by decide)) (mCell_k mk_1) rfl rfl rfl rfl ⟨Nat.le_of_ble_eq_true rfl, Nat.le_of_ble_eq_true rfl⟩ (Nat.le_of_ble_eq_true rfl) dX9_wordOf_70 (fun r11 S12 => ?_)
            refine mw_eq (st' := [.int r11]) rfl rfl ?_
            refine mw_if_eq (tgt := 78) dX9_wordOf_73 (by decide) ?_ ?_
            · refine mw_aload_n 0 dX9_wordOf_78 rfl rfl ?_
              refine mw_iload_n 1 dX9_wordOf_79 rfl rfl ?_
              refine mw_iload_n 2 dX9_wordOf_80 rfl rfl ?_
              refine mw_ldcS 6 (by decide) rfl dX9_wordOf_81 ?_
              refine mw_callV (t_X9_spells X l p1 p2 6 S12 (by decide)) cd_X9_spells lk_RX9_61 im_X9_spells se_X9_spells in_RX9 de_X9_spells ⟨rfl, rfl⟩ ⟨Nat.le_of_ble_eq_true rfl, Nat.le_of_ble_eq_true rfl⟩ (mKind_lt mk_1 (by decide)) (mCell_k mk_1) rfl rfl rfl rfl ⟨Nat.le_of_ble_eq_true rfl, Nat.le_of_ble_eq_true rfl⟩ (Nat.le_of_ble_eq_true rfl) dX9_wordOf_83 (fun r13 S14 => ?_)
              refine mw_eq (st' := [.int r13]) rfl rfl ?_
              refine mw_if_eq (tgt := 92) dX9_wordOf_86 (by decide) ?_ ?_
              · refine mw_aload_n 0 dX9_wordOf_92 rfl rfl ?_
                refine mw_iload_n 1 dX9_wordOf_93 rfl rfl ?_
                refine mw_iload_n 2 dX9_wordOf_94 rfl rfl ?_
                refine mw_ldcS 7 (by decide) rfl dX9_wordOf_95 ?_
                refine mw_callV (t_X9_spells X l p1 p2 7 S14 (by decide)) cd_X9_spells lk_RX9_61 im_X9_spells se_X9_spells in_RX9 de_X9_spells ⟨rfl, rfl⟩ ⟨Nat.le_of_ble_eq_true rfl, Nat.le_of_ble_eq_true rfl⟩ (mKind_lt mk_1 (by decide)) (mCell_k mk_1) rfl rfl rfl rfl ⟨Nat.le_of_ble_eq_true rfl, Nat.le_of_ble_eq_true rfl⟩ (Nat.le_of_ble_eq_true rfl) dX9_wordOf_97 (fun r15 S16 => ?_)
                refine mw_eq (st' := [.int r15]) rfl rfl ?_
                refine mw_if_eq (tgt := 106) dX9_wordOf_100 (by decide) ?_ ?_
                · refine mw_aload_n 0 dX9_wordOf_106 rfl rfl ?_
                  refine mw_iload_n 1 dX9_wordOf_107 rfl rfl ?_
                  refine mw_iload_n 2 dX9_wordOf_108 rfl rfl ?_
                  refine mw_ldcS 8 (by decide) rfl dX9_wordOf_109 ?_
                  refine mw_callV (t_X9_spells X l p1 p2 8 S16 (by decide)) cd_X9_spells lk_RX9_61 im_X9_spells se_X9_spells in_RX9 de_X9_spells ⟨rfl, rfl⟩ ⟨Nat.le_of_ble_eq_true rfl, Nat.le_of_ble_eq_true rfl⟩ (mKind_lt mk_1 (by decide)) (mCell_k mk_1) rfl rfl rfl rfl ⟨Nat.le_of_ble_eq_true rfl, Nat.le_of_ble_eq_true rfl⟩ (Nat.le_of_ble_eq_true rfl) dX9_wordOf_111 (fun r17 S18 => ?_)
                  refine mw_eq (st' := [.int r17]) rfl rfl ?_
                  refine mw_if_eq (tgt := 120) dX9_wordOf_114 (by decide) ?_ ?_
                  · refine mw_bipush (v := (9 : Int32)) dX9_wordOf_120 (by decide) ?_
                    exact mw_ireturn dX9_wordOf_122
                  · refine mw_bipush (v := (8 : Int32)) dX9_wordOf_117 (by decide) ?_
                    exact mw_ireturn dX9_wordOf_119
                · refine mw_bipush (v := (7 : Int32)) dX9_wordOf_103 (by decide) ?_
                  exact mw_ireturn dX9_wordOf_105
              · refine mw_bipush (v := (6 : Int32)) dX9_wordOf_89 (by decide) ?_
                exact mw_ireturn dX9_wordOf_91
            · refine mw_iconst (v := (5 : Int32)) dX9_wordOf_76 (by decide) ?_
              exact mw_ireturn dX9_wordOf_77
          · refine mw_iconst (v := (4 : Int32)) dX9_wordOf_63 (by decide) ?_
            exact mw_ireturn dX9_wordOf_64
        · refine mw_iconst (v := (3 : Int32)) dX9_wordOf_50 (by decide) ?_
          exact mw_ireturn dX9_wordOf_51
      · refine mw_iconst (v := (2 : Int32)) dX9_wordOf_37 (by decide) ?_
        exact mw_ireturn dX9_wordOf_38
    · refine mw_iconst (v := (1 : Int32)) dX9_wordOf_24 (by decide) ?_
      exact mw_ireturn dX9_wordOf_25
  · refine mw_iconst (v := (0 : Int32)) dX9_wordOf_11 (by decide) ?_
    exact mw_ireturn dX9_wordOf_12
theorem t_X9_wordOf (X : mX) (l : Launch) (p1 : Int32) (p2 : Int32) (S : mM) : mMet X viI yX9_wordOf cX9_wordOf 3 (some .int) rm_X9_wordOf [.ref (X.2.1 1), .int p1, .int p2] l S (f_X9_wordOf p1 p2 S) :=
  mMet_of (by decide +kernel) rfl (Nat.le_of_ble_eq_true rfl) (w_X9_wordOf X l p1 p2 S )
/-! TraceBench$Tape.addWord(I)I -/
def f_X9_addWord_32 (y1 : Int32) (y2 : Int32) (S : mM) : Option (Int32 × mM) :=
  mBind (f_X9_wordOf y1 y2 S) fun r1 S2 =>
  if r1 = (9 : Int32) then
    mBind (f_X9_put (5 : Int32) y1 r1 S2) fun r3 S4 =>
    some (y2, S4)
  else
    mBind (f_X9_put (1 : Int32) y1 r1 S2) fun r5 S6 =>
    some (y2, S6)
set_option maxRecDepth 100000 in
set_option maxHeartbeats 4000000 in
theorem w_X9_addWord_32 (X : mX) (l : Launch) (y1 : Int32) (y2 : Int32) (S : mM) : MW X viI rm_X9_addWord cX9_addWord RX9 4 (some .int) l S [(0, .ref (X.2.1 1)), (1, .int y1), (2, .int y2)] [] 32 (f_X9_addWord_32 y1 y2 S) := by
  unfold f_X9_addWord_32
  refine mw_aload_n 0 dX9_addWord_32 rfl rfl ?_
  refine mw_iload_n 1 dX9_addWord_33 rfl rfl ?_
  refine mw_iload_n 2 dX9_addWord_34 rfl rfl ?_
  refine mw_callV (t_X9_wordOf X l y1 y2 S) cd_X9_wordOf lk_RX9_56 im_X9_wordOf se_X9_wordOf in_RX9 de_X9_wordOf ⟨rfl, rfl⟩ ⟨Nat.le_of_ble_eq_true rfl, Nat.le_of_ble_eq_true rfl⟩ (mKind_lt mk_1 (by decide)) (mCell_k mk_1) rfl rfl rfl rfl ⟨Nat.le_of_ble_eq_true rfl, Nat.le_of_ble_eq_true rfl⟩ (Nat.le_of_ble_eq_true rfl) dX9_addWord_35 (fun r1 S2 => ?_)
  refine mw_eq (st' := [.int r1]) rfl rfl ?_
  refine mw_istore_n (lv' := [(3, .int r1), (0, .ref (X.2.1 1)), (1, .int y1), (2, .int y2)]) dX9_addWord_38 rfl (by decide) rfl ?_
  refine mw_aload_n 1 dX9_addWord_39 rfl rfl ?_
  refine mw_iload_n 0 dX9_addWord_40 rfl rfl ?_
  refine mw_bipush (v := (9 : Int32)) dX9_addWord_41 (by decide) ?_
  refine mw_icmp_ne (tgt := 50) dX9_addWord_43 (by decide) ?_ ?_
  · refine mw_iconst (v := (5 : Int32)) dX9_addWord_46 (by decide) ?_
    refine mw_goto (tgt := 51) dX9_addWord_47 (by decide) ?_
    refine mw_iload_n 2 dX9_addWord_51 rfl rfl ?_
    refine mw_iload_n 0 dX9_addWord_52 rfl rfl ?_
    refine mw_callV (t_X9_put X l (5 : Int32) y1 r1 S2) cd_X9_put lk_RX9_46 im_X9_put se_X9_put in_RX9 de_X9_put ⟨rfl, rfl⟩ ⟨Nat.le_of_ble_eq_true rfl, Nat.le_of_ble_eq_true rfl⟩ (mKind_lt mk_1 (by decide)) (mCell_k mk_1) rfl rfl rfl rfl ⟨Nat.le_of_ble_eq_true rfl, Nat.le_of_ble_eq_true rfl⟩ (Nat.le_of_ble_eq_true rfl) dX9_addWord_53 (fun r3 S4 => ?_)
    refine mw_eq (st' := []) rfl rfl ?_
    refine mw_iload_n 3 dX9_addWord_56 rfl rfl ?_
    exact mw_ireturn dX9_addWord_57
  · refine mw_iconst (v := (1 : Int32)) dX9_addWord_50 (by decide) ?_
    refine mw_iload_n 2 dX9_addWord_51 rfl rfl ?_
    refine mw_iload_n 0 dX9_addWord_52 rfl rfl ?_
    refine mw_callV (t_X9_put X l (1 : Int32) y1 r1 S2) cd_X9_put lk_RX9_46 im_X9_put se_X9_put in_RX9 de_X9_put ⟨rfl, rfl⟩ ⟨Nat.le_of_ble_eq_true rfl, Nat.le_of_ble_eq_true rfl⟩ (mKind_lt mk_1 (by decide)) (mCell_k mk_1) rfl rfl rfl rfl ⟨Nat.le_of_ble_eq_true rfl, Nat.le_of_ble_eq_true rfl⟩ (Nat.le_of_ble_eq_true rfl) dX9_addWord_53 (fun r5 S6 => ?_)
    refine mw_eq (st' := []) rfl rfl ?_
    refine mw_iload_n 3 dX9_addWord_56 rfl rfl ?_
    exact mw_ireturn dX9_addWord_57
def f_X9_addWord_2 (n : Nat) (y1 : Int32) (y2 : Int32) (S : mM) : Option (Int32 × mM) := match n with
  | 0 => none
  | n + 1 =>
    if (S.1 1 1) ≤ y2 then
      f_X9_addWord_32 y1 y2 S
    else
      if 0 ≤ y2 ∧ y2.toNatClampNeg < 200 then
      (mBind (f_X11_isIn (S.1 2 y2.toNatClampNeg) (97 : Int32) (122 : Int32) S) fun r1 S2 =>
      if r1 = 0 then
        f_X9_addWord_32 y1 y2 S2
      else
        bnd (y2 + (1 : Int32)) fun x3 =>
        f_X9_addWord_2 n y1 x3 S2)
      else none
set_option maxRecDepth 100000 in
set_option maxHeartbeats 4000000 in
theorem w_X9_addWord_2 (X : mX) (l : Launch) (n : Nat) (y1 : Int32) (y2 : Int32) (S : mM) : MW X viI rm_X9_addWord cX9_addWord RX9 4 (some .int) l S [(0, .ref (X.2.1 1)), (1, .int y1), (2, .int y2)] [] 2 (f_X9_addWord_2 n y1 y2 S) := by
  induction n generalizing y1 y2 S with
  | zero => exact mw_none
  | succ n ih =>
    unfold f_X9_addWord_2
    refine mw_iload_n 2 dX9_addWord_2 rfl rfl ?_
    refine mw_aload_n 0 dX9_addWord_3 rfl rfl ?_
    refine gf_RX9_25 mk_1 dX9_addWord_4 ?_
    refine mw_icmp_ge (tgt := 32) dX9_addWord_7 (by decide) ?_ ?_
    · exact mw_sub [0, 1, 2] rfl (w_X9_addWord_32 X l y1 y2 S)
    · refine mw_aload_n 0 dX9_addWord_10 rfl rfl ?_
      refine gf_RX9_9 mk_1 dX9_addWord_11 ?_
      refine mw_iload_n 2 dX9_addWord_14 rfl rfl ?_
      refine mw_baload mk_2 ml_2 dX9_addWord_15 ?_
      refine mw_bipush (v := (97 : Int32)) dX9_addWord_16 (by decide) ?_
      refine mw_bipush (v := (122 : Int32)) dX9_addWord_18 (by decide) ?_
      refine mw_callSN (t_X11_isIn X l (S.1 2 y2.toNatClampNeg) (97 : Int32) (122 : Int32) S) cd_X11_isIn lk_RX9_29 sn_X11_isIn in_RX11 de_X11_isIn ⟨rfl, rfl⟩ ⟨Nat.le_of_ble_eq_true rfl, Nat.le_of_ble_eq_true rfl⟩ rfl rfl ⟨Nat.le_of_ble_eq_true rfl, Nat.le_of_ble_eq_true rfl⟩ (Nat.le_of_ble_eq_true rfl) dX9_addWord_20 (fun r1 S2 => ?_)
      refine mw_eq (st' := [.int r1]) rfl rfl ?_
      refine mw_if_eq (tgt := 32) dX9_addWord_23 (by decide) ?_ ?_
      · exact mw_sub [0, 1, 2] rfl (w_X9_addWord_32 X l y1 y2 S2)
      · refine mw_iincB (lvf := fun x3 => [(2, .int x3), (0, .ref (X.2.1 1)), (1, .int y1)]) (k := 2) dX9_addWord_26 rfl (by decide) (by decide) (fun _ => rfl) (fun x3 => ?_)
        refine mw_goto (tgt := 2) dX9_addWord_29 (by decide) ?_
        exact mw_sub [1, 2, 0] rfl (ih y1 x3 S2)
def f_X9_addWord (p1 : Int32) (S : mM) : Option (Int32 × mM) :=
  f_X9_addWord_2 mFuel p1 p1 S
set_option maxRecDepth 100000 in
set_option maxHeartbeats 4000000 in
theorem w_X9_addWord (X : mX) (l : Launch) (p1 : Int32) (S : mM) : MW X viI rm_X9_addWord cX9_addWord RX9 4 (some .int) l S [(0, .ref (X.2.1 1)), (1, .int p1)] [] 0 (f_X9_addWord p1 S) := by
  unfold f_X9_addWord
  refine mw_iload_n 1 dX9_addWord_0 rfl rfl ?_
  refine mw_istore_n (lv' := [(2, .int p1), (0, .ref (X.2.1 1)), (1, .int p1)]) dX9_addWord_1 rfl (by decide) rfl ?_
  exact mw_sub [1, 2, 0] rfl (w_X9_addWord_2 X l mFuel p1 p1 S)
theorem t_X9_addWord (X : mX) (l : Launch) (p1 : Int32) (S : mM) : mMet X viI yX9_addWord cX9_addWord 4 (some .int) rm_X9_addWord [.ref (X.2.1 1), .int p1] l S (f_X9_addWord p1 S) :=
  mMet_of (by decide +kernel) rfl (Nat.le_of_ble_eq_true rfl) (w_X9_addWord X l p1 S )
/-! TraceBench$Tape.addToken(I)I -/
def f_X9_addToken_19 (y1 : Int32) (y2 : Int32) (S : mM) : Option (Int32 × mM) :=
  if y2 = (42 : Int32) then
    mBind (f_X9_put (3 : Int32) y1 (0 : Int32) S) fun r1 S2 =>
    some ((y1 + (1 : Int32)), S2)
  else
    mBind (f_X9_put (4 : Int32) y1 (0 : Int32) S) fun r3 S4 =>
    some ((y1 + (1 : Int32)), S4)
set_option maxRecDepth 100000 in
set_option maxHeartbeats 4000000 in
theorem w_X9_addToken_19 (X : mX) (l : Launch) (y1 : Int32) (y2 : Int32) (S : mM) : MW X viI rm_X9_addToken cX9_addToken RX9 3 (some .int) l S [(0, .ref (X.2.1 1)), (1, .int y1), (2, .int y2)] [] 19 (f_X9_addToken_19 y1 y2 S) := by
  unfold f_X9_addToken_19
  refine mw_aload_n 0 dX9_addToken_19 rfl rfl ?_
  refine mw_iload_n 2 dX9_addToken_20 rfl rfl ?_
  refine mw_bipush (v := (42 : Int32)) dX9_addToken_21 (by decide) ?_
  refine mw_icmp_ne (tgt := 30) dX9_addToken_23 (by decide) ?_ ?_
  · refine mw_iconst (v := (3 : Int32)) dX9_addToken_26 (by decide) ?_
    refine mw_goto (tgt := 31) dX9_addToken_27 (by decide) ?_
    refine mw_iload_n 1 dX9_addToken_31 rfl rfl ?_
    refine mw_iconst (v := (0 : Int32)) dX9_addToken_32 (by decide) ?_
    refine mw_callV (t_X9_put X l (3 : Int32) y1 (0 : Int32) S) cd_X9_put lk_RX9_46 im_X9_put se_X9_put in_RX9 de_X9_put ⟨rfl, rfl⟩ ⟨Nat.le_of_ble_eq_true rfl, Nat.le_of_ble_eq_true rfl⟩ (mKind_lt mk_1 (by decide)) (mCell_k mk_1) rfl rfl rfl rfl ⟨Nat.le_of_ble_eq_true rfl, Nat.le_of_ble_eq_true rfl⟩ (Nat.le_of_ble_eq_true rfl) dX9_addToken_33 (fun r1 S2 => ?_)
    refine mw_eq (st' := []) rfl rfl ?_
    refine mw_iload_n 1 dX9_addToken_36 rfl rfl ?_
    refine mw_iconst (v := (1 : Int32)) dX9_addToken_37 (by decide) ?_
    refine mw_iadd dX9_addToken_38 ?_
    exact mw_ireturn dX9_addToken_39
  · refine mw_iconst (v := (4 : Int32)) dX9_addToken_30 (by decide) ?_
    refine mw_iload_n 1 dX9_addToken_31 rfl rfl ?_
    refine mw_iconst (v := (0 : Int32)) dX9_addToken_32 (by decide) ?_
    refine mw_callV (t_X9_put X l (4 : Int32) y1 (0 : Int32) S) cd_X9_put lk_RX9_46 im_X9_put se_X9_put in_RX9 de_X9_put ⟨rfl, rfl⟩ ⟨Nat.le_of_ble_eq_true rfl, Nat.le_of_ble_eq_true rfl⟩ (mKind_lt mk_1 (by decide)) (mCell_k mk_1) rfl rfl rfl rfl ⟨Nat.le_of_ble_eq_true rfl, Nat.le_of_ble_eq_true rfl⟩ (Nat.le_of_ble_eq_true rfl) dX9_addToken_33 (fun r3 S4 => ?_)
    refine mw_eq (st' := []) rfl rfl ?_
    refine mw_iload_n 1 dX9_addToken_36 rfl rfl ?_
    refine mw_iconst (v := (1 : Int32)) dX9_addToken_37 (by decide) ?_
    refine mw_iadd dX9_addToken_38 ?_
    exact mw_ireturn dX9_addToken_39
def f_X9_addToken (p1 : Int32) (S : mM) : Option (Int32 × mM) :=
  if 0 ≤ p1 ∧ p1.toNatClampNeg < 200 then
  (bnd (S.1 2 p1.toNatClampNeg) fun x1 =>
  if x1 = (42 : Int32) then
    f_X9_addToken_19 p1 x1 S
  else
    if x1 = (59 : Int32) then
      f_X9_addToken_19 p1 x1 S
    else
      mBind (f_X11_isIn x1 (97 : Int32) (122 : Int32) S) fun r2 S3 =>
      if r2 = 0 then
        mBind (f_X9_addNumber p1 S3) fun r4 S5 =>
        some (r4, S5)
      else
        mBind (f_X9_addWord p1 S3) fun r6 S7 =>
        some (r6, S7))
  else none
set_option maxRecDepth 100000 in
set_option maxHeartbeats 4000000 in
theorem w_X9_addToken (X : mX) (l : Launch) (p1 : Int32) (S : mM) : MW X viI rm_X9_addToken cX9_addToken RX9 3 (some .int) l S [(0, .ref (X.2.1 1)), (1, .int p1)] [] 0 (f_X9_addToken p1 S) := by
  unfold f_X9_addToken
  refine mw_aload_n 0 dX9_addToken_0 rfl rfl ?_
  refine gf_RX9_9 mk_1 dX9_addToken_1 ?_
  refine mw_iload_n 1 dX9_addToken_4 rfl rfl ?_
  refine mw_baload mk_2 ml_2 dX9_addToken_5 ?_
  refine mw_bndI (fun x1 => ?_)
  refine mw_istore_n (lv' := [(2, .int x1), (0, .ref (X.2.1 1)), (1, .int p1)]) dX9_addToken_6 rfl (by decide) rfl ?_
  refine mw_iload_n 0 dX9_addToken_7 rfl rfl ?_
  refine mw_bipush (v := (42 : Int32)) dX9_addToken_8 (by decide) ?_
  refine mw_icmp_eq (tgt := 19) dX9_addToken_10 (by decide) ?_ ?_
  · exact mw_sub [1, 2, 0] rfl (w_X9_addToken_19 X l p1 x1 S)
  · refine mw_iload_n 0 dX9_addToken_13 rfl rfl ?_
    refine mw_bipush (v := (59 : Int32)) dX9_addToken_14 (by decide) ?_
    refine mw_icmp_ne (tgt := 40) dX9_addToken_16 (by decide) ?_ ?_
    · exact mw_sub [1, 2, 0] rfl (w_X9_addToken_19 X l p1 x1 S)
    · refine mw_iload_n 0 dX9_addToken_40 rfl rfl ?_
      refine mw_bipush (v := (97 : Int32)) dX9_addToken_41 (by decide) ?_
      refine mw_bipush (v := (122 : Int32)) dX9_addToken_43 (by decide) ?_
      refine mw_callSN (t_X11_isIn X l x1 (97 : Int32) (122 : Int32) S) cd_X11_isIn lk_RX9_29 sn_X11_isIn in_RX11 de_X11_isIn ⟨rfl, rfl⟩ ⟨Nat.le_of_ble_eq_true rfl, Nat.le_of_ble_eq_true rfl⟩ rfl rfl ⟨Nat.le_of_ble_eq_true rfl, Nat.le_of_ble_eq_true rfl⟩ (Nat.le_of_ble_eq_true rfl) dX9_addToken_45 (fun r2 S3 => ?_)
      refine mw_eq (st' := [.int r2]) rfl rfl ?_
      refine mw_if_eq (tgt := 59) dX9_addToken_48 (by decide) ?_ ?_
      · refine mw_aload_n 1 dX9_addToken_59 rfl rfl ?_
        refine mw_iload_n 2 dX9_addToken_60 rfl rfl ?_
        refine mw_callV (t_X9_addNumber X l p1 S3) cd_X9_addNumber lk_RX9_53 im_X9_addNumber se_X9_addNumber in_RX9 de_X9_addNumber ⟨rfl, rfl⟩ ⟨Nat.le_of_ble_eq_true rfl, Nat.le_of_ble_eq_true rfl⟩ (mKind_lt mk_1 (by decide)) (mCell_k mk_1) rfl rfl rfl rfl ⟨Nat.le_of_ble_eq_true rfl, Nat.le_of_ble_eq_true rfl⟩ (Nat.le_of_ble_eq_true rfl) dX9_addToken_61 (fun r4 S5 => ?_)
        refine mw_eq (st' := [.int r4]) rfl rfl ?_
        exact mw_ireturn dX9_addToken_64
      · refine mw_aload_n 1 dX9_addToken_51 rfl rfl ?_
        refine mw_iload_n 2 dX9_addToken_52 rfl rfl ?_
        refine mw_callV (t_X9_addWord X l p1 S3) cd_X9_addWord lk_RX9_50 im_X9_addWord se_X9_addWord in_RX9 de_X9_addWord ⟨rfl, rfl⟩ ⟨Nat.le_of_ble_eq_true rfl, Nat.le_of_ble_eq_true rfl⟩ (mKind_lt mk_1 (by decide)) (mCell_k mk_1) rfl rfl rfl rfl ⟨Nat.le_of_ble_eq_true rfl, Nat.le_of_ble_eq_true rfl⟩ (Nat.le_of_ble_eq_true rfl) dX9_addToken_53 (fun r6 S7 => ?_)
        refine mw_eq (st' := [.int r6]) rfl rfl ?_
        refine mw_goto (tgt := 64) dX9_addToken_56 (by decide) ?_
        exact mw_ireturn dX9_addToken_64
theorem t_X9_addToken (X : mX) (l : Launch) (p1 : Int32) (S : mM) : mMet X viI yX9_addToken cX9_addToken 3 (some .int) rm_X9_addToken [.ref (X.2.1 1), .int p1] l S (f_X9_addToken p1 S) :=
  mMet_of (by decide +kernel) rfl (Nat.le_of_ble_eq_true rfl) (w_X9_addToken X l p1 S )
/-! TraceBench$Tape.split()V -/
def f_X9_split_35 (k7 : Int32 → mM → Option (Unit × mM)) (y1 : Int32) (z0 : Int32) (S : mM) : Option (Unit × mM) :=
  mBind (f_J9_max_7cf53 z0 (y1 + (1 : Int32)) S) fun r1 S2 =>
  k7 r1 S2
set_option maxRecDepth 100000 in
set_option maxHeartbeats 4000000 in
theorem w_X9_split_35 (X : mX) (l : Launch) (k7 : Int32 → mM → Option (Unit × mM)) (hk7 : ∀ (y1 : Int32) (S : mM), MW X viV rm_X9_split cX9_split RX9 3 none l S [(0, .ref (X.2.1 1)), (1, .int y1)] [] 7 (k7 y1 S)) (y1 : Int32) (z0 : Int32) (S : mM) : MW X viV rm_X9_split cX9_split RX9 3 none l S [(0, .ref (X.2.1 1)), (1, .int y1)] [.int z0] 35 (f_X9_split_35 k7 y1 z0 S) := by
  unfold f_X9_split_35
  refine mw_istore_n (lv' := [(2, .int z0), (0, .ref (X.2.1 1)), (1, .int y1)]) dX9_split_35 rfl (by decide) rfl ?_
  refine mw_iload_n 0 dX9_split_36 rfl rfl ?_
  refine mw_iload_n 2 dX9_split_37 rfl rfl ?_
  refine mw_iconst (v := (1 : Int32)) dX9_split_38 (by decide) ?_
  refine mw_iadd dX9_split_39 ?_
  refine mw_callS (t_J9_max_7cf53 X l z0 (y1 + (1 : Int32)) S) cd_J9_max_7cf53 lk_RX9_40 sn_J9_max_7cf53 in_RJ9 de_J9_max_7cf53 ⟨rfl, rfl⟩ ⟨Nat.le_of_ble_eq_true rfl, Nat.le_of_ble_eq_true rfl⟩ rfl rfl ⟨Nat.le_of_ble_eq_true rfl, Nat.le_of_ble_eq_true rfl⟩ (Nat.le_of_ble_eq_true rfl) dX9_split_40 (fun r1 S2 => ?_)
  refine mw_eq (st' := [.int r1]) rfl rfl ?_
  refine mw_istore_n (lv' := [(1, .int r1), (2, .int z0), (0, .ref (X.2.1 1))]) dX9_split_43 rfl (by decide) rfl ?_
  refine mw_goto (tgt := 7) dX9_split_44 (by decide) ?_
  exact mw_sub [2, 0] rfl (hk7 r1 S2)
def f_X9_split_7 (n : Nat) (y1 : Int32) (S : mM) : Option (Unit × mM) := match n with
  | 0 => none
  | n + 1 =>
    if (S.1 1 1) ≤ y1 then
      mBind (f_X9_put (0 : Int32) (S.1 1 1) (0 : Int32) S) fun r1 S2 =>
      some ((), S2)
    else
      if 0 ≤ y1 ∧ y1.toNatClampNeg < 200 then
      (if (S.1 2 y1.toNatClampNeg) = (32 : Int32) then
        f_X9_split_35 (f_X9_split_7 n) y1 y1 S
      else
        mBind (f_X9_addToken y1 S) fun r3 S4 =>
        f_X9_split_35 (f_X9_split_7 n) y1 r3 S4)
      else none
set_option maxRecDepth 100000 in
set_option maxHeartbeats 4000000 in
theorem w_X9_split_7 (X : mX) (l : Launch) (n : Nat) (y1 : Int32) (S : mM) : MW X viV rm_X9_split cX9_split RX9 3 none l S [(0, .ref (X.2.1 1)), (1, .int y1)] [] 7 (f_X9_split_7 n y1 S) := by
  induction n generalizing y1 S with
  | zero => exact mw_none
  | succ n ih =>
    unfold f_X9_split_7
    refine mw_iload_n 1 dX9_split_7 rfl rfl ?_
    refine mw_aload_n 0 dX9_split_8 rfl rfl ?_
    refine gf_RX9_25 mk_1 dX9_split_9 ?_
    refine mw_icmp_ge (tgt := 47) dX9_split_12 (by decide) ?_ ?_
    · refine mw_aload_n 0 dX9_split_47 rfl rfl ?_
      refine mw_iconst (v := (0 : Int32)) dX9_split_48 (by decide) ?_
      refine mw_aload_n 0 dX9_split_49 rfl rfl ?_
      refine gf_RX9_25 mk_1 dX9_split_50 ?_
      refine mw_iconst (v := (0 : Int32)) dX9_split_53 (by decide) ?_
      refine mw_callV (t_X9_put X l (0 : Int32) (S.1 1 1) (0 : Int32) S) cd_X9_put lk_RX9_46 im_X9_put se_X9_put in_RX9 de_X9_put ⟨rfl, rfl⟩ ⟨Nat.le_of_ble_eq_true rfl, Nat.le_of_ble_eq_true rfl⟩ (mKind_lt mk_1 (by decide)) (mCell_k mk_1) rfl rfl rfl rfl ⟨Nat.le_of_ble_eq_true rfl, Nat.le_of_ble_eq_true rfl⟩ (Nat.le_of_ble_eq_true rfl) dX9_split_54 (fun r1 S2 => ?_)
      refine mw_eq (st' := []) rfl rfl ?_
      exact mw_return dX9_split_57
    · refine mw_aload_n 0 dX9_split_15 rfl rfl ?_
      refine gf_RX9_9 mk_1 dX9_split_16 ?_
      refine mw_iload_n 1 dX9_split_19 rfl rfl ?_
      refine mw_baload mk_2 ml_2 dX9_split_20 ?_
      refine mw_bipush (v := (32 : Int32)) dX9_split_21 (by decide) ?_
      refine mw_icmp_ne (tgt := 30) dX9_split_23 (by decide) ?_ ?_
      · refine mw_iload_n 1 dX9_split_26 rfl rfl ?_
        refine mw_goto (tgt := 35) dX9_split_27 (by decide) ?_
        exact mw_sub [0, 1] rfl (w_X9_split_35 X l (f_X9_split_7 n) ih y1 y1 S)
      · refine mw_aload_n 0 dX9_split_30 rfl rfl ?_
        refine mw_iload_n 1 dX9_split_31 rfl rfl ?_
        refine mw_callV (t_X9_addToken X l y1 S) cd_X9_addToken lk_RX9_36 im_X9_addToken se_X9_addToken in_RX9 de_X9_addToken ⟨rfl, rfl⟩ ⟨Nat.le_of_ble_eq_true rfl, Nat.le_of_ble_eq_true rfl⟩ (mKind_lt mk_1 (by decide)) (mCell_k mk_1) rfl rfl rfl rfl ⟨Nat.le_of_ble_eq_true rfl, Nat.le_of_ble_eq_true rfl⟩ (Nat.le_of_ble_eq_true rfl) dX9_split_32 (fun r3 S4 => ?_)
        refine mw_eq (st' := [.int r3]) rfl rfl ?_
        exact mw_sub [0, 1] rfl (w_X9_split_35 X l (f_X9_split_7 n) ih y1 r3 S4)
def f_X9_split (S : mM) : Option (Unit × mM) :=
  bnd (setI S 1 5 (0 : Int32)) fun S1 =>
  f_X9_split_7 mFuel (0 : Int32) S1
set_option maxRecDepth 100000 in
set_option maxHeartbeats 4000000 in
theorem w_X9_split (X : mX) (l : Launch) (S : mM) : MW X viV rm_X9_split cX9_split RX9 3 none l S [(0, .ref (X.2.1 1))] [] 0 (f_X9_split  S) := by
  unfold f_X9_split
  refine mw_aload_n 0 dX9_split_0 rfl rfl ?_
  refine mw_iconst (v := (0 : Int32)) dX9_split_1 (by decide) ?_
  refine pf_RX9_33 mk_1 dX9_split_2 ?_
  refine mw_bndS (fun S1 => ?_)
  refine mw_iconst (v := (0 : Int32)) dX9_split_5 (by decide) ?_
  refine mw_istore_n (lv' := [(1, .int (0 : Int32)), (0, .ref (X.2.1 1))]) dX9_split_6 rfl (by decide) rfl ?_
  exact mw_sub [1, 0] rfl (w_X9_split_7 X l mFuel (0 : Int32) S1)
theorem t_X9_split (X : mX) (l : Launch) (S : mM) : mMet X viV yX9_split cX9_split 3 none rm_X9_split [.ref (X.2.1 1)] l S (f_X9_split  S) :=
  mMet_of (by decide +kernel) rfl (Nat.le_of_ble_eq_true rfl) (w_X9_split X l  S )
