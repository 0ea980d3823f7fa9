/-! TraceBench$Reader.refuse(I)Z -/
def f_X1_refuse (p1 : Int32) (S : mM) : Option (Int32 × mM) :=
  bnd (setI S 6 3 p1) fun S1 =>
  if (S1.1 1 5) ≤ (S1.1 6 1) then
    some ((0 : Int32), S1)
  else
    if 0 ≤ (S1.1 6 1) ∧ (S1.1 6 1).toNatClampNeg < 201 then
    (bnd (setI S1 6 4 (S1.1 4 (S1.1 6 1).toNatClampNeg)) fun S2 =>
    if 0 ≤ (S2.1 6 1) ∧ (S2.1 6 1).toNatClampNeg < 201 then
    (if (S2.1 3 (S2.1 6 1).toNatClampNeg) = (5 : Int32) then
      bnd (setI S2 6 3 (1 : Int32)) fun S3 =>
      some ((0 : Int32), S3)
    else
      some ((0 : Int32), S2))
    else none)
    else none
set_option maxRecDepth 100000 in
set_option maxHeartbeats 4000000 in
theorem w_X1_refuse (X : mX) (l : Launch) (p1 : Int32) (S : mM) : MW X viI rm_X1_refuse cX1_refuse RX1 2 (some .boolean) l S [(0, .ref (X.2.1 6)), (1, .int p1)] [] 0 (f_X1_refuse p1 S) := by
  unfold f_X1_refuse
  refine mw_aload_n 0 dX1_refuse_0 rfl rfl ?_
  refine mw_iload_n 1 dX1_refuse_1 rfl rfl ?_
  refine pf_RX1_15 mk_6 dX1_refuse_2 ?_
  refine mw_bndS (fun S1 => ?_)
  refine mw_aload_n 0 dX1_refuse_5 rfl rfl ?_
  refine gf_RX1_22 mk_6 dX1_refuse_6 ?_
  refine mw_aload_n 0 dX1_refuse_9 rfl rfl ?_
  refine gf_RX1_9 mk_6 dX1_refuse_10 ?_
  refine gf_RX1_96 mk_1 dX1_refuse_13 ?_
  refine mw_icmp_ge (tgt := 56) dX1_refuse_16 (by decide) ?_ ?_
  · refine mw_iconst (v := (0 : Int32)) dX1_refuse_56 (by decide) ?_
    exact mw_zret (by decide) dX1_refuse_57
  · refine mw_aload_n 0 dX1_refuse_19 rfl rfl ?_
    refine mw_aload_n 0 dX1_refuse_20 rfl rfl ?_
    refine gf_RX1_9 mk_6 dX1_refuse_21 ?_
    refine gf_RX1_109 mk_1 dX1_refuse_24 ?_
    refine mw_aload_n 0 dX1_refuse_27 rfl rfl ?_
    refine gf_RX1_22 mk_6 dX1_refuse_28 ?_
    refine mw_iaload mk_4 ml_4 dX1_refuse_31 ?_
    refine pf_RX1_19 mk_6 dX1_refuse_32 ?_
    refine mw_bndS (fun S2 => ?_)
    refine mw_aload_n 0 dX1_refuse_35 rfl rfl ?_
    refine gf_RX1_9 mk_6 dX1_refuse_36 ?_
    refine gf_RX1_99 mk_1 dX1_refuse_39 ?_
    refine mw_aload_n 0 dX1_refuse_42 rfl rfl ?_
    refine gf_RX1_22 mk_6 dX1_refuse_43 ?_
    refine mw_iaload mk_3 ml_3 dX1_refuse_46 ?_
    refine mw_iconst (v := (5 : Int32)) dX1_refuse_47 (by decide) ?_
    refine mw_icmp_ne (tgt := 56) dX1_refuse_48 (by decide) ?_ ?_
    · refine mw_aload_n 0 dX1_refuse_51 rfl rfl ?_
      refine mw_iconst (v := (1 : Int32)) dX1_refuse_52 (by decide) ?_
      refine pf_RX1_15 mk_6 dX1_refuse_53 ?_
      refine mw_bndS (fun S3 => ?_)
      refine mw_iconst (v := (0 : Int32)) dX1_refuse_56 (by decide) ?_
      exact mw_zret (by decide) dX1_refuse_57
    · refine mw_iconst (v := (0 : Int32)) dX1_refuse_56 (by decide) ?_
      exact mw_zret (by decide) dX1_refuse_57
theorem t_X1_refuse (X : mX) (l : Launch) (p1 : Int32) (S : mM) : mMet X viI yX1_refuse cX1_refuse 2 (some .boolean) rm_X1_refuse [.ref (X.2.1 6), .int p1] l S (f_X1_refuse p1 S) :=
  mMet_of (by decide +kernel) rfl (Nat.le_of_ble_eq_true rfl) (w_X1_refuse X l p1 S )
/-! TraceBench$Reader.sees(I)Z -/
def f_X1_sees (p1 : Int32) (S : mM) : Option (Int32 × mM) :=
  if (S.1 1 5) ≤ (S.1 6 1) then
    some ((0 : Int32), S)
  else
    if 0 ≤ (S.1 6 1) ∧ (S.1 6 1).toNatClampNeg < 201 then
    (if (S.1 3 (S.1 6 1).toNatClampNeg) = p1 then
      some ((1 : Int32), S)
    else
      some ((0 : Int32), S))
    else none
set_option maxRecDepth 100000 in
set_option maxHeartbeats 4000000 in
theorem w_X1_sees (X : mX) (l : Launch) (p1 : Int32) (S : mM) : MW X viI rm_X1_sees cX1_sees RX1 2 (some .boolean) l S [(0, .ref (X.2.1 6)), (1, .int p1)] [] 0 (f_X1_sees p1 S) := by
  unfold f_X1_sees
  refine mw_aload_n 0 dX1_sees_0 rfl rfl ?_
  refine gf_RX1_22 mk_6 dX1_sees_1 ?_
  refine mw_aload_n 0 dX1_sees_4 rfl rfl ?_
  refine gf_RX1_9 mk_6 dX1_sees_5 ?_
  refine gf_RX1_96 mk_1 dX1_sees_8 ?_
  refine mw_icmp_ge (tgt := 34) dX1_sees_11 (by decide) ?_ ?_
  · refine mw_iconst (v := (0 : Int32)) dX1_sees_34 (by decide) ?_
    exact mw_zret (by decide) dX1_sees_35
  · refine mw_aload_n 0 dX1_sees_14 rfl rfl ?_
    refine gf_RX1_9 mk_6 dX1_sees_15 ?_
    refine gf_RX1_99 mk_1 dX1_sees_18 ?_
    refine mw_aload_n 0 dX1_sees_21 rfl rfl ?_
    refine gf_RX1_22 mk_6 dX1_sees_22 ?_
    refine mw_iaload mk_3 ml_3 dX1_sees_25 ?_
    refine mw_iload_n 1 dX1_sees_26 rfl rfl ?_
    refine mw_icmp_ne (tgt := 34) dX1_sees_27 (by decide) ?_ ?_
    · refine mw_iconst (v := (1 : Int32)) dX1_sees_30 (by decide) ?_
      refine mw_goto (tgt := 35) dX1_sees_31 (by decide) ?_
      exact mw_zret (by decide) dX1_sees_35
    · refine mw_iconst (v := (0 : Int32)) dX1_sees_34 (by decide) ?_
      exact mw_zret (by decide) dX1_sees_35
theorem t_X1_sees (X : mX) (l : Launch) (p1 : Int32) (S : mM) : mMet X viI yX1_sees cX1_sees 2 (some .boolean) rm_X1_sees [.ref (X.2.1 6), .int p1] l S (f_X1_sees p1 S) :=
  mMet_of (by decide +kernel) rfl (Nat.le_of_ble_eq_true rfl) (w_X1_sees X l p1 S )
/-! TraceBench$Reader.takeNumber(III)Z -/
def f_X1_takeNumber (p1 : Int32) (p2 : Int32) (p3 : Int32) (S : mM) : Option (Int32 × mM) :=
  mBind (f_X1_sees (2 : Int32) S) fun r1 S2 =>
  if r1 = 0 then
    mBind (f_X1_refuse (2 : Int32) S2) fun r3 S4 =>
    if r3 = 0 ∨ r3 = 1 then some (r3, S4) else none
  else
    if 0 ≤ (S2.1 6 1) ∧ (S2.1 6 1).toNatClampNeg < 201 then
    (bnd (S2.1 5 (S2.1 6 1).toNatClampNeg) fun x5 =>
    mBind (f_X11_isIn x5 p1 p2 S2) fun r6 S7 =>
    if r6 = 0 then
      mBind (f_X1_refuse (3 : Int32) S7) fun r8 S9 =>
      if r8 = 0 ∨ r8 = 1 then some (r8, S9) else none
    else
      if p3 < x5 then
        bnd (setI S7 6 2 x5) fun S10 =>
        bnd (setI S10 6 1 ((S10.1 6 1) + (1 : Int32))) fun S11 =>
        some ((1 : Int32), S11)
      else
        mBind (f_X1_refuse (5 : Int32) S7) fun r12 S13 =>
        if r12 = 0 ∨ r12 = 1 then some (r12, S13) else none)
    else none
set_option maxRecDepth 100000 in
set_option maxHeartbeats 4000000 in
theorem w_X1_takeNumber (X : mX) (l : Launch) (p1 : Int32) (p2 : Int32) (p3 : Int32) (S : mM) : MW X viI rm_X1_takeNumber cX1_takeNumber RX1 5 (some .boolean) l S [(0, .ref (X.2.1 6)), (1, .int p1), (2, .int p2), (3, .int p3)] [] 0 (f_X1_takeNumber p1 p2 p3 S) := by
  unfold f_X1_takeNumber
  refine mw_aload_n 0 dX1_takeNumber_0 rfl rfl ?_
  refine mw_iconst (v := (2 : Int32)) dX1_takeNumber_1 (by decide) ?_
  refine mw_callV (t_X1_sees X l (2 : Int32) S) cd_X1_sees lk_RX1_40 im_X1_sees se_X1_sees in_RX1 de_X1_sees ⟨rfl, rfl⟩ ⟨Nat.le_of_ble_eq_true rfl, Nat.le_of_ble_eq_true rfl⟩ (mKind_lt mk_6 (by decide)) (mCell_k mk_6) rfl rfl rfl rfl ⟨Nat.le_of_ble_eq_true rfl, Nat.le_of_ble_eq_true rfl⟩ (Nat.le_of_ble_eq_true rfl) dX1_takeNumber_2 (fun r1 S2 => ?_)
  refine mw_eq (st' := [.int r1]) rfl rfl ?_
  refine mw_if_ne (tgt := 14) dX1_takeNumber_5 (by decide) ?_ ?_
  · refine mw_aload_n 0 dX1_takeNumber_8 rfl rfl ?_
    refine mw_iconst (v := (2 : Int32)) dX1_takeNumber_9 (by decide) ?_
    refine mw_callV (t_X1_refuse X l (2 : Int32) S2) cd_X1_refuse lk_RX1_47 im_X1_refuse se_X1_refuse in_RX1 de_X1_refuse ⟨rfl, rfl⟩ ⟨Nat.le_of_ble_eq_true rfl, Nat.le_of_ble_eq_true rfl⟩ (mKind_lt mk_6 (by decide)) (mCell_k mk_6) rfl rfl rfl rfl ⟨Nat.le_of_ble_eq_true rfl, Nat.le_of_ble_eq_true rfl⟩ (Nat.le_of_ble_eq_true rfl) dX1_takeNumber_10 (fun r3 S4 => ?_)
    refine mw_eq (st' := [.int r3]) rfl rfl ?_
    exact mw_zreturn dX1_takeNumber_13
  · refine mw_aload_n 0 dX1_takeNumber_14 rfl rfl ?_
    refine gf_RX1_9 mk_6 dX1_takeNumber_15 ?_
    refine gf_RX1_103 mk_1 dX1_takeNumber_18 ?_
    refine mw_aload_n 0 dX1_takeNumber_21 rfl rfl ?_
    refine gf_RX1_22 mk_6 dX1_takeNumber_22 ?_
    refine mw_iaload mk_5 ml_5 dX1_takeNumber_25 ?_
    refine mw_bndI (fun x5 => ?_)
    refine mw_istore (lv' := [(4, .int x5), (0, .ref (X.2.1 6)), (1, .int p1), (2, .int p2), (3, .int p3)]) dX1_takeNumber_26 (by decide) rfl ?_
    refine mw_iload 0 dX1_takeNumber_28 rfl ?_
    refine mw_iload_n 2 dX1_takeNumber_30 rfl rfl ?_
    refine mw_iload_n 3 dX1_takeNumber_31 rfl rfl ?_
    refine mw_callSN (t_X11_isIn X l x5 p1 p2 S2) cd_X11_isIn lk_RX1_106 sn_X11_isIn in_RX11 de_X11_isIn ⟨rfl, rfl⟩ ⟨Nat.le_of_ble_eq_true rfl, Nat.le_of_ble_eq_true rfl⟩ rfl rfl ⟨Nat.le_of_ble_eq_true rfl, Nat.le_of_ble_eq_true rfl⟩ (Nat.le_of_ble_eq_true rfl) dX1_takeNumber_32 (fun r6 S7 => ?_)
    refine mw_eq (st' := [.int r6]) rfl rfl ?_
    refine mw_if_ne (tgt := 44) dX1_takeNumber_35 (by decide) ?_ ?_
    · refine mw_aload_n 1 dX1_takeNumber_38 rfl rfl ?_
      refine mw_iconst (v := (3 : Int32)) dX1_takeNumber_39 (by decide) ?_
      refine mw_callV (t_X1_refuse X l (3 : Int32) S7) cd_X1_refuse lk_RX1_47 im_X1_refuse se_X1_refuse in_RX1 de_X1_refuse ⟨rfl, rfl⟩ ⟨Nat.le_of_ble_eq_true rfl, Nat.le_of_ble_eq_true rfl⟩ (mKind_lt mk_6 (by decide)) (mCell_k mk_6) rfl rfl rfl rfl ⟨Nat.le_of_ble_eq_true rfl, Nat.le_of_ble_eq_true rfl⟩ (Nat.le_of_ble_eq_true rfl) dX1_takeNumber_40 (fun r8 S9 => ?_)
      refine mw_eq (st' := [.int r8]) rfl rfl ?_
      exact mw_zreturn dX1_takeNumber_43
    · refine mw_iload 0 dX1_takeNumber_44 rfl ?_
      refine mw_iload_n 4 dX1_takeNumber_46 rfl rfl ?_
      refine mw_icmp_gt (tgt := 56) dX1_takeNumber_47 (by decide) ?_ ?_
      · refine mw_aload_n 1 dX1_takeNumber_56 rfl rfl ?_
        refine mw_iload 0 dX1_takeNumber_57 rfl ?_
        refine pf_RX1_59 mk_6 dX1_takeNumber_59 ?_
        refine mw_bndS (fun S10 => ?_)
        refine mw_aload_n 1 dX1_takeNumber_62 rfl rfl ?_
        refine mw_dup dX1_takeNumber_63 rfl ?_
        refine gf_RX1_22 mk_6 dX1_takeNumber_64 ?_
        refine mw_iconst (v := (1 : Int32)) dX1_takeNumber_67 (by decide) ?_
        refine mw_iadd dX1_takeNumber_68 ?_
        refine pf_RX1_22 mk_6 dX1_takeNumber_69 ?_
        refine mw_bndS (fun S11 => ?_)
        refine mw_iconst (v := (1 : Int32)) dX1_takeNumber_72 (by decide) ?_
        exact mw_zret (by decide) dX1_takeNumber_73
      · refine mw_aload_n 1 dX1_takeNumber_50 rfl rfl ?_
        refine mw_iconst (v := (5 : Int32)) dX1_takeNumber_51 (by decide) ?_
        refine mw_callV (t_X1_refuse X l (5 : Int32) S7) cd_X1_refuse lk_RX1_47 im_X1_refuse se_X1_refuse in_RX1 de_X1_refuse ⟨rfl, rfl⟩ ⟨Nat.le_of_ble_eq_true rfl, Nat.le_of_ble_eq_true rfl⟩ (mKind_lt mk_6 (by decide)) (mCell_k mk_6) rfl rfl rfl rfl ⟨Nat.le_of_ble_eq_true rfl, Nat.le_of_ble_eq_true rfl⟩ (Nat.le_of_ble_eq_true rfl) dX1_takeNumber_52 (fun r12 S13 => ?_)
        refine mw_eq (st' := [.int r12]) rfl rfl ?_
        exact mw_zreturn dX1_takeNumber_55
theorem t_X1_takeNumber (X : mX) (l : Launch) (p1 : Int32) (p2 : Int32) (p3 : Int32) (S : mM) : mMet X viI yX1_takeNumber cX1_takeNumber 5 (some .boolean) rm_X1_takeNumber [.ref (X.2.1 6), .int p1, .int p2, .int p3] l S (f_X1_takeNumber p1 p2 p3 S) :=
  mMet_of (by decide +kernel) rfl (Nat.le_of_ble_eq_true rfl) (w_X1_takeNumber X l p1 p2 p3 S )
/-! TraceBench$Reader.readThird(LTraceBench$Stage;)Z -/
def f_X1_readThird (p1 : Nat) (S : mM) : Option (Int32 × mM) :=
  if (S.1 p1 0) = (2 : Int32) then
    mBind (f_X1_takeNumber (1 : Int32) (200 : Int32) (-1000 : Int32) S) fun r2 S3 =>
    bnd (setI S3 p1 7 (S3.1 6 2)) fun S4 =>
    if r2 = 0 ∨ r2 = 1 then some (r2, S4) else none
  else
    if (S.1 p1 0) = (3 : Int32) then
      mBind (f_X1_takeNumber (1 : Int32) (200 : Int32) (-1000 : Int32) S) fun r6 S7 =>
      bnd (setI S7 p1 7 (S7.1 6 2)) fun S8 =>
      if r6 = 0 ∨ r6 = 1 then some (r6, S8) else none
    else
      if (S.1 p1 0) = (4 : Int32) then
        mBind (f_X1_takeNumber (-128 : Int32) (127 : Int32) (S.1 p1 5) S) fun r10 S11 =>
        bnd (setI S11 p1 6 (S11.1 6 2)) fun S12 =>
        if r10 = 0 ∨ r10 = 1 then some (r10, S12) else none
      else
        if (S.1 p1 0) = (5 : Int32) then
          mBind (f_X1_takeNumber (-128 : Int32) (127 : Int32) (S.1 p1 5) S) fun r14 S15 =>
          bnd (setI S15 p1 6 (S15.1 6 2)) fun S16 =>
          if r14 = 0 ∨ r14 = 1 then some (r14, S16) else none
        else
          if (S.1 p1 0) = (6 : Int32) then
            mBind (f_X1_takeNumber (-128 : Int32) (127 : Int32) (S.1 p1 5) S) fun r18 S19 =>
            bnd (setI S19 p1 6 (S19.1 6 2)) fun S20 =>
            if r18 = 0 ∨ r18 = 1 then some (r18, S20) else none
          else
            some ((1 : Int32), S)
set_option maxRecDepth 100000 in
set_option maxHeartbeats 4000000 in
theorem w_X1_readThird (X : mX) (l : Launch) (p1 : Nat) (S : mM) (hp1 : mKind p1 = 7) : MW X viI rm_X1_readThird cX1_readThird RX1 3 (some .boolean) l S [(0, .ref (X.2.1 6)), (1, .ref (X.2.1 p1))] [] 0 (f_X1_readThird p1 S) := by
  unfold f_X1_readThird
  refine mw_iconst (v := (1 : Int32)) dX1_readThird_0 (by decide) ?_
  refine mw_istore_n (lv' := [(2, .int (1 : Int32)), (0, .ref (X.2.1 6)), (1, .ref (X.2.1 p1))]) dX1_readThird_1 rfl (by decide) rfl ?_
  refine mw_aload_n 2 dX1_readThird_2 rfl rfl ?_
  refine gf_RX1_66 hp1 dX1_readThird_3 ?_
  refine mw_ite (fun h1 => ?_) (fun h1 => ?_)
  · refine mw_tab (tgt := 40) h1 dX1_readThird_6 (by decide) (by decide) rfl (by decide) ?_
    refine mw_aload_n 1 dX1_readThird_40 rfl rfl ?_
    refine mw_iconst (v := (1 : Int32)) dX1_readThird_41 (by decide) ?_
    refine mw_sipush (v := (200 : Int32)) dX1_readThird_42 (by decide) ?_
    refine mw_sipush (v := (-1000 : Int32)) dX1_readThird_45 (by decide) ?_
    refine mw_callV (t_X1_takeNumber X l (1 : Int32) (200 : Int32) (-1000 : Int32) S) cd_X1_takeNumber lk_RX1_55 im_X1_takeNumber se_X1_takeNumber in_RX1 de_X1_takeNumber ⟨rfl, rfl⟩ ⟨Nat.le_of_ble_eq_true rfl, Nat.le_of_ble_eq_true rfl⟩ (mKind_lt mk_6 (by decide)) (mCell_k mk_6) rfl rfl rfl rfl ⟨Nat.le_of_ble_eq_true rfl, Nat.le_of_ble_eq_true rfl⟩ (Nat.le_of_ble_eq_true rfl) dX1_readThird_48 (fun r2 S3 => ?_)
    refine mw_eq (st' := [.int r2]) rfl rfl ?_
    refine mw_istore_n (lv' := [(2, .int r2), (0, .ref (X.2.1 6)), (1, .ref (X.2.1 p1))]) dX1_readThird_51 rfl (by decide) rfl ?_
    refine mw_aload_n 2 dX1_readThird_52 rfl rfl ?_
    refine mw_aload_n 1 dX1_readThird_53 rfl rfl ?_
    refine gf_RX1_59 mk_6 dX1_readThird_54 ?_
    refine pf_RX1_87 hp1 dX1_readThird_57 ?_
    refine mw_bndS (fun S4 => ?_)
    refine mw_goto (tgt := 87) dX1_readThird_60 (by decide) ?_
    refine mw_iload_n 0 dX1_readThird_87 rfl rfl ?_
    exact mw_zreturn dX1_readThird_88
  · refine mw_ite (fun h5 => ?_) (fun h5 => ?_)
    · refine mw_tab (tgt := 40) h5 dX1_readThird_6 (by decide) (by decide) rfl (by decide) ?_
      refine mw_aload_n 1 dX1_readThird_40 rfl rfl ?_
      refine mw_iconst (v := (1 : Int32)) dX1_readThird_41 (by decide) ?_
      refine mw_sipush (v := (200 : Int32)) dX1_readThird_42 (by decide) ?_
      refine mw_sipush (v := (-1000 : Int32)) dX1_readThird_45 (by decide) ?_
      refine mw_callV (t_X1_takeNumber X l (1 : Int32) (200 : Int32) (-1000 : Int32) S) cd_X1_takeNumber lk_RX1_55 im_X1_takeNumber se_X1_takeNumber in_RX1 de_X1_takeNumber ⟨rfl, rfl⟩ ⟨Nat.le_of_ble_eq_true rfl, Nat.le_of_ble_eq_true rfl⟩ (mKind_lt mk_6 (by decide)) (mCell_k mk_6) rfl rfl rfl rfl ⟨Nat.le_of_ble_eq_true rfl, Nat.le_of_ble_eq_true rfl⟩ (Nat.le_of_ble_eq_true rfl) dX1_readThird_48 (fun r6 S7 => ?_)
      refine mw_eq (st' := [.int r6]) rfl rfl ?_
      refine mw_istore_n (lv' := [(2, .int r6), (0, .ref (X.2.1 6)), (1, .ref (X.2.1 p1))]) dX1_readThird_51 rfl (by decide) rfl ?_
      refine mw_aload_n 2 dX1_readThird_52 rfl rfl ?_
      refine mw_aload_n 1 dX1_readThird_53 rfl rfl ?_
      refine gf_RX1_59 mk_6 dX1_readThird_54 ?_
      refine pf_RX1_87 hp1 dX1_readThird_57 ?_
      refine mw_bndS (fun S8 => ?_)
      refine mw_goto (tgt := 87) dX1_readThird_60 (by decide) ?_
      refine mw_iload_n 0 dX1_readThird_87 rfl rfl ?_
      exact mw_zreturn dX1_readThird_88
    · refine mw_ite (fun h9 => ?_) (fun h9 => ?_)
      · refine mw_tab (tgt := 63) h9 dX1_readThird_6 (by decide) (by decide) rfl (by decide) ?_
        refine mw_aload_n 1 dX1_readThird_63 rfl rfl ?_
        refine mw_bipush (v := (-128 : Int32)) dX1_readThird_64 (by decide) ?_
        refine mw_bipush (v := (127 : Int32)) dX1_readThird_66 (by decide) ?_
        refine mw_aload_n 2 dX1_readThird_68 rfl rfl ?_
        refine gf_RX1_81 hp1 dX1_readThird_69 ?_
        refine mw_callV (t_X1_takeNumber X l (-128 : Int32) (127 : Int32) (S.1 p1 5) S) cd_X1_takeNumber lk_RX1_55 im_X1_takeNumber se_X1_takeNumber in_RX1 de_X1_takeNumber ⟨rfl, rfl⟩ ⟨Nat.le_of_ble_eq_true rfl, Nat.le_of_ble_eq_true rfl⟩ (mKind_lt mk_6 (by decide)) (mCell_k mk_6) rfl rfl rfl rfl ⟨Nat.le_of_ble_eq_true rfl, Nat.le_of_ble_eq_true rfl⟩ (Nat.le_of_ble_eq_true rfl) dX1_readThird_72 (fun r10 S11 => ?_)
        refine mw_eq (st' := [.int r10]) rfl rfl ?_
        refine mw_istore_n (lv' := [(2, .int r10), (0, .ref (X.2.1 6)), (1, .ref (X.2.1 p1))]) dX1_readThird_75 rfl (by decide) rfl ?_
        refine mw_aload_n 2 dX1_readThird_76 rfl rfl ?_
        refine mw_aload_n 1 dX1_readThird_77 rfl rfl ?_
        refine gf_RX1_59 mk_6 dX1_readThird_78 ?_
        refine pf_RX1_90 hp1 dX1_readThird_81 ?_
        refine mw_bndS (fun S12 => ?_)
        refine mw_goto (tgt := 87) dX1_readThird_84 (by decide) ?_
        refine mw_iload_n 0 dX1_readThird_87 rfl rfl ?_
        exact mw_zreturn dX1_readThird_88
      · refine mw_ite (fun h13 => ?_) (fun h13 => ?_)
        · refine mw_tab (tgt := 63) h13 dX1_readThird_6 (by decide) (by decide) rfl (by decide) ?_
          refine mw_aload_n 1 dX1_readThird_63 rfl rfl ?_
          refine mw_bipush (v := (-128 : Int32)) dX1_readThird_64 (by decide) ?_
          refine mw_bipush (v := (127 : Int32)) dX1_readThird_66 (by decide) ?_
          refine mw_aload_n 2 dX1_readThird_68 rfl rfl ?_
          refine gf_RX1_81 hp1 dX1_readThird_69 ?_
          refine mw_callV (t_X1_takeNumber X l (-128 : Int32) (127 : Int32) (S.1 p1 5) S) cd_X1_takeNumber lk_RX1_55 im_X1_takeNumber se_X1_takeNumber in_RX1 de_X1_takeNumber ⟨rfl, rfl⟩ ⟨Nat.le_of_ble_eq_true rfl, Nat.le_of_ble_eq_true rfl⟩ (mKind_lt mk_6 (by decide)) (mCell_k mk_6) rfl rfl rfl rfl ⟨Nat.le_of_ble_eq_true rfl, Nat.le_of_ble_eq_true rfl⟩ (Nat.le_of_ble_eq_true rfl) dX1_readThird_72 (fun r14 S15 => ?_)
          refine mw_eq (st' := [.int r14]) rfl rfl ?_
          refine mw_istore_n (lv' := [(2, .int r14), (0, .ref (X.2.1 6)), (1, .ref (X.2.1 p1))]) dX1_readThird_75 rfl (by decide) rfl ?_
          refine mw_aload_n 2 dX1_readThird_76 rfl rfl ?_
          refine mw_aload_n 1 dX1_readThird_77 rfl rfl ?_
          refine gf_RX1_59 mk_6 dX1_readThird_78 ?_
          refine pf_RX1_90 hp1 dX1_readThird_81 ?_
          refine mw_bndS (fun S16 => ?_)
          refine mw_goto (tgt := 87) dX1_readThird_84 (by decide) ?_
          refine mw_iload_n 0 dX1_readThird_87 rfl rfl ?_
          exact mw_zreturn dX1_readThird_88
        · refine mw_ite (fun h17 => ?_) (fun h17 => ?_)
          · refine mw_tab (tgt := 63) h17 dX1_readThird_6 (by decide) (by decide) rfl (by decide) ?_
            refine mw_aload_n 1 dX1_readThird_63 rfl rfl ?_
            refine mw_bipush (v := (-128 : Int32)) dX1_readThird_64 (by decide) ?_
            refine mw_bipush (v := (127 : Int32)) dX1_readThird_66 (by decide) ?_
            refine mw_aload_n 2 dX1_readThird_68 rfl rfl ?_
            refine gf_RX1_81 hp1 dX1_readThird_69 ?_
            refine mw_callV (t_X1_takeNumber X l (-128 : Int32) (127 : Int32) (S.1 p1 5) S) cd_X1_takeNumber lk_RX1_55 im_X1_takeNumber se_X1_takeNumber in_RX1 de_X1_takeNumber ⟨rfl, rfl⟩ ⟨Nat.le_of_ble_eq_true rfl, Nat.le_of_ble_eq_true rfl⟩ (mKind_lt mk_6 (by decide)) (mCell_k mk_6) rfl rfl rfl rfl ⟨Nat.le_of_ble_eq_true rfl, Nat.le_of_ble_eq_true rfl⟩ (Nat.le_of_ble_eq_true rfl) dX1_readThird_72 (fun r18 S19 => ?_)
            refine mw_eq (st' := [.int r18]) rfl rfl ?_
            refine mw_istore_n (lv' := [(2, .int r18), (0, .ref (X.2.1 6)), (1, .ref (X.2.1 p1))]) dX1_readThird_75 rfl (by decide) rfl ?_
            refine mw_aload_n 2 dX1_readThird_76 rfl rfl ?_
            refine mw_aload_n 1 dX1_readThird_77 rfl rfl ?_
            refine gf_RX1_59 mk_6 dX1_readThird_78 ?_
            refine pf_RX1_90 hp1 dX1_readThird_81 ?_
            refine mw_bndS (fun S20 => ?_)
            refine mw_goto (tgt := 87) dX1_readThird_84 (by decide) ?_
            refine mw_iload_n 0 dX1_readThird_87 rfl rfl ?_
            exact mw_zreturn dX1_readThird_88
          · refine mw_tabD (tgt := 87) dX1_readThird_6 (by have eh1 : ¬ (S.1 p1 0).toInt = 2 := fun q => h1 (Int32.toInt_inj.mp (q.trans (by decide))); have eh5 : ¬ (S.1 p1 0).toInt = 3 := fun q => h5 (Int32.toInt_inj.mp (q.trans (by decide))); have eh9 : ¬ (S.1 p1 0).toInt = 4 := fun q => h9 (Int32.toInt_inj.mp (q.trans (by decide))); have eh13 : ¬ (S.1 p1 0).toInt = 5 := fun q => h13 (Int32.toInt_inj.mp (q.trans (by decide))); have eh17 : ¬ (S.1 p1 0).toInt = 6 := fun q => h17 (Int32.toInt_inj.mp (q.trans (by decide))); omega) (by decide) ?_
            refine mw_iload_n 0 dX1_readThird_87 rfl rfl ?_
            exact mw_zret (by decide) dX1_readThird_88
theorem t_X1_readThird (X : mX) (l : Launch) (p1 : Nat) (S : mM) (hp1 : mKind p1 = 7) : mMet X viI yX1_readThird cX1_readThird 3 (some .boolean) rm_X1_readThird [.ref (X.2.1 6), .ref (X.2.1 p1)] l S (f_X1_readThird p1 S) :=
  mMet_of (by decide +kernel) rfl (Nat.le_of_ble_eq_true rfl) (w_X1_readThird X l p1 S hp1)
/-! TraceBench$Reader.readOperands(LTraceBench$Stage;)Z -/
def f_X1_readOperands_54 (y1 : Nat) (z0 : Int32) (S : mM) : Option (Int32 × mM) :=
  bnd (setI S y1 4 (S.1 6 2)) fun S1 =>
  bnd (setI S1 y1 5 (S1.1 6 2)) fun S2 =>
  if z0 = 0 then
    some ((0 : Int32), S2)
  else
    mBind (f_X1_readThird y1 S2) fun r3 S4 =>
    if r3 = 0 then
      some ((0 : Int32), S4)
    else
      some ((1 : Int32), S4)
set_option maxRecDepth 100000 in
set_option maxHeartbeats 4000000 in
theorem w_X1_readOperands_54 (X : mX) (l : Launch) (y1 : Nat) (z0 : Int32) (S : mM) (hy1 : mKind y1 = 7) : MW X viI rm_X1_readOperands cX1_readOperands RX1 3 (some .boolean) l S [(0, .ref (X.2.1 6)), (1, .ref (X.2.1 y1))] [.int z0] 54 (f_X1_readOperands_54 y1 z0 S) := by
  unfold f_X1_readOperands_54
  refine mw_istore_n (lv' := [(2, .int z0), (0, .ref (X.2.1 6)), (1, .ref (X.2.1 y1))]) dX1_readOperands_54 rfl (by decide) rfl ?_
  refine mw_aload_n 2 dX1_readOperands_55 rfl rfl ?_
  refine mw_aload_n 1 dX1_readOperands_56 rfl rfl ?_
  refine gf_RX1_59 mk_6 dX1_readOperands_57 ?_
  refine pf_RX1_78 hy1 dX1_readOperands_60 ?_
  refine mw_bndS (fun S1 => ?_)
  refine mw_aload_n 2 dX1_readOperands_63 rfl rfl ?_
  refine mw_aload_n 1 dX1_readOperands_64 rfl rfl ?_
  refine gf_RX1_59 mk_6 dX1_readOperands_65 ?_
  refine pf_RX1_81 hy1 dX1_readOperands_68 ?_
  refine mw_bndS (fun S2 => ?_)
  refine mw_iload_n 0 dX1_readOperands_71 rfl rfl ?_
  refine mw_if_eq (tgt := 87) dX1_readOperands_72 (by decide) ?_ ?_
  · refine mw_iconst (v := (0 : Int32)) dX1_readOperands_87 (by decide) ?_
    exact mw_zret (by decide) dX1_readOperands_88
  · refine mw_aload_n 1 dX1_readOperands_75 rfl rfl ?_
    refine mw_aload_n 2 dX1_readOperands_76 rfl rfl ?_
    refine mw_callV (t_X1_readThird X l y1 S2 hy1) cd_X1_readThird lk_RX1_84 im_X1_readThird se_X1_readThird in_RX1 de_X1_readThird ⟨rfl, rfl⟩ ⟨Nat.le_of_ble_eq_true rfl, Nat.le_of_ble_eq_true rfl⟩ (mKind_lt mk_6 (by decide)) (mCell_k mk_6) rfl rfl rfl rfl ⟨Nat.le_of_ble_eq_true rfl, Nat.le_of_ble_eq_true rfl⟩ (Nat.le_of_ble_eq_true rfl) dX1_readOperands_77 (fun r3 S4 => ?_)
    refine mw_eq (st' := [.int r3]) rfl rfl ?_
    refine mw_if_eq (tgt := 87) dX1_readOperands_80 (by decide) ?_ ?_
    · refine mw_iconst (v := (0 : Int32)) dX1_readOperands_87 (by decide) ?_
      exact mw_zret (by decide) dX1_readOperands_88
    · refine mw_iconst (v := (1 : Int32)) dX1_readOperands_83 (by decide) ?_
      refine mw_goto (tgt := 88) dX1_readOperands_84 (by decide) ?_
      exact mw_zret (by decide) dX1_readOperands_88
def f_X1_readOperands (p1 : Nat) (S : mM) : Option (Int32 × mM) :=
  mBind (f_X1_takeNumber (0 : Int32) (3 : Int32) (-1000 : Int32) S) fun r1 S2 =>
  if r1 = 0 then
    some ((0 : Int32), S2)
  else
    bnd (setI S2 p1 3 (S2.1 6 2)) fun S3 =>
    if (S3.1 p1 0) = (7 : Int32) then
      mBind (f_X1_takeNumber (0 : Int32) (3 : Int32) (-1000 : Int32) S3) fun r4 S5 =>
      f_X1_readOperands_54 p1 r4 S5
    else
      mBind (f_X1_takeNumber (-128 : Int32) (127 : Int32) (-1000 : Int32) S3) fun r6 S7 =>
      f_X1_readOperands_54 p1 r6 S7
set_option maxRecDepth 100000 in
set_option maxHeartbeats 4000000 in
theorem w_X1_readOperands (X : mX) (l : Launch) (p1 : Nat) (S : mM) (hp1 : mKind p1 = 7) : MW X viI rm_X1_readOperands cX1_readOperands RX1 3 (some .boolean) l S [(0, .ref (X.2.1 6)), (1, .ref (X.2.1 p1))] [] 0 (f_X1_readOperands p1 S) := by
  unfold f_X1_readOperands
  refine mw_aload_n 0 dX1_readOperands_0 rfl rfl ?_
  refine mw_iconst (v := (0 : Int32)) dX1_readOperands_1 (by decide) ?_
  refine mw_iconst (v := (3 : Int32)) dX1_readOperands_2 (by decide) ?_
  refine mw_sipush (v := (-1000 : Int32)) dX1_readOperands_3 (by decide) ?_
  refine mw_callV (t_X1_takeNumber X l (0 : Int32) (3 : Int32) (-1000 : Int32) S) cd_X1_takeNumber lk_RX1_55 im_X1_takeNumber se_X1_takeNumber in_RX1 de_X1_takeNumber ⟨rfl, rfl⟩ ⟨Nat.le_of_ble_eq_true rfl, Nat.le_of_ble_eq_true rfl⟩ (mKind_lt mk_6 (by decide)) (mCell_k mk_6) rfl rfl rfl rfl ⟨Nat.le_of_ble_eq_true rfl, Nat.le_of_ble_eq_true rfl⟩ (Nat.le_of_ble_eq_true rfl) dX1_readOperands_6 (fun r1 S2 => ?_)
  refine mw_eq (st' := [.int r1]) rfl rfl ?_
  refine mw_if_ne (tgt := 14) dX1_readOperands_9 (by decide) ?_ ?_
  · refine mw_iconst (v := (0 : Int32)) dX1_readOperands_12 (by decide) ?_
    exact mw_zret (by decide) dX1_readOperands_13
  · refine mw_aload_n 1 dX1_readOperands_14 rfl rfl ?_
    refine mw_aload_n 0 dX1_readOperands_15 rfl rfl ?_
    refine gf_RX1_59 mk_6 dX1_readOperands_16 ?_
    refine pf_RX1_75 hp1 dX1_readOperands_19 ?_
    refine mw_bndS (fun S3 => ?_)
    refine mw_aload_n 1 dX1_readOperands_22 rfl rfl ?_
    refine gf_RX1_66 hp1 dX1_readOperands_23 ?_
    refine mw_bipush (v := (7 : Int32)) dX1_readOperands_26 (by decide) ?_
    refine mw_icmp_ne (tgt := 43) dX1_readOperands_28 (by decide) ?_ ?_
    · refine mw_aload_n 0 dX1_readOperands_31 rfl rfl ?_
      refine mw_iconst (v := (0 : Int32)) dX1_readOperands_32 (by decide) ?_
      refine mw_iconst (v := (3 : Int32)) dX1_readOperands_33 (by decide) ?_
      refine mw_sipush (v := (-1000 : Int32)) dX1_readOperands_34 (by decide) ?_
      refine mw_callV (t_X1_takeNumber X l (0 : Int32) (3 : Int32) (-1000 : Int32) S3) cd_X1_takeNumber lk_RX1_55 im_X1_takeNumber se_X1_takeNumber in_RX1 de_X1_takeNumber ⟨rfl, rfl⟩ ⟨Nat.le_of_ble_eq_true rfl, Nat.le_of_ble_eq_true rfl⟩ (mKind_lt mk_6 (by decide)) (mCell_k mk_6) rfl rfl rfl rfl ⟨Nat.le_of_ble_eq_true rfl, Nat.le_of_ble_eq_true rfl⟩ (Nat.le_of_ble_eq_true rfl) dX1_readOperands_37 (fun r4 S5 => ?_)
      refine mw_eq (st' := [.int r4]) rfl rfl ?_
      refine mw_goto (tgt := 54) dX1_readOperands_40 (by decide) ?_
      exact mw_sub [0, 1] rfl (w_X1_readOperands_54 X l p1 r4 S5 hp1)
    · refine mw_aload_n 0 dX1_readOperands_43 rfl rfl ?_
      refine mw_bipush (v := (-128 : Int32)) dX1_readOperands_44 (by decide) ?_
      refine mw_bipush (v := (127 : Int32)) dX1_readOperands_46 (by decide) ?_
      refine mw_sipush (v := (-1000 : Int32)) dX1_readOperands_48 (by decide) ?_
      refine mw_callV (t_X1_takeNumber X l (-128 : Int32) (127 : Int32) (-1000 : Int32) S3) cd_X1_takeNumber lk_RX1_55 im_X1_takeNumber se_X1_takeNumber in_RX1 de_X1_takeNumber ⟨rfl, rfl⟩ ⟨Nat.le_of_ble_eq_true rfl, Nat.le_of_ble_eq_true rfl⟩ (mKind_lt mk_6 (by decide)) (mCell_k mk_6) rfl rfl rfl rfl ⟨Nat.le_of_ble_eq_true rfl, Nat.le_of_ble_eq_true rfl⟩ (Nat.le_of_ble_eq_true rfl) dX1_readOperands_51 (fun r6 S7 => ?_)
      refine mw_eq (st' := [.int r6]) rfl rfl ?_
      exact mw_sub [0, 1] rfl (w_X1_readOperands_54 X l p1 r6 S7 hp1)
theorem t_X1_readOperands (X : mX) (l : Launch) (p1 : Nat) (S : mM) (hp1 : mKind p1 = 7) : mMet X viI yX1_readOperands cX1_readOperands 3 (some .boolean) rm_X1_readOperands [.ref (X.2.1 6), .ref (X.2.1 p1)] l S (f_X1_readOperands p1 S) :=
  mMet_of (by decide +kernel) rfl (Nat.le_of_ble_eq_true rfl) (w_X1_readOperands X l p1 S hp1)
/-! TraceBench$Reader.seesWithin()Z -/
def f_X1_seesWithin (S : mM) : Option (Int32 × mM) :=
  mBind (f_X1_sees (1 : Int32) S) fun r1 S2 =>
  if r1 = 0 then
    some ((0 : Int32), S2)
  else
    if 0 ≤ (S2.1 6 1) ∧ (S2.1 6 1).toNatClampNeg < 201 then
    (if (S2.1 5 (S2.1 6 1).toNatClampNeg) = (8 : Int32) then
      some ((1 : Int32), S2)
    else
      some ((0 : Int32), S2))
    else none
set_option maxRecDepth 100000 in
set_option maxHeartbeats 4000000 in
theorem w_X1_seesWithin (X : mX) (l : Launch) (S : mM) : MW X viI rm_X1_seesWithin cX1_seesWithin RX1 1 (some .boolean) l S [(0, .ref (X.2.1 6))] [] 0 (f_X1_seesWithin  S) := by
  unfold f_X1_seesWithin
  refine mw_aload_n 0 dX1_seesWithin_0 rfl rfl ?_
  refine mw_iconst (v := (1 : Int32)) dX1_seesWithin_1 (by decide) ?_
  refine mw_callV (t_X1_sees X l (1 : Int32) S) cd_X1_sees lk_RX1_40 im_X1_sees se_X1_sees in_RX1 de_X1_sees ⟨rfl, rfl⟩ ⟨Nat.le_of_ble_eq_true rfl, Nat.le_of_ble_eq_true rfl⟩ (mKind_lt mk_6 (by decide)) (mCell_k mk_6) rfl rfl rfl rfl ⟨Nat.le_of_ble_eq_true rfl, Nat.le_of_ble_eq_true rfl⟩ (Nat.le_of_ble_eq_true rfl) dX1_seesWithin_2 (fun r1 S2 => ?_)
  refine mw_eq (st' := [.int r1]) rfl rfl ?_
  refine mw_if_eq (tgt := 29) dX1_seesWithin_5 (by decide) ?_ ?_
  · refine mw_iconst (v := (0 : Int32)) dX1_seesWithin_29 (by decide) ?_
    exact mw_zret (by decide) dX1_seesWithin_30
  · refine mw_aload_n 0 dX1_seesWithin_8 rfl rfl ?_
    refine gf_RX1_9 mk_6 dX1_seesWithin_9 ?_
    refine gf_RX1_103 mk_1 dX1_seesWithin_12 ?_
    refine mw_aload_n 0 dX1_seesWithin_15 rfl rfl ?_
    refine gf_RX1_22 mk_6 dX1_seesWithin_16 ?_
    refine mw_iaload mk_5 ml_5 dX1_seesWithin_19 ?_
    refine mw_bipush (v := (8 : Int32)) dX1_seesWithin_20 (by decide) ?_
    refine mw_icmp_ne (tgt := 29) dX1_seesWithin_22 (by decide) ?_ ?_
    · refine mw_iconst (v := (1 : Int32)) dX1_seesWithin_25 (by decide) ?_
      refine mw_goto (tgt := 30) dX1_seesWithin_26 (by decide) ?_
      exact mw_zret (by decide) dX1_seesWithin_30
    · refine mw_iconst (v := (0 : Int32)) dX1_seesWithin_29 (by decide) ?_
      exact mw_zret (by decide) dX1_seesWithin_30
theorem t_X1_seesWithin (X : mX) (l : Launch) (S : mM) : mMet X viI yX1_seesWithin cX1_seesWithin 1 (some .boolean) rm_X1_seesWithin [.ref (X.2.1 6)] l S (f_X1_seesWithin  S) :=
  mMet_of (by decide +kernel) rfl (Nat.le_of_ble_eq_true rfl) (w_X1_seesWithin X l  S )
/-! TraceBench$Reader.readWithin(LTraceBench$Stage;)Z -/
def f_X1_readWithin (p1 : Nat) (S : mM) : Option (Int32 × mM) :=
  bnd (setI S p1 2 (0 : Int32)) fun S1 =>
  mBind (f_X1_seesWithin S1) fun r2 S3 =>
  if r2 = 0 then
    some ((1 : Int32), S3)
  else
    bnd (setI S3 6 1 ((S3.1 6 1) + (1 : Int32))) fun S4 =>
    mBind (f_X1_takeNumber (1 : Int32) (200 : Int32) (-1000 : Int32) S4) fun r5 S6 =>
    bnd (setI S6 p1 2 (S6.1 6 2)) fun S7 =>
    if r5 = 0 ∨ r5 = 1 then some (r5, S7) else none
set_option maxRecDepth 100000 in
set_option maxHeartbeats 4000000 in
theorem w_X1_readWithin (X : mX) (l : Launch) (p1 : Nat) (S : mM) (hp1 : mKind p1 = 7) : MW X viI rm_X1_readWithin cX1_readWithin RX1 3 (some .boolean) l S [(0, .ref (X.2.1 6)), (1, .ref (X.2.1 p1))] [] 0 (f_X1_readWithin p1 S) := by
  unfold f_X1_readWithin
  refine mw_aload_n 1 dX1_readWithin_0 rfl rfl ?_
  refine mw_iconst (v := (0 : Int32)) dX1_readWithin_1 (by decide) ?_
  refine pf_RX1_93 hp1 dX1_readWithin_2 ?_
  refine mw_bndS (fun S1 => ?_)
  refine mw_aload_n 0 dX1_readWithin_5 rfl rfl ?_
  refine mw_callV (t_X1_seesWithin X l S1) cd_X1_seesWithin lk_RX1_62 im_X1_seesWithin se_X1_seesWithin in_RX1 de_X1_seesWithin ⟨rfl, rfl⟩ ⟨Nat.le_of_ble_eq_true rfl, Nat.le_of_ble_eq_true rfl⟩ (mKind_lt mk_6 (by decide)) (mCell_k mk_6) rfl rfl rfl rfl ⟨Nat.le_of_ble_eq_true rfl, Nat.le_of_ble_eq_true rfl⟩ (Nat.le_of_ble_eq_true rfl) dX1_readWithin_6 (fun r2 S3 => ?_)
  refine mw_eq (st' := [.int r2]) rfl rfl ?_
  refine mw_if_ne (tgt := 14) dX1_readWithin_9 (by decide) ?_ ?_
  · refine mw_iconst (v := (1 : Int32)) dX1_readWithin_12 (by decide) ?_
    exact mw_zret (by decide) dX1_readWithin_13
  · refine mw_aload_n 0 dX1_readWithin_14 rfl rfl ?_
    refine mw_dup dX1_readWithin_15 rfl ?_
    refine gf_RX1_22 mk_6 dX1_readWithin_16 ?_
    refine mw_iconst (v := (1 : Int32)) dX1_readWithin_19 (by decide) ?_
    refine mw_iadd dX1_readWithin_20 ?_
    refine pf_RX1_22 mk_6 dX1_readWithin_21 ?_
    refine mw_bndS (fun S4 => ?_)
    refine mw_aload_n 0 dX1_readWithin_24 rfl rfl ?_
    refine mw_iconst (v := (1 : Int32)) dX1_readWithin_25 (by decide) ?_
    refine mw_sipush (v := (200 : Int32)) dX1_readWithin_26 (by decide) ?_
    refine mw_sipush (v := (-1000 : Int32)) dX1_readWithin_29 (by decide) ?_
    refine mw_callV (t_X1_takeNumber X l (1 : Int32) (200 : Int32) (-1000 : Int32) S4) cd_X1_takeNumber lk_RX1_55 im_X1_takeNumber se_X1_takeNumber in_RX1 de_X1_takeNumber ⟨rfl, rfl⟩ ⟨Nat.le_of_ble_eq_true rfl, Nat.le_of_ble_eq_true rfl⟩ (mKind_lt mk_6 (by decide)) (mCell_k mk_6) rfl rfl rfl rfl ⟨Nat.le_of_ble_eq_true rfl, Nat.le_of_ble_eq_true rfl⟩ (Nat.le_of_ble_eq_true rfl) dX1_readWithin_32 (fun r5 S6 => ?_)
    refine mw_eq (st' := [.int r5]) rfl rfl ?_
    refine mw_istore_n (lv' := [(2, .int r5), (0, .ref (X.2.1 6)), (1, .ref (X.2.1 p1))]) dX1_readWithin_35 rfl (by decide) rfl ?_
    refine mw_aload_n 2 dX1_readWithin_36 rfl rfl ?_
    refine mw_aload_n 1 dX1_readWithin_37 rfl rfl ?_
    refine gf_RX1_59 mk_6 dX1_readWithin_38 ?_
    refine pf_RX1_93 hp1 dX1_readWithin_41 ?_
    refine mw_bndS (fun S7 => ?_)
    refine mw_iload_n 0 dX1_readWithin_44 rfl rfl ?_
    exact mw_zreturn dX1_readWithin_45
theorem t_X1_readWithin (X : mX) (l : Launch) (p1 : Nat) (S : mM) (hp1 : mKind p1 = 7) : mMet X viI yX1_readWithin cX1_readWithin 3 (some .boolean) rm_X1_readWithin [.ref (X.2.1 6), .ref (X.2.1 p1)] l S (f_X1_readWithin p1 S) :=
  mMet_of (by decide +kernel) rfl (Nat.le_of_ble_eq_true rfl) (w_X1_readWithin X l p1 S hp1)
/-! TraceBench$Reader.take(I)Z -/
def f_X1_take (p1 : Int32) (S : mM) : Option (Int32 × mM) :=
  mBind (f_X1_sees p1 S) fun r1 S2 =>
  if r1 = 0 then
    mBind (f_X1_refuse (2 : Int32) S2) fun r3 S4 =>
    if r3 = 0 ∨ r3 = 1 then some (r3, S4) else none
  else
    if 0 ≤ (S2.1 6 1) ∧ (S2.1 6 1).toNatClampNeg < 201 then
    (bnd (setI S2 6 2 (S2.1 5 (S2.1 6 1).toNatClampNeg)) fun S5 =>
    bnd (setI S5 6 1 ((S5.1 6 1) + (1 : Int32))) fun S6 =>
    some ((1 : Int32), S6))
    else none
set_option maxRecDepth 100000 in
set_option maxHeartbeats 4000000 in
theorem w_X1_take (X : mX) (l : Launch) (p1 : Int32) (S : mM) : MW X viI rm_X1_take cX1_take RX1 2 (some .boolean) l S [(0, .ref (X.2.1 6)), (1, .int p1)] [] 0 (f_X1_take p1 S) := by
  unfold f_X1_take
  refine mw_aload_n 0 dX1_take_0 rfl rfl ?_
  refine mw_iload_n 1 dX1_take_1 rfl rfl ?_
  refine mw_callV (t_X1_sees X l p1 S) cd_X1_sees lk_RX1_40 im_X1_sees se_X1_sees in_RX1 de_X1_sees ⟨rfl, rfl⟩ ⟨Nat.le_of_ble_eq_true rfl, Nat.le_of_ble_eq_true rfl⟩ (mKind_lt mk_6 (by decide)) (mCell_k mk_6) rfl rfl rfl rfl ⟨Nat.le_of_ble_eq_true rfl, Nat.le_of_ble_eq_true rfl⟩ (Nat.le_of_ble_eq_true rfl) dX1_take_2 (fun r1 S2 => ?_)
  refine mw_eq (st' := [.int r1]) rfl rfl ?_
  refine mw_if_ne (tgt := 14) dX1_take_5 (by decide) ?_ ?_
  · refine mw_aload_n 0 dX1_take_8 rfl rfl ?_
    refine mw_iconst (v := (2 : Int32)) dX1_take_9 (by decide) ?_
    refine mw_callV (t_X1_refuse X l (2 : Int32) S2) cd_X1_refuse lk_RX1_47 im_X1_refuse se_X1_refuse in_RX1 de_X1_refuse ⟨rfl, rfl⟩ ⟨Nat.le_of_ble_eq_true rfl, Nat.le_of_ble_eq_true rfl⟩ (mKind_lt mk_6 (by decide)) (mCell_k mk_6) rfl rfl rfl rfl ⟨Nat.le_of_ble_eq_true rfl, Nat.le_of_ble_eq_true rfl⟩ (Nat.le_of_ble_eq_true rfl) dX1_take_10 (fun r3 S4 => ?_)
    refine mw_eq (st' := [.int r3]) rfl rfl ?_
    exact mw_zreturn dX1_take_13
  · refine mw_aload_n 0 dX1_take_14 rfl rfl ?_
    refine mw_aload_n 0 dX1_take_15 rfl rfl ?_
    refine gf_RX1_9 mk_6 dX1_take_16 ?_
    refine gf_RX1_103 mk_1 dX1_take_19 ?_
    refine mw_aload_n 0 dX1_take_22 rfl rfl ?_
    refine gf_RX1_22 mk_6 dX1_take_23 ?_
    refine mw_iaload mk_5 ml_5 dX1_take_26 ?_
    refine pf_RX1_59 mk_6 dX1_take_27 ?_
    refine mw_bndS (fun S5 => ?_)
    refine mw_aload_n 0 dX1_take_30 rfl rfl ?_
    refine mw_dup dX1_take_31 rfl ?_
    refine gf_RX1_22 mk_6 dX1_take_32 ?_
    refine mw_iconst (v := (1 : Int32)) dX1_take_35 (by decide) ?_
    refine mw_iadd dX1_take_36 ?_
    refine pf_RX1_22 mk_6 dX1_take_37 ?_
    refine mw_bndS (fun S6 => ?_)
    refine mw_iconst (v := (1 : Int32)) dX1_take_40 (by decide) ?_
    exact mw_zret (by decide) dX1_take_41
theorem t_X1_take (X : mX) (l : Launch) (p1 : Int32) (S : mM) : mMet X viI yX1_take cX1_take 2 (some .boolean) rm_X1_take [.ref (X.2.1 6), .int p1] l S (f_X1_take p1 S) :=
  mMet_of (by decide +kernel) rfl (Nat.le_of_ble_eq_true rfl) (w_X1_take X l p1 S )
/-! TraceBench$Reader.readStage(LTraceBench$Stage;)Z -/
def f_X1_readStage_46 (y1 : Nat) (S : mM) : Option (Int32 × mM) :=
  mBind (f_X1_seesWithin S) fun r1 S2 =>
  if r1 = 0 then
    mBind (f_X1_take (1 : Int32) S2) fun r3 S4 =>
    if r3 = 0 then
      some ((0 : Int32), S4)
    else
      bnd (setI S4 y1 0 (S4.1 6 2)) fun S5 =>
      mBind (f_X1_readOperands y1 S5) fun r6 S7 =>
      if r6 = 0 then
        some ((0 : Int32), S7)
      else
        mBind (f_X1_readWithin y1 S7) fun r8 S9 =>
        if r8 = 0 then
          some ((0 : Int32), S9)
        else
          some ((1 : Int32), S9)
  else
    mBind (f_X1_refuse (2 : Int32) S2) fun r10 S11 =>
    if r10 = 0 ∨ r10 = 1 then some (r10, S11) else none
set_option maxRecDepth 100000 in
set_option maxHeartbeats 4000000 in
theorem w_X1_readStage_46 (X : mX) (l : Launch) (y1 : Nat) (S : mM) (hy1 : mKind y1 = 7) : MW X viI rm_X1_readStage cX1_readStage RX1 2 (some .boolean) l S [(0, .ref (X.2.1 6)), (1, .ref (X.2.1 y1))] [] 46 (f_X1_readStage_46 y1 S) := by
  unfold f_X1_readStage_46
  refine mw_aload_n 0 dX1_readStage_46 rfl rfl ?_
  refine mw_callV (t_X1_seesWithin X l S) cd_X1_seesWithin lk_RX1_62 im_X1_seesWithin se_X1_seesWithin in_RX1 de_X1_seesWithin ⟨rfl, rfl⟩ ⟨Nat.le_of_ble_eq_true rfl, Nat.le_of_ble_eq_true rfl⟩ (mKind_lt mk_6 (by decide)) (mCell_k mk_6) rfl rfl rfl rfl ⟨Nat.le_of_ble_eq_true rfl, Nat.le_of_ble_eq_true rfl⟩ (Nat.le_of_ble_eq_true rfl) dX1_readStage_47 (fun r1 S2 => ?_)
  refine mw_eq (st' := [.int r1]) rfl rfl ?_
  refine mw_if_eq (tgt := 59) dX1_readStage_50 (by decide) ?_ ?_
  · refine mw_aload_n 0 dX1_readStage_59 rfl rfl ?_
    refine mw_iconst (v := (1 : Int32)) dX1_readStage_60 (by decide) ?_
    refine mw_callV (t_X1_take X l (1 : Int32) S2) cd_X1_take lk_RX1_44 im_X1_take se_X1_take in_RX1 de_X1_take ⟨rfl, rfl⟩ ⟨Nat.le_of_ble_eq_true rfl, Nat.le_of_ble_eq_true rfl⟩ (mKind_lt mk_6 (by decide)) (mCell_k mk_6) rfl rfl rfl rfl ⟨Nat.le_of_ble_eq_true rfl, Nat.le_of_ble_eq_true rfl⟩ (Nat.le_of_ble_eq_true rfl) dX1_readStage_61 (fun r3 S4 => ?_)
    refine mw_eq (st' := [.int r3]) rfl rfl ?_
    refine mw_if_ne (tgt := 69) dX1_readStage_64 (by decide) ?_ ?_
    · refine mw_iconst (v := (0 : Int32)) dX1_readStage_67 (by decide) ?_
      exact mw_zret (by decide) dX1_readStage_68
    · refine mw_aload_n 1 dX1_readStage_69 rfl rfl ?_
      refine mw_aload_n 0 dX1_readStage_70 rfl rfl ?_
      refine gf_RX1_59 mk_6 dX1_readStage_71 ?_
      refine pf_RX1_66 hy1 dX1_readStage_74 ?_
      refine mw_bndS (fun S5 => ?_)
      refine mw_aload_n 0 dX1_readStage_77 rfl rfl ?_
      refine mw_aload_n 1 dX1_readStage_78 rfl rfl ?_
      refine mw_callV (t_X1_readOperands X l y1 S5 hy1) cd_X1_readOperands lk_RX1_69 im_X1_readOperands se_X1_readOperands in_RX1 de_X1_readOperands ⟨rfl, rfl⟩ ⟨Nat.le_of_ble_eq_true rfl, Nat.le_of_ble_eq_true rfl⟩ (mKind_lt mk_6 (by decide)) (mCell_k mk_6) rfl rfl rfl rfl ⟨Nat.le_of_ble_eq_true rfl, Nat.le_of_ble_eq_true rfl⟩ (Nat.le_of_ble_eq_true rfl) dX1_readStage_79 (fun r6 S7 => ?_)
      refine mw_eq (st' := [.int r6]) rfl rfl ?_
      refine mw_if_eq (tgt := 97) dX1_readStage_82 (by decide) ?_ ?_
      · refine mw_iconst (v := (0 : Int32)) dX1_readStage_97 (by decide) ?_
        exact mw_zret (by decide) dX1_readStage_98
      · refine mw_aload_n 0 dX1_readStage_85 rfl rfl ?_
        refine mw_aload_n 1 dX1_readStage_86 rfl rfl ?_
        refine mw_callV (t_X1_readWithin X l y1 S7 hy1) cd_X1_readWithin lk_RX1_72 im_X1_readWithin se_X1_readWithin in_RX1 de_X1_readWithin ⟨rfl, rfl⟩ ⟨Nat.le_of_ble_eq_true rfl, Nat.le_of_ble_eq_true rfl⟩ (mKind_lt mk_6 (by decide)) (mCell_k mk_6) rfl rfl rfl rfl ⟨Nat.le_of_ble_eq_true rfl, Nat.le_of_ble_eq_true rfl⟩ (Nat.le_of_ble_eq_true rfl) dX1_readStage_87 (fun r8 S9 => ?_)
        refine mw_eq (st' := [.int r8]) rfl rfl ?_
        refine mw_if_eq (tgt := 97) dX1_readStage_90 (by decide) ?_ ?_
        · refine mw_iconst (v := (0 : Int32)) dX1_readStage_97 (by decide) ?_
          exact mw_zret (by decide) dX1_readStage_98
        · refine mw_iconst (v := (1 : Int32)) dX1_readStage_93 (by decide) ?_
          refine mw_goto (tgt := 98) dX1_readStage_94 (by decide) ?_
          exact mw_zret (by decide) dX1_readStage_98
  · refine mw_aload_n 0 dX1_readStage_53 rfl rfl ?_
    refine mw_iconst (v := (2 : Int32)) dX1_readStage_54 (by decide) ?_
    refine mw_callV (t_X1_refuse X l (2 : Int32) S2) cd_X1_refuse lk_RX1_47 im_X1_refuse se_X1_refuse in_RX1 de_X1_refuse ⟨rfl, rfl⟩ ⟨Nat.le_of_ble_eq_true rfl, Nat.le_of_ble_eq_true rfl⟩ (mKind_lt mk_6 (by decide)) (mCell_k mk_6) rfl rfl rfl rfl ⟨Nat.le_of_ble_eq_true rfl, Nat.le_of_ble_eq_true rfl⟩ (Nat.le_of_ble_eq_true rfl) dX1_readStage_55 (fun r10 S11 => ?_)
    refine mw_eq (st' := [.int r10]) rfl rfl ?_
    exact mw_zreturn dX1_readStage_58
def f_X1_readStage (p1 : Nat) (S : mM) : Option (Int32 × mM) :=
  bnd (setI S p1 1 (1 : Int32)) fun S1 =>
  mBind (f_X1_sees (2 : Int32) S1) fun r2 S3 =>
  if r2 = 0 then
    f_X1_readStage_46 p1 S3
  else
    mBind (f_X1_takeNumber (1 : Int32) (20 : Int32) (-1000 : Int32) S3) fun r4 S5 =>
    if r4 = 0 then
      some ((0 : Int32), S5)
    else
      bnd (setI S5 p1 1 (S5.1 6 2)) fun S6 =>
      mBind (f_X1_take (3 : Int32) S6) fun r7 S8 =>
      if r7 = 0 then
        some ((0 : Int32), S8)
      else
        f_X1_readStage_46 p1 S8
set_option maxRecDepth 100000 in
set_option maxHeartbeats 4000000 in
theorem w_X1_readStage (X : mX) (l : Launch) (p1 : Nat) (S : mM) (hp1 : mKind p1 = 7) : MW X viI rm_X1_readStage cX1_readStage RX1 2 (some .boolean) l S [(0, .ref (X.2.1 6)), (1, .ref (X.2.1 p1))] [] 0 (f_X1_readStage p1 S) := by
  unfold f_X1_readStage
  refine mw_aload_n 1 dX1_readStage_0 rfl rfl ?_
  refine mw_iconst (v := (1 : Int32)) dX1_readStage_1 (by decide) ?_
  refine pf_RX1_50 hp1 dX1_readStage_2 ?_
  refine mw_bndS (fun S1 => ?_)
  refine mw_aload_n 0 dX1_readStage_5 rfl rfl ?_
  refine mw_iconst (v := (2 : Int32)) dX1_readStage_6 (by decide) ?_
  refine mw_callV (t_X1_sees X l (2 : Int32) S1) cd_X1_sees lk_RX1_40 im_X1_sees se_X1_sees in_RX1 de_X1_sees ⟨rfl, rfl⟩ ⟨Nat.le_of_ble_eq_true rfl, Nat.le_of_ble_eq_true rfl⟩ (mKind_lt mk_6 (by decide)) (mCell_k mk_6) rfl rfl rfl rfl ⟨Nat.le_of_ble_eq_true rfl, Nat.le_of_ble_eq_true rfl⟩ (Nat.le_of_ble_eq_true rfl) dX1_readStage_7 (fun r2 S3 => ?_)
  refine mw_eq (st' := [.int r2]) rfl rfl ?_
  refine mw_if_eq (tgt := 46) dX1_readStage_10 (by decide) ?_ ?_
  · exact mw_sub [0, 1] rfl (w_X1_readStage_46 X l p1 S3 hp1)
  · refine mw_aload_n 0 dX1_readStage_13 rfl rfl ?_
    refine mw_iconst (v := (1 : Int32)) dX1_readStage_14 (by decide) ?_
    refine mw_bipush (v := (20 : Int32)) dX1_readStage_15 (by decide) ?_
    refine mw_sipush (v := (-1000 : Int32)) dX1_readStage_17 (by decide) ?_
    refine mw_callV (t_X1_takeNumber X l (1 : Int32) (20 : Int32) (-1000 : Int32) S3) cd_X1_takeNumber lk_RX1_55 im_X1_takeNumber se_X1_takeNumber in_RX1 de_X1_takeNumber ⟨rfl, rfl⟩ ⟨Nat.le_of_ble_eq_true rfl, Nat.le_of_ble_eq_true rfl⟩ (mKind_lt mk_6 (by decide)) (mCell_k mk_6) rfl rfl rfl rfl ⟨Nat.le_of_ble_eq_true rfl, Nat.le_of_ble_eq_true rfl⟩ (Nat.le_of_ble_eq_true rfl) dX1_readStage_20 (fun r4 S5 => ?_)
    refine mw_eq (st' := [.int r4]) rfl rfl ?_
    refine mw_if_ne (tgt := 28) dX1_readStage_23 (by decide) ?_ ?_
    · refine mw_iconst (v := (0 : Int32)) dX1_readStage_26 (by decide) ?_
      exact mw_zret (by decide) dX1_readStage_27
    · refine mw_aload_n 1 dX1_readStage_28 rfl rfl ?_
      refine mw_aload_n 0 dX1_readStage_29 rfl rfl ?_
      refine gf_RX1_59 mk_6 dX1_readStage_30 ?_
      refine pf_RX1_50 hp1 dX1_readStage_33 ?_
      refine mw_bndS (fun S6 => ?_)
      refine mw_aload_n 0 dX1_readStage_36 rfl rfl ?_
      refine mw_iconst (v := (3 : Int32)) dX1_readStage_37 (by decide) ?_
      refine mw_callV (t_X1_take X l (3 : Int32) S6) cd_X1_take lk_RX1_44 im_X1_take se_X1_take in_RX1 de_X1_take ⟨rfl, rfl⟩ ⟨Nat.le_of_ble_eq_true rfl, Nat.le_of_ble_eq_true rfl⟩ (mKind_lt mk_6 (by decide)) (mCell_k mk_6) rfl rfl rfl rfl ⟨Nat.le_of_ble_eq_true rfl, Nat.le_of_ble_eq_true rfl⟩ (Nat.le_of_ble_eq_true rfl) dX1_readStage_38 (fun r7 S8 => ?_)
      refine mw_eq (st' := [.int r7]) rfl rfl ?_
      refine mw_if_ne (tgt := 46) dX1_readStage_41 (by decide) ?_ ?_
      · refine mw_iconst (v := (0 : Int32)) dX1_readStage_44 (by decide) ?_
        exact mw_zret (by decide) dX1_readStage_45
      · exact mw_sub [0, 1] rfl (w_X1_readStage_46 X l p1 S8 hp1)
theorem t_X1_readStage (X : mX) (l : Launch) (p1 : Nat) (S : mM) (hp1 : mKind p1 = 7) : mMet X viI yX1_readStage cX1_readStage 2 (some .boolean) rm_X1_readStage [.ref (X.2.1 6), .ref (X.2.1 p1)] l S (f_X1_readStage p1 S) :=
  mMet_of (by decide +kernel) rfl (Nat.le_of_ble_eq_true rfl) (w_X1_readStage X l p1 S hp1)
/-! TraceBench$Reader.readPlan(LTraceBench$Plan;)Z -/
def f_X1_readPlan_22 (n : Nat) (y1 : Nat) (y2 : Int32) (S : mM) : Option (Int32 × mM) := match n with
  | 0 => none
  | n + 1 =>
    if (6 : Int32) ≤ y2 then
      mBind (f_X1_refuse (4 : Int32) S) fun r1 S2 =>
      if r1 = 0 ∨ r1 = 1 then some (r1, S2) else none
    else
      if 0 ≤ y2 ∧ y2.toNatClampNeg < 6 then
      (bnd ((y1 + 1) + 1 + y2.toNatClampNeg) fun a4 =>
      mBind (f_X1_readStage a4 S) fun r5 S6 =>
      if r5 = 0 then
        some ((0 : Int32), S6)
      else
        bnd (setI S6 y1 1 (y2 + (1 : Int32))) fun S7 =>
        mBind (f_X1_sees (0 : Int32) S7) fun r8 S9 =>
        if r8 = 0 then
          mBind (f_X1_take (4 : Int32) S9) fun r10 S11 =>
          if r10 = 0 then
            some ((0 : Int32), S11)
          else
            bnd (y2 + (1 : Int32)) fun x12 =>
            f_X1_readPlan_22 n y1 x12 S11
        else
          some ((1 : Int32), S9))
      else none
set_option maxRecDepth 100000 in
set_option maxHeartbeats 4000000 in
theorem w_X1_readPlan_22 (X : mX) (l : Launch) (n : Nat) (y1 : Nat) (y2 : Int32) (S : mM) (hy1 : mKind y1 = 0) : MW X viI rm_X1_readPlan cX1_readPlan RX1 3 (some .boolean) l S [(0, .ref (X.2.1 6)), (1, .ref (X.2.1 y1)), (2, .int y2)] [] 22 (f_X1_readPlan_22 n y1 y2 S) := by
  induction n generalizing y1 y2 S with
  | zero => exact mw_none
  | succ n ih =>
    unfold f_X1_readPlan_22
    refine mw_iload_n 2 dX1_readPlan_22 rfl rfl ?_
    refine mw_bipush (v := (6 : Int32)) dX1_readPlan_23 (by decide) ?_
    refine mw_icmp_ge (tgt := 76) dX1_readPlan_25 (by decide) ?_ ?_
    · refine mw_aload_n 0 dX1_readPlan_76 rfl rfl ?_
      refine mw_iconst (v := (4 : Int32)) dX1_readPlan_77 (by decide) ?_
      refine mw_callV (t_X1_refuse X l (4 : Int32) S) cd_X1_refuse lk_RX1_47 im_X1_refuse se_X1_refuse in_RX1 de_X1_refuse ⟨rfl, rfl⟩ ⟨Nat.le_of_ble_eq_true rfl, Nat.le_of_ble_eq_true rfl⟩ (mKind_lt mk_6 (by decide)) (mCell_k mk_6) rfl rfl rfl rfl ⟨Nat.le_of_ble_eq_true rfl, Nat.le_of_ble_eq_true rfl⟩ (Nat.le_of_ble_eq_true rfl) dX1_readPlan_78 (fun r1 S2 => ?_)
      refine mw_eq (st' := [.int r1]) rfl rfl ?_
      exact mw_zreturn dX1_readPlan_81
    · refine mw_aload_n 0 dX1_readPlan_28 rfl rfl ?_
      refine mw_aload_n 1 dX1_readPlan_29 rfl rfl ?_
      refine gf_RX1_30 hy1 dX1_readPlan_30 ?_
      refine mw_iload_n 2 dX1_readPlan_33 rfl rfl ?_
      refine mw_aaload (n := 6) (t := 7) (g := fun i => (y1 + 1) + 1 + i) (ko_0_0 hy1) (by decide) (kr_27 (ko_0_0 hy1) (lo_0_0 hy1)) rfl dX1_readPlan_34 (fun h3 => ?_)
      refine mw_bndA (ke_27 (ko_0_0 hy1) h3.2) (fun a4 ha4 => ?_)
      refine mw_callV (t_X1_readStage X l a4 S ha4) cd_X1_readStage lk_RX1_34 im_X1_readStage se_X1_readStage in_RX1 de_X1_readStage ⟨rfl, rfl⟩ ⟨Nat.le_of_ble_eq_true rfl, Nat.le_of_ble_eq_true rfl⟩ (mKind_lt mk_6 (by decide)) (mCell_k mk_6) rfl rfl rfl rfl ⟨Nat.le_of_ble_eq_true rfl, Nat.le_of_ble_eq_true rfl⟩ (Nat.le_of_ble_eq_true rfl) dX1_readPlan_35 (fun r5 S6 => ?_)
      refine mw_eq (st' := [.int r5]) rfl rfl ?_
      refine mw_if_ne (tgt := 43) dX1_readPlan_38 (by decide) ?_ ?_
      · refine mw_iconst (v := (0 : Int32)) dX1_readPlan_41 (by decide) ?_
        exact mw_zret (by decide) dX1_readPlan_42
      · refine mw_aload_n 1 dX1_readPlan_43 rfl rfl ?_
        refine mw_iload_n 2 dX1_readPlan_44 rfl rfl ?_
        refine mw_iconst (v := (1 : Int32)) dX1_readPlan_45 (by decide) ?_
        refine mw_iadd dX1_readPlan_46 ?_
        refine pf_RX1_25 hy1 dX1_readPlan_47 ?_
        refine mw_bndS (fun S7 => ?_)
        refine mw_aload_n 0 dX1_readPlan_50 rfl rfl ?_
        refine mw_iconst (v := (0 : Int32)) dX1_readPlan_51 (by decide) ?_
        refine mw_callV (t_X1_sees X l (0 : Int32) S7) cd_X1_sees lk_RX1_40 im_X1_sees se_X1_sees in_RX1 de_X1_sees ⟨rfl, rfl⟩ ⟨Nat.le_of_ble_eq_true rfl, Nat.le_of_ble_eq_true rfl⟩ (mKind_lt mk_6 (by decide)) (mCell_k mk_6) rfl rfl rfl rfl ⟨Nat.le_of_ble_eq_true rfl, Nat.le_of_ble_eq_true rfl⟩ (Nat.le_of_ble_eq_true rfl) dX1_readPlan_52 (fun r8 S9 => ?_)
        refine mw_eq (st' := [.int r8]) rfl rfl ?_
        refine mw_if_eq (tgt := 60) dX1_readPlan_55 (by decide) ?_ ?_
        · refine mw_aload_n 0 dX1_readPlan_60 rfl rfl ?_
          refine mw_iconst (v := (4 : Int32)) dX1_readPlan_61 (by decide) ?_
          refine mw_callV (t_X1_take X l (4 : Int32) S9) cd_X1_take lk_RX1_44 im_X1_take se_X1_take in_RX1 de_X1_take ⟨rfl, rfl⟩ ⟨Nat.le_of_ble_eq_true rfl, Nat.le_of_ble_eq_true rfl⟩ (mKind_lt mk_6 (by decide)) (mCell_k mk_6) rfl rfl rfl rfl ⟨Nat.le_of_ble_eq_true rfl, Nat.le_of_ble_eq_true rfl⟩ (Nat.le_of_ble_eq_true rfl) dX1_readPlan_62 (fun r10 S11 => ?_)
          refine mw_eq (st' := [.int r10]) rfl rfl ?_
          refine mw_if_ne (tgt := 70) dX1_readPlan_65 (by decide) ?_ ?_
          · refine mw_iconst (v := (0 : Int32)) dX1_readPlan_68 (by decide) ?_
            exact mw_zret (by decide) dX1_readPlan_69
          · refine mw_iincB (lvf := fun x12 => [(2, .int x12), (0, .ref (X.2.1 6)), (1, .ref (X.2.1 y1))]) (k := 2) dX1_readPlan_70 rfl (by decide) (by decide) (fun _ => rfl) (fun x12 => ?_)
            refine mw_goto (tgt := 22) dX1_readPlan_73 (by decide) ?_
            exact mw_sub [1, 2, 0] rfl (ih y1 x12 S11 hy1)
        · refine mw_iconst (v := (1 : Int32)) dX1_readPlan_58 (by decide) ?_
          exact mw_zret (by decide) dX1_readPlan_59
def f_X1_readPlan (p1 : Nat) (S : mM) : Option (Int32 × mM) :=
  bnd (setI S 6 3 (0 : Int32)) fun S1 =>
  bnd (setI S1 6 4 (0 : Int32)) fun S2 =>
  bnd (setI S2 6 1 (0 : Int32)) fun S3 =>
  bnd (setI S3 p1 1 (0 : Int32)) fun S4 =>
  f_X1_readPlan_22 mFuel p1 (0 : Int32) S4
set_option maxRecDepth 100000 in
set_option maxHeartbeats 4000000 in
theorem w_X1_readPlan (X : mX) (l : Launch) (p1 : Nat) (S : mM) (hp1 : mKind p1 = 0) : MW X viI rm_X1_readPlan cX1_readPlan RX1 3 (some .boolean) l S [(0, .ref (X.2.1 6)), (1, .ref (X.2.1 p1))] [] 0 (f_X1_readPlan p1 S) := by
  unfold f_X1_readPlan
  refine mw_aload_n 0 dX1_readPlan_0 rfl rfl ?_
  refine mw_iconst (v := (0 : Int32)) dX1_readPlan_1 (by decide) ?_
  refine pf_RX1_15 mk_6 dX1_readPlan_2 ?_
  refine mw_bndS (fun S1 => ?_)
  refine mw_aload_n 0 dX1_readPlan_5 rfl rfl ?_
  refine mw_iconst (v := (0 : Int32)) dX1_readPlan_6 (by decide) ?_
  refine pf_RX1_19 mk_6 dX1_readPlan_7 ?_
  refine mw_bndS (fun S2 => ?_)
  refine mw_aload_n 0 dX1_readPlan_10 rfl rfl ?_
  refine mw_iconst (v := (0 : Int32)) dX1_readPlan_11 (by decide) ?_
  refine pf_RX1_22 mk_6 dX1_readPlan_12 ?_
  refine mw_bndS (fun S3 => ?_)
  refine mw_aload_n 1 dX1_readPlan_15 rfl rfl ?_
  refine mw_iconst (v := (0 : Int32)) dX1_readPlan_16 (by decide) ?_
  refine pf_RX1_25 hp1 dX1_readPlan_17 ?_
  refine mw_bndS (fun S4 => ?_)
  refine mw_iconst (v := (0 : Int32)) dX1_readPlan_20 (by decide) ?_
  refine mw_istore_n (lv' := [(2, .int (0 : Int32)), (0, .ref (X.2.1 6)), (1, .ref (X.2.1 p1))]) dX1_readPlan_21 rfl (by decide) rfl ?_
  exact mw_sub [1, 2, 0] rfl (w_X1_readPlan_22 X l mFuel p1 (0 : Int32) S4 hp1)
theorem t_X1_readPlan (X : mX) (l : Launch) (p1 : Nat) (S : mM) (hp1 : mKind p1 = 0) : mMet X viI yX1_readPlan cX1_readPlan 3 (some .boolean) rm_X1_readPlan [.ref (X.2.1 6), .ref (X.2.1 p1)] l S (f_X1_readPlan p1 S) :=
  mMet_of (by decide +kernel) rfl (Nat.le_of_ble_eq_true rfl) (w_X1_readPlan X l p1 S hp1)
