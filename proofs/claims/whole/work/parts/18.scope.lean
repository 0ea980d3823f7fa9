/-! TraceBench$Scope.beginFirstStage(I)V -/
def f_X4_beginFirstStage (p1 : Int32) (S : mM) : Option (Unit × mM) :=
  bnd (setI S 7 8 (0 : Int32)) fun S1 =>
  bnd (setI S1 7 9 (0 : Int32)) fun S2 =>
  bnd (setI S2 7 10 p1) fun S3 =>
  some ((), S3)
set_option maxRecDepth 100000 in
set_option maxHeartbeats 4000000 in
theorem w_X4_beginFirstStage (X : mX) (l : Launch) (p1 : Int32) (S : mM) : MW X viV rm_X4_beginFirstStage cX4_beginFirstStage RX4 2 none l S [(0, .ref (X.2.1 7)), (1, .int p1)] [] 0 (f_X4_beginFirstStage p1 S) := by
  unfold f_X4_beginFirstStage
  refine mw_aload_n 0 dX4_beginFirstStage_0 rfl rfl ?_
  refine mw_iconst (v := (0 : Int32)) dX4_beginFirstStage_1 (by decide) ?_
  refine pf_RX4_61 mk_7 dX4_beginFirstStage_2 ?_
  refine mw_bndS (fun S1 => ?_)
  refine mw_aload_n 0 dX4_beginFirstStage_5 rfl rfl ?_
  refine mw_iconst (v := (0 : Int32)) dX4_beginFirstStage_6 (by decide) ?_
  refine pf_RX4_64 mk_7 dX4_beginFirstStage_7 ?_
  refine mw_bndS (fun S2 => ?_)
  refine mw_aload_n 0 dX4_beginFirstStage_10 rfl rfl ?_
  refine mw_iload_n 1 dX4_beginFirstStage_11 rfl rfl ?_
  refine pf_RX4_67 mk_7 dX4_beginFirstStage_12 ?_
  refine mw_bndS (fun S3 => ?_)
  exact mw_return dX4_beginFirstStage_15
theorem t_X4_beginFirstStage (X : mX) (l : Launch) (p1 : Int32) (S : mM) : mMet X viV yX4_beginFirstStage cX4_beginFirstStage 2 none rm_X4_beginFirstStage [.ref (X.2.1 7), .int p1] l S (f_X4_beginFirstStage p1 S) :=
  mMet_of (by decide +kernel) rfl (Nat.le_of_ble_eq_true rfl) (w_X4_beginFirstStage X l p1 S )
/-! TraceBench$Scope.beginAnew()V -/
def f_X4_beginAnew (S : mM) : Option (Unit × mM) :=
  bnd (setI S 7 6 (1 : Int32)) fun S1 =>
  bnd (setI S1 7 7 (S1.1 8 1)) fun S2 =>
  bnd (setI S2 7 11 (0 : Int32)) fun S3 =>
  if mKind (S3.2.2 7 2) = 0 then
  bnd (S3.2.2 7 2) fun a5 =>
  (mBind (f_X0_forgetHighs a5 S3) fun r6 S7 =>
  mBind (f_X4_beginFirstStage (S7.1 8 1) S7) fun r8 S9 =>
  some ((), S9))
  else none
set_option maxRecDepth 100000 in
set_option maxHeartbeats 4000000 in
theorem w_X4_beginAnew (X : mX) (l : Launch) (S : mM) : MW X viV rm_X4_beginAnew cX4_beginAnew RX4 1 none l S [(0, .ref (X.2.1 7))] [] 0 (f_X4_beginAnew  S) := by
  unfold f_X4_beginAnew
  refine mw_aload_n 0 dX4_beginAnew_0 rfl rfl ?_
  refine mw_iconst (v := (1 : Int32)) dX4_beginAnew_1 (by decide) ?_
  refine pf_RX4_42 mk_7 dX4_beginAnew_2 ?_
  refine mw_bndS (fun S1 => ?_)
  refine mw_aload_n 0 dX4_beginAnew_5 rfl rfl ?_
  refine mw_aload_n 0 dX4_beginAnew_6 rfl rfl ?_
  refine gf_RX4_12 mk_7 dX4_beginAnew_7 ?_
  refine gf_RX4_45 mk_8 dX4_beginAnew_10 ?_
  refine pf_RX4_48 mk_7 dX4_beginAnew_13 ?_
  refine mw_bndS (fun S2 => ?_)
  refine mw_aload_n 0 dX4_beginAnew_16 rfl rfl ?_
  refine mw_iconst (v := (0 : Int32)) dX4_beginAnew_17 (by decide) ?_
  refine pf_RX4_51 mk_7 dX4_beginAnew_18 ?_
  refine mw_bndS (fun S3 => ?_)
  refine mw_aload_n 0 dX4_beginAnew_21 rfl rfl ?_
  refine gf_RX4_28 mk_7 dX4_beginAnew_22 ?_
  refine mw_chk (fun h4 => ?_)
  refine mw_bndA h4 (fun a5 ha5 => ?_)
  refine mw_callV (t_X0_forgetHighs X l a5 S3 ha5) cd_X0_forgetHighs lk_RX4_54 im_X0_forgetHighs se_X0_forgetHighs in_RX0 de_X0_forgetHighs ⟨rfl, rfl⟩ ⟨Nat.le_of_ble_eq_true rfl, Nat.le_of_ble_eq_true rfl⟩ (mKind_lt ha5 (by decide)) (mCell_k ha5) rfl rfl rfl rfl ⟨Nat.le_of_ble_eq_true rfl, Nat.le_of_ble_eq_true rfl⟩ (Nat.le_of_ble_eq_true rfl) dX4_beginAnew_25 (fun r6 S7 => ?_)
  refine mw_eq (st' := []) rfl rfl ?_
  refine mw_aload_n 0 dX4_beginAnew_28 rfl rfl ?_
  refine mw_aload_n 0 dX4_beginAnew_29 rfl rfl ?_
  refine gf_RX4_12 mk_7 dX4_beginAnew_30 ?_
  refine gf_RX4_45 mk_8 dX4_beginAnew_33 ?_
  refine mw_callV (t_X4_beginFirstStage X l (S7.1 8 1) S7) cd_X4_beginFirstStage lk_RX4_57 im_X4_beginFirstStage se_X4_beginFirstStage in_RX4 de_X4_beginFirstStage ⟨rfl, rfl⟩ ⟨Nat.le_of_ble_eq_true rfl, Nat.le_of_ble_eq_true rfl⟩ (mKind_lt mk_7 (by decide)) (mCell_k mk_7) rfl rfl rfl rfl ⟨Nat.le_of_ble_eq_true rfl, Nat.le_of_ble_eq_true rfl⟩ (Nat.le_of_ble_eq_true rfl) dX4_beginAnew_36 (fun r8 S9 => ?_)
  refine mw_eq (st' := []) rfl rfl ?_
  exact mw_return dX4_beginAnew_39
theorem t_X4_beginAnew (X : mX) (l : Launch) (S : mM) : mMet X viV yX4_beginAnew cX4_beginAnew 1 none rm_X4_beginAnew [.ref (X.2.1 7)] l S (f_X4_beginAnew  S) :=
  mMet_of (by decide +kernel) rfl (Nat.le_of_ble_eq_true rfl) (w_X4_beginAnew X l  S )
/-! TraceBench$Scope.countEvent(II)V -/
def f_X4_countEvent (p1 : Int32) (p2 : Int32) (S : mM) : Option (Unit × mM) :=
  bnd (setI S 7 9 ((S.1 7 9) + (1 : Int32))) fun S1 =>
  if p1 ≤ (S1.1 7 9) then
    bnd (setI S1 7 8 ((S1.1 7 8) + (1 : Int32))) fun S2 =>
    bnd (setI S2 7 9 (0 : Int32)) fun S3 =>
    bnd (setI S3 7 10 p2) fun S4 =>
    if mKind (S4.2.2 7 2) = 0 then
    bnd (S4.2.2 7 2) fun a6 =>
    (if (S4.1 7 8) = (S4.1 a6 1) then
      bnd (setI S4 7 6 (2 : Int32)) fun S7 =>
      bnd (setI S7 7 12 p2) fun S8 =>
      some ((), S8)
    else
      some ((), S4))
    else none
  else
    some ((), S1)
set_option maxRecDepth 100000 in
set_option maxHeartbeats 4000000 in
theorem w_X4_countEvent (X : mX) (l : Launch) (p1 : Int32) (p2 : Int32) (S : mM) : MW X viV rm_X4_countEvent cX4_countEvent RX4 3 none l S [(0, .ref (X.2.1 7)), (1, .int p1), (2, .int p2)] [] 0 (f_X4_countEvent p1 p2 S) := by
  unfold f_X4_countEvent
  refine mw_aload_n 0 dX4_countEvent_0 rfl rfl ?_
  refine mw_dup dX4_countEvent_1 rfl ?_
  refine gf_RX4_64 mk_7 dX4_countEvent_2 ?_
  refine mw_iconst (v := (1 : Int32)) dX4_countEvent_5 (by decide) ?_
  refine mw_iadd dX4_countEvent_6 ?_
  refine pf_RX4_64 mk_7 dX4_countEvent_7 ?_
  refine mw_bndS (fun S1 => ?_)
  refine mw_aload_n 0 dX4_countEvent_10 rfl rfl ?_
  refine gf_RX4_64 mk_7 dX4_countEvent_11 ?_
  refine mw_iload_n 1 dX4_countEvent_14 rfl rfl ?_
  refine mw_icmp_ge (tgt := 19) dX4_countEvent_15 (by decide) ?_ ?_
  · refine mw_aload_n 0 dX4_countEvent_19 rfl rfl ?_
    refine mw_dup dX4_countEvent_20 rfl ?_
    refine gf_RX4_61 mk_7 dX4_countEvent_21 ?_
    refine mw_iconst (v := (1 : Int32)) dX4_countEvent_24 (by decide) ?_
    refine mw_iadd dX4_countEvent_25 ?_
    refine pf_RX4_61 mk_7 dX4_countEvent_26 ?_
    refine mw_bndS (fun S2 => ?_)
    refine mw_aload_n 0 dX4_countEvent_29 rfl rfl ?_
    refine mw_iconst (v := (0 : Int32)) dX4_countEvent_30 (by decide) ?_
    refine pf_RX4_64 mk_7 dX4_countEvent_31 ?_
    refine mw_bndS (fun S3 => ?_)
    refine mw_aload_n 0 dX4_countEvent_34 rfl rfl ?_
    refine mw_iload_n 2 dX4_countEvent_35 rfl rfl ?_
    refine pf_RX4_67 mk_7 dX4_countEvent_36 ?_
    refine mw_bndS (fun S4 => ?_)
    refine mw_aload_n 0 dX4_countEvent_39 rfl rfl ?_
    refine gf_RX4_61 mk_7 dX4_countEvent_40 ?_
    refine mw_aload_n 0 dX4_countEvent_43 rfl rfl ?_
    refine gf_RX4_28 mk_7 dX4_countEvent_44 ?_
    refine mw_chk (fun h5 => ?_)
    refine mw_bndA h5 (fun a6 ha6 => ?_)
    refine gf_RX4_87 ha6 dX4_countEvent_47 ?_
    refine mw_icmp_ne (tgt := 63) dX4_countEvent_50 (by decide) ?_ ?_
    · refine mw_aload_n 0 dX4_countEvent_53 rfl rfl ?_
      refine mw_iconst (v := (2 : Int32)) dX4_countEvent_54 (by decide) ?_
      refine pf_RX4_42 mk_7 dX4_countEvent_55 ?_
      refine mw_bndS (fun S7 => ?_)
      refine mw_aload_n 0 dX4_countEvent_58 rfl rfl ?_
      refine mw_iload_n 2 dX4_countEvent_59 rfl rfl ?_
      refine pf_RX4_81 mk_7 dX4_countEvent_60 ?_
      refine mw_bndS (fun S8 => ?_)
      exact mw_return dX4_countEvent_63
    · exact mw_return dX4_countEvent_63
  · exact mw_return dX4_countEvent_18
theorem t_X4_countEvent (X : mX) (l : Launch) (p1 : Int32) (p2 : Int32) (S : mM) : mMet X viV yX4_countEvent cX4_countEvent 3 none rm_X4_countEvent [.ref (X.2.1 7), .int p1, .int p2] l S (f_X4_countEvent p1 p2 S) :=
  mMet_of (by decide +kernel) rfl (Nat.le_of_ble_eq_true rfl) (w_X4_countEvent X l p1 p2 S )
/-! TraceBench$Scope.follow(III)V -/
def f_X4_follow_93 (y1 : Int32) (y4 : Nat) (y5 : Int32) (S : mM) : Option (Unit × mM) :=
  if y5 = 0 then
    some ((), S)
  else
    mBind (f_X4_countEvent (S.1 y4 1) y1 S) fun r1 S2 =>
    some ((), S2)
set_option maxRecDepth 100000 in
set_option maxHeartbeats 4000000 in
theorem w_X4_follow_93 (X : mX) (l : Launch) (y1 : Int32) (y4 : Nat) (y5 : Int32) (S : mM) (hy4 : mKind y4 = 7) : MW X viV rm_X4_follow cX4_follow RX4 6 none l S [(0, .ref (X.2.1 7)), (1, .int y1), (4, .ref (X.2.1 y4)), (5, .int y5)] [] 93 (f_X4_follow_93 y1 y4 y5 S) := by
  unfold f_X4_follow_93
  refine mw_iload 3 dX4_follow_93 rfl ?_
  refine mw_if_eq (tgt := 108) dX4_follow_95 (by decide) ?_ ?_
  · exact mw_return dX4_follow_108
  · refine mw_aload_n 0 dX4_follow_98 rfl rfl ?_
    refine mw_aload 2 dX4_follow_99 rfl ?_
    refine gf_RX4_109 hy4 dX4_follow_101 ?_
    refine mw_iload_n 1 dX4_follow_104 rfl rfl ?_
    refine mw_callV (t_X4_countEvent X l (S.1 y4 1) y1 S) cd_X4_countEvent lk_RX4_112 im_X4_countEvent se_X4_countEvent in_RX4 de_X4_countEvent ⟨rfl, rfl⟩ ⟨Nat.le_of_ble_eq_true rfl, Nat.le_of_ble_eq_true rfl⟩ (mKind_lt mk_7 (by decide)) (mCell_k mk_7) rfl rfl rfl rfl ⟨Nat.le_of_ble_eq_true rfl, Nat.le_of_ble_eq_true rfl⟩ (Nat.le_of_ble_eq_true rfl) dX4_follow_105 (fun r1 S2 => ?_)
    refine mw_eq (st' := []) rfl rfl ?_
    exact mw_return dX4_follow_108
def f_X4_follow (p1 : Int32) (p2 : Int32) (p3 : Int32) (S : mM) : Option (Unit × mM) :=
  if mKind (S.2.2 7 2) = 0 then
  bnd (S.2.2 7 2) fun a2 =>
  (mBind (f_X11_isIn (S.1 7 8) (0 : Int32) ((S.1 a2 1) - (1 : Int32)) S) fun r3 S4 =>
  if r3 = 0 then
    some ((), S4)
  else
    if mKind (S4.2.2 7 2) = 0 then
    bnd (S4.2.2 7 2) fun a6 =>
    (if 0 ≤ (S4.1 7 8) ∧ (S4.1 7 8).toNatClampNeg < 6 then
    (bnd ((a6 + 1) + 1 + (S4.1 7 8).toNatClampNeg) fun a8 =>
    mBind (f_X7_happens a8 p2 p3 S4) fun r9 S10 =>
    if mKind (S10.2.2 7 2) = 0 then
    bnd (S10.2.2 7 2) fun a12 =>
    (mBind (f_X0_followHighs a12 p2 p3 S10) fun r13 S14 =>
    if (S14.1 a8 2) ≤ 0 then
      f_X4_follow_93 p1 a8 r9 S14
    else
      if (p1 - (S14.1 7 10)) < (S14.1 a8 2) then
        f_X4_follow_93 p1 a8 r9 S14
      else
        bnd (setI S14 7 11 ((S14.1 7 11) + (1 : Int32))) fun S15 =>
        mBind (f_X4_beginFirstStage p1 S15) fun r16 S17 =>
        some ((), S17))
    else none)
    else none)
    else none)
  else none
set_option maxRecDepth 100000 in
set_option maxHeartbeats 4000000 in
theorem w_X4_follow (X : mX) (l : Launch) (p1 : Int32) (p2 : Int32) (p3 : Int32) (S : mM) : MW X viV rm_X4_follow cX4_follow RX4 6 none l S [(0, .ref (X.2.1 7)), (1, .int p1), (2, .int p2), (3, .int p3)] [] 0 (f_X4_follow p1 p2 p3 S) := by
  unfold f_X4_follow
  refine mw_aload_n 0 dX4_follow_0 rfl rfl ?_
  refine gf_RX4_61 mk_7 dX4_follow_1 ?_
  refine mw_iconst (v := (0 : Int32)) dX4_follow_4 (by decide) ?_
  refine mw_aload_n 0 dX4_follow_5 rfl rfl ?_
  refine gf_RX4_28 mk_7 dX4_follow_6 ?_
  refine mw_chk (fun h1 => ?_)
  refine mw_bndA h1 (fun a2 ha2 => ?_)
  refine gf_RX4_87 ha2 dX4_follow_9 ?_
  refine mw_iconst (v := (1 : Int32)) dX4_follow_12 (by decide) ?_
  refine mw_isub dX4_follow_13 ?_
  refine mw_callSN (t_X11_isIn X l (S.1 7 8) (0 : Int32) ((S.1 a2 1) - (1 : Int32)) S) cd_X11_isIn lk_RX4_88 sn_X11_isIn in_RX11 de_X11_isIn ⟨rfl, rfl⟩ ⟨Nat.le_of_ble_eq_true rfl, Nat.le_of_ble_eq_true rfl⟩ rfl rfl ⟨Nat.le_of_ble_eq_true rfl, Nat.le_of_ble_eq_true rfl⟩ (Nat.le_of_ble_eq_true rfl) dX4_follow_14 (fun r3 S4 => ?_)
  refine mw_eq (st' := [.int r3]) rfl rfl ?_
  refine mw_if_ne (tgt := 21) dX4_follow_17 (by decide) ?_ ?_
  · exact mw_return dX4_follow_20
  · refine mw_aload_n 0 dX4_follow_21 rfl rfl ?_
    refine gf_RX4_28 mk_7 dX4_follow_22 ?_
    refine mw_chk (fun h5 => ?_)
    refine mw_bndA h5 (fun a6 ha6 => ?_)
    refine gf_RX4_92 ha6 dX4_follow_25 ?_
    refine mw_aload_n 0 dX4_follow_28 rfl rfl ?_
    refine gf_RX4_61 mk_7 dX4_follow_29 ?_
    refine mw_aaload (n := 6) (t := 7) (g := fun i => (a6 + 1) + 1 + i) (ko_0_0 ha6) (by decide) (kr_27 (ko_0_0 ha6) (lo_0_0 ha6)) rfl dX4_follow_32 (fun h7 => ?_)
    refine mw_bndA (ke_27 (ko_0_0 ha6) h7.2) (fun a8 ha8 => ?_)
    refine mw_astore (lv' := [(4, .ref (X.2.1 a8)), (0, .ref (X.2.1 7)), (1, .int p1), (2, .int p2), (3, .int p3)]) dX4_follow_33 (by decide) rfl ?_
    refine mw_aload 0 dX4_follow_35 rfl ?_
    refine mw_iload_n 3 dX4_follow_37 rfl rfl ?_
    refine mw_iload_n 4 dX4_follow_38 rfl rfl ?_
    refine mw_callV (t_X7_happens X l a8 p2 p3 S4 ha8) cd_X7_happens lk_RX4_96 im_X7_happens se_X7_happens in_RX7 de_X7_happens ⟨rfl, rfl⟩ ⟨Nat.le_of_ble_eq_true rfl, Nat.le_of_ble_eq_true rfl⟩ (mKind_lt ha8 (by decide)) (mCell_k ha8) rfl rfl rfl rfl ⟨Nat.le_of_ble_eq_true rfl, Nat.le_of_ble_eq_true rfl⟩ (Nat.le_of_ble_eq_true rfl) dX4_follow_39 (fun r9 S10 => ?_)
    refine mw_eq (st' := [.int r9]) rfl rfl ?_
    refine mw_istore (lv' := [(5, .int r9), (4, .ref (X.2.1 a8)), (0, .ref (X.2.1 7)), (1, .int p1), (2, .int p2), (3, .int p3)]) dX4_follow_42 (by decide) rfl ?_
    refine mw_aload_n 2 dX4_follow_44 rfl rfl ?_
    refine gf_RX4_28 mk_7 dX4_follow_45 ?_
    refine mw_chk (fun h11 => ?_)
    refine mw_bndA h11 (fun a12 ha12 => ?_)
    refine mw_iload_n 4 dX4_follow_48 rfl rfl ?_
    refine mw_iload_n 5 dX4_follow_49 rfl rfl ?_
    refine mw_callV (t_X0_followHighs X l a12 p2 p3 S10 ha12) cd_X0_followHighs lk_RX4_102 im_X0_followHighs se_X0_followHighs in_RX0 de_X0_followHighs ⟨rfl, rfl⟩ ⟨Nat.le_of_ble_eq_true rfl, Nat.le_of_ble_eq_true rfl⟩ (mKind_lt ha12 (by decide)) (mCell_k ha12) rfl rfl rfl rfl ⟨Nat.le_of_ble_eq_true rfl, Nat.le_of_ble_eq_true rfl⟩ (Nat.le_of_ble_eq_true rfl) dX4_follow_50 (fun r13 S14 => ?_)
    refine mw_eq (st' := []) rfl rfl ?_
    refine mw_aload 1 dX4_follow_53 rfl ?_
    refine gf_RX4_106 ha8 dX4_follow_55 ?_
    refine mw_if_le (tgt := 93) dX4_follow_58 (by decide) ?_ ?_
    · exact mw_sub [2, 3, 1, 0] rfl (w_X4_follow_93 X l p1 a8 r9 S14 ha8)
    · refine mw_iload_n 3 dX4_follow_61 rfl rfl ?_
      refine mw_aload_n 2 dX4_follow_62 rfl rfl ?_
      refine gf_RX4_67 mk_7 dX4_follow_63 ?_
      refine mw_isub dX4_follow_66 ?_
      refine mw_aload 1 dX4_follow_67 rfl ?_
      refine gf_RX4_106 ha8 dX4_follow_69 ?_
      refine mw_icmp_lt (tgt := 93) dX4_follow_72 (by decide) ?_ ?_
      · exact mw_sub [2, 3, 1, 0] rfl (w_X4_follow_93 X l p1 a8 r9 S14 ha8)
      · refine mw_aload_n 2 dX4_follow_75 rfl rfl ?_
        refine mw_dup dX4_follow_76 rfl ?_
        refine gf_RX4_51 mk_7 dX4_follow_77 ?_
        refine mw_iconst (v := (1 : Int32)) dX4_follow_80 (by decide) ?_
        refine mw_iadd dX4_follow_81 ?_
        refine pf_RX4_51 mk_7 dX4_follow_82 ?_
        refine mw_bndS (fun S15 => ?_)
        refine mw_aload_n 2 dX4_follow_85 rfl rfl ?_
        refine mw_iload_n 3 dX4_follow_86 rfl rfl ?_
        refine mw_callV (t_X4_beginFirstStage X l p1 S15) cd_X4_beginFirstStage lk_RX4_57 im_X4_beginFirstStage se_X4_beginFirstStage in_RX4 de_X4_beginFirstStage ⟨rfl, rfl⟩ ⟨Nat.le_of_ble_eq_true rfl, Nat.le_of_ble_eq_true rfl⟩ (mKind_lt mk_7 (by decide)) (mCell_k mk_7) rfl rfl rfl rfl ⟨Nat.le_of_ble_eq_true rfl, Nat.le_of_ble_eq_true rfl⟩ (Nat.le_of_ble_eq_true rfl) dX4_follow_87 (fun r16 S17 => ?_)
        refine mw_eq (st' := []) rfl rfl ?_
        refine mw_goto (tgt := 108) dX4_follow_90 (by decide) ?_
        exact mw_return dX4_follow_108
theorem t_X4_follow (X : mX) (l : Launch) (p1 : Int32) (p2 : Int32) (p3 : Int32) (S : mM) : mMet X viV yX4_follow cX4_follow 6 none rm_X4_follow [.ref (X.2.1 7), .int p1, .int p2, .int p3] l S (f_X4_follow p1 p2 p3 S) :=
  mMet_of (by decide +kernel) rfl (Nat.le_of_ble_eq_true rfl) (w_X4_follow X l p1 p2 p3 S )
/-! TraceBench$Scope.keepSegment(I)V -/
def f_X4_keepSegment (p1 : Int32) (S : mM) : Option (Unit × mM) :=
  mBind (f_X2_oldest S) fun r1 S2 =>
  mBind (f_J9_max_7cf53 (S.1 7 7) r1 S2) fun r3 S4 =>
  mBind (f_J9_max_7cf53 ((S.1 7 12) - (S.1 7 4)) r3 S4) fun r5 S6 =>
  mBind (f_X8_add r5 p1 (S6.1 7 12) S6) fun r7 S8 =>
  mBind (f_X8_isFull S8) fun r9 S10 =>
  if r9 = 0 then
    mBind (f_X4_beginAnew S10) fun r11 S12 =>
    some ((), S12)
  else
    bnd (setI S10 7 6 (3 : Int32)) fun S13 =>
    some ((), S13)
set_option maxRecDepth 100000 in
set_option maxHeartbeats 4000000 in
theorem w_X4_keepSegment (X : mX) (l : Launch) (p1 : Int32) (S : mM) : MW X viV rm_X4_keepSegment cX4_keepSegment RX4 3 none l S [(0, .ref (X.2.1 7)), (1, .int p1)] [] 0 (f_X4_keepSegment p1 S) := by
  unfold f_X4_keepSegment
  refine mw_aload_n 0 dX4_keepSegment_0 rfl rfl ?_
  refine gf_RX4_81 mk_7 dX4_keepSegment_1 ?_
  refine mw_aload_n 0 dX4_keepSegment_4 rfl rfl ?_
  refine gf_RX4_35 mk_7 dX4_keepSegment_5 ?_
  refine mw_isub dX4_keepSegment_8 ?_
  refine mw_aload_n 0 dX4_keepSegment_9 rfl rfl ?_
  refine gf_RX4_48 mk_7 dX4_keepSegment_10 ?_
  refine mw_aload_n 0 dX4_keepSegment_13 rfl rfl ?_
  refine gf_RX4_12 mk_7 dX4_keepSegment_14 ?_
  refine mw_callV (t_X2_oldest X l S) cd_X2_oldest lk_RX4_115 im_X2_oldest se_X2_oldest in_RX2 de_X2_oldest ⟨rfl, rfl⟩ ⟨Nat.le_of_ble_eq_true rfl, Nat.le_of_ble_eq_true rfl⟩ (mKind_lt mk_8 (by decide)) (mCell_k mk_8) rfl rfl rfl rfl ⟨Nat.le_of_ble_eq_true rfl, Nat.le_of_ble_eq_true rfl⟩ (Nat.le_of_ble_eq_true rfl) dX4_keepSegment_17 (fun r1 S2 => ?_)
  refine mw_eq (st' := [.int r1, .int (S.1 7 7), .int ((S.1 7 12) - (S.1 7 4))]) rfl rfl ?_
  refine mw_callS (t_J9_max_7cf53 X l (S.1 7 7) r1 S2) cd_J9_max_7cf53 lk_RX4_119 sn_J9_max_7cf53 in_RJ9 de_J9_max_7cf53 ⟨rfl, rfl⟩ ⟨Nat.le_of_ble_eq_true rfl, Nat.le_of_ble_eq_true rfl⟩ rfl rfl ⟨Nat.le_of_ble_eq_true rfl, Nat.le_of_ble_eq_true rfl⟩ (Nat.le_of_ble_eq_true rfl) dX4_keepSegment_20 (fun r3 S4 => ?_)
  refine mw_eq (st' := [.int r3, .int ((S.1 7 12) - (S.1 7 4))]) rfl rfl ?_
  refine mw_callS (t_J9_max_7cf53 X l ((S.1 7 12) - (S.1 7 4)) r3 S4) cd_J9_max_7cf53 lk_RX4_119 sn_J9_max_7cf53 in_RJ9 de_J9_max_7cf53 ⟨rfl, rfl⟩ ⟨Nat.le_of_ble_eq_true rfl, Nat.le_of_ble_eq_true rfl⟩ rfl rfl ⟨Nat.le_of_ble_eq_true rfl, Nat.le_of_ble_eq_true rfl⟩ (Nat.le_of_ble_eq_true rfl) dX4_keepSegment_23 (fun r5 S6 => ?_)
  refine mw_eq (st' := [.int r5]) rfl rfl ?_
  refine mw_istore_n (lv' := [(2, .int r5), (0, .ref (X.2.1 7)), (1, .int p1)]) dX4_keepSegment_26 rfl (by decide) rfl ?_
  refine mw_aload_n 1 dX4_keepSegment_27 rfl rfl ?_
  refine gf_RX4_21 mk_7 dX4_keepSegment_28 ?_
  refine mw_aload_n 1 dX4_keepSegment_31 rfl rfl ?_
  refine gf_RX4_12 mk_7 dX4_keepSegment_32 ?_
  refine mw_iload_n 0 dX4_keepSegment_35 rfl rfl ?_
  refine mw_iload_n 2 dX4_keepSegment_36 rfl rfl ?_
  refine mw_aload_n 1 dX4_keepSegment_37 rfl rfl ?_
  refine gf_RX4_81 mk_7 dX4_keepSegment_38 ?_
  refine mw_callV (t_X8_add X l r5 p1 (S6.1 7 12) S6) cd_X8_add lk_RX4_125 im_X8_add se_X8_add in_RX8 de_X8_add ⟨rfl, rfl⟩ ⟨Nat.le_of_ble_eq_true rfl, Nat.le_of_ble_eq_true rfl⟩ (mKind_lt mk_10 (by decide)) (mCell_k mk_10) rfl rfl rfl rfl ⟨Nat.le_of_ble_eq_true rfl, Nat.le_of_ble_eq_true rfl⟩ (Nat.le_of_ble_eq_true rfl) dX4_keepSegment_41 (fun r7 S8 => ?_)
  refine mw_eq (st' := []) rfl rfl ?_
  refine mw_aload_n 1 dX4_keepSegment_44 rfl rfl ?_
  refine gf_RX4_21 mk_7 dX4_keepSegment_45 ?_
  refine mw_callV (t_X8_isFull X l S8) cd_X8_isFull lk_RX4_128 im_X8_isFull se_X8_isFull in_RX8 de_X8_isFull ⟨rfl, rfl⟩ ⟨Nat.le_of_ble_eq_true rfl, Nat.le_of_ble_eq_true rfl⟩ (mKind_lt mk_10 (by decide)) (mCell_k mk_10) rfl rfl rfl rfl ⟨Nat.le_of_ble_eq_true rfl, Nat.le_of_ble_eq_true rfl⟩ (Nat.le_of_ble_eq_true rfl) dX4_keepSegment_48 (fun r9 S10 => ?_)
  refine mw_eq (st' := [.int r9]) rfl rfl ?_
  refine mw_if_eq (tgt := 62) dX4_keepSegment_51 (by decide) ?_ ?_
  · refine mw_aload_n 1 dX4_keepSegment_62 rfl rfl ?_
    refine mw_callV (t_X4_beginAnew X l S10) cd_X4_beginAnew lk_RX4_132 im_X4_beginAnew se_X4_beginAnew in_RX4 de_X4_beginAnew ⟨rfl, rfl⟩ ⟨Nat.le_of_ble_eq_true rfl, Nat.le_of_ble_eq_true rfl⟩ (mKind_lt mk_7 (by decide)) (mCell_k mk_7) rfl rfl rfl rfl ⟨Nat.le_of_ble_eq_true rfl, Nat.le_of_ble_eq_true rfl⟩ (Nat.le_of_ble_eq_true rfl) dX4_keepSegment_63 (fun r11 S12 => ?_)
    refine mw_eq (st' := []) rfl rfl ?_
    exact mw_return dX4_keepSegment_66
  · refine mw_aload_n 1 dX4_keepSegment_54 rfl rfl ?_
    refine mw_iconst (v := (3 : Int32)) dX4_keepSegment_55 (by decide) ?_
    refine pf_RX4_42 mk_7 dX4_keepSegment_56 ?_
    refine mw_bndS (fun S13 => ?_)
    refine mw_goto (tgt := 66) dX4_keepSegment_59 (by decide) ?_
    exact mw_return dX4_keepSegment_66
theorem t_X4_keepSegment (X : mX) (l : Launch) (p1 : Int32) (S : mM) : mMet X viV yX4_keepSegment cX4_keepSegment 3 none rm_X4_keepSegment [.ref (X.2.1 7), .int p1] l S (f_X4_keepSegment p1 S) :=
  mMet_of (by decide +kernel) rfl (Nat.le_of_ble_eq_true rfl) (w_X4_keepSegment X l p1 S )
/-! TraceBench$Scope.take(I)V -/
def f_X4_take_50 (y2 : Int32) (S : mM) : Option (Unit × mM) :=
  if (S.1 7 6) = (2 : Int32) then
    if (y2 - (S.1 7 12)) < (S.1 7 5) then
      some ((), S)
    else
      mBind (f_X4_keepSegment y2 S) fun r1 S2 =>
      some ((), S2)
  else
    some ((), S)
set_option maxRecDepth 100000 in
set_option maxHeartbeats 4000000 in
theorem w_X4_take_50 (X : mX) (l : Launch) (y2 : Int32) (S : mM) : MW X viV rm_X4_take cX4_take RX4 4 none l S [(0, .ref (X.2.1 7)), (2, .int y2)] [] 50 (f_X4_take_50 y2 S) := by
  unfold f_X4_take_50
  refine mw_aload_n 0 dX4_take_50 rfl rfl ?_
  refine gf_RX4_42 mk_7 dX4_take_51 ?_
  refine mw_iconst (v := (2 : Int32)) dX4_take_54 (by decide) ?_
  refine mw_icmp_ne (tgt := 76) dX4_take_55 (by decide) ?_ ?_
  · refine mw_iload_n 1 dX4_take_58 rfl rfl ?_
    refine mw_aload_n 0 dX4_take_59 rfl rfl ?_
    refine gf_RX4_81 mk_7 dX4_take_60 ?_
    refine mw_isub dX4_take_63 ?_
    refine mw_aload_n 0 dX4_take_64 rfl rfl ?_
    refine gf_RX4_39 mk_7 dX4_take_65 ?_
    refine mw_icmp_lt (tgt := 76) dX4_take_68 (by decide) ?_ ?_
    · exact mw_return dX4_take_76
    · refine mw_aload_n 0 dX4_take_71 rfl rfl ?_
      refine mw_iload_n 1 dX4_take_72 rfl rfl ?_
      refine mw_callV (t_X4_keepSegment X l y2 S) cd_X4_keepSegment lk_RX4_84 im_X4_keepSegment se_X4_keepSegment in_RX4 de_X4_keepSegment ⟨rfl, rfl⟩ ⟨Nat.le_of_ble_eq_true rfl, Nat.le_of_ble_eq_true rfl⟩ (mKind_lt mk_7 (by decide)) (mCell_k mk_7) rfl rfl rfl rfl ⟨Nat.le_of_ble_eq_true rfl, Nat.le_of_ble_eq_true rfl⟩ (Nat.le_of_ble_eq_true rfl) dX4_take_73 (fun r1 S2 => ?_)
      refine mw_eq (st' := []) rfl rfl ?_
      exact mw_return dX4_take_76
  · exact mw_return dX4_take_76
def f_X4_take (p1 : Int32) (S : mM) : Option (Unit × mM) :=
  bnd (S.1 8 1) fun x1 =>
  mBind (f_X2_get (x1 - (1 : Int32)) S) fun r2 S3 =>
  mBind (f_X2_add p1 S3) fun r4 S5 =>
  if (S5.1 7 6) = (1 : Int32) then
    if x1 ≤ (S5.1 7 7) then
      f_X4_take_50 x1 S5
    else
      mBind (f_X4_follow x1 r2 p1 S5) fun r6 S7 =>
      f_X4_take_50 x1 S7
  else
    f_X4_take_50 x1 S5
set_option maxRecDepth 100000 in
set_option maxHeartbeats 4000000 in
theorem w_X4_take (X : mX) (l : Launch) (p1 : Int32) (S : mM) : MW X viV rm_X4_take cX4_take RX4 4 none l S [(0, .ref (X.2.1 7)), (1, .int p1)] [] 0 (f_X4_take p1 S) := by
  unfold f_X4_take
  refine mw_aload_n 0 dX4_take_0 rfl rfl ?_
  refine gf_RX4_12 mk_7 dX4_take_1 ?_
  refine gf_RX4_45 mk_8 dX4_take_4 ?_
  refine mw_bndI (fun x1 => ?_)
  refine mw_istore_n (lv' := [(2, .int x1), (0, .ref (X.2.1 7)), (1, .int p1)]) dX4_take_7 rfl (by decide) rfl ?_
  refine mw_aload_n 1 dX4_take_8 rfl rfl ?_
  refine gf_RX4_12 mk_7 dX4_take_9 ?_
  refine mw_iload_n 0 dX4_take_12 rfl rfl ?_
  refine mw_iconst (v := (1 : Int32)) dX4_take_13 (by decide) ?_
  refine mw_isub dX4_take_14 ?_
  refine mw_callV (t_X2_get X l (x1 - (1 : Int32)) S) cd_X2_get lk_RX4_70 im_X2_get se_X2_get in_RX2 de_X2_get ⟨rfl, rfl⟩ ⟨Nat.le_of_ble_eq_true rfl, Nat.le_of_ble_eq_true rfl⟩ (mKind_lt mk_8 (by decide)) (mCell_k mk_8) rfl rfl rfl rfl ⟨Nat.le_of_ble_eq_true rfl, Nat.le_of_ble_eq_true rfl⟩ (Nat.le_of_ble_eq_true rfl) dX4_take_15 (fun r2 S3 => ?_)
  refine mw_eq (st' := [.int r2]) rfl rfl ?_
  refine mw_istore_n (lv' := [(3, .int r2), (2, .int x1), (0, .ref (X.2.1 7)), (1, .int p1)]) dX4_take_18 rfl (by decide) rfl ?_
  refine mw_aload_n 2 dX4_take_19 rfl rfl ?_
  refine gf_RX4_12 mk_7 dX4_take_20 ?_
  refine mw_iload_n 3 dX4_take_23 rfl rfl ?_
  refine mw_callV (t_X2_add X l p1 S3) cd_X2_add lk_RX4_74 im_X2_add se_X2_add in_RX2 de_X2_add ⟨rfl, rfl⟩ ⟨Nat.le_of_ble_eq_true rfl, Nat.le_of_ble_eq_true rfl⟩ (mKind_lt mk_8 (by decide)) (mCell_k mk_8) rfl rfl rfl rfl ⟨Nat.le_of_ble_eq_true rfl, Nat.le_of_ble_eq_true rfl⟩ (Nat.le_of_ble_eq_true rfl) dX4_take_24 (fun r4 S5 => ?_)
  refine mw_eq (st' := []) rfl rfl ?_
  refine mw_aload_n 2 dX4_take_27 rfl rfl ?_
  refine gf_RX4_42 mk_7 dX4_take_28 ?_
  refine mw_iconst (v := (1 : Int32)) dX4_take_31 (by decide) ?_
  refine mw_icmp_ne (tgt := 50) dX4_take_32 (by decide) ?_ ?_
  · refine mw_iload_n 1 dX4_take_35 rfl rfl ?_
    refine mw_aload_n 2 dX4_take_36 rfl rfl ?_
    refine gf_RX4_48 mk_7 dX4_take_37 ?_
    refine mw_icmp_le (tgt := 50) dX4_take_40 (by decide) ?_ ?_
    · exact mw_sub [2, 1] rfl (w_X4_take_50 X l x1 S5)
    · refine mw_aload_n 2 dX4_take_43 rfl rfl ?_
      refine mw_iload_n 1 dX4_take_44 rfl rfl ?_
      refine mw_iload_n 0 dX4_take_45 rfl rfl ?_
      refine mw_iload_n 3 dX4_take_46 rfl rfl ?_
      refine mw_callV (t_X4_follow X l x1 r2 p1 S5) cd_X4_follow lk_RX4_77 im_X4_follow se_X4_follow in_RX4 de_X4_follow ⟨rfl, rfl⟩ ⟨Nat.le_of_ble_eq_true rfl, Nat.le_of_ble_eq_true rfl⟩ (mKind_lt mk_7 (by decide)) (mCell_k mk_7) rfl rfl rfl rfl ⟨Nat.le_of_ble_eq_true rfl, Nat.le_of_ble_eq_true rfl⟩ (Nat.le_of_ble_eq_true rfl) dX4_take_47 (fun r6 S7 => ?_)
      refine mw_eq (st' := []) rfl rfl ?_
      exact mw_sub [2, 1] rfl (w_X4_take_50 X l x1 S7)
  · exact mw_sub [2, 1] rfl (w_X4_take_50 X l x1 S5)
theorem t_X4_take (X : mX) (l : Launch) (p1 : Int32) (S : mM) : mMet X viV yX4_take cX4_take 4 none rm_X4_take [.ref (X.2.1 7), .int p1] l S (f_X4_take p1 S) :=
  mMet_of (by decide +kernel) rfl (Nat.le_of_ble_eq_true rfl) (w_X4_take X l p1 S )
/-! TraceBench$Scope.takeDraft()V -/
def f_X4_takeDraft (S : mM) : Option (Unit × mM) :=
  if mKind (S.2.2 7 2) = 0 then
  bnd (S.2.2 7 2) fun a2 =>
  (if mKind (S.2.2 7 3) = 0 then
  bnd (S.2.2 7 3) fun a4 =>
  (bnd (setP S 7 2 a4) fun S5 =>
  bnd (setP S5 7 3 a2) fun S6 =>
  bnd (setI S6 7 6 (0 : Int32)) fun S7 =>
  some ((), S7))
  else none)
  else none
set_option maxRecDepth 100000 in
set_option maxHeartbeats 4000000 in
theorem w_X4_takeDraft (X : mX) (l : Launch) (S : mM) : MW X viV rm_X4_takeDraft cX4_takeDraft RX4 2 none l S [(0, .ref (X.2.1 7))] [] 0 (f_X4_takeDraft  S) := by
  unfold f_X4_takeDraft
  refine mw_aload_n 0 dX4_takeDraft_0 rfl rfl ?_
  refine gf_RX4_28 mk_7 dX4_takeDraft_1 ?_
  refine mw_chk (fun h1 => ?_)
  refine mw_bndA h1 (fun a2 ha2 => ?_)
  refine mw_astore_n (lv' := [(1, .ref (X.2.1 a2)), (0, .ref (X.2.1 7))]) dX4_takeDraft_4 rfl (by decide) rfl ?_
  refine mw_aload_n 1 dX4_takeDraft_5 rfl rfl ?_
  refine mw_aload_n 1 dX4_takeDraft_6 rfl rfl ?_
  refine gf_RX4_32 mk_7 dX4_takeDraft_7 ?_
  refine mw_chk (fun h3 => ?_)
  refine mw_bndA h3 (fun a4 ha4 => ?_)
  refine pf_RX4_28 mk_7 dX4_takeDraft_10 ?_
  refine mw_bndS (fun S5 => ?_)
  refine mw_aload_n 1 dX4_takeDraft_13 rfl rfl ?_
  refine mw_aload_n 0 dX4_takeDraft_14 rfl rfl ?_
  refine pf_RX4_32 mk_7 dX4_takeDraft_15 ?_
  refine mw_bndS (fun S6 => ?_)
  refine mw_aload_n 1 dX4_takeDraft_18 rfl rfl ?_
  refine mw_iconst (v := (0 : Int32)) dX4_takeDraft_19 (by decide) ?_
  refine pf_RX4_42 mk_7 dX4_takeDraft_20 ?_
  refine mw_bndS (fun S7 => ?_)
  exact mw_return dX4_takeDraft_23
theorem t_X4_takeDraft (X : mX) (l : Launch) (S : mM) : mMet X viV yX4_takeDraft cX4_takeDraft 2 none rm_X4_takeDraft [.ref (X.2.1 7)] l S (f_X4_takeDraft  S) :=
  mMet_of (by decide +kernel) rfl (Nat.le_of_ble_eq_true rfl) (w_X4_takeDraft X l  S )
