/-! TraceBench.isFilled(I)Z -/
def f_X11_isFilled (p1 : Int32) (S : mM) : Option (Int32 × mM) :=
  mBind (f_X11_isIn p1 (0 : Int32) (3 : Int32) S) fun r1 S2 =>
  if r1 = 0 then
    some ((0 : Int32), S2)
  else
    if 0 ≤ p1 ∧ p1.toNatClampNeg < 4 then
    (bnd (53 + 1 + 3 * p1.toNatClampNeg) fun a4 =>
    if (S2.1 a4 2) ≤ 0 then
      some ((0 : Int32), S2)
    else
      some ((1 : Int32), S2))
    else none
set_option maxRecDepth 100000 in
set_option maxHeartbeats 4000000 in
theorem w_X11_isFilled (X : mX) (l : Launch) (p1 : Int32) (S : mM) : MW X viI rm_X11_isFilled cX11_isFilled RX11 2 (some .boolean) l S [(0, .ref (X.2.1 0)), (1, .int p1)] [] 0 (f_X11_isFilled p1 S) := by
  unfold f_X11_isFilled
  refine mw_iload_n 1 dX11_isFilled_0 rfl rfl ?_
  refine mw_iconst (v := (0 : Int32)) dX11_isFilled_1 (by decide) ?_
  refine mw_iconst (v := (3 : Int32)) dX11_isFilled_2 (by decide) ?_
  refine mw_callS (t_X11_isIn X l p1 (0 : Int32) (3 : Int32) S) cd_X11_isIn lk_RX11_96 sn_X11_isIn in_RX11 de_X11_isIn ⟨rfl, rfl⟩ ⟨Nat.le_of_ble_eq_true rfl, Nat.le_of_ble_eq_true rfl⟩ rfl rfl ⟨Nat.le_of_ble_eq_true rfl, Nat.le_of_ble_eq_true rfl⟩ (Nat.le_of_ble_eq_true rfl) dX11_isFilled_3 (fun r1 S2 => ?_)
  refine mw_eq (st' := [.int r1]) rfl rfl ?_
  refine mw_if_eq (tgt := 25) dX11_isFilled_6 (by decide) ?_ ?_
  · refine mw_iconst (v := (0 : Int32)) dX11_isFilled_25 (by decide) ?_
    exact mw_zret (by decide) dX11_isFilled_26
  · refine mw_aload_n 0 dX11_isFilled_9 rfl rfl ?_
    refine gf_RX11_41 mk_0 dX11_isFilled_10 ?_
    refine mw_iload_n 1 dX11_isFilled_13 rfl rfl ?_
    refine mw_aaload (n := 4) (t := 4) (g := fun i => 53 + 1 + 3 * i) mk_53 (by decide) (kr_24 mk_53 ml_53) rfl dX11_isFilled_14 (fun h3 => ?_)
    refine mw_bndA (ke_24 mk_53 h3.2) (fun a4 ha4 => ?_)
    refine gf_RX11_130 ha4 dX11_isFilled_15 ?_
    refine mw_if_le (tgt := 25) dX11_isFilled_18 (by decide) ?_ ?_
    · refine mw_iconst (v := (0 : Int32)) dX11_isFilled_25 (by decide) ?_
      exact mw_zret (by decide) dX11_isFilled_26
    · refine mw_iconst (v := (1 : Int32)) dX11_isFilled_21 (by decide) ?_
      refine mw_goto (tgt := 26) dX11_isFilled_22 (by decide) ?_
      exact mw_zret (by decide) dX11_isFilled_26
theorem t_X11_isFilled (X : mX) (l : Launch) (p1 : Int32) (S : mM) : mMet X viI yX11_isFilled cX11_isFilled 2 (some .boolean) rm_X11_isFilled [.ref (X.2.1 0), .int p1] l S (f_X11_isFilled p1 S) :=
  mMet_of (by decide +kernel) rfl (Nat.le_of_ble_eq_true rfl) (w_X11_isFilled X l p1 S )
/-! TraceBench.about(II)I -/
def f_X11_about (p1 : Int32) (p2 : Int32) (S : mM) : Option (Int32 × mM) :=
  mBind (f_X11_isFilled p1 S) fun r1 S2 =>
  if r1 = 0 then
    some ((-1 : Int32), S2)
  else
    if p2 = (0 : Int32) then
      if 0 ≤ p1 ∧ p1.toNatClampNeg < 4 then
      (bnd (53 + 1 + 3 * p1.toNatClampNeg) fun a5 =>
      some ((S2.1 a5 2), S2))
      else none
    else
      if p2 = (1 : Int32) then
        if 0 ≤ p1 ∧ p1.toNatClampNeg < 4 then
        (bnd (53 + 1 + 3 * p1.toNatClampNeg) fun a8 =>
        mBind (f_X3_countGaps a8 S2) fun r9 S10 =>
        some (r9, S10))
        else none
      else
        if p2 = (2 : Int32) then
          if 0 ≤ p1 ∧ p1.toNatClampNeg < 4 then
          (bnd (53 + 1 + 3 * p1.toNatClampNeg) fun a13 =>
          mBind (f_X3_placeOfLeast a13 S2) fun r14 S15 =>
          some (r14, S15))
          else none
        else
          if p2 = (3 : Int32) then
            if 0 ≤ p1 ∧ p1.toNatClampNeg < 4 then
            (bnd (53 + 1 + 3 * p1.toNatClampNeg) fun a18 =>
            mBind (f_X3_placeOfGreatest a18 S2) fun r19 S20 =>
            some (r19, S20))
            else none
          else
            if p2 = (4 : Int32) then
              if 0 ≤ p1 ∧ p1.toNatClampNeg < 4 then
              (bnd (53 + 1 + 3 * p1.toNatClampNeg) fun a23 =>
              mBind (f_X3_firstGap a23 S2) fun r24 S25 =>
              some (r24, S25))
              else none
            else
              some ((-1 : Int32), S2)
set_option maxRecDepth 100000 in
set_option maxHeartbeats 4000000 in
theorem w_X11_about (X : mX) (l : Launch) (p1 : Int32) (p2 : Int32) (S : mM) : MW X viI rm_X11_about cX11_about RX11 3 (some .int) l S [(0, .ref (X.2.1 0)), (1, .int p1), (2, .int p2)] [] 0 (f_X11_about p1 p2 S) := by
  unfold f_X11_about
  refine mw_aload_n 0 dX11_about_0 rfl rfl ?_
  refine mw_iload_n 1 dX11_about_1 rfl rfl ?_
  refine mw_callV (t_X11_isFilled X l p1 S) cd_X11_isFilled lk_RX11_213 im_X11_isFilled se_X11_isFilled in_RX11 de_X11_isFilled ⟨rfl, rfl⟩ ⟨Nat.le_of_ble_eq_true rfl, Nat.le_of_ble_eq_true rfl⟩ (mKind_lt mk_0 (by decide)) (mCell_k mk_0) rfl rfl rfl rfl ⟨Nat.le_of_ble_eq_true rfl, Nat.le_of_ble_eq_true rfl⟩ (Nat.le_of_ble_eq_true rfl) dX11_about_2 (fun r1 S2 => ?_)
  refine mw_eq (st' := [.int r1]) rfl rfl ?_
  refine mw_if_ne (tgt := 10) dX11_about_5 (by decide) ?_ ?_
  · refine mw_iconst (v := (-1 : Int32)) dX11_about_8 (by decide) ?_
    exact mw_ireturn dX11_about_9
  · refine mw_iload_n 2 dX11_about_10 rfl rfl ?_
    refine mw_ite (fun h3 => ?_) (fun h3 => ?_)
    · refine mw_tab (tgt := 44) h3 dX11_about_11 (by decide) (by decide) rfl (by decide) ?_
      refine mw_aload_n 0 dX11_about_44 rfl rfl ?_
      refine gf_RX11_41 mk_0 dX11_about_45 ?_
      refine mw_iload_n 1 dX11_about_48 rfl rfl ?_
      refine mw_aaload (n := 4) (t := 4) (g := fun i => 53 + 1 + 3 * i) mk_53 (by decide) (kr_24 mk_53 ml_53) rfl dX11_about_49 (fun h4 => ?_)
      refine mw_bndA (ke_24 mk_53 h4.2) (fun a5 ha5 => ?_)
      refine gf_RX11_130 ha5 dX11_about_50 ?_
      exact mw_ireturn dX11_about_53
    · refine mw_ite (fun h6 => ?_) (fun h6 => ?_)
      · refine mw_tab (tgt := 54) h6 dX11_about_11 (by decide) (by decide) rfl (by decide) ?_
        refine mw_aload_n 0 dX11_about_54 rfl rfl ?_
        refine gf_RX11_41 mk_0 dX11_about_55 ?_
        refine mw_iload_n 1 dX11_about_58 rfl rfl ?_
        refine mw_aaload (n := 4) (t := 4) (g := fun i => 53 + 1 + 3 * i) mk_53 (by decide) (kr_24 mk_53 ml_53) rfl dX11_about_59 (fun h7 => ?_)
        refine mw_bndA (ke_24 mk_53 h7.2) (fun a8 ha8 => ?_)
        refine mw_callV (t_X3_countGaps X l a8 S2 ha8) cd_X3_countGaps lk_RX11_224 im_X3_countGaps se_X3_countGaps in_RX3 de_X3_countGaps ⟨rfl, rfl⟩ ⟨Nat.le_of_ble_eq_true rfl, Nat.le_of_ble_eq_true rfl⟩ (mKind_lt ha8 (by decide)) (mCell_k ha8) rfl rfl rfl rfl ⟨Nat.le_of_ble_eq_true rfl, Nat.le_of_ble_eq_true rfl⟩ (Nat.le_of_ble_eq_true rfl) dX11_about_60 (fun r9 S10 => ?_)
        refine mw_eq (st' := [.int r9]) rfl rfl ?_
        exact mw_ireturn dX11_about_63
      · refine mw_ite (fun h11 => ?_) (fun h11 => ?_)
        · refine mw_tab (tgt := 64) h11 dX11_about_11 (by decide) (by decide) rfl (by decide) ?_
          refine mw_aload_n 0 dX11_about_64 rfl rfl ?_
          refine gf_RX11_41 mk_0 dX11_about_65 ?_
          refine mw_iload_n 1 dX11_about_68 rfl rfl ?_
          refine mw_aaload (n := 4) (t := 4) (g := fun i => 53 + 1 + 3 * i) mk_53 (by decide) (kr_24 mk_53 ml_53) rfl dX11_about_69 (fun h12 => ?_)
          refine mw_bndA (ke_24 mk_53 h12.2) (fun a13 ha13 => ?_)
          refine mw_callV (t_X3_placeOfLeast X l a13 S2 ha13) cd_X3_placeOfLeast lk_RX11_228 im_X3_placeOfLeast se_X3_placeOfLeast in_RX3 de_X3_placeOfLeast ⟨rfl, rfl⟩ ⟨Nat.le_of_ble_eq_true rfl, Nat.le_of_ble_eq_true rfl⟩ (mKind_lt ha13 (by decide)) (mCell_k ha13) rfl rfl rfl rfl ⟨Nat.le_of_ble_eq_true rfl, Nat.le_of_ble_eq_true rfl⟩ (Nat.le_of_ble_eq_true rfl) dX11_about_70 (fun r14 S15 => ?_)
          refine mw_eq (st' := [.int r14]) rfl rfl ?_
          exact mw_ireturn dX11_about_73
        · refine mw_ite (fun h16 => ?_) (fun h16 => ?_)
          · refine mw_tab (tgt := 74) h16 dX11_about_11 (by decide) (by decide) rfl (by decide) ?_
            refine mw_aload_n 0 dX11_about_74 rfl rfl ?_
            refine gf_RX11_41 mk_0 dX11_about_75 ?_
            refine mw_iload_n 1 dX11_about_78 rfl rfl ?_
            refine mw_aaload (n := 4) (t := 4) (g := fun i => 53 + 1 + 3 * i) mk_53 (by decide) (kr_24 mk_53 ml_53) rfl dX11_about_79 (fun h17 => ?_)
            refine mw_bndA (ke_24 mk_53 h17.2) (fun a18 ha18 => ?_)
            refine mw_callV (t_X3_placeOfGreatest X l a18 S2 ha18) cd_X3_placeOfGreatest lk_RX11_231 im_X3_placeOfGreatest se_X3_placeOfGreatest in_RX3 de_X3_placeOfGreatest ⟨rfl, rfl⟩ ⟨Nat.le_of_ble_eq_true rfl, Nat.le_of_ble_eq_true rfl⟩ (mKind_lt ha18 (by decide)) (mCell_k ha18) rfl rfl rfl rfl ⟨Nat.le_of_ble_eq_true rfl, Nat.le_of_ble_eq_true rfl⟩ (Nat.le_of_ble_eq_true rfl) dX11_about_80 (fun r19 S20 => ?_)
            refine mw_eq (st' := [.int r19]) rfl rfl ?_
            exact mw_ireturn dX11_about_83
          · refine mw_ite (fun h21 => ?_) (fun h21 => ?_)
            · refine mw_tab (tgt := 84) h21 dX11_about_11 (by decide) (by decide) rfl (by decide) ?_
              refine mw_aload_n 0 dX11_about_84 rfl rfl ?_
              refine gf_RX11_41 mk_0 dX11_about_85 ?_
              refine mw_iload_n 1 dX11_about_88 rfl rfl ?_
              refine mw_aaload (n := 4) (t := 4) (g := fun i => 53 + 1 + 3 * i) mk_53 (by decide) (kr_24 mk_53 ml_53) rfl dX11_about_89 (fun h22 => ?_)
              refine mw_bndA (ke_24 mk_53 h22.2) (fun a23 ha23 => ?_)
              refine mw_callV (t_X3_firstGap X l a23 S2 ha23) cd_X3_firstGap lk_RX11_234 im_X3_firstGap se_X3_firstGap in_RX3 de_X3_firstGap ⟨rfl, rfl⟩ ⟨Nat.le_of_ble_eq_true rfl, Nat.le_of_ble_eq_true rfl⟩ (mKind_lt ha23 (by decide)) (mCell_k ha23) rfl rfl rfl rfl ⟨Nat.le_of_ble_eq_true rfl, Nat.le_of_ble_eq_true rfl⟩ (Nat.le_of_ble_eq_true rfl) dX11_about_90 (fun r24 S25 => ?_)
              refine mw_eq (st' := [.int r24]) rfl rfl ?_
              exact mw_ireturn dX11_about_93
            · refine mw_tabD (tgt := 94) dX11_about_11 (by have eh3 : ¬ p2.toInt = 0 := fun q => h3 (Int32.toInt_inj.mp (q.trans (by decide))); have eh6 : ¬ p2.toInt = 1 := fun q => h6 (Int32.toInt_inj.mp (q.trans (by decide))); have eh11 : ¬ p2.toInt = 2 := fun q => h11 (Int32.toInt_inj.mp (q.trans (by decide))); have eh16 : ¬ p2.toInt = 3 := fun q => h16 (Int32.toInt_inj.mp (q.trans (by decide))); have eh21 : ¬ p2.toInt = 4 := fun q => h21 (Int32.toInt_inj.mp (q.trans (by decide))); omega) (by decide) ?_
              refine mw_iconst (v := (-1 : Int32)) dX11_about_94 (by decide) ?_
              exact mw_ireturn dX11_about_95
theorem t_X11_about (X : mX) (l : Launch) (p1 : Int32) (p2 : Int32) (S : mM) : mMet X viI yX11_about cX11_about 3 (some .int) rm_X11_about [.ref (X.2.1 0), .int p1, .int p2] l S (f_X11_about p1 p2 S) :=
  mMet_of (by decide +kernel) rfl (Nat.le_of_ble_eq_true rfl) (w_X11_about X l p1 p2 S )
/-! TraceBench.arm()I -/
def f_X11_arm (S : mM) : Option (Int32 × mM) :=
  if mKind (S.2.2 7 2) = 0 then
  bnd (S.2.2 7 2) fun a2 =>
  (if (S.1 a2 1) = 0 then
    some ((-2 : Int32), S)
  else
    mBind (f_X8_isFull S) fun r3 S4 =>
    if r3 = 0 then
      mBind (f_X4_beginAnew S4) fun r5 S6 =>
      some ((1 : Int32), S6)
    else
      some ((-3 : Int32), S4))
  else none
set_option maxRecDepth 100000 in
set_option maxHeartbeats 4000000 in
theorem w_X11_arm (X : mX) (l : Launch) (S : mM) : MW X viI rm_X11_arm cX11_arm RX11 1 (some .int) l S [(0, .ref (X.2.1 0))] [] 0 (f_X11_arm  S) := by
  unfold f_X11_arm
  refine mw_aload_n 0 dX11_arm_0 rfl rfl ?_
  refine gf_RX11_28 mk_0 dX11_arm_1 ?_
  refine gf_RX11_85 mk_7 dX11_arm_4 ?_
  refine mw_chk (fun h1 => ?_)
  refine mw_bndA h1 (fun a2 ha2 => ?_)
  refine gf_RX11_88 ha2 dX11_arm_7 ?_
  refine mw_if_ne (tgt := 16) dX11_arm_10 (by decide) ?_ ?_
  · refine mw_bipush (v := (-2 : Int32)) dX11_arm_13 (by decide) ?_
    exact mw_ireturn dX11_arm_15
  · refine mw_aload_n 0 dX11_arm_16 rfl rfl ?_
    refine gf_RX11_28 mk_0 dX11_arm_17 ?_
    refine gf_RX11_109 mk_7 dX11_arm_20 ?_
    refine mw_callV (t_X8_isFull X l S) cd_X8_isFull lk_RX11_113 im_X8_isFull se_X8_isFull in_RX8 de_X8_isFull ⟨rfl, rfl⟩ ⟨Nat.le_of_ble_eq_true rfl, Nat.le_of_ble_eq_true rfl⟩ (mKind_lt mk_10 (by decide)) (mCell_k mk_10) rfl rfl rfl rfl ⟨Nat.le_of_ble_eq_true rfl, Nat.le_of_ble_eq_true rfl⟩ (Nat.le_of_ble_eq_true rfl) dX11_arm_23 (fun r3 S4 => ?_)
    refine mw_eq (st' := [.int r3]) rfl rfl ?_
    refine mw_if_eq (tgt := 32) dX11_arm_26 (by decide) ?_ ?_
    · refine mw_aload_n 0 dX11_arm_32 rfl rfl ?_
      refine gf_RX11_28 mk_0 dX11_arm_33 ?_
      refine mw_callV (t_X4_beginAnew X l S4) cd_X4_beginAnew lk_RX11_119 im_X4_beginAnew se_X4_beginAnew in_RX4 de_X4_beginAnew ⟨rfl, rfl⟩ ⟨Nat.le_of_ble_eq_true rfl, Nat.le_of_ble_eq_true rfl⟩ (mKind_lt mk_7 (by decide)) (mCell_k mk_7) rfl rfl rfl rfl ⟨Nat.le_of_ble_eq_true rfl, Nat.le_of_ble_eq_true rfl⟩ (Nat.le_of_ble_eq_true rfl) dX11_arm_36 (fun r5 S6 => ?_)
      refine mw_eq (st' := []) rfl rfl ?_
      refine mw_iconst (v := (1 : Int32)) dX11_arm_39 (by decide) ?_
      exact mw_ireturn dX11_arm_40
    · refine mw_bipush (v := (-3 : Int32)) dX11_arm_29 (by decide) ?_
      exact mw_ireturn dX11_arm_31
theorem t_X11_arm (X : mX) (l : Launch) (S : mM) : mMet X viI yX11_arm cX11_arm 1 (some .int) rm_X11_arm [.ref (X.2.1 0)] l S (f_X11_arm  S) :=
  mMet_of (by decide +kernel) rfl (Nat.le_of_ble_eq_true rfl) (w_X11_arm X l  S )
/-! TraceBench.hasTrace(II)Z -/
def f_X11_hasTrace (p1 : Int32) (p2 : Int32) (S : mM) : Option (Int32 × mM) :=
  mBind (f_X8_has p1 S) fun r1 S2 =>
  if r1 = 0 then
    some ((0 : Int32), S2)
  else
    mBind (f_X11_isTrace p2 S2) fun r3 S4 =>
    if r3 = 0 then
      some ((0 : Int32), S4)
    else
      some ((1 : Int32), S4)
set_option maxRecDepth 100000 in
set_option maxHeartbeats 4000000 in
theorem w_X11_hasTrace (X : mX) (l : Launch) (p1 : Int32) (p2 : Int32) (S : mM) : MW X viI rm_X11_hasTrace cX11_hasTrace RX11 3 (some .boolean) l S [(0, .ref (X.2.1 0)), (1, .int p1), (2, .int p2)] [] 0 (f_X11_hasTrace p1 p2 S) := by
  unfold f_X11_hasTrace
  refine mw_aload_n 0 dX11_hasTrace_0 rfl rfl ?_
  refine gf_RX11_28 mk_0 dX11_hasTrace_1 ?_
  refine gf_RX11_109 mk_7 dX11_hasTrace_4 ?_
  refine mw_iload_n 1 dX11_hasTrace_7 rfl rfl ?_
  refine mw_callV (t_X8_has X l p1 S) cd_X8_has lk_RX11_168 im_X8_has se_X8_has in_RX8 de_X8_has ⟨rfl, rfl⟩ ⟨Nat.le_of_ble_eq_true rfl, Nat.le_of_ble_eq_true rfl⟩ (mKind_lt mk_10 (by decide)) (mCell_k mk_10) rfl rfl rfl rfl ⟨Nat.le_of_ble_eq_true rfl, Nat.le_of_ble_eq_true rfl⟩ (Nat.le_of_ble_eq_true rfl) dX11_hasTrace_8 (fun r1 S2 => ?_)
  refine mw_eq (st' := [.int r1]) rfl rfl ?_
  refine mw_if_eq (tgt := 25) dX11_hasTrace_11 (by decide) ?_ ?_
  · refine mw_iconst (v := (0 : Int32)) dX11_hasTrace_25 (by decide) ?_
    exact mw_zret (by decide) dX11_hasTrace_26
  · refine mw_iload_n 2 dX11_hasTrace_14 rfl rfl ?_
    refine mw_callS (t_X11_isTrace X l p2 S2) cd_X11_isTrace lk_RX11_127 sn_X11_isTrace in_RX11 de_X11_isTrace ⟨rfl, rfl⟩ ⟨Nat.le_of_ble_eq_true rfl, Nat.le_of_ble_eq_true rfl⟩ rfl rfl ⟨Nat.le_of_ble_eq_true rfl, Nat.le_of_ble_eq_true rfl⟩ (Nat.le_of_ble_eq_true rfl) dX11_hasTrace_15 (fun r3 S4 => ?_)
    refine mw_eq (st' := [.int r3]) rfl rfl ?_
    refine mw_if_eq (tgt := 25) dX11_hasTrace_18 (by decide) ?_ ?_
    · refine mw_iconst (v := (0 : Int32)) dX11_hasTrace_25 (by decide) ?_
      exact mw_zret (by decide) dX11_hasTrace_26
    · refine mw_iconst (v := (1 : Int32)) dX11_hasTrace_21 (by decide) ?_
      refine mw_goto (tgt := 26) dX11_hasTrace_22 (by decide) ?_
      exact mw_zret (by decide) dX11_hasTrace_26
theorem t_X11_hasTrace (X : mX) (l : Launch) (p1 : Int32) (p2 : Int32) (S : mM) : mMet X viI yX11_hasTrace cX11_hasTrace 3 (some .boolean) rm_X11_hasTrace [.ref (X.2.1 0), .int p1, .int p2] l S (f_X11_hasTrace p1 p2 S) :=
  mMet_of (by decide +kernel) rfl (Nat.le_of_ble_eq_true rfl) (w_X11_hasTrace X l p1 p2 S )
/-! TraceBench.at(III)I -/
def f_X11_at (p1 : Int32) (p2 : Int32) (p3 : Int32) (S : mM) : Option (Int32 × mM) :=
  mBind (f_X11_hasTrace p1 p2 S) fun r1 S2 =>
  if r1 = 0 then
    some ((1000 : Int32), S2)
  else
    mBind (f_X8_get p1 S2) fun r3 S4 =>
    if mKind r3 = 5 then
    (mBind (f_X5_has r3 p3 S4) fun r6 S7 =>
    if r6 = 0 then
      some ((1000 : Int32), S7)
    else
      mBind (f_X5_numberAt r3 p2 p3 S7) fun r8 S9 =>
      some (r8, S9))
    else none
set_option maxRecDepth 100000 in
set_option maxHeartbeats 4000000 in
theorem w_X11_at (X : mX) (l : Launch) (p1 : Int32) (p2 : Int32) (p3 : Int32) (S : mM) : MW X viI rm_X11_at cX11_at RX11 5 (some .int) l S [(0, .ref (X.2.1 0)), (1, .int p1), (2, .int p2), (3, .int p3)] [] 0 (f_X11_at p1 p2 p3 S) := by
  unfold f_X11_at
  refine mw_aload_n 0 dX11_at_0 rfl rfl ?_
  refine mw_iload_n 1 dX11_at_1 rfl rfl ?_
  refine mw_iload_n 2 dX11_at_2 rfl rfl ?_
  refine mw_callV (t_X11_hasTrace X l p1 p2 S) cd_X11_hasTrace lk_RX11_181 im_X11_hasTrace se_X11_hasTrace in_RX11 de_X11_hasTrace ⟨rfl, rfl⟩ ⟨Nat.le_of_ble_eq_true rfl, Nat.le_of_ble_eq_true rfl⟩ (mKind_lt mk_0 (by decide)) (mCell_k mk_0) rfl rfl rfl rfl ⟨Nat.le_of_ble_eq_true rfl, Nat.le_of_ble_eq_true rfl⟩ (Nat.le_of_ble_eq_true rfl) dX11_at_3 (fun r1 S2 => ?_)
  refine mw_eq (st' := [.int r1]) rfl rfl ?_
  refine mw_if_ne (tgt := 13) dX11_at_6 (by decide) ?_ ?_
  · refine mw_sipush (v := (1000 : Int32)) dX11_at_9 (by decide) ?_
    exact mw_ireturn dX11_at_12
  · refine mw_aload_n 0 dX11_at_13 rfl rfl ?_
    refine gf_RX11_28 mk_0 dX11_at_14 ?_
    refine gf_RX11_109 mk_7 dX11_at_17 ?_
    refine mw_iload_n 1 dX11_at_20 rfl rfl ?_
    refine mw_callV (t_X8_get X l p1 S2) cd_X8_get lk_RX11_169 im_X8_get se_X8_get in_RX8 de_X8_get ⟨rfl, rfl⟩ ⟨Nat.le_of_ble_eq_true rfl, Nat.le_of_ble_eq_true rfl⟩ (mKind_lt mk_10 (by decide)) (mCell_k mk_10) rfl rfl rfl rfl ⟨Nat.le_of_ble_eq_true rfl, Nat.le_of_ble_eq_true rfl⟩ (Nat.le_of_ble_eq_true rfl) dX11_at_21 (fun r3 S4 => ?_)
    refine mw_chk (fun h5 => ?_)
    refine mw_eq (st' := [.ref (X.2.1 r3)]) rfl rfl ?_
    refine mw_astore (lv' := [(4, .ref (X.2.1 r3)), (0, .ref (X.2.1 0)), (1, .int p1), (2, .int p2), (3, .int p3)]) dX11_at_24 (by decide) rfl ?_
    refine mw_aload 0 dX11_at_26 rfl ?_
    refine mw_iload_n 4 dX11_at_28 rfl rfl ?_
    refine mw_callV (t_X5_has X l r3 p3 S4 h5) cd_X5_has lk_RX11_185 im_X5_has se_X5_has in_RX5 de_X5_has ⟨rfl, rfl⟩ ⟨Nat.le_of_ble_eq_true rfl, Nat.le_of_ble_eq_true rfl⟩ (mKind_lt h5 (by decide)) (mCell_k h5) rfl rfl rfl rfl ⟨Nat.le_of_ble_eq_true rfl, Nat.le_of_ble_eq_true rfl⟩ (Nat.le_of_ble_eq_true rfl) dX11_at_29 (fun r6 S7 => ?_)
    refine mw_eq (st' := [.int r6]) rfl rfl ?_
    refine mw_if_eq (tgt := 45) dX11_at_32 (by decide) ?_ ?_
    · refine mw_sipush (v := (1000 : Int32)) dX11_at_45 (by decide) ?_
      exact mw_ireturn dX11_at_48
    · refine mw_aload 0 dX11_at_35 rfl ?_
      refine mw_iload_n 3 dX11_at_37 rfl rfl ?_
      refine mw_iload_n 4 dX11_at_38 rfl rfl ?_
      refine mw_callV (t_X5_numberAt X l r3 p2 p3 S7 h5) cd_X5_numberAt lk_RX11_186 im_X5_numberAt se_X5_numberAt in_RX5 de_X5_numberAt ⟨rfl, rfl⟩ ⟨Nat.le_of_ble_eq_true rfl, Nat.le_of_ble_eq_true rfl⟩ (mKind_lt h5 (by decide)) (mCell_k h5) rfl rfl rfl rfl ⟨Nat.le_of_ble_eq_true rfl, Nat.le_of_ble_eq_true rfl⟩ (Nat.le_of_ble_eq_true rfl) dX11_at_39 (fun r8 S9 => ?_)
      refine mw_eq (st' := [.int r8]) rfl rfl ?_
      refine mw_goto (tgt := 48) dX11_at_42 (by decide) ?_
      exact mw_ireturn dX11_at_48
theorem t_X11_at (X : mX) (l : Launch) (p1 : Int32) (p2 : Int32) (p3 : Int32) (S : mM) : mMet X viI yX11_at cX11_at 5 (some .int) rm_X11_at [.ref (X.2.1 0), .int p1, .int p2, .int p3] l S (f_X11_at p1 p2 p3 S) :=
  mMet_of (by decide +kernel) rfl (Nat.le_of_ble_eq_true rfl) (w_X11_at X l p1 p2 p3 S )
/-! TraceBench.bytes(III)I -/
def f_X11_bytes (p1 : Int32) (p2 : Int32) (p3 : Int32) (S : mM) : Option (Int32 × mM) :=
  mBind (f_X11_hasTrace p1 p2 S) fun r1 S2 =>
  if r1 = 0 then
    some ((-1 : Int32), S2)
  else
    mBind (f_X11_isIn p3 (2 : Int32) (16 : Int32) S2) fun r3 S4 =>
    if r3 = 0 then
      some ((-1 : Int32), S4)
    else
      mBind (f_X8_get p1 S4) fun r5 S6 =>
      if mKind r5 = 5 then
      (mBind (f_X10_readOne r5 p2 p3 S6) fun r8 S9 =>
      some ((S9.1 66 2), S9))
      else none
set_option maxRecDepth 100000 in
set_option maxHeartbeats 4000000 in
theorem w_X11_bytes (X : mX) (l : Launch) (p1 : Int32) (p2 : Int32) (p3 : Int32) (S : mM) : MW X viI rm_X11_bytes cX11_bytes RX11 4 (some .int) l S [(0, .ref (X.2.1 0)), (1, .int p1), (2, .int p2), (3, .int p3)] [] 0 (f_X11_bytes p1 p2 p3 S) := by
  unfold f_X11_bytes
  refine mw_aload_n 0 dX11_bytes_0 rfl rfl ?_
  refine mw_iload_n 1 dX11_bytes_1 rfl rfl ?_
  refine mw_iload_n 2 dX11_bytes_2 rfl rfl ?_
  refine mw_callV (t_X11_hasTrace X l p1 p2 S) cd_X11_hasTrace lk_RX11_181 im_X11_hasTrace se_X11_hasTrace in_RX11 de_X11_hasTrace ⟨rfl, rfl⟩ ⟨Nat.le_of_ble_eq_true rfl, Nat.le_of_ble_eq_true rfl⟩ (mKind_lt mk_0 (by decide)) (mCell_k mk_0) rfl rfl rfl rfl ⟨Nat.le_of_ble_eq_true rfl, Nat.le_of_ble_eq_true rfl⟩ (Nat.le_of_ble_eq_true rfl) dX11_bytes_3 (fun r1 S2 => ?_)
  refine mw_eq (st' := [.int r1]) rfl rfl ?_
  refine mw_if_eq (tgt := 19) dX11_bytes_6 (by decide) ?_ ?_
  · refine mw_iconst (v := (-1 : Int32)) dX11_bytes_19 (by decide) ?_
    exact mw_ireturn dX11_bytes_20
  · refine mw_iload_n 3 dX11_bytes_9 rfl rfl ?_
    refine mw_iconst (v := (2 : Int32)) dX11_bytes_10 (by decide) ?_
    refine mw_bipush (v := (16 : Int32)) dX11_bytes_11 (by decide) ?_
    refine mw_callS (t_X11_isIn X l p3 (2 : Int32) (16 : Int32) S2) cd_X11_isIn lk_RX11_96 sn_X11_isIn in_RX11 de_X11_isIn ⟨rfl, rfl⟩ ⟨Nat.le_of_ble_eq_true rfl, Nat.le_of_ble_eq_true rfl⟩ rfl rfl ⟨Nat.le_of_ble_eq_true rfl, Nat.le_of_ble_eq_true rfl⟩ (Nat.le_of_ble_eq_true rfl) dX11_bytes_13 (fun r3 S4 => ?_)
    refine mw_eq (st' := [.int r3]) rfl rfl ?_
    refine mw_if_ne (tgt := 21) dX11_bytes_16 (by decide) ?_ ?_
    · refine mw_iconst (v := (-1 : Int32)) dX11_bytes_19 (by decide) ?_
      exact mw_ireturn dX11_bytes_20
    · refine mw_aload_n 0 dX11_bytes_21 rfl rfl ?_
      refine gf_RX11_49 mk_0 dX11_bytes_22 ?_
      refine mw_aload_n 0 dX11_bytes_25 rfl rfl ?_
      refine gf_RX11_28 mk_0 dX11_bytes_26 ?_
      refine gf_RX11_109 mk_7 dX11_bytes_29 ?_
      refine mw_iload_n 1 dX11_bytes_32 rfl rfl ?_
      refine mw_callV (t_X8_get X l p1 S4) cd_X8_get lk_RX11_169 im_X8_get se_X8_get in_RX8 de_X8_get ⟨rfl, rfl⟩ ⟨Nat.le_of_ble_eq_true rfl, Nat.le_of_ble_eq_true rfl⟩ (mKind_lt mk_10 (by decide)) (mCell_k mk_10) rfl rfl rfl rfl ⟨Nat.le_of_ble_eq_true rfl, Nat.le_of_ble_eq_true rfl⟩ (Nat.le_of_ble_eq_true rfl) dX11_bytes_33 (fun r5 S6 => ?_)
      refine mw_chk (fun h7 => ?_)
      refine mw_eq (st' := [.ref (X.2.1 r5), .ref (X.2.1 66)]) rfl rfl ?_
      refine mw_iload_n 2 dX11_bytes_36 rfl rfl ?_
      refine mw_iload_n 3 dX11_bytes_37 rfl rfl ?_
      refine mw_callV (t_X10_readOne X l r5 p2 p3 S6 h7) cd_X10_readOne lk_RX11_249 im_X10_readOne se_X10_readOne in_RX10 de_X10_readOne ⟨rfl, rfl⟩ ⟨Nat.le_of_ble_eq_true rfl, Nat.le_of_ble_eq_true rfl⟩ (mKind_lt mk_66 (by decide)) (mCell_k mk_66) rfl rfl rfl rfl ⟨Nat.le_of_ble_eq_true rfl, Nat.le_of_ble_eq_true rfl⟩ (Nat.le_of_ble_eq_true rfl) dX11_bytes_38 (fun r8 S9 => ?_)
      refine mw_eq (st' := []) rfl rfl ?_
      refine mw_aload_n 0 dX11_bytes_41 rfl rfl ?_
      refine gf_RX11_49 mk_0 dX11_bytes_42 ?_
      refine gf_RX11_253 mk_66 dX11_bytes_45 ?_
      exact mw_ireturn dX11_bytes_48
theorem t_X11_bytes (X : mX) (l : Launch) (p1 : Int32) (p2 : Int32) (p3 : Int32) (S : mM) : mMet X viI yX11_bytes cX11_bytes 4 (some .int) rm_X11_bytes [.ref (X.2.1 0), .int p1, .int p2, .int p3] l S (f_X11_bytes p1 p2 p3 S) :=
  mMet_of (by decide +kernel) rfl (Nat.le_of_ble_eq_true rfl) (w_X11_bytes X l p1 p2 p3 S )
/-! TraceBench.come(J)I -/
def f_X11_come (p1 : Int64) (S : mM) : Option (Int32 × mM) :=
  mBind (f_X4_take ((p1 >>> ((32 : Int32).toInt64 &&& 63)).toInt32) S) fun r1 S2 =>
  mBind (f_X4_take p1.toInt32 S2) fun r3 S4 =>
  some ((S4.1 10 1), S4)
set_option maxRecDepth 100000 in
set_option maxHeartbeats 4000000 in
theorem w_X11_come (X : mX) (l : Launch) (p1 : Int64) (S : mM) : MW X viI rm_X11_come cX11_come RX11 3 (some .int) l S [(0, .ref (X.2.1 0)), (1, .long p1)] [] 0 (f_X11_come p1 S) := by
  unfold f_X11_come
  refine mw_aload_n 0 dX11_come_0 rfl rfl ?_
  refine gf_RX11_28 mk_0 dX11_come_1 ?_
  refine mw_lload_n 1 dX11_come_4 rfl rfl ?_
  refine mw_bipush (v := (32 : Int32)) dX11_come_5 (by decide) ?_
  refine mw_lshr dX11_come_7 ?_
  refine mw_l2i dX11_come_8 ?_
  refine mw_callV (t_X4_take X l ((p1 >>> ((32 : Int32).toInt64 &&& 63)).toInt32) S) cd_X4_take lk_RX11_122 im_X4_take se_X4_take in_RX4 de_X4_take ⟨rfl, rfl⟩ ⟨Nat.le_of_ble_eq_true rfl, Nat.le_of_ble_eq_true rfl⟩ (mKind_lt mk_7 (by decide)) (mCell_k mk_7) rfl rfl rfl rfl ⟨Nat.le_of_ble_eq_true rfl, Nat.le_of_ble_eq_true rfl⟩ (Nat.le_of_ble_eq_true rfl) dX11_come_9 (fun r1 S2 => ?_)
  refine mw_eq (st' := []) rfl rfl ?_
  refine mw_aload_n 0 dX11_come_12 rfl rfl ?_
  refine gf_RX11_28 mk_0 dX11_come_13 ?_
  refine mw_lload_n 1 dX11_come_16 rfl rfl ?_
  refine mw_l2i dX11_come_17 ?_
  refine mw_callV (t_X4_take X l p1.toInt32 S2) cd_X4_take lk_RX11_122 im_X4_take se_X4_take in_RX4 de_X4_take ⟨rfl, rfl⟩ ⟨Nat.le_of_ble_eq_true rfl, Nat.le_of_ble_eq_true rfl⟩ (mKind_lt mk_7 (by decide)) (mCell_k mk_7) rfl rfl rfl rfl ⟨Nat.le_of_ble_eq_true rfl, Nat.le_of_ble_eq_true rfl⟩ (Nat.le_of_ble_eq_true rfl) dX11_come_18 (fun r3 S4 => ?_)
  refine mw_eq (st' := []) rfl rfl ?_
  refine mw_aload_n 0 dX11_come_21 rfl rfl ?_
  refine gf_RX11_28 mk_0 dX11_come_22 ?_
  refine gf_RX11_109 mk_7 dX11_come_25 ?_
  refine gf_RX11_126 mk_10 dX11_come_28 ?_
  exact mw_ireturn dX11_come_31
theorem t_X11_come (X : mX) (l : Launch) (p1 : Int64) (S : mM) : mMet X viI yX11_come cX11_come 3 (some .int) rm_X11_come [.ref (X.2.1 0), .long p1] l S (f_X11_come p1 S) :=
  mMet_of (by decide +kernel) rfl (Nat.le_of_ble_eq_true rfl) (w_X11_come X l p1 S )
/-! TraceBench.drop()I -/
def f_X11_drop (S : mM) : Option (Int32 × mM) :=
  mBind (f_X8_removeLatest S) fun r1 S2 =>
  if r1 = 0 then
    some ((-4 : Int32), S2)
  else
    some ((S2.1 10 1), S2)
set_option maxRecDepth 100000 in
set_option maxHeartbeats 4000000 in
theorem w_X11_drop (X : mX) (l : Launch) (S : mM) : MW X viI rm_X11_drop cX11_drop RX11 1 (some .int) l S [(0, .ref (X.2.1 0))] [] 0 (f_X11_drop  S) := by
  unfold f_X11_drop
  refine mw_aload_n 0 dX11_drop_0 rfl rfl ?_
  refine gf_RX11_28 mk_0 dX11_drop_1 ?_
  refine gf_RX11_109 mk_7 dX11_drop_4 ?_
  refine mw_callV (t_X8_removeLatest X l S) cd_X8_removeLatest lk_RX11_189 im_X8_removeLatest se_X8_removeLatest in_RX8 de_X8_removeLatest ⟨rfl, rfl⟩ ⟨Nat.le_of_ble_eq_true rfl, Nat.le_of_ble_eq_true rfl⟩ (mKind_lt mk_10 (by decide)) (mCell_k mk_10) rfl rfl rfl rfl ⟨Nat.le_of_ble_eq_true rfl, Nat.le_of_ble_eq_true rfl⟩ (Nat.le_of_ble_eq_true rfl) dX11_drop_7 (fun r1 S2 => ?_)
  refine mw_eq (st' := [.int r1]) rfl rfl ?_
  refine mw_if_eq (tgt := 26) dX11_drop_10 (by decide) ?_ ?_
  · refine mw_bipush (v := (-4 : Int32)) dX11_drop_26 (by decide) ?_
    exact mw_ireturn dX11_drop_28
  · refine mw_aload_n 0 dX11_drop_13 rfl rfl ?_
    refine gf_RX11_28 mk_0 dX11_drop_14 ?_
    refine gf_RX11_109 mk_7 dX11_drop_17 ?_
    refine gf_RX11_126 mk_10 dX11_drop_20 ?_
    refine mw_goto (tgt := 28) dX11_drop_23 (by decide) ?_
    exact mw_ireturn dX11_drop_28
theorem t_X11_drop (X : mX) (l : Launch) (S : mM) : mMet X viI yX11_drop cX11_drop 1 (some .int) rm_X11_drop [.ref (X.2.1 0)] l S (f_X11_drop  S) :=
  mMet_of (by decide +kernel) rfl (Nat.le_of_ble_eq_true rfl) (w_X11_drop X l  S )
/-! TraceBench.end(I)I -/
def f_X11_end (p1 : Int32) (S : mM) : Option (Int32 × mM) :=
  bnd (S.1 1 1) fun x1 =>
  mBind (f_X9_cutTo p1 S) fun r2 S3 =>
  if r2 = 0 then
    some ((-1 : Int32), S3)
  else
    some (x1, S3)
set_option maxRecDepth 100000 in
set_option maxHeartbeats 4000000 in
theorem w_X11_end (X : mX) (l : Launch) (p1 : Int32) (S : mM) : MW X viI rm_X11_end cX11_end RX11 3 (some .int) l S [(0, .ref (X.2.1 0)), (1, .int p1)] [] 0 (f_X11_end p1 S) := by
  unfold f_X11_end
  refine mw_aload_n 0 dX11_end_0 rfl rfl ?_
  refine gf_RX11_12 mk_0 dX11_end_1 ?_
  refine gf_RX11_61 mk_1 dX11_end_4 ?_
  refine mw_bndI (fun x1 => ?_)
  refine mw_istore_n (lv' := [(2, .int x1), (0, .ref (X.2.1 0)), (1, .int p1)]) dX11_end_7 rfl (by decide) rfl ?_
  refine mw_aload_n 1 dX11_end_8 rfl rfl ?_
  refine gf_RX11_12 mk_0 dX11_end_9 ?_
  refine mw_iload_n 2 dX11_end_12 rfl rfl ?_
  refine mw_callV (t_X9_cutTo X l p1 S) cd_X9_cutTo lk_RX11_64 im_X9_cutTo se_X9_cutTo in_RX9 de_X9_cutTo ⟨rfl, rfl⟩ ⟨Nat.le_of_ble_eq_true rfl, Nat.le_of_ble_eq_true rfl⟩ (mKind_lt mk_1 (by decide)) (mCell_k mk_1) rfl rfl rfl rfl ⟨Nat.le_of_ble_eq_true rfl, Nat.le_of_ble_eq_true rfl⟩ (Nat.le_of_ble_eq_true rfl) dX11_end_13 (fun r2 S3 => ?_)
  refine mw_eq (st' := [.int r2]) rfl rfl ?_
  refine mw_if_eq (tgt := 23) dX11_end_16 (by decide) ?_ ?_
  · refine mw_iconst (v := (-1 : Int32)) dX11_end_23 (by decide) ?_
    exact mw_ireturn dX11_end_24
  · refine mw_iload_n 0 dX11_end_19 rfl rfl ?_
    refine mw_goto (tgt := 24) dX11_end_20 (by decide) ?_
    exact mw_ireturn dX11_end_24
theorem t_X11_end (X : mX) (l : Launch) (p1 : Int32) (S : mM) : mMet X viI yX11_end cX11_end 3 (some .int) rm_X11_end [.ref (X.2.1 0), .int p1] l S (f_X11_end p1 S) :=
  mMet_of (by decide +kernel) rfl (Nat.le_of_ble_eq_true rfl) (w_X11_end X l p1 S )
/-! TraceBench.eye(IIIIJII)I -/
def f_X11_eye_75 (n : Nat) (y2 : Int32) (y3 : Int32) (y4 : Int32) (y5 : Int64) (y7 : Int32) (y8 : Int32) (y9 : Nat) (y10 : Int32) (y11 : Int32) (S : mM) : Option (Int32 × mM) := match n with
  | 0 => none
  | n + 1 =>
    if (S.1 y9 2) ≤ y11 then
      some (y10, S)
    else
      if ¬ y3 = 0 then
      if ((y11 - y2) - (y11 - y2) / y3 * y3) = y4 then
        mBind (f_X3_isInBand y9 y11 y5 y7 y8 S) fun r2 S3 =>
        if r2 = 0 then
          bnd (y11 + (1 : Int32)) fun x4 =>
          f_X11_eye_75 n y2 y3 y4 y5 y7 y8 y9 y10 x4 S3
        else
          bnd (y10 + (1 : Int32)) fun x5 =>
          bnd (y11 + (1 : Int32)) fun x6 =>
          f_X11_eye_75 n y2 y3 y4 y5 y7 y8 y9 x5 x6 S3
      else
        bnd (y11 + (1 : Int32)) fun x7 =>
        f_X11_eye_75 n y2 y3 y4 y5 y7 y8 y9 y10 x7 S else none
set_option maxRecDepth 100000 in
set_option maxHeartbeats 4000000 in
theorem w_X11_eye_75 (X : mX) (l : Launch) (n : Nat) (y2 : Int32) (y3 : Int32) (y4 : Int32) (y5 : Int64) (y7 : Int32) (y8 : Int32) (y9 : Nat) (y10 : Int32) (y11 : Int32) (S : mM) (hy9 : mKind y9 = 3) : MW X viI rm_X11_eye cX11_eye RX11 12 (some .int) l S [(2, .int y2), (3, .int y3), (4, .int y4), (5, .long y5), (7, .int y7), (8, .int y8), (9, .ref (X.2.1 y9)), (10, .int y10), (11, .int y11)] [] 75 (f_X11_eye_75 n y2 y3 y4 y5 y7 y8 y9 y10 y11 S) := by
  induction n generalizing y2 y3 y4 y5 y7 y8 y9 y10 y11 S with
  | zero => exact mw_none
  | succ n ih =>
    unfold f_X11_eye_75
    refine mw_iload 8 dX11_eye_75 rfl ?_
    refine mw_aload 6 dX11_eye_77 rfl ?_
    refine gf_RX11_130 hy9 dX11_eye_79 ?_
    refine mw_icmp_ge (tgt := 121) dX11_eye_82 (by decide) ?_ ?_
    · refine mw_iload 7 dX11_eye_121 rfl ?_
      exact mw_ireturn dX11_eye_123
    · refine mw_iload 8 dX11_eye_85 rfl ?_
      refine mw_iload_n 0 dX11_eye_87 rfl rfl ?_
      refine mw_isub dX11_eye_88 ?_
      refine mw_iload_n 1 dX11_eye_89 rfl rfl ?_
      refine mw_chk (fun h1 => ?_)
      refine mw_irem dX11_eye_90 h1 ?_
      refine mw_iload 2 dX11_eye_91 rfl ?_
      refine mw_icmp_ne (tgt := 115) dX11_eye_93 (by decide) ?_ ?_
      · refine mw_aload 6 dX11_eye_96 rfl ?_
        refine mw_iload 8 dX11_eye_98 rfl ?_
        refine mw_lload 3 dX11_eye_100 rfl ?_
        refine mw_iload 4 dX11_eye_102 rfl ?_
        refine mw_iload 5 dX11_eye_104 rfl ?_
        refine mw_callV (t_X3_isInBand X l y9 y11 y5 y7 y8 S hy9) cd_X3_isInBand lk_RX11_245 im_X3_isInBand se_X3_isInBand in_RX3 de_X3_isInBand ⟨rfl, rfl⟩ ⟨Nat.le_of_ble_eq_true rfl, Nat.le_of_ble_eq_true rfl⟩ (mKind_lt hy9 (by decide)) (mCell_k hy9) rfl rfl rfl rfl ⟨Nat.le_of_ble_eq_true rfl, Nat.le_of_ble_eq_true rfl⟩ (Nat.le_of_ble_eq_true rfl) dX11_eye_106 (fun r2 S3 => ?_)
        refine mw_eq (st' := [.int r2]) rfl rfl ?_
        refine mw_if_eq (tgt := 115) dX11_eye_109 (by decide) ?_ ?_
        · refine mw_iincB (lvf := fun x4 => [(11, .int x4), (2, .int y2), (3, .int y3), (4, .int y4), (5, .long y5), (7, .int y7), (8, .int y8), (9, .ref (X.2.1 y9)), (10, .int y10)]) (k := 8) dX11_eye_115 rfl (by decide) (by decide) (fun _ => rfl) (fun x4 => ?_)
          refine mw_goto (tgt := 75) dX11_eye_118 (by decide) ?_
          exact mw_sub [1, 2, 3, 4, 5, 6, 7, 8, 0] rfl (ih y2 y3 y4 y5 y7 y8 y9 y10 x4 S3 hy9)
        · refine mw_iincB (lvf := fun x5 => [(10, .int x5), (2, .int y2), (3, .int y3), (4, .int y4), (5, .long y5), (7, .int y7), (8, .int y8), (9, .ref (X.2.1 y9)), (11, .int y11)]) (k := 7) dX11_eye_112 rfl (by decide) (by decide) (fun _ => rfl) (fun x5 => ?_)
          refine mw_iincB (lvf := fun x6 => [(11, .int x6), (10, .int x5), (2, .int y2), (3, .int y3), (4, .int y4), (5, .long y5), (7, .int y7), (8, .int y8), (9, .ref (X.2.1 y9))]) (k := 8) dX11_eye_115 rfl (by decide) (by decide) (fun _ => rfl) (fun x6 => ?_)
          refine mw_goto (tgt := 75) dX11_eye_118 (by decide) ?_
          exact mw_sub [2, 3, 4, 5, 6, 7, 8, 1, 0] rfl (ih y2 y3 y4 y5 y7 y8 y9 x5 x6 S3 hy9)
      · refine mw_iincB (lvf := fun x7 => [(11, .int x7), (2, .int y2), (3, .int y3), (4, .int y4), (5, .long y5), (7, .int y7), (8, .int y8), (9, .ref (X.2.1 y9)), (10, .int y10)]) (k := 8) dX11_eye_115 rfl (by decide) (by decide) (fun _ => rfl) (fun x7 => ?_)
        refine mw_goto (tgt := 75) dX11_eye_118 (by decide) ?_
        exact mw_sub [1, 2, 3, 4, 5, 6, 7, 8, 0] rfl (ih y2 y3 y4 y5 y7 y8 y9 y10 x7 S hy9)
def f_X11_eye (p1 : Int32) (p2 : Int32) (p3 : Int32) (p4 : Int32) (p5 : Int64) (p7 : Int32) (p8 : Int32) (S : mM) : Option (Int32 × mM) :=
  mBind (f_X11_isFilled p1 S) fun r1 S2 =>
  if r1 = 0 then
    some ((-1 : Int32), S2)
  else
    if p2 < 0 then
      some ((-1 : Int32), S2)
    else
      mBind (f_X11_isIn p3 (1 : Int32) (32 : Int32) S2) fun r3 S4 =>
      if r3 = 0 then
        some ((-1 : Int32), S4)
      else
        mBind (f_X11_isIn p4 (0 : Int32) (p3 - (1 : Int32)) S4) fun r5 S6 =>
        if r5 = 0 then
          some ((-1 : Int32), S6)
        else
          mBind (f_X11_isIn p7 (1 : Int32) (1000 : Int32) S6) fun r7 S8 =>
          if r7 = 0 then
            some ((-1 : Int32), S8)
          else
            mBind (f_X11_isIn p8 (0 : Int32) (15 : Int32) S8) fun r9 S10 =>
            if r9 = 0 then
              some ((-1 : Int32), S10)
            else
              if 0 ≤ p1 ∧ p1.toNatClampNeg < 4 then
              (bnd (53 + 1 + 3 * p1.toNatClampNeg) fun a12 =>
              f_X11_eye_75 mFuel p2 p3 p4 p5 p7 p8 a12 (0 : Int32) p2 S10)
              else none
set_option maxRecDepth 100000 in
set_option maxHeartbeats 4000000 in
theorem w_X11_eye (X : mX) (l : Launch) (p1 : Int32) (p2 : Int32) (p3 : Int32) (p4 : Int32) (p5 : Int64) (p7 : Int32) (p8 : Int32) (S : mM) : MW X viI rm_X11_eye cX11_eye RX11 12 (some .int) l S [(0, .ref (X.2.1 0)), (1, .int p1), (2, .int p2), (3, .int p3), (4, .int p4), (5, .long p5), (7, .int p7), (8, .int p8)] [] 0 (f_X11_eye p1 p2 p3 p4 p5 p7 p8 S) := by
  unfold f_X11_eye
  refine mw_aload_n 0 dX11_eye_0 rfl rfl ?_
  refine mw_iload_n 1 dX11_eye_1 rfl rfl ?_
  refine mw_callV (t_X11_isFilled X l p1 S) cd_X11_isFilled lk_RX11_213 im_X11_isFilled se_X11_isFilled in_RX11 de_X11_isFilled ⟨rfl, rfl⟩ ⟨Nat.le_of_ble_eq_true rfl, Nat.le_of_ble_eq_true rfl⟩ (mKind_lt mk_0 (by decide)) (mCell_k mk_0) rfl rfl rfl rfl ⟨Nat.le_of_ble_eq_true rfl, Nat.le_of_ble_eq_true rfl⟩ (Nat.le_of_ble_eq_true rfl) dX11_eye_2 (fun r1 S2 => ?_)
  refine mw_eq (st' := [.int r1]) rfl rfl ?_
  refine mw_if_eq (tgt := 34) dX11_eye_5 (by decide) ?_ ?_
  · refine mw_iconst (v := (-1 : Int32)) dX11_eye_34 (by decide) ?_
    exact mw_ireturn dX11_eye_35
  · refine mw_iload_n 2 dX11_eye_8 rfl rfl ?_
    refine mw_if_lt (tgt := 34) dX11_eye_9 (by decide) ?_ ?_
    · refine mw_iconst (v := (-1 : Int32)) dX11_eye_34 (by decide) ?_
      exact mw_ireturn dX11_eye_35
    · refine mw_iload_n 3 dX11_eye_12 rfl rfl ?_
      refine mw_iconst (v := (1 : Int32)) dX11_eye_13 (by decide) ?_
      refine mw_bipush (v := (32 : Int32)) dX11_eye_14 (by decide) ?_
      refine mw_callS (t_X11_isIn X l p3 (1 : Int32) (32 : Int32) S2) cd_X11_isIn lk_RX11_96 sn_X11_isIn in_RX11 de_X11_isIn ⟨rfl, rfl⟩ ⟨Nat.le_of_ble_eq_true rfl, Nat.le_of_ble_eq_true rfl⟩ rfl rfl ⟨Nat.le_of_ble_eq_true rfl, Nat.le_of_ble_eq_true rfl⟩ (Nat.le_of_ble_eq_true rfl) dX11_eye_16 (fun r3 S4 => ?_)
      refine mw_eq (st' := [.int r3]) rfl rfl ?_
      refine mw_if_eq (tgt := 34) dX11_eye_19 (by decide) ?_ ?_
      · refine mw_iconst (v := (-1 : Int32)) dX11_eye_34 (by decide) ?_
        exact mw_ireturn dX11_eye_35
      · refine mw_iload 4 dX11_eye_22 rfl ?_
        refine mw_iconst (v := (0 : Int32)) dX11_eye_24 (by decide) ?_
        refine mw_iload_n 3 dX11_eye_25 rfl rfl ?_
        refine mw_iconst (v := (1 : Int32)) dX11_eye_26 (by decide) ?_
        refine mw_isub dX11_eye_27 ?_
        refine mw_callS (t_X11_isIn X l p4 (0 : Int32) (p3 - (1 : Int32)) S4) cd_X11_isIn lk_RX11_96 sn_X11_isIn in_RX11 de_X11_isIn ⟨rfl, rfl⟩ ⟨Nat.le_of_ble_eq_true rfl, Nat.le_of_ble_eq_true rfl⟩ rfl rfl ⟨Nat.le_of_ble_eq_true rfl, Nat.le_of_ble_eq_true rfl⟩ (Nat.le_of_ble_eq_true rfl) dX11_eye_28 (fun r5 S6 => ?_)
        refine mw_eq (st' := [.int r5]) rfl rfl ?_
        refine mw_if_ne (tgt := 36) dX11_eye_31 (by decide) ?_ ?_
        · refine mw_iconst (v := (-1 : Int32)) dX11_eye_34 (by decide) ?_
          exact mw_ireturn dX11_eye_35
        · refine mw_iload 6 dX11_eye_36 rfl ?_
          refine mw_iconst (v := (1 : Int32)) dX11_eye_38 (by decide) ?_
          refine mw_sipush (v := (1000 : Int32)) dX11_eye_39 (by decide) ?_
          refine mw_callS (t_X11_isIn X l p7 (1 : Int32) (1000 : Int32) S6) cd_X11_isIn lk_RX11_96 sn_X11_isIn in_RX11 de_X11_isIn ⟨rfl, rfl⟩ ⟨Nat.le_of_ble_eq_true rfl, Nat.le_of_ble_eq_true rfl⟩ rfl rfl ⟨Nat.le_of_ble_eq_true rfl, Nat.le_of_ble_eq_true rfl⟩ (Nat.le_of_ble_eq_true rfl) dX11_eye_42 (fun r7 S8 => ?_)
          refine mw_eq (st' := [.int r7]) rfl rfl ?_
          refine mw_if_eq (tgt := 59) dX11_eye_45 (by decide) ?_ ?_
          · refine mw_iconst (v := (-1 : Int32)) dX11_eye_59 (by decide) ?_
            exact mw_ireturn dX11_eye_60
          · refine mw_iload 7 dX11_eye_48 rfl ?_
            refine mw_iconst (v := (0 : Int32)) dX11_eye_50 (by decide) ?_
            refine mw_bipush (v := (15 : Int32)) dX11_eye_51 (by decide) ?_
            refine mw_callS (t_X11_isIn X l p8 (0 : Int32) (15 : Int32) S8) cd_X11_isIn lk_RX11_96 sn_X11_isIn in_RX11 de_X11_isIn ⟨rfl, rfl⟩ ⟨Nat.le_of_ble_eq_true rfl, Nat.le_of_ble_eq_true rfl⟩ rfl rfl ⟨Nat.le_of_ble_eq_true rfl, Nat.le_of_ble_eq_true rfl⟩ (Nat.le_of_ble_eq_true rfl) dX11_eye_53 (fun r9 S10 => ?_)
            refine mw_eq (st' := [.int r9]) rfl rfl ?_
            refine mw_if_ne (tgt := 61) dX11_eye_56 (by decide) ?_ ?_
            · refine mw_iconst (v := (-1 : Int32)) dX11_eye_59 (by decide) ?_
              exact mw_ireturn dX11_eye_60
            · refine mw_aload_n 0 dX11_eye_61 rfl rfl ?_
              refine gf_RX11_41 mk_0 dX11_eye_62 ?_
              refine mw_iload_n 1 dX11_eye_65 rfl rfl ?_
              refine mw_aaload (n := 4) (t := 4) (g := fun i => 53 + 1 + 3 * i) mk_53 (by decide) (kr_24 mk_53 ml_53) rfl dX11_eye_66 (fun h11 => ?_)
              refine mw_bndA (ke_24 mk_53 h11.2) (fun a12 ha12 => ?_)
              refine mw_astore (lv' := [(9, .ref (X.2.1 a12)), (0, .ref (X.2.1 0)), (1, .int p1), (2, .int p2), (3, .int p3), (4, .int p4), (5, .long p5), (7, .int p7), (8, .int p8)]) dX11_eye_67 (by decide) rfl ?_
              refine mw_iconst (v := (0 : Int32)) dX11_eye_69 (by decide) ?_
              refine mw_istore (lv' := [(10, .int (0 : Int32)), (9, .ref (X.2.1 a12)), (0, .ref (X.2.1 0)), (1, .int p1), (2, .int p2), (3, .int p3), (4, .int p4), (5, .long p5), (7, .int p7), (8, .int p8)]) dX11_eye_70 (by decide) rfl ?_
              refine mw_iload_n 4 dX11_eye_72 rfl rfl ?_
              refine mw_istore (lv' := [(11, .int p2), (10, .int (0 : Int32)), (9, .ref (X.2.1 a12)), (0, .ref (X.2.1 0)), (1, .int p1), (2, .int p2), (3, .int p3), (4, .int p4), (5, .long p5), (7, .int p7), (8, .int p8)]) dX11_eye_73 (by decide) rfl ?_
              exact mw_sub [5, 6, 7, 8, 9, 10, 2, 1, 0] rfl (w_X11_eye_75 X l mFuel p2 p3 p4 p5 p7 p8 a12 (0 : Int32) p2 S10 ha12)
theorem t_X11_eye (X : mX) (l : Launch) (p1 : Int32) (p2 : Int32) (p3 : Int32) (p4 : Int32) (p5 : Int64) (p7 : Int32) (p8 : Int32) (S : mM) : mMet X viI yX11_eye cX11_eye 12 (some .int) rm_X11_eye [.ref (X.2.1 0), .int p1, .int p2, .int p3, .int p4, .long p5, .int p7, .int p8] l S (f_X11_eye p1 p2 p3 p4 p5 p7 p8 S) :=
  mMet_of (by decide +kernel) rfl (Nat.le_of_ble_eq_true rfl) (w_X11_eye X l p1 p2 p3 p4 p5 p7 p8 S )
/-! TraceBench.fault()I -/
def f_X11_fault (S : mM) : Option (Int32 × mM) :=
  some ((S.1 6 3), S)
set_option maxRecDepth 100000 in
set_option maxHeartbeats 4000000 in
theorem w_X11_fault (X : mX) (l : Launch) (S : mM) : MW X viI rm_X11_fault cX11_fault RX11 1 (some .int) l S [(0, .ref (X.2.1 0))] [] 0 (f_X11_fault  S) := by
  unfold f_X11_fault
  refine mw_aload_n 0 dX11_fault_0 rfl rfl ?_
  refine gf_RX11_21 mk_0 dX11_fault_1 ?_
  refine gf_RX11_93 mk_6 dX11_fault_4 ?_
  exact mw_ireturn dX11_fault_7
theorem t_X11_fault (X : mX) (l : Launch) (S : mM) : mMet X viI yX11_fault cX11_fault 1 (some .int) rm_X11_fault [.ref (X.2.1 0)] l S (f_X11_fault  S) :=
  mMet_of (by decide +kernel) rfl (Nat.le_of_ble_eq_true rfl) (w_X11_fault X l  S )
/-! TraceBench.feed(J)I -/
def f_X11_feed (p1 : Int64) (S : mM) : Option (Int32 × mM) :=
  mBind (f_X9_append p1 S) fun r1 S2 =>
  if r1 = 0 then
    some ((-3 : Int32), S2)
  else
    some ((S2.1 1 1), S2)
set_option maxRecDepth 100000 in
set_option maxHeartbeats 4000000 in
theorem w_X11_feed (X : mX) (l : Launch) (p1 : Int64) (S : mM) : MW X viI rm_X11_feed cX11_feed RX11 3 (some .int) l S [(0, .ref (X.2.1 0)), (1, .long p1)] [] 0 (f_X11_feed p1 S) := by
  unfold f_X11_feed
  refine mw_aload_n 0 dX11_feed_0 rfl rfl ?_
  refine gf_RX11_12 mk_0 dX11_feed_1 ?_
  refine mw_lload_n 1 dX11_feed_4 rfl rfl ?_
  refine mw_callV (t_X9_append X l p1 S) cd_X9_append lk_RX11_57 im_X9_append se_X9_append in_RX9 de_X9_append ⟨rfl, rfl⟩ ⟨Nat.le_of_ble_eq_true rfl, Nat.le_of_ble_eq_true rfl⟩ (mKind_lt mk_1 (by decide)) (mCell_k mk_1) rfl rfl rfl rfl ⟨Nat.le_of_ble_eq_true rfl, Nat.le_of_ble_eq_true rfl⟩ (Nat.le_of_ble_eq_true rfl) dX11_feed_5 (fun r1 S2 => ?_)
  refine mw_eq (st' := [.int r1]) rfl rfl ?_
  refine mw_if_eq (tgt := 21) dX11_feed_8 (by decide) ?_ ?_
  · refine mw_bipush (v := (-3 : Int32)) dX11_feed_21 (by decide) ?_
    exact mw_ireturn dX11_feed_23
  · refine mw_aload_n 0 dX11_feed_11 rfl rfl ?_
    refine gf_RX11_12 mk_0 dX11_feed_12 ?_
    refine gf_RX11_61 mk_1 dX11_feed_15 ?_
    refine mw_goto (tgt := 23) dX11_feed_18 (by decide) ?_
    exact mw_ireturn dX11_feed_23
theorem t_X11_feed (X : mX) (l : Launch) (p1 : Int64) (S : mM) : mMet X viI yX11_feed cX11_feed 3 (some .int) rm_X11_feed [.ref (X.2.1 0), .long p1] l S (f_X11_feed p1 S) :=
  mMet_of (by decide +kernel) rfl (Nat.le_of_ble_eq_true rfl) (w_X11_feed X l p1 S )
/-! TraceBench.first()I -/
def f_X11_first (S : mM) : Option (Int32 × mM) :=
  some ((S.1 0 6), S)
set_option maxRecDepth 100000 in
set_option maxHeartbeats 4000000 in
theorem w_X11_first (X : mX) (l : Launch) (S : mM) : MW X viI rm_X11_first cX11_first RX11 1 (some .int) l S [(0, .ref (X.2.1 0))] [] 0 (f_X11_first  S) := by
  unfold f_X11_first
  refine mw_aload_n 0 dX11_first_0 rfl rfl ?_
  refine gf_RX11_53 mk_0 dX11_first_1 ?_
  exact mw_ireturn dX11_first_4
theorem t_X11_first (X : mX) (l : Launch) (S : mM) : mMet X viI yX11_first cX11_first 1 (some .int) rm_X11_first [.ref (X.2.1 0)] l S (f_X11_first  S) :=
  mMet_of (by decide +kernel) rfl (Nat.le_of_ble_eq_true rfl) (w_X11_first X l  S )
/-! TraceBench.frame(I)I -/
def f_X11_frame (p1 : Int32) (S : mM) : Option (Int32 × mM) :=
  if 0 ≤ p1 then
    mBind (f_X10_findFrame p1 S) fun r1 S2 =>
    some (r1, S2)
  else
    some ((-1 : Int32), S)
set_option maxRecDepth 100000 in
set_option maxHeartbeats 4000000 in
theorem w_X11_frame (X : mX) (l : Launch) (p1 : Int32) (S : mM) : MW X viI rm_X11_frame cX11_frame RX11 2 (some .int) l S [(0, .ref (X.2.1 0)), (1, .int p1)] [] 0 (f_X11_frame p1 S) := by
  unfold f_X11_frame
  refine mw_iload_n 1 dX11_frame_0 rfl rfl ?_
  refine mw_if_ge (tgt := 8) dX11_frame_1 (by decide) ?_ ?_
  · refine mw_aload_n 0 dX11_frame_8 rfl rfl ?_
    refine gf_RX11_49 mk_0 dX11_frame_9 ?_
    refine mw_iload_n 1 dX11_frame_12 rfl rfl ?_
    refine mw_callV (t_X10_findFrame X l p1 S) cd_X10_findFrame lk_RX11_268 im_X10_findFrame se_X10_findFrame in_RX10 de_X10_findFrame ⟨rfl, rfl⟩ ⟨Nat.le_of_ble_eq_true rfl, Nat.le_of_ble_eq_true rfl⟩ (mKind_lt mk_66 (by decide)) (mCell_k mk_66) rfl rfl rfl rfl ⟨Nat.le_of_ble_eq_true rfl, Nat.le_of_ble_eq_true rfl⟩ (Nat.le_of_ble_eq_true rfl) dX11_frame_13 (fun r1 S2 => ?_)
    refine mw_eq (st' := [.int r1]) rfl rfl ?_
    exact mw_ireturn dX11_frame_16
  · refine mw_iconst (v := (-1 : Int32)) dX11_frame_4 (by decide) ?_
    refine mw_goto (tgt := 16) dX11_frame_5 (by decide) ?_
    exact mw_ireturn dX11_frame_16
theorem t_X11_frame (X : mX) (l : Launch) (p1 : Int32) (S : mM) : mMet X viI yX11_frame cX11_frame 2 (some .int) rm_X11_frame [.ref (X.2.1 0), .int p1] l S (f_X11_frame p1 S) :=
  mMet_of (by decide +kernel) rfl (Nat.le_of_ble_eq_true rfl) (w_X11_frame X l p1 S )
/-! TraceBench.got(I)I -/
def f_X11_got (p1 : Int32) (S : mM) : Option (Int32 × mM) :=
  mBind (f_X10_has p1 S) fun r1 S2 =>
  if r1 = 0 then
    some ((-1 : Int32), S2)
  else
    if 0 ≤ p1 ∧ p1.toNatClampNeg < 20 then
    (some ((S2.1 67 p1.toNatClampNeg), S2))
    else none
set_option maxRecDepth 100000 in
set_option maxHeartbeats 4000000 in
theorem w_X11_got (X : mX) (l : Launch) (p1 : Int32) (S : mM) : MW X viI rm_X11_got cX11_got RX11 2 (some .int) l S [(0, .ref (X.2.1 0)), (1, .int p1)] [] 0 (f_X11_got p1 S) := by
  unfold f_X11_got
  refine mw_aload_n 0 dX11_got_0 rfl rfl ?_
  refine gf_RX11_49 mk_0 dX11_got_1 ?_
  refine mw_iload_n 1 dX11_got_4 rfl rfl ?_
  refine mw_callV (t_X10_has X l p1 S) cd_X10_has lk_RX11_257 im_X10_has se_X10_has in_RX10 de_X10_has ⟨rfl, rfl⟩ ⟨Nat.le_of_ble_eq_true rfl, Nat.le_of_ble_eq_true rfl⟩ (mKind_lt mk_66 (by decide)) (mCell_k mk_66) rfl rfl rfl rfl ⟨Nat.le_of_ble_eq_true rfl, Nat.le_of_ble_eq_true rfl⟩ (Nat.le_of_ble_eq_true rfl) dX11_got_5 (fun r1 S2 => ?_)
  refine mw_eq (st' := [.int r1]) rfl rfl ?_
  refine mw_if_eq (tgt := 23) dX11_got_8 (by decide) ?_ ?_
  · refine mw_iconst (v := (-1 : Int32)) dX11_got_23 (by decide) ?_
    exact mw_ireturn dX11_got_24
  · refine mw_aload_n 0 dX11_got_11 rfl rfl ?_
    refine gf_RX11_49 mk_0 dX11_got_12 ?_
    refine gf_RX11_258 mk_66 dX11_got_15 ?_
    refine mw_iload_n 1 dX11_got_18 rfl rfl ?_
    refine mw_iaload mk_67 ml_67 dX11_got_19 ?_
    refine mw_goto (tgt := 24) dX11_got_20 (by decide) ?_
    exact mw_ireturn dX11_got_24
theorem t_X11_got (X : mX) (l : Launch) (p1 : Int32) (S : mM) : mMet X viI yX11_got cX11_got 2 (some .int) rm_X11_got [.ref (X.2.1 0), .int p1] l S (f_X11_got p1 S) :=
  mMet_of (by decide +kernel) rfl (Nat.le_of_ble_eq_true rfl) (w_X11_got X l p1 S )
/-! TraceBench.keep(II)I -/
def f_X11_keep (p1 : Int32) (p2 : Int32) (S : mM) : Option (Int32 × mM) :=
  mBind (f_X11_isIn p1 (0 : Int32) (100 : Int32) S) fun r1 S2 =>
  if r1 = 0 then
    some ((-1 : Int32), S2)
  else
    mBind (f_X11_isIn p2 (0 : Int32) (100 : Int32) S2) fun r3 S4 =>
    if r3 = 0 then
      some ((-1 : Int32), S4)
    else
      if (S4.1 7 6) = (1 : Int32) then
        some ((-2 : Int32), S4)
      else
        if (S4.1 7 6) = (2 : Int32) then
          some ((-2 : Int32), S4)
        else
          bnd (setI S4 7 4 p1) fun S5 =>
          bnd (setI S5 7 5 p2) fun S6 =>
          some ((1 : Int32), S6)
set_option maxRecDepth 100000 in
set_option maxHeartbeats 4000000 in
theorem w_X11_keep (X : mX) (l : Launch) (p1 : Int32) (p2 : Int32) (S : mM) : MW X viI rm_X11_keep cX11_keep RX11 3 (some .int) l S [(0, .ref (X.2.1 0)), (1, .int p1), (2, .int p2)] [] 0 (f_X11_keep p1 p2 S) := by
  unfold f_X11_keep
  refine mw_iload_n 1 dX11_keep_0 rfl rfl ?_
  refine mw_iconst (v := (0 : Int32)) dX11_keep_1 (by decide) ?_
  refine mw_bipush (v := (100 : Int32)) dX11_keep_2 (by decide) ?_
  refine mw_callS (t_X11_isIn X l p1 (0 : Int32) (100 : Int32) S) cd_X11_isIn lk_RX11_96 sn_X11_isIn in_RX11 de_X11_isIn ⟨rfl, rfl⟩ ⟨Nat.le_of_ble_eq_true rfl, Nat.le_of_ble_eq_true rfl⟩ rfl rfl ⟨Nat.le_of_ble_eq_true rfl, Nat.le_of_ble_eq_true rfl⟩ (Nat.le_of_ble_eq_true rfl) dX11_keep_4 (fun r1 S2 => ?_)
  refine mw_eq (st' := [.int r1]) rfl rfl ?_
  refine mw_if_eq (tgt := 20) dX11_keep_7 (by decide) ?_ ?_
  · refine mw_iconst (v := (-1 : Int32)) dX11_keep_20 (by decide) ?_
    exact mw_ireturn dX11_keep_21
  · refine mw_iload_n 2 dX11_keep_10 rfl rfl ?_
    refine mw_iconst (v := (0 : Int32)) dX11_keep_11 (by decide) ?_
    refine mw_bipush (v := (100 : Int32)) dX11_keep_12 (by decide) ?_
    refine mw_callS (t_X11_isIn X l p2 (0 : Int32) (100 : Int32) S2) cd_X11_isIn lk_RX11_96 sn_X11_isIn in_RX11 de_X11_isIn ⟨rfl, rfl⟩ ⟨Nat.le_of_ble_eq_true rfl, Nat.le_of_ble_eq_true rfl⟩ rfl rfl ⟨Nat.le_of_ble_eq_true rfl, Nat.le_of_ble_eq_true rfl⟩ (Nat.le_of_ble_eq_true rfl) dX11_keep_14 (fun r3 S4 => ?_)
    refine mw_eq (st' := [.int r3]) rfl rfl ?_
    refine mw_if_ne (tgt := 22) dX11_keep_17 (by decide) ?_ ?_
    · refine mw_iconst (v := (-1 : Int32)) dX11_keep_20 (by decide) ?_
      exact mw_ireturn dX11_keep_21
    · refine mw_aload_n 0 dX11_keep_22 rfl rfl ?_
      refine gf_RX11_28 mk_0 dX11_keep_23 ?_
      refine gf_RX11_100 mk_7 dX11_keep_26 ?_
      refine mw_iconst (v := (1 : Int32)) dX11_keep_29 (by decide) ?_
      refine mw_icmp_eq (tgt := 44) dX11_keep_30 (by decide) ?_ ?_
      · refine mw_bipush (v := (-2 : Int32)) dX11_keep_44 (by decide) ?_
        exact mw_ireturn dX11_keep_46
      · refine mw_aload_n 0 dX11_keep_33 rfl rfl ?_
        refine gf_RX11_28 mk_0 dX11_keep_34 ?_
        refine gf_RX11_100 mk_7 dX11_keep_37 ?_
        refine mw_iconst (v := (2 : Int32)) dX11_keep_40 (by decide) ?_
        refine mw_icmp_ne (tgt := 47) dX11_keep_41 (by decide) ?_ ?_
        · refine mw_bipush (v := (-2 : Int32)) dX11_keep_44 (by decide) ?_
          exact mw_ireturn dX11_keep_46
        · refine mw_aload_n 0 dX11_keep_47 rfl rfl ?_
          refine gf_RX11_28 mk_0 dX11_keep_48 ?_
          refine mw_iload_n 1 dX11_keep_51 rfl rfl ?_
          refine pf_RX11_103 mk_7 dX11_keep_52 ?_
          refine mw_bndS (fun S5 => ?_)
          refine mw_aload_n 0 dX11_keep_55 rfl rfl ?_
          refine gf_RX11_28 mk_0 dX11_keep_56 ?_
          refine mw_iload_n 2 dX11_keep_59 rfl rfl ?_
          refine pf_RX11_106 mk_7 dX11_keep_60 ?_
          refine mw_bndS (fun S6 => ?_)
          refine mw_iconst (v := (1 : Int32)) dX11_keep_63 (by decide) ?_
          exact mw_ireturn dX11_keep_64
theorem t_X11_keep (X : mX) (l : Launch) (p1 : Int32) (p2 : Int32) (S : mM) : mMet X viI yX11_keep cX11_keep 3 (some .int) rm_X11_keep [.ref (X.2.1 0), .int p1, .int p2] l S (f_X11_keep p1 p2 S) :=
  mMet_of (by decide +kernel) rfl (Nat.le_of_ble_eq_true rfl) (w_X11_keep X l p1 p2 S )
/-! TraceBench.lay(III)I -/
def f_X11_lay (p1 : Int32) (p2 : Int32) (p3 : Int32) (S : mM) : Option (Int32 × mM) :=
  mBind (f_X11_isIn p1 (0 : Int32) (3 : Int32) S) fun r1 S2 =>
  if r1 = 0 then
    some ((-1 : Int32), S2)
  else
    if 0 ≤ p1 ∧ p1.toNatClampNeg < 4 then
    (bnd (44 + 1 + 2 * p1.toNatClampNeg) fun a4 =>
    mBind (f_X6_isNothing a4 S2) fun r5 S6 =>
    if r5 = 0 then
      mBind (f_X6_has a4 p2 S6) fun r7 S8 =>
      if r7 = 0 then
        some ((-12 : Int32), S8)
      else
        mBind (f_X6_put a4 p2 p3 S8) fun r9 S10 =>
        some ((1 : Int32), S10)
    else
      some ((-11 : Int32), S6))
    else none
set_option maxRecDepth 100000 in
set_option maxHeartbeats 4000000 in
theorem w_X11_lay (X : mX) (l : Launch) (p1 : Int32) (p2 : Int32) (p3 : Int32) (S : mM) : MW X viI rm_X11_lay cX11_lay RX11 5 (some .int) l S [(0, .ref (X.2.1 0)), (1, .int p1), (2, .int p2), (3, .int p3)] [] 0 (f_X11_lay p1 p2 p3 S) := by
  unfold f_X11_lay
  refine mw_iload_n 1 dX11_lay_0 rfl rfl ?_
  refine mw_iconst (v := (0 : Int32)) dX11_lay_1 (by decide) ?_
  refine mw_iconst (v := (3 : Int32)) dX11_lay_2 (by decide) ?_
  refine mw_callS (t_X11_isIn X l p1 (0 : Int32) (3 : Int32) S) cd_X11_isIn lk_RX11_96 sn_X11_isIn in_RX11 de_X11_isIn ⟨rfl, rfl⟩ ⟨Nat.le_of_ble_eq_true rfl, Nat.le_of_ble_eq_true rfl⟩ rfl rfl ⟨Nat.le_of_ble_eq_true rfl, Nat.le_of_ble_eq_true rfl⟩ (Nat.le_of_ble_eq_true rfl) dX11_lay_3 (fun r1 S2 => ?_)
  refine mw_eq (st' := [.int r1]) rfl rfl ?_
  refine mw_if_ne (tgt := 11) dX11_lay_6 (by decide) ?_ ?_
  · refine mw_iconst (v := (-1 : Int32)) dX11_lay_9 (by decide) ?_
    exact mw_ireturn dX11_lay_10
  · refine mw_aload_n 0 dX11_lay_11 rfl rfl ?_
    refine gf_RX11_34 mk_0 dX11_lay_12 ?_
    refine mw_iload_n 1 dX11_lay_15 rfl rfl ?_
    refine mw_aaload (n := 4) (t := 6) (g := fun i => 44 + 1 + 2 * i) mk_44 (by decide) (kr_26 mk_44 ml_44) rfl dX11_lay_16 (fun h3 => ?_)
    refine mw_bndA (ke_26 mk_44 h3.2) (fun a4 ha4 => ?_)
    refine mw_astore (lv' := [(4, .ref (X.2.1 a4)), (0, .ref (X.2.1 0)), (1, .int p1), (2, .int p2), (3, .int p3)]) dX11_lay_17 (by decide) rfl ?_
    refine mw_aload 0 dX11_lay_19 rfl ?_
    refine mw_callV (t_X6_isNothing X l a4 S2 ha4) cd_X6_isNothing lk_RX11_196 im_X6_isNothing se_X6_isNothing in_RX6 de_X6_isNothing ⟨rfl, rfl⟩ ⟨Nat.le_of_ble_eq_true rfl, Nat.le_of_ble_eq_true rfl⟩ (mKind_lt ha4 (by decide)) (mCell_k ha4) rfl rfl rfl rfl ⟨Nat.le_of_ble_eq_true rfl, Nat.le_of_ble_eq_true rfl⟩ (Nat.le_of_ble_eq_true rfl) dX11_lay_21 (fun r5 S6 => ?_)
    refine mw_eq (st' := [.int r5]) rfl rfl ?_
    refine mw_if_eq (tgt := 30) dX11_lay_24 (by decide) ?_ ?_
    · refine mw_aload 0 dX11_lay_30 rfl ?_
      refine mw_iload_n 3 dX11_lay_32 rfl rfl ?_
      refine mw_callV (t_X6_has X l a4 p2 S6 ha4) cd_X6_has lk_RX11_199 im_X6_has se_X6_has in_RX6 de_X6_has ⟨rfl, rfl⟩ ⟨Nat.le_of_ble_eq_true rfl, Nat.le_of_ble_eq_true rfl⟩ (mKind_lt ha4 (by decide)) (mCell_k ha4) rfl rfl rfl rfl ⟨Nat.le_of_ble_eq_true rfl, Nat.le_of_ble_eq_true rfl⟩ (Nat.le_of_ble_eq_true rfl) dX11_lay_33 (fun r7 S8 => ?_)
      refine mw_eq (st' := [.int r7]) rfl rfl ?_
      refine mw_if_ne (tgt := 42) dX11_lay_36 (by decide) ?_ ?_
      · refine mw_bipush (v := (-12 : Int32)) dX11_lay_39 (by decide) ?_
        exact mw_ireturn dX11_lay_41
      · refine mw_aload 0 dX11_lay_42 rfl ?_
        refine mw_iload_n 3 dX11_lay_44 rfl rfl ?_
        refine mw_iload_n 4 dX11_lay_45 rfl rfl ?_
        refine mw_callV (t_X6_put X l a4 p2 p3 S8 ha4) cd_X6_put lk_RX11_200 im_X6_put se_X6_put in_RX6 de_X6_put ⟨rfl, rfl⟩ ⟨Nat.le_of_ble_eq_true rfl, Nat.le_of_ble_eq_true rfl⟩ (mKind_lt ha4 (by decide)) (mCell_k ha4) rfl rfl rfl rfl ⟨Nat.le_of_ble_eq_true rfl, Nat.le_of_ble_eq_true rfl⟩ (Nat.le_of_ble_eq_true rfl) dX11_lay_46 (fun r9 S10 => ?_)
        refine mw_eq (st' := []) rfl rfl ?_
        refine mw_iconst (v := (1 : Int32)) dX11_lay_49 (by decide) ?_
        exact mw_ireturn dX11_lay_50
    · refine mw_bipush (v := (-11 : Int32)) dX11_lay_27 (by decide) ?_
      exact mw_ireturn dX11_lay_29
theorem t_X11_lay (X : mX) (l : Launch) (p1 : Int32) (p2 : Int32) (p3 : Int32) (S : mM) : mMet X viI yX11_lay cX11_lay 5 (some .int) rm_X11_lay [.ref (X.2.1 0), .int p1, .int p2, .int p3] l S (f_X11_lay p1 p2 p3 S) :=
  mMet_of (by decide +kernel) rfl (Nat.le_of_ble_eq_true rfl) (w_X11_lay X l p1 p2 p3 S )
/-! TraceBench.mask(IIIIII)I -/
def f_X11_mask_90 (n : Nat) (y2 : Int32) (y5 : Int32) (y6 : Int32) (y7 : Nat) (y9 : Nat) (y10 : Int32) (y11 : Int32) (S : mM) : Option (Int32 × mM) := match n with
  | 0 => none
  | n + 1 =>
    if y6 ≤ y11 then
      some (y10, S)
    else
      bnd (y5 + y11) fun x1 =>
      mBind (f_X5_has y9 x1 S) fun r2 S3 =>
      if r2 = 0 then
        bnd (y11 + (1 : Int32)) fun x4 =>
        f_X11_mask_90 n y2 y5 y6 y7 y9 y10 x4 S3
      else
        mBind (f_X5_numberAt y9 y2 x1 S3) fun r5 S6 =>
        mBind (f_X6_allows y7 y11 r5 S6) fun r7 S8 =>
        if r7 = 0 then
          if y10 = 0 then
            bnd (setI S8 0 6 x1) fun S9 =>
            bnd (y10 + (1 : Int32)) fun x10 =>
            bnd (y11 + (1 : Int32)) fun x11 =>
            f_X11_mask_90 n y2 y5 y6 y7 y9 x10 x11 S9
          else
            bnd (y10 + (1 : Int32)) fun x12 =>
            bnd (y11 + (1 : Int32)) fun x13 =>
            f_X11_mask_90 n y2 y5 y6 y7 y9 x12 x13 S8
        else
          bnd (y11 + (1 : Int32)) fun x14 =>
          f_X11_mask_90 n y2 y5 y6 y7 y9 y10 x14 S8
set_option maxRecDepth 100000 in
set_option maxHeartbeats 4000000 in
theorem w_X11_mask_90 (X : mX) (l : Launch) (n : Nat) (y2 : Int32) (y5 : Int32) (y6 : Int32) (y7 : Nat) (y9 : Nat) (y10 : Int32) (y11 : Int32) (S : mM) (hy7 : mKind y7 = 6) (hy9 : mKind y9 = 5) : MW X viI rm_X11_mask cX11_mask RX11 13 (some .int) l S [(0, .ref (X.2.1 0)), (2, .int y2), (5, .int y5), (6, .int y6), (7, .ref (X.2.1 y7)), (9, .ref (X.2.1 y9)), (10, .int y10), (11, .int y11)] [] 90 (f_X11_mask_90 n y2 y5 y6 y7 y9 y10 y11 S) := by
  induction n generalizing y2 y5 y6 y7 y9 y10 y11 S with
  | zero => exact mw_none
  | succ n ih =>
    unfold f_X11_mask_90
    refine mw_iload 7 dX11_mask_90 rfl ?_
    refine mw_iload 3 dX11_mask_92 rfl ?_
    refine mw_icmp_ge (tgt := 152) dX11_mask_94 (by decide) ?_ ?_
    · refine mw_iload 6 dX11_mask_152 rfl ?_
      exact mw_ireturn dX11_mask_154
    · refine mw_iload 2 dX11_mask_97 rfl ?_
      refine mw_iload 7 dX11_mask_99 rfl ?_
      refine mw_iadd dX11_mask_101 ?_
      refine mw_bndI (fun x1 => ?_)
      refine mw_istore (lv' := [(12, .int x1), (0, .ref (X.2.1 0)), (2, .int y2), (5, .int y5), (6, .int y6), (7, .ref (X.2.1 y7)), (9, .ref (X.2.1 y9)), (10, .int y10), (11, .int y11)]) dX11_mask_102 (by decide) rfl ?_
      refine mw_aload 6 dX11_mask_104 rfl ?_
      refine mw_iload 0 dX11_mask_106 rfl ?_
      refine mw_callV (t_X5_has X l y9 x1 S hy9) cd_X5_has lk_RX11_185 im_X5_has se_X5_has in_RX5 de_X5_has ⟨rfl, rfl⟩ ⟨Nat.le_of_ble_eq_true rfl, Nat.le_of_ble_eq_true rfl⟩ (mKind_lt hy9 (by decide)) (mCell_k hy9) rfl rfl rfl rfl ⟨Nat.le_of_ble_eq_true rfl, Nat.le_of_ble_eq_true rfl⟩ (Nat.le_of_ble_eq_true rfl) dX11_mask_108 (fun r2 S3 => ?_)
      refine mw_eq (st' := [.int r2]) rfl rfl ?_
      refine mw_if_eq (tgt := 146) dX11_mask_111 (by decide) ?_ ?_
      · refine mw_iincB (lvf := fun x4 => [(11, .int x4), (12, .int x1), (0, .ref (X.2.1 0)), (2, .int y2), (5, .int y5), (6, .int y6), (7, .ref (X.2.1 y7)), (9, .ref (X.2.1 y9)), (10, .int y10)]) (k := 8) dX11_mask_146 rfl (by decide) (by decide) (fun _ => rfl) (fun x4 => ?_)
        refine mw_goto (tgt := 90) dX11_mask_149 (by decide) ?_
        exact mw_sub [2, 3, 4, 5, 6, 7, 8, 0] rfl (ih y2 y5 y6 y7 y9 y10 x4 S3 hy7 hy9)
      · refine mw_aload 5 dX11_mask_114 rfl ?_
        refine mw_iload 8 dX11_mask_116 rfl ?_
        refine mw_aload 6 dX11_mask_118 rfl ?_
        refine mw_iload_n 2 dX11_mask_120 rfl rfl ?_
        refine mw_iload 0 dX11_mask_121 rfl ?_
        refine mw_callV (t_X5_numberAt X l y9 y2 x1 S3 hy9) cd_X5_numberAt lk_RX11_186 im_X5_numberAt se_X5_numberAt in_RX5 de_X5_numberAt ⟨rfl, rfl⟩ ⟨Nat.le_of_ble_eq_true rfl, Nat.le_of_ble_eq_true rfl⟩ (mKind_lt hy9 (by decide)) (mCell_k hy9) rfl rfl rfl rfl ⟨Nat.le_of_ble_eq_true rfl, Nat.le_of_ble_eq_true rfl⟩ (Nat.le_of_ble_eq_true rfl) dX11_mask_123 (fun r5 S6 => ?_)
        refine mw_eq (st' := [.int r5, .int y11, .ref (X.2.1 y7)]) rfl rfl ?_
        refine mw_callV (t_X6_allows X l y7 y11 r5 S6 hy7) cd_X6_allows lk_RX11_206 im_X6_allows se_X6_allows in_RX6 de_X6_allows ⟨rfl, rfl⟩ ⟨Nat.le_of_ble_eq_true rfl, Nat.le_of_ble_eq_true rfl⟩ (mKind_lt hy7 (by decide)) (mCell_k hy7) rfl rfl rfl rfl ⟨Nat.le_of_ble_eq_true rfl, Nat.le_of_ble_eq_true rfl⟩ (Nat.le_of_ble_eq_true rfl) dX11_mask_126 (fun r7 S8 => ?_)
        refine mw_eq (st' := [.int r7]) rfl rfl ?_
        refine mw_if_ne (tgt := 146) dX11_mask_129 (by decide) ?_ ?_
        · refine mw_iload 7 dX11_mask_132 rfl ?_
          refine mw_if_ne (tgt := 143) dX11_mask_134 (by decide) ?_ ?_
          · refine mw_aload_n 1 dX11_mask_137 rfl rfl ?_
            refine mw_iload 0 dX11_mask_138 rfl ?_
            refine pf_RX11_53 mk_0 dX11_mask_140 ?_
            refine mw_bndS (fun S9 => ?_)
            refine mw_iincB (lvf := fun x10 => [(10, .int x10), (12, .int x1), (0, .ref (X.2.1 0)), (2, .int y2), (5, .int y5), (6, .int y6), (7, .ref (X.2.1 y7)), (9, .ref (X.2.1 y9)), (11, .int y11)]) (k := 7) dX11_mask_143 rfl (by decide) (by decide) (fun _ => rfl) (fun x10 => ?_)
            refine mw_iincB (lvf := fun x11 => [(11, .int x11), (10, .int x10), (12, .int x1), (0, .ref (X.2.1 0)), (2, .int y2), (5, .int y5), (6, .int y6), (7, .ref (X.2.1 y7)), (9, .ref (X.2.1 y9))]) (k := 8) dX11_mask_146 rfl (by decide) (by decide) (fun _ => rfl) (fun x11 => ?_)
            refine mw_goto (tgt := 90) dX11_mask_149 (by decide) ?_
            exact mw_sub [3, 4, 5, 6, 7, 8, 1, 0] rfl (ih y2 y5 y6 y7 y9 x10 x11 S9 hy7 hy9)
          · refine mw_iincB (lvf := fun x12 => [(10, .int x12), (12, .int x1), (0, .ref (X.2.1 0)), (2, .int y2), (5, .int y5), (6, .int y6), (7, .ref (X.2.1 y7)), (9, .ref (X.2.1 y9)), (11, .int y11)]) (k := 7) dX11_mask_143 rfl (by decide) (by decide) (fun _ => rfl) (fun x12 => ?_)
            refine mw_iincB (lvf := fun x13 => [(11, .int x13), (10, .int x12), (12, .int x1), (0, .ref (X.2.1 0)), (2, .int y2), (5, .int y5), (6, .int y6), (7, .ref (X.2.1 y7)), (9, .ref (X.2.1 y9))]) (k := 8) dX11_mask_146 rfl (by decide) (by decide) (fun _ => rfl) (fun x13 => ?_)
            refine mw_goto (tgt := 90) dX11_mask_149 (by decide) ?_
            exact mw_sub [3, 4, 5, 6, 7, 8, 1, 0] rfl (ih y2 y5 y6 y7 y9 x12 x13 S8 hy7 hy9)
        · refine mw_iincB (lvf := fun x14 => [(11, .int x14), (12, .int x1), (0, .ref (X.2.1 0)), (2, .int y2), (5, .int y5), (6, .int y6), (7, .ref (X.2.1 y7)), (9, .ref (X.2.1 y9)), (10, .int y10)]) (k := 8) dX11_mask_146 rfl (by decide) (by decide) (fun _ => rfl) (fun x14 => ?_)
          refine mw_goto (tgt := 90) dX11_mask_149 (by decide) ?_
          exact mw_sub [2, 3, 4, 5, 6, 7, 8, 0] rfl (ih y2 y5 y6 y7 y9 y10 x14 S8 hy7 hy9)
def f_X11_mask (p1 : Int32) (p2 : Int32) (p3 : Int32) (p4 : Int32) (p5 : Int32) (p6 : Int32) (S : mM) : Option (Int32 × mM) :=
  mBind (f_X11_hasTrace p1 p2 S) fun r1 S2 =>
  if r1 = 0 then
    some ((-1 : Int32), S2)
  else
    mBind (f_X11_isIn p3 (0 : Int32) (3 : Int32) S2) fun r3 S4 =>
    if r3 = 0 then
      some ((-1 : Int32), S4)
    else
      mBind (f_X11_isIn p4 (0 : Int32) (2 : Int32) S4) fun r5 S6 =>
      if r5 = 0 then
        some ((-1 : Int32), S6)
      else
        if 0 ≤ p6 then
          if 0 ≤ p3 ∧ p3.toNatClampNeg < 4 then
          (bnd (44 + 1 + 2 * p3.toNatClampNeg) fun a8 =>
          mBind (f_X6_faultAs a8 p4 p6 S6) fun r9 S10 =>
          if r9 = 0 then
            mBind (f_X8_get p1 S10) fun r11 S12 =>
            if mKind r11 = 5 then
            (bnd (setI S12 0 6 (-4 : Int32)) fun S14 =>
            f_X11_mask_90 mFuel p2 p5 p6 a8 r11 (0 : Int32) (0 : Int32) S14)
            else none
          else
            some (((-10 : Int32) - r9), S10))
          else none
        else
          some ((-1 : Int32), S6)
set_option maxRecDepth 100000 in
set_option maxHeartbeats 4000000 in
theorem w_X11_mask (X : mX) (l : Launch) (p1 : Int32) (p2 : Int32) (p3 : Int32) (p4 : Int32) (p5 : Int32) (p6 : Int32) (S : mM) : MW X viI rm_X11_mask cX11_mask RX11 13 (some .int) l S [(0, .ref (X.2.1 0)), (1, .int p1), (2, .int p2), (3, .int p3), (4, .int p4), (5, .int p5), (6, .int p6)] [] 0 (f_X11_mask p1 p2 p3 p4 p5 p6 S) := by
  unfold f_X11_mask
  refine mw_aload_n 0 dX11_mask_0 rfl rfl ?_
  refine mw_iload_n 1 dX11_mask_1 rfl rfl ?_
  refine mw_iload_n 2 dX11_mask_2 rfl rfl ?_
  refine mw_callV (t_X11_hasTrace X l p1 p2 S) cd_X11_hasTrace lk_RX11_181 im_X11_hasTrace se_X11_hasTrace in_RX11 de_X11_hasTrace ⟨rfl, rfl⟩ ⟨Nat.le_of_ble_eq_true rfl, Nat.le_of_ble_eq_true rfl⟩ (mKind_lt mk_0 (by decide)) (mCell_k mk_0) rfl rfl rfl rfl ⟨Nat.le_of_ble_eq_true rfl, Nat.le_of_ble_eq_true rfl⟩ (Nat.le_of_ble_eq_true rfl) dX11_mask_3 (fun r1 S2 => ?_)
  refine mw_eq (st' := [.int r1]) rfl rfl ?_
  refine mw_if_eq (tgt := 33) dX11_mask_6 (by decide) ?_ ?_
  · refine mw_iconst (v := (-1 : Int32)) dX11_mask_33 (by decide) ?_
    exact mw_ireturn dX11_mask_34
  · refine mw_iload_n 3 dX11_mask_9 rfl rfl ?_
    refine mw_iconst (v := (0 : Int32)) dX11_mask_10 (by decide) ?_
    refine mw_iconst (v := (3 : Int32)) dX11_mask_11 (by decide) ?_
    refine mw_callS (t_X11_isIn X l p3 (0 : Int32) (3 : Int32) S2) cd_X11_isIn lk_RX11_96 sn_X11_isIn in_RX11 de_X11_isIn ⟨rfl, rfl⟩ ⟨Nat.le_of_ble_eq_true rfl, Nat.le_of_ble_eq_true rfl⟩ rfl rfl ⟨Nat.le_of_ble_eq_true rfl, Nat.le_of_ble_eq_true rfl⟩ (Nat.le_of_ble_eq_true rfl) dX11_mask_12 (fun r3 S4 => ?_)
    refine mw_eq (st' := [.int r3]) rfl rfl ?_
    refine mw_if_eq (tgt := 33) dX11_mask_15 (by decide) ?_ ?_
    · refine mw_iconst (v := (-1 : Int32)) dX11_mask_33 (by decide) ?_
      exact mw_ireturn dX11_mask_34
    · refine mw_iload 4 dX11_mask_18 rfl ?_
      refine mw_iconst (v := (0 : Int32)) dX11_mask_20 (by decide) ?_
      refine mw_iconst (v := (2 : Int32)) dX11_mask_21 (by decide) ?_
      refine mw_callS (t_X11_isIn X l p4 (0 : Int32) (2 : Int32) S4) cd_X11_isIn lk_RX11_96 sn_X11_isIn in_RX11 de_X11_isIn ⟨rfl, rfl⟩ ⟨Nat.le_of_ble_eq_true rfl, Nat.le_of_ble_eq_true rfl⟩ rfl rfl ⟨Nat.le_of_ble_eq_true rfl, Nat.le_of_ble_eq_true rfl⟩ (Nat.le_of_ble_eq_true rfl) dX11_mask_22 (fun r5 S6 => ?_)
      refine mw_eq (st' := [.int r5]) rfl rfl ?_
      refine mw_if_eq (tgt := 33) dX11_mask_25 (by decide) ?_ ?_
      · refine mw_iconst (v := (-1 : Int32)) dX11_mask_33 (by decide) ?_
        exact mw_ireturn dX11_mask_34
      · refine mw_iload 6 dX11_mask_28 rfl ?_
        refine mw_if_ge (tgt := 35) dX11_mask_30 (by decide) ?_ ?_
        · refine mw_aload_n 0 dX11_mask_35 rfl rfl ?_
          refine gf_RX11_34 mk_0 dX11_mask_36 ?_
          refine mw_iload_n 3 dX11_mask_39 rfl rfl ?_
          refine mw_aaload (n := 4) (t := 6) (g := fun i => 44 + 1 + 2 * i) mk_44 (by decide) (kr_26 mk_44 ml_44) rfl dX11_mask_40 (fun h7 => ?_)
          refine mw_bndA (ke_26 mk_44 h7.2) (fun a8 ha8 => ?_)
          refine mw_astore (lv' := [(7, .ref (X.2.1 a8)), (0, .ref (X.2.1 0)), (1, .int p1), (2, .int p2), (3, .int p3), (4, .int p4), (5, .int p5), (6, .int p6)]) dX11_mask_41 (by decide) rfl ?_
          refine mw_aload 0 dX11_mask_43 rfl ?_
          refine mw_iload 5 dX11_mask_45 rfl ?_
          refine mw_iload 7 dX11_mask_47 rfl ?_
          refine mw_callV (t_X6_faultAs X l a8 p4 p6 S6 ha8) cd_X6_faultAs lk_RX11_203 im_X6_faultAs se_X6_faultAs in_RX6 de_X6_faultAs ⟨rfl, rfl⟩ ⟨Nat.le_of_ble_eq_true rfl, Nat.le_of_ble_eq_true rfl⟩ (mKind_lt ha8 (by decide)) (mCell_k ha8) rfl rfl rfl rfl ⟨Nat.le_of_ble_eq_true rfl, Nat.le_of_ble_eq_true rfl⟩ (Nat.le_of_ble_eq_true rfl) dX11_mask_49 (fun r9 S10 => ?_)
          refine mw_eq (st' := [.int r9]) rfl rfl ?_
          refine mw_istore (lv' := [(8, .int r9), (7, .ref (X.2.1 a8)), (0, .ref (X.2.1 0)), (1, .int p1), (2, .int p2), (3, .int p3), (4, .int p4), (5, .int p5), (6, .int p6)]) dX11_mask_52 (by decide) rfl ?_
          refine mw_iload 0 dX11_mask_54 rfl ?_
          refine mw_if_eq (tgt := 65) dX11_mask_56 (by decide) ?_ ?_
          · refine mw_aload_n 2 dX11_mask_65 rfl rfl ?_
            refine gf_RX11_28 mk_0 dX11_mask_66 ?_
            refine gf_RX11_109 mk_7 dX11_mask_69 ?_
            refine mw_iload_n 3 dX11_mask_72 rfl rfl ?_
            refine mw_callV (t_X8_get X l p1 S10) cd_X8_get lk_RX11_169 im_X8_get se_X8_get in_RX8 de_X8_get ⟨rfl, rfl⟩ ⟨Nat.le_of_ble_eq_true rfl, Nat.le_of_ble_eq_true rfl⟩ (mKind_lt mk_10 (by decide)) (mCell_k mk_10) rfl rfl rfl rfl ⟨Nat.le_of_ble_eq_true rfl, Nat.le_of_ble_eq_true rfl⟩ (Nat.le_of_ble_eq_true rfl) dX11_mask_73 (fun r11 S12 => ?_)
            refine mw_chk (fun h13 => ?_)
            refine mw_eq (st' := [.ref (X.2.1 r11)]) rfl rfl ?_
            refine mw_astore (lv' := [(9, .ref (X.2.1 r11)), (8, .int r9), (7, .ref (X.2.1 a8)), (0, .ref (X.2.1 0)), (1, .int p1), (2, .int p2), (3, .int p3), (4, .int p4), (5, .int p5), (6, .int p6)]) dX11_mask_76 (by decide) rfl ?_
            refine mw_iconst (v := (0 : Int32)) dX11_mask_78 (by decide) ?_
            refine mw_istore (lv' := [(10, .int (0 : Int32)), (9, .ref (X.2.1 r11)), (8, .int r9), (7, .ref (X.2.1 a8)), (0, .ref (X.2.1 0)), (1, .int p1), (2, .int p2), (3, .int p3), (4, .int p4), (5, .int p5), (6, .int p6)]) dX11_mask_79 (by decide) rfl ?_
            refine mw_aload_n 4 dX11_mask_81 rfl rfl ?_
            refine mw_bipush (v := (-4 : Int32)) dX11_mask_82 (by decide) ?_
            refine pf_RX11_53 mk_0 dX11_mask_84 ?_
            refine mw_bndS (fun S14 => ?_)
            refine mw_iconst (v := (0 : Int32)) dX11_mask_87 (by decide) ?_
            refine mw_istore (lv' := [(11, .int (0 : Int32)), (10, .int (0 : Int32)), (9, .ref (X.2.1 r11)), (8, .int r9), (7, .ref (X.2.1 a8)), (0, .ref (X.2.1 0)), (1, .int p1), (2, .int p2), (3, .int p3), (4, .int p4), (5, .int p5), (6, .int p6)]) dX11_mask_88 (by decide) rfl ?_
            exact mw_sub [5, 7, 10, 11, 4, 2, 1, 0] rfl (w_X11_mask_90 X l mFuel p2 p5 p6 a8 r11 (0 : Int32) (0 : Int32) S14 ha8 h13)
          · refine mw_bipush (v := (-10 : Int32)) dX11_mask_59 (by decide) ?_
            refine mw_iload 0 dX11_mask_61 rfl ?_
            refine mw_isub dX11_mask_63 ?_
            exact mw_ireturn dX11_mask_64
        · refine mw_iconst (v := (-1 : Int32)) dX11_mask_33 (by decide) ?_
          exact mw_ireturn dX11_mask_34
theorem t_X11_mask (X : mX) (l : Launch) (p1 : Int32) (p2 : Int32) (p3 : Int32) (p4 : Int32) (p5 : Int32) (p6 : Int32) (S : mM) : mMet X viI yX11_mask cX11_mask 13 (some .int) rm_X11_mask [.ref (X.2.1 0), .int p1, .int p2, .int p3, .int p4, .int p5, .int p6] l S (f_X11_mask p1 p2 p3 p4 p5 p6 S) :=
  mMet_of (by decide +kernel) rfl (Nat.le_of_ble_eq_true rfl) (w_X11_mask X l p1 p2 p3 p4 p5 p6 S )
/-! TraceBench.place(II)J -/
def f_X11_place (p1 : Int32) (p2 : Int32) (S : mM) : Option (Int64 × mM) :=
  mBind (f_X11_isIn p1 (0 : Int32) (3 : Int32) S) fun r1 S2 =>
  if r1 = 0 then
    some ((0 : Int64), S2)
  else
    if 0 ≤ p1 ∧ p1.toNatClampNeg < 4 then
    (bnd (53 + 1 + 3 * p1.toNatClampNeg) fun a4 =>
    mBind (f_X3_valueAt a4 p2 S2) fun r5 S6 =>
    some (r5, S6))
    else none
set_option maxRecDepth 100000 in
set_option maxHeartbeats 4000000 in
theorem w_X11_place (X : mX) (l : Launch) (p1 : Int32) (p2 : Int32) (S : mM) : MW X viJ rm_X11_place cX11_place RX11 3 (some .long) l S [(0, .ref (X.2.1 0)), (1, .int p1), (2, .int p2)] [] 0 (f_X11_place p1 p2 S) := by
  unfold f_X11_place
  refine mw_iload_n 1 dX11_place_0 rfl rfl ?_
  refine mw_iconst (v := (0 : Int32)) dX11_place_1 (by decide) ?_
  refine mw_iconst (v := (3 : Int32)) dX11_place_2 (by decide) ?_
  refine mw_callS (t_X11_isIn X l p1 (0 : Int32) (3 : Int32) S) cd_X11_isIn lk_RX11_96 sn_X11_isIn in_RX11 de_X11_isIn ⟨rfl, rfl⟩ ⟨Nat.le_of_ble_eq_true rfl, Nat.le_of_ble_eq_true rfl⟩ rfl rfl ⟨Nat.le_of_ble_eq_true rfl, Nat.le_of_ble_eq_true rfl⟩ (Nat.le_of_ble_eq_true rfl) dX11_place_3 (fun r1 S2 => ?_)
  refine mw_eq (st' := [.int r1]) rfl rfl ?_
  refine mw_if_eq (tgt := 22) dX11_place_6 (by decide) ?_ ?_
  · refine mw_lconst (v := (0 : Int64)) dX11_place_22 (by decide) ?_
    exact mw_lreturn dX11_place_23
  · refine mw_aload_n 0 dX11_place_9 rfl rfl ?_
    refine gf_RX11_41 mk_0 dX11_place_10 ?_
    refine mw_iload_n 1 dX11_place_13 rfl rfl ?_
    refine mw_aaload (n := 4) (t := 4) (g := fun i => 53 + 1 + 3 * i) mk_53 (by decide) (kr_24 mk_53 ml_53) rfl dX11_place_14 (fun h3 => ?_)
    refine mw_bndA (ke_24 mk_53 h3.2) (fun a4 ha4 => ?_)
    refine mw_iload_n 2 dX11_place_15 rfl rfl ?_
    refine mw_callV (t_X3_valueAt X l a4 p2 S2 ha4) cd_X3_valueAt lk_RX11_131 im_X3_valueAt se_X3_valueAt in_RX3 de_X3_valueAt ⟨rfl, rfl⟩ ⟨Nat.le_of_ble_eq_true rfl, Nat.le_of_ble_eq_true rfl⟩ (mKind_lt ha4 (by decide)) (mCell_k ha4) rfl rfl rfl rfl ⟨Nat.le_of_ble_eq_true rfl, Nat.le_of_ble_eq_true rfl⟩ (Nat.le_of_ble_eq_true rfl) dX11_place_16 (fun r5 S6 => ?_)
    refine mw_eq (st' := [.long r5]) rfl rfl ?_
    refine mw_goto (tgt := 23) dX11_place_19 (by decide) ?_
    exact mw_lreturn dX11_place_23
theorem t_X11_place (X : mX) (l : Launch) (p1 : Int32) (p2 : Int32) (S : mM) : mMet X viJ yX11_place cX11_place 3 (some .long) rm_X11_place [.ref (X.2.1 0), .int p1, .int p2] l S (f_X11_place p1 p2 S) :=
  mMet_of (by decide +kernel) rfl (Nat.le_of_ble_eq_true rfl) (w_X11_place X l p1 p2 S )
/-! TraceBench.play(IIII)I -/
def f_X11_play_66 (n : Nat) (y2 : Int32) (y3 : Int32) (y4 : Int32) (y5 : Nat) (y6 : Int32) (S : mM) : Option (Int32 × mM) := match n with
  | 0 => none
  | n + 1 =>
    if y4 ≤ y6 then
      some ((S.1 10 1), S)
    else
      mBind (f_X3_valueAt y5 (y3 + y6) S) fun r1 S2 =>
      mBind (f_X11_sampleOn y2 r1.toInt32 S2) fun r3 S4 =>
      mBind (f_X4_take r3 S4) fun r5 S6 =>
      bnd (y6 + (1 : Int32)) fun x7 =>
      f_X11_play_66 n y2 y3 y4 y5 x7 S6
set_option maxRecDepth 100000 in
set_option maxHeartbeats 4000000 in
theorem w_X11_play_66 (X : mX) (l : Launch) (n : Nat) (y2 : Int32) (y3 : Int32) (y4 : Int32) (y5 : Nat) (y6 : Int32) (S : mM) (hy5 : mKind y5 = 3) : MW X viI rm_X11_play cX11_play RX11 7 (some .int) l S [(0, .ref (X.2.1 0)), (2, .int y2), (3, .int y3), (4, .int y4), (5, .ref (X.2.1 y5)), (6, .int y6)] [] 66 (f_X11_play_66 n y2 y3 y4 y5 y6 S) := by
  induction n generalizing y2 y3 y4 y5 y6 S with
  | zero => exact mw_none
  | succ n ih =>
    unfold f_X11_play_66
    refine mw_iload 5 dX11_play_66 rfl ?_
    refine mw_iload 3 dX11_play_68 rfl ?_
    refine mw_icmp_ge (tgt := 100) dX11_play_70 (by decide) ?_ ?_
    · refine mw_aload_n 0 dX11_play_100 rfl rfl ?_
      refine gf_RX11_28 mk_0 dX11_play_101 ?_
      refine gf_RX11_109 mk_7 dX11_play_104 ?_
      refine gf_RX11_126 mk_10 dX11_play_107 ?_
      exact mw_ireturn dX11_play_110
    · refine mw_aload_n 0 dX11_play_73 rfl rfl ?_
      refine gf_RX11_28 mk_0 dX11_play_74 ?_
      refine mw_iload_n 1 dX11_play_77 rfl rfl ?_
      refine mw_aload 4 dX11_play_78 rfl ?_
      refine mw_iload_n 2 dX11_play_80 rfl rfl ?_
      refine mw_iload 5 dX11_play_81 rfl ?_
      refine mw_iadd dX11_play_83 ?_
      refine mw_callV (t_X3_valueAt X l y5 (y3 + y6) S hy5) cd_X3_valueAt lk_RX11_131 im_X3_valueAt se_X3_valueAt in_RX3 de_X3_valueAt ⟨rfl, rfl⟩ ⟨Nat.le_of_ble_eq_true rfl, Nat.le_of_ble_eq_true rfl⟩ (mKind_lt hy5 (by decide)) (mCell_k hy5) rfl rfl rfl rfl ⟨Nat.le_of_ble_eq_true rfl, Nat.le_of_ble_eq_true rfl⟩ (Nat.le_of_ble_eq_true rfl) dX11_play_84 (fun r1 S2 => ?_)
      refine mw_eq (st' := [.long r1, .int y2, .ref (X.2.1 7)]) rfl rfl ?_
      refine mw_l2i dX11_play_87 ?_
      refine mw_callS (t_X11_sampleOn X l y2 r1.toInt32 S2) cd_X11_sampleOn lk_RX11_135 sn_X11_sampleOn in_RX11 de_X11_sampleOn ⟨rfl, rfl⟩ ⟨Nat.le_of_ble_eq_true rfl, Nat.le_of_ble_eq_true rfl⟩ rfl rfl ⟨Nat.le_of_ble_eq_true rfl, Nat.le_of_ble_eq_true rfl⟩ (Nat.le_of_ble_eq_true rfl) dX11_play_88 (fun r3 S4 => ?_)
      refine mw_eq (st' := [.int r3, .ref (X.2.1 7)]) rfl rfl ?_
      refine mw_callV (t_X4_take X l r3 S4) cd_X4_take lk_RX11_122 im_X4_take se_X4_take in_RX4 de_X4_take ⟨rfl, rfl⟩ ⟨Nat.le_of_ble_eq_true rfl, Nat.le_of_ble_eq_true rfl⟩ (mKind_lt mk_7 (by decide)) (mCell_k mk_7) rfl rfl rfl rfl ⟨Nat.le_of_ble_eq_true rfl, Nat.le_of_ble_eq_true rfl⟩ (Nat.le_of_ble_eq_true rfl) dX11_play_91 (fun r5 S6 => ?_)
      refine mw_eq (st' := []) rfl rfl ?_
      refine mw_iincB (lvf := fun x7 => [(6, .int x7), (0, .ref (X.2.1 0)), (2, .int y2), (3, .int y3), (4, .int y4), (5, .ref (X.2.1 y5))]) (k := 5) dX11_play_94 rfl (by decide) (by decide) (fun _ => rfl) (fun x7 => ?_)
      refine mw_goto (tgt := 66) dX11_play_97 (by decide) ?_
      exact mw_sub [1, 2, 3, 4, 5, 0] rfl (ih y2 y3 y4 y5 x7 S6 hy5)
def f_X11_play (p1 : Int32) (p2 : Int32) (p3 : Int32) (p4 : Int32) (S : mM) : Option (Int32 × mM) :=
  mBind (f_X11_isIn p1 (0 : Int32) (3 : Int32) S) fun r1 S2 =>
  if r1 = 0 then
    some ((-1 : Int32), S2)
  else
    mBind (f_X11_isTrace p2 S2) fun r3 S4 =>
    if r3 = 0 then
      some ((-1 : Int32), S4)
    else
      mBind (f_X11_isIn p4 (0 : Int32) (64 : Int32) S4) fun r5 S6 =>
      if r5 = 0 then
        some ((-1 : Int32), S6)
      else
        if 0 ≤ p1 ∧ p1.toNatClampNeg < 4 then
        (bnd (53 + 1 + 3 * p1.toNatClampNeg) fun a8 =>
        if (S6.1 a8 2) = 0 then
          some ((-1 : Int32), S6)
        else
          mBind (f_X11_isIn p3 (0 : Int32) ((S6.1 a8 2) - p4) S6) fun r9 S10 =>
          if r9 = 0 then
            some ((-1 : Int32), S10)
          else
            f_X11_play_66 mFuel p2 p3 p4 a8 (0 : Int32) S10)
        else none
set_option maxRecDepth 100000 in
set_option maxHeartbeats 4000000 in
theorem w_X11_play (X : mX) (l : Launch) (p1 : Int32) (p2 : Int32) (p3 : Int32) (p4 : Int32) (S : mM) : MW X viI rm_X11_play cX11_play RX11 7 (some .int) l S [(0, .ref (X.2.1 0)), (1, .int p1), (2, .int p2), (3, .int p3), (4, .int p4)] [] 0 (f_X11_play p1 p2 p3 p4 S) := by
  unfold f_X11_play
  refine mw_iload_n 1 dX11_play_0 rfl rfl ?_
  refine mw_iconst (v := (0 : Int32)) dX11_play_1 (by decide) ?_
  refine mw_iconst (v := (3 : Int32)) dX11_play_2 (by decide) ?_
  refine mw_callS (t_X11_isIn X l p1 (0 : Int32) (3 : Int32) S) cd_X11_isIn lk_RX11_96 sn_X11_isIn in_RX11 de_X11_isIn ⟨rfl, rfl⟩ ⟨Nat.le_of_ble_eq_true rfl, Nat.le_of_ble_eq_true rfl⟩ rfl rfl ⟨Nat.le_of_ble_eq_true rfl, Nat.le_of_ble_eq_true rfl⟩ (Nat.le_of_ble_eq_true rfl) dX11_play_3 (fun r1 S2 => ?_)
  refine mw_eq (st' := [.int r1]) rfl rfl ?_
  refine mw_if_eq (tgt := 27) dX11_play_6 (by decide) ?_ ?_
  · refine mw_iconst (v := (-1 : Int32)) dX11_play_27 (by decide) ?_
    exact mw_ireturn dX11_play_28
  · refine mw_iload_n 2 dX11_play_9 rfl rfl ?_
    refine mw_callS (t_X11_isTrace X l p2 S2) cd_X11_isTrace lk_RX11_127 sn_X11_isTrace in_RX11 de_X11_isTrace ⟨rfl, rfl⟩ ⟨Nat.le_of_ble_eq_true rfl, Nat.le_of_ble_eq_true rfl⟩ rfl rfl ⟨Nat.le_of_ble_eq_true rfl, Nat.le_of_ble_eq_true rfl⟩ (Nat.le_of_ble_eq_true rfl) dX11_play_10 (fun r3 S4 => ?_)
    refine mw_eq (st' := [.int r3]) rfl rfl ?_
    refine mw_if_eq (tgt := 27) dX11_play_13 (by decide) ?_ ?_
    · refine mw_iconst (v := (-1 : Int32)) dX11_play_27 (by decide) ?_
      exact mw_ireturn dX11_play_28
    · refine mw_iload 4 dX11_play_16 rfl ?_
      refine mw_iconst (v := (0 : Int32)) dX11_play_18 (by decide) ?_
      refine mw_bipush (v := (64 : Int32)) dX11_play_19 (by decide) ?_
      refine mw_callS (t_X11_isIn X l p4 (0 : Int32) (64 : Int32) S4) cd_X11_isIn lk_RX11_96 sn_X11_isIn in_RX11 de_X11_isIn ⟨rfl, rfl⟩ ⟨Nat.le_of_ble_eq_true rfl, Nat.le_of_ble_eq_true rfl⟩ rfl rfl ⟨Nat.le_of_ble_eq_true rfl, Nat.le_of_ble_eq_true rfl⟩ (Nat.le_of_ble_eq_true rfl) dX11_play_21 (fun r5 S6 => ?_)
      refine mw_eq (st' := [.int r5]) rfl rfl ?_
      refine mw_if_ne (tgt := 29) dX11_play_24 (by decide) ?_ ?_
      · refine mw_iconst (v := (-1 : Int32)) dX11_play_27 (by decide) ?_
        exact mw_ireturn dX11_play_28
      · refine mw_aload_n 0 dX11_play_29 rfl rfl ?_
        refine gf_RX11_41 mk_0 dX11_play_30 ?_
        refine mw_iload_n 1 dX11_play_33 rfl rfl ?_
        refine mw_aaload (n := 4) (t := 4) (g := fun i => 53 + 1 + 3 * i) mk_53 (by decide) (kr_24 mk_53 ml_53) rfl dX11_play_34 (fun h7 => ?_)
        refine mw_bndA (ke_24 mk_53 h7.2) (fun a8 ha8 => ?_)
        refine mw_astore (lv' := [(5, .ref (X.2.1 a8)), (0, .ref (X.2.1 0)), (1, .int p1), (2, .int p2), (3, .int p3), (4, .int p4)]) dX11_play_35 (by decide) rfl ?_
        refine mw_aload 0 dX11_play_37 rfl ?_
        refine gf_RX11_130 ha8 dX11_play_39 ?_
        refine mw_if_eq (tgt := 61) dX11_play_42 (by decide) ?_ ?_
        · refine mw_iconst (v := (-1 : Int32)) dX11_play_61 (by decide) ?_
          exact mw_ireturn dX11_play_62
        · refine mw_iload_n 4 dX11_play_45 rfl rfl ?_
          refine mw_iconst (v := (0 : Int32)) dX11_play_46 (by decide) ?_
          refine mw_aload 0 dX11_play_47 rfl ?_
          refine gf_RX11_130 ha8 dX11_play_49 ?_
          refine mw_iload 5 dX11_play_52 rfl ?_
          refine mw_isub dX11_play_54 ?_
          refine mw_callS (t_X11_isIn X l p3 (0 : Int32) ((S6.1 a8 2) - p4) S6) cd_X11_isIn lk_RX11_96 sn_X11_isIn in_RX11 de_X11_isIn ⟨rfl, rfl⟩ ⟨Nat.le_of_ble_eq_true rfl, Nat.le_of_ble_eq_true rfl⟩ rfl rfl ⟨Nat.le_of_ble_eq_true rfl, Nat.le_of_ble_eq_true rfl⟩ (Nat.le_of_ble_eq_true rfl) dX11_play_55 (fun r9 S10 => ?_)
          refine mw_eq (st' := [.int r9]) rfl rfl ?_
          refine mw_if_ne (tgt := 63) dX11_play_58 (by decide) ?_ ?_
          · refine mw_iconst (v := (-1 : Int32)) dX11_play_61 (by decide) ?_
            exact mw_ireturn dX11_play_62
          · refine mw_iconst (v := (0 : Int32)) dX11_play_63 (by decide) ?_
            refine mw_istore (lv' := [(6, .int (0 : Int32)), (5, .ref (X.2.1 a8)), (0, .ref (X.2.1 0)), (1, .int p1), (2, .int p2), (3, .int p3), (4, .int p4)]) dX11_play_64 (by decide) rfl ?_
            exact mw_sub [2, 4, 5, 6, 1, 0] rfl (w_X11_play_66 X l mFuel p2 p3 p4 a8 (0 : Int32) S10 ha8)
theorem t_X11_play (X : mX) (l : Launch) (p1 : Int32) (p2 : Int32) (p3 : Int32) (p4 : Int32) (S : mM) : mMet X viI yX11_play cX11_play 7 (some .int) rm_X11_play [.ref (X.2.1 0), .int p1, .int p2, .int p3, .int p4] l S (f_X11_play p1 p2 p3 p4 S) :=
  mMet_of (by decide +kernel) rfl (Nat.le_of_ble_eq_true rfl) (w_X11_play X l p1 p2 p3 p4 S )
/-! TraceBench.reckon(IIIII)I -/
def f_X11_reckon_81 (y1 : Int32) (y2 : Int32) (y3 : Int32) (y4 : Int32) (y5 : Int32) (S : mM) : Option (Int32 × mM) :=
  if y2 < (3 : Int32) then
    mBind (f_X11_isFilled y4 S) fun r1 S2 =>
    if r1 = 0 then
      some ((-1 : Int32), S2)
    else
      if 0 ≤ y1 ∧ y1.toNatClampNeg < 4 then
      (bnd (53 + 1 + 3 * y1.toNatClampNeg) fun a4 =>
      if 0 ≤ y3 ∧ y3.toNatClampNeg < 4 then
      (bnd (53 + 1 + 3 * y3.toNatClampNeg) fun a6 =>
      if 0 ≤ y4 ∧ y4.toNatClampNeg < 4 then
      (bnd (53 + 1 + 3 * y4.toNatClampNeg) fun a8 =>
      mBind (f_X3_reckonTwo a4 y2 a6 a8 S2) fun r9 S10 =>
      if 0 ≤ y1 ∧ y1.toNatClampNeg < 4 then
      (bnd (53 + 1 + 3 * y1.toNatClampNeg) fun a12 =>
      some ((S10.1 a12 2), S10))
      else none)
      else none)
      else none)
      else none
  else
    if 0 ≤ y1 ∧ y1.toNatClampNeg < 4 then
    (bnd (53 + 1 + 3 * y1.toNatClampNeg) fun a14 =>
    if 0 ≤ y3 ∧ y3.toNatClampNeg < 4 then
    (bnd (53 + 1 + 3 * y3.toNatClampNeg) fun a16 =>
    mBind (f_X3_reckonOne a14 y2 a16 y5 S) fun r17 S18 =>
    if 0 ≤ y1 ∧ y1.toNatClampNeg < 4 then
    (bnd (53 + 1 + 3 * y1.toNatClampNeg) fun a20 =>
    some ((S18.1 a20 2), S18))
    else none)
    else none)
    else none
set_option maxRecDepth 100000 in
set_option maxHeartbeats 4000000 in
theorem w_X11_reckon_81 (X : mX) (l : Launch) (y1 : Int32) (y2 : Int32) (y3 : Int32) (y4 : Int32) (y5 : Int32) (S : mM) : MW X viI rm_X11_reckon cX11_reckon RX11 7 (some .int) l S [(0, .ref (X.2.1 0)), (1, .int y1), (2, .int y2), (3, .int y3), (4, .int y4), (5, .int y5)] [] 81 (f_X11_reckon_81 y1 y2 y3 y4 y5 S) := by
  unfold f_X11_reckon_81
  refine mw_iload_n 2 dX11_reckon_81 rfl rfl ?_
  refine mw_iconst (v := (3 : Int32)) dX11_reckon_82 (by decide) ?_
  refine mw_icmp_lt (tgt := 107) dX11_reckon_83 (by decide) ?_ ?_
  · refine mw_aload_n 0 dX11_reckon_107 rfl rfl ?_
    refine mw_iload 4 dX11_reckon_108 rfl ?_
    refine mw_callV (t_X11_isFilled X l y4 S) cd_X11_isFilled lk_RX11_213 im_X11_isFilled se_X11_isFilled in_RX11 de_X11_isFilled ⟨rfl, rfl⟩ ⟨Nat.le_of_ble_eq_true rfl, Nat.le_of_ble_eq_true rfl⟩ (mKind_lt mk_0 (by decide)) (mCell_k mk_0) rfl rfl rfl rfl ⟨Nat.le_of_ble_eq_true rfl, Nat.le_of_ble_eq_true rfl⟩ (Nat.le_of_ble_eq_true rfl) dX11_reckon_110 (fun r1 S2 => ?_)
    refine mw_eq (st' := [.int r1]) rfl rfl ?_
    refine mw_if_eq (tgt := 142) dX11_reckon_113 (by decide) ?_ ?_
    · refine mw_iconst (v := (-1 : Int32)) dX11_reckon_142 (by decide) ?_
      exact mw_ireturn dX11_reckon_143
    · refine mw_aload_n 0 dX11_reckon_116 rfl rfl ?_
      refine gf_RX11_41 mk_0 dX11_reckon_117 ?_
      refine mw_iload_n 1 dX11_reckon_120 rfl rfl ?_
      refine mw_aaload (n := 4) (t := 4) (g := fun i => 53 + 1 + 3 * i) mk_53 (by decide) (kr_24 mk_53 ml_53) rfl dX11_reckon_121 (fun h3 => ?_)
      refine mw_bndA (ke_24 mk_53 h3.2) (fun a4 ha4 => ?_)
      refine mw_iload_n 2 dX11_reckon_122 rfl rfl ?_
      refine mw_aload_n 0 dX11_reckon_123 rfl rfl ?_
      refine gf_RX11_41 mk_0 dX11_reckon_124 ?_
      refine mw_iload_n 3 dX11_reckon_127 rfl rfl ?_
      refine mw_aaload (n := 4) (t := 4) (g := fun i => 53 + 1 + 3 * i) mk_53 (by decide) (kr_24 mk_53 ml_53) rfl dX11_reckon_128 (fun h5 => ?_)
      refine mw_bndA (ke_24 mk_53 h5.2) (fun a6 ha6 => ?_)
      refine mw_aload_n 0 dX11_reckon_129 rfl rfl ?_
      refine gf_RX11_41 mk_0 dX11_reckon_130 ?_
      refine mw_iload 4 dX11_reckon_133 rfl ?_
      refine mw_aaload (n := 4) (t := 4) (g := fun i => 53 + 1 + 3 * i) mk_53 (by decide) (kr_24 mk_53 ml_53) rfl dX11_reckon_135 (fun h7 => ?_)
      refine mw_bndA (ke_24 mk_53 h7.2) (fun a8 ha8 => ?_)
      refine mw_callV (t_X3_reckonTwo X l a4 y2 a6 a8 S2 ha4 ha6 ha8) cd_X3_reckonTwo lk_RX11_220 im_X3_reckonTwo se_X3_reckonTwo in_RX3 de_X3_reckonTwo ⟨rfl, rfl⟩ ⟨Nat.le_of_ble_eq_true rfl, Nat.le_of_ble_eq_true rfl⟩ (mKind_lt ha4 (by decide)) (mCell_k ha4) rfl rfl rfl rfl ⟨Nat.le_of_ble_eq_true rfl, Nat.le_of_ble_eq_true rfl⟩ (Nat.le_of_ble_eq_true rfl) dX11_reckon_136 (fun r9 S10 => ?_)
      refine mw_eq (st' := []) rfl rfl ?_
      refine mw_goto (tgt := 144) dX11_reckon_139 (by decide) ?_
      refine mw_aload_n 0 dX11_reckon_144 rfl rfl ?_
      refine gf_RX11_41 mk_0 dX11_reckon_145 ?_
      refine mw_iload_n 1 dX11_reckon_148 rfl rfl ?_
      refine mw_aaload (n := 4) (t := 4) (g := fun i => 53 + 1 + 3 * i) mk_53 (by decide) (kr_24 mk_53 ml_53) rfl dX11_reckon_149 (fun h11 => ?_)
      refine mw_bndA (ke_24 mk_53 h11.2) (fun a12 ha12 => ?_)
      refine gf_RX11_130 ha12 dX11_reckon_150 ?_
      exact mw_ireturn dX11_reckon_153
  · refine mw_aload_n 0 dX11_reckon_86 rfl rfl ?_
    refine gf_RX11_41 mk_0 dX11_reckon_87 ?_
    refine mw_iload_n 1 dX11_reckon_90 rfl rfl ?_
    refine mw_aaload (n := 4) (t := 4) (g := fun i => 53 + 1 + 3 * i) mk_53 (by decide) (kr_24 mk_53 ml_53) rfl dX11_reckon_91 (fun h13 => ?_)
    refine mw_bndA (ke_24 mk_53 h13.2) (fun a14 ha14 => ?_)
    refine mw_iload_n 2 dX11_reckon_92 rfl rfl ?_
    refine mw_aload_n 0 dX11_reckon_93 rfl rfl ?_
    refine gf_RX11_41 mk_0 dX11_reckon_94 ?_
    refine mw_iload_n 3 dX11_reckon_97 rfl rfl ?_
    refine mw_aaload (n := 4) (t := 4) (g := fun i => 53 + 1 + 3 * i) mk_53 (by decide) (kr_24 mk_53 ml_53) rfl dX11_reckon_98 (fun h15 => ?_)
    refine mw_bndA (ke_24 mk_53 h15.2) (fun a16 ha16 => ?_)
    refine mw_iload 5 dX11_reckon_99 rfl ?_
    refine mw_callV (t_X3_reckonOne X l a14 y2 a16 y5 S ha14 ha16) cd_X3_reckonOne lk_RX11_216 im_X3_reckonOne se_X3_reckonOne in_RX3 de_X3_reckonOne ⟨rfl, rfl⟩ ⟨Nat.le_of_ble_eq_true rfl, Nat.le_of_ble_eq_true rfl⟩ (mKind_lt ha14 (by decide)) (mCell_k ha14) rfl rfl rfl rfl ⟨Nat.le_of_ble_eq_true rfl, Nat.le_of_ble_eq_true rfl⟩ (Nat.le_of_ble_eq_true rfl) dX11_reckon_101 (fun r17 S18 => ?_)
    refine mw_eq (st' := []) rfl rfl ?_
    refine mw_goto (tgt := 144) dX11_reckon_104 (by decide) ?_
    refine mw_aload_n 0 dX11_reckon_144 rfl rfl ?_
    refine gf_RX11_41 mk_0 dX11_reckon_145 ?_
    refine mw_iload_n 1 dX11_reckon_148 rfl rfl ?_
    refine mw_aaload (n := 4) (t := 4) (g := fun i => 53 + 1 + 3 * i) mk_53 (by decide) (kr_24 mk_53 ml_53) rfl dX11_reckon_149 (fun h19 => ?_)
    refine mw_bndA (ke_24 mk_53 h19.2) (fun a20 ha20 => ?_)
    refine gf_RX11_130 ha20 dX11_reckon_150 ?_
    exact mw_ireturn dX11_reckon_153
def f_X11_reckon_44 (y1 : Int32) (y2 : Int32) (y3 : Int32) (y4 : Int32) (y5 : Int32) (z0 : Int32) (S : mM) : Option (Int32 × mM) :=
  if z0 = 0 then
    mBind (f_X11_isIn y5 (-1000 : Int32) (1000 : Int32) S) fun r1 S2 =>
    if r1 = 0 then
      some ((-1 : Int32), S2)
    else
      f_X11_reckon_81 y1 y2 y3 y4 y5 S2
  else
    mBind (f_X11_isIn y5 (1 : Int32) (64 : Int32) S) fun r3 S4 =>
    if r3 = 0 then
      some ((-1 : Int32), S4)
    else
      f_X11_reckon_81 y1 y2 y3 y4 y5 S4
set_option maxRecDepth 100000 in
set_option maxHeartbeats 4000000 in
theorem w_X11_reckon_44 (X : mX) (l : Launch) (y1 : Int32) (y2 : Int32) (y3 : Int32) (y4 : Int32) (y5 : Int32) (z0 : Int32) (S : mM) : MW X viI rm_X11_reckon cX11_reckon RX11 7 (some .int) l S [(0, .ref (X.2.1 0)), (1, .int y1), (2, .int y2), (3, .int y3), (4, .int y4), (5, .int y5)] [.int z0] 44 (f_X11_reckon_44 y1 y2 y3 y4 y5 z0 S) := by
  unfold f_X11_reckon_44
  refine mw_istore (lv' := [(6, .int z0), (0, .ref (X.2.1 0)), (1, .int y1), (2, .int y2), (3, .int y3), (4, .int y4), (5, .int y5)]) dX11_reckon_44 (by decide) rfl ?_
  refine mw_iload 0 dX11_reckon_46 rfl ?_
  refine mw_if_eq (tgt := 65) dX11_reckon_48 (by decide) ?_ ?_
  · refine mw_iload 6 dX11_reckon_65 rfl ?_
    refine mw_sipush (v := (-1000 : Int32)) dX11_reckon_67 (by decide) ?_
    refine mw_sipush (v := (1000 : Int32)) dX11_reckon_70 (by decide) ?_
    refine mw_callS (t_X11_isIn X l y5 (-1000 : Int32) (1000 : Int32) S) cd_X11_isIn lk_RX11_96 sn_X11_isIn in_RX11 de_X11_isIn ⟨rfl, rfl⟩ ⟨Nat.le_of_ble_eq_true rfl, Nat.le_of_ble_eq_true rfl⟩ rfl rfl ⟨Nat.le_of_ble_eq_true rfl, Nat.le_of_ble_eq_true rfl⟩ (Nat.le_of_ble_eq_true rfl) dX11_reckon_73 (fun r1 S2 => ?_)
    refine mw_eq (st' := [.int r1]) rfl rfl ?_
    refine mw_if_ne (tgt := 81) dX11_reckon_76 (by decide) ?_ ?_
    · refine mw_iconst (v := (-1 : Int32)) dX11_reckon_79 (by decide) ?_
      exact mw_ireturn dX11_reckon_80
    · exact mw_sub [1, 2, 3, 4, 5, 6] rfl (w_X11_reckon_81 X l y1 y2 y3 y4 y5 S2)
  · refine mw_iload 6 dX11_reckon_51 rfl ?_
    refine mw_iconst (v := (1 : Int32)) dX11_reckon_53 (by decide) ?_
    refine mw_bipush (v := (64 : Int32)) dX11_reckon_54 (by decide) ?_
    refine mw_callS (t_X11_isIn X l y5 (1 : Int32) (64 : Int32) S) cd_X11_isIn lk_RX11_96 sn_X11_isIn in_RX11 de_X11_isIn ⟨rfl, rfl⟩ ⟨Nat.le_of_ble_eq_true rfl, Nat.le_of_ble_eq_true rfl⟩ rfl rfl ⟨Nat.le_of_ble_eq_true rfl, Nat.le_of_ble_eq_true rfl⟩ (Nat.le_of_ble_eq_true rfl) dX11_reckon_56 (fun r3 S4 => ?_)
    refine mw_eq (st' := [.int r3]) rfl rfl ?_
    refine mw_if_ne (tgt := 81) dX11_reckon_59 (by decide) ?_ ?_
    · refine mw_goto (tgt := 79) dX11_reckon_62 (by decide) ?_
      refine mw_iconst (v := (-1 : Int32)) dX11_reckon_79 (by decide) ?_
      exact mw_ireturn dX11_reckon_80
    · exact mw_sub [1, 2, 3, 4, 5, 6] rfl (w_X11_reckon_81 X l y1 y2 y3 y4 y5 S4)
def f_X11_reckon_39 (y1 : Int32) (y2 : Int32) (y3 : Int32) (y4 : Int32) (y5 : Int32) (S : mM) : Option (Int32 × mM) :=
  f_X11_reckon_44 y1 y2 y3 y4 y5 (1 : Int32) S
set_option maxRecDepth 100000 in
set_option maxHeartbeats 4000000 in
theorem w_X11_reckon_39 (X : mX) (l : Launch) (y1 : Int32) (y2 : Int32) (y3 : Int32) (y4 : Int32) (y5 : Int32) (S : mM) : MW X viI rm_X11_reckon cX11_reckon RX11 7 (some .int) l S [(0, .ref (X.2.1 0)), (1, .int y1), (2, .int y2), (3, .int y3), (4, .int y4), (5, .int y5)] [] 39 (f_X11_reckon_39 y1 y2 y3 y4 y5 S) := by
  unfold f_X11_reckon_39
  refine mw_iconst (v := (1 : Int32)) dX11_reckon_39 (by decide) ?_
  refine mw_goto (tgt := 44) dX11_reckon_40 (by decide) ?_
  exact mw_sub [0, 1, 2, 3, 4, 5] rfl (w_X11_reckon_44 X l y1 y2 y3 y4 y5 (1 : Int32) S)
def f_X11_reckon (p1 : Int32) (p2 : Int32) (p3 : Int32) (p4 : Int32) (p5 : Int32) (S : mM) : Option (Int32 × mM) :=
  mBind (f_X11_isIn p1 (0 : Int32) (3 : Int32) S) fun r1 S2 =>
  if r1 = 0 then
    some ((-1 : Int32), S2)
  else
    mBind (f_X11_isIn p2 (0 : Int32) (7 : Int32) S2) fun r3 S4 =>
    if r3 = 0 then
      some ((-1 : Int32), S4)
    else
      mBind (f_X11_isFilled p3 S4) fun r5 S6 =>
      if r5 = 0 then
        some ((-1 : Int32), S6)
      else
        if p2 = (3 : Int32) then
          f_X11_reckon_39 p1 p2 p3 p4 p5 S6
        else
          if p2 = (4 : Int32) then
            f_X11_reckon_39 p1 p2 p3 p4 p5 S6
          else
            f_X11_reckon_44 p1 p2 p3 p4 p5 (0 : Int32) S6
set_option maxRecDepth 100000 in
set_option maxHeartbeats 4000000 in
theorem w_X11_reckon (X : mX) (l : Launch) (p1 : Int32) (p2 : Int32) (p3 : Int32) (p4 : Int32) (p5 : Int32) (S : mM) : MW X viI rm_X11_reckon cX11_reckon RX11 7 (some .int) l S [(0, .ref (X.2.1 0)), (1, .int p1), (2, .int p2), (3, .int p3), (4, .int p4), (5, .int p5)] [] 0 (f_X11_reckon p1 p2 p3 p4 p5 S) := by
  unfold f_X11_reckon
  refine mw_iload_n 1 dX11_reckon_0 rfl rfl ?_
  refine mw_iconst (v := (0 : Int32)) dX11_reckon_1 (by decide) ?_
  refine mw_iconst (v := (3 : Int32)) dX11_reckon_2 (by decide) ?_
  refine mw_callS (t_X11_isIn X l p1 (0 : Int32) (3 : Int32) S) cd_X11_isIn lk_RX11_96 sn_X11_isIn in_RX11 de_X11_isIn ⟨rfl, rfl⟩ ⟨Nat.le_of_ble_eq_true rfl, Nat.le_of_ble_eq_true rfl⟩ rfl rfl ⟨Nat.le_of_ble_eq_true rfl, Nat.le_of_ble_eq_true rfl⟩ (Nat.le_of_ble_eq_true rfl) dX11_reckon_3 (fun r1 S2 => ?_)
  refine mw_eq (st' := [.int r1]) rfl rfl ?_
  refine mw_if_eq (tgt := 27) dX11_reckon_6 (by decide) ?_ ?_
  · refine mw_iconst (v := (-1 : Int32)) dX11_reckon_27 (by decide) ?_
    exact mw_ireturn dX11_reckon_28
  · refine mw_iload_n 2 dX11_reckon_9 rfl rfl ?_
    refine mw_iconst (v := (0 : Int32)) dX11_reckon_10 (by decide) ?_
    refine mw_bipush (v := (7 : Int32)) dX11_reckon_11 (by decide) ?_
    refine mw_callS (t_X11_isIn X l p2 (0 : Int32) (7 : Int32) S2) cd_X11_isIn lk_RX11_96 sn_X11_isIn in_RX11 de_X11_isIn ⟨rfl, rfl⟩ ⟨Nat.le_of_ble_eq_true rfl, Nat.le_of_ble_eq_true rfl⟩ rfl rfl ⟨Nat.le_of_ble_eq_true rfl, Nat.le_of_ble_eq_true rfl⟩ (Nat.le_of_ble_eq_true rfl) dX11_reckon_13 (fun r3 S4 => ?_)
    refine mw_eq (st' := [.int r3]) rfl rfl ?_
    refine mw_if_eq (tgt := 27) dX11_reckon_16 (by decide) ?_ ?_
    · refine mw_iconst (v := (-1 : Int32)) dX11_reckon_27 (by decide) ?_
      exact mw_ireturn dX11_reckon_28
    · refine mw_aload_n 0 dX11_reckon_19 rfl rfl ?_
      refine mw_iload_n 3 dX11_reckon_20 rfl rfl ?_
      refine mw_callV (t_X11_isFilled X l p3 S4) cd_X11_isFilled lk_RX11_213 im_X11_isFilled se_X11_isFilled in_RX11 de_X11_isFilled ⟨rfl, rfl⟩ ⟨Nat.le_of_ble_eq_true rfl, Nat.le_of_ble_eq_true rfl⟩ (mKind_lt mk_0 (by decide)) (mCell_k mk_0) rfl rfl rfl rfl ⟨Nat.le_of_ble_eq_true rfl, Nat.le_of_ble_eq_true rfl⟩ (Nat.le_of_ble_eq_true rfl) dX11_reckon_21 (fun r5 S6 => ?_)
      refine mw_eq (st' := [.int r5]) rfl rfl ?_
      refine mw_if_ne (tgt := 29) dX11_reckon_24 (by decide) ?_ ?_
      · refine mw_iconst (v := (-1 : Int32)) dX11_reckon_27 (by decide) ?_
        exact mw_ireturn dX11_reckon_28
      · refine mw_iload_n 2 dX11_reckon_29 rfl rfl ?_
        refine mw_iconst (v := (3 : Int32)) dX11_reckon_30 (by decide) ?_
        refine mw_icmp_eq (tgt := 39) dX11_reckon_31 (by decide) ?_ ?_
        · exact mw_sub [0, 1, 2, 3, 4, 5] rfl (w_X11_reckon_39 X l p1 p2 p3 p4 p5 S6)
        · refine mw_iload_n 2 dX11_reckon_34 rfl rfl ?_
          refine mw_iconst (v := (4 : Int32)) dX11_reckon_35 (by decide) ?_
          refine mw_icmp_ne (tgt := 43) dX11_reckon_36 (by decide) ?_ ?_
          · exact mw_sub [0, 1, 2, 3, 4, 5] rfl (w_X11_reckon_39 X l p1 p2 p3 p4 p5 S6)
          · refine mw_iconst (v := (0 : Int32)) dX11_reckon_43 (by decide) ?_
            exact mw_sub [0, 1, 2, 3, 4, 5] rfl (w_X11_reckon_44 X l p1 p2 p3 p4 p5 (0 : Int32) S6)
theorem t_X11_reckon (X : mX) (l : Launch) (p1 : Int32) (p2 : Int32) (p3 : Int32) (p4 : Int32) (p5 : Int32) (S : mM) : mMet X viI yX11_reckon cX11_reckon 7 (some .int) rm_X11_reckon [.ref (X.2.1 0), .int p1, .int p2, .int p3, .int p4, .int p5] l S (f_X11_reckon p1 p2 p3 p4 p5 S) :=
  mMet_of (by decide +kernel) rfl (Nat.le_of_ble_eq_true rfl) (w_X11_reckon X l p1 p2 p3 p4 p5 S )
/-! TraceBench.row(III)I -/
def f_X11_row (p1 : Int32) (p2 : Int32) (p3 : Int32) (S : mM) : Option (Int32 × mM) :=
  mBind (f_X11_isIn p1 (0 : Int32) (3 : Int32) S) fun r1 S2 =>
  if r1 = 0 then
    some ((-1 : Int32), S2)
  else
    mBind (f_X11_hasTrace p2 p3 S2) fun r3 S4 =>
    if r3 = 0 then
      some ((-1 : Int32), S4)
    else
      if 0 ≤ p1 ∧ p1.toNatClampNeg < 4 then
      (bnd (53 + 1 + 3 * p1.toNatClampNeg) fun a6 =>
      mBind (f_X8_get p2 S4) fun r7 S8 =>
      if mKind r7 = 5 then
      (mBind (f_X3_copyOf a6 r7 p3 S8) fun r10 S11 =>
      if 0 ≤ p1 ∧ p1.toNatClampNeg < 4 then
      (bnd (53 + 1 + 3 * p1.toNatClampNeg) fun a13 =>
      some ((S11.1 a13 2), S11))
      else none)
      else none)
      else none
set_option maxRecDepth 100000 in
set_option maxHeartbeats 4000000 in
theorem w_X11_row (X : mX) (l : Launch) (p1 : Int32) (p2 : Int32) (p3 : Int32) (S : mM) : MW X viI rm_X11_row cX11_row RX11 4 (some .int) l S [(0, .ref (X.2.1 0)), (1, .int p1), (2, .int p2), (3, .int p3)] [] 0 (f_X11_row p1 p2 p3 S) := by
  unfold f_X11_row
  refine mw_iload_n 1 dX11_row_0 rfl rfl ?_
  refine mw_iconst (v := (0 : Int32)) dX11_row_1 (by decide) ?_
  refine mw_iconst (v := (3 : Int32)) dX11_row_2 (by decide) ?_
  refine mw_callS (t_X11_isIn X l p1 (0 : Int32) (3 : Int32) S) cd_X11_isIn lk_RX11_96 sn_X11_isIn in_RX11 de_X11_isIn ⟨rfl, rfl⟩ ⟨Nat.le_of_ble_eq_true rfl, Nat.le_of_ble_eq_true rfl⟩ rfl rfl ⟨Nat.le_of_ble_eq_true rfl, Nat.le_of_ble_eq_true rfl⟩ (Nat.le_of_ble_eq_true rfl) dX11_row_3 (fun r1 S2 => ?_)
  refine mw_eq (st' := [.int r1]) rfl rfl ?_
  refine mw_if_eq (tgt := 18) dX11_row_6 (by decide) ?_ ?_
  · refine mw_iconst (v := (-1 : Int32)) dX11_row_18 (by decide) ?_
    exact mw_ireturn dX11_row_19
  · refine mw_aload_n 0 dX11_row_9 rfl rfl ?_
    refine mw_iload_n 2 dX11_row_10 rfl rfl ?_
    refine mw_iload_n 3 dX11_row_11 rfl rfl ?_
    refine mw_callV (t_X11_hasTrace X l p2 p3 S2) cd_X11_hasTrace lk_RX11_181 im_X11_hasTrace se_X11_hasTrace in_RX11 de_X11_hasTrace ⟨rfl, rfl⟩ ⟨Nat.le_of_ble_eq_true rfl, Nat.le_of_ble_eq_true rfl⟩ (mKind_lt mk_0 (by decide)) (mCell_k mk_0) rfl rfl rfl rfl ⟨Nat.le_of_ble_eq_true rfl, Nat.le_of_ble_eq_true rfl⟩ (Nat.le_of_ble_eq_true rfl) dX11_row_12 (fun r3 S4 => ?_)
    refine mw_eq (st' := [.int r3]) rfl rfl ?_
    refine mw_if_ne (tgt := 20) dX11_row_15 (by decide) ?_ ?_
    · refine mw_iconst (v := (-1 : Int32)) dX11_row_18 (by decide) ?_
      exact mw_ireturn dX11_row_19
    · refine mw_aload_n 0 dX11_row_20 rfl rfl ?_
      refine gf_RX11_41 mk_0 dX11_row_21 ?_
      refine mw_iload_n 1 dX11_row_24 rfl rfl ?_
      refine mw_aaload (n := 4) (t := 4) (g := fun i => 53 + 1 + 3 * i) mk_53 (by decide) (kr_24 mk_53 ml_53) rfl dX11_row_25 (fun h5 => ?_)
      refine mw_bndA (ke_24 mk_53 h5.2) (fun a6 ha6 => ?_)
      refine mw_aload_n 0 dX11_row_26 rfl rfl ?_
      refine gf_RX11_28 mk_0 dX11_row_27 ?_
      refine gf_RX11_109 mk_7 dX11_row_30 ?_
      refine mw_iload_n 2 dX11_row_33 rfl rfl ?_
      refine mw_callV (t_X8_get X l p2 S4) cd_X8_get lk_RX11_169 im_X8_get se_X8_get in_RX8 de_X8_get ⟨rfl, rfl⟩ ⟨Nat.le_of_ble_eq_true rfl, Nat.le_of_ble_eq_true rfl⟩ (mKind_lt mk_10 (by decide)) (mCell_k mk_10) rfl rfl rfl rfl ⟨Nat.le_of_ble_eq_true rfl, Nat.le_of_ble_eq_true rfl⟩ (Nat.le_of_ble_eq_true rfl) dX11_row_34 (fun r7 S8 => ?_)
      refine mw_chk (fun h9 => ?_)
      refine mw_eq (st' := [.ref (X.2.1 r7), .ref (X.2.1 a6)]) rfl rfl ?_
      refine mw_iload_n 3 dX11_row_37 rfl rfl ?_
      refine mw_callV (t_X3_copyOf X l a6 r7 p3 S8 ha6 h9) cd_X3_copyOf lk_RX11_209 im_X3_copyOf se_X3_copyOf in_RX3 de_X3_copyOf ⟨rfl, rfl⟩ ⟨Nat.le_of_ble_eq_true rfl, Nat.le_of_ble_eq_true rfl⟩ (mKind_lt ha6 (by decide)) (mCell_k ha6) rfl rfl rfl rfl ⟨Nat.le_of_ble_eq_true rfl, Nat.le_of_ble_eq_true rfl⟩ (Nat.le_of_ble_eq_true rfl) dX11_row_38 (fun r10 S11 => ?_)
      refine mw_eq (st' := []) rfl rfl ?_
      refine mw_aload_n 0 dX11_row_41 rfl rfl ?_
      refine gf_RX11_41 mk_0 dX11_row_42 ?_
      refine mw_iload_n 1 dX11_row_45 rfl rfl ?_
      refine mw_aaload (n := 4) (t := 4) (g := fun i => 53 + 1 + 3 * i) mk_53 (by decide) (kr_24 mk_53 ml_53) rfl dX11_row_46 (fun h12 => ?_)
      refine mw_bndA (ke_24 mk_53 h12.2) (fun a13 ha13 => ?_)
      refine gf_RX11_130 ha13 dX11_row_47 ?_
      exact mw_ireturn dX11_row_50
theorem t_X11_row (X : mX) (l : Launch) (p1 : Int32) (p2 : Int32) (p3 : Int32) (S : mM) : mMet X viI yX11_row cX11_row 4 (some .int) rm_X11_row [.ref (X.2.1 0), .int p1, .int p2, .int p3] l S (f_X11_row p1 p2 p3 S) :=
  mMet_of (by decide +kernel) rfl (Nat.le_of_ble_eq_true rfl) (w_X11_row X l p1 p2 p3 S )
/-! TraceBench.sample(II)I -/
def f_X11_sample (p1 : Int32) (p2 : Int32) (S : mM) : Option (Int32 × mM) :=
  mBind (f_X11_isTrace p2 S) fun r1 S2 =>
  if r1 = 0 then
    some ((1000 : Int32), S2)
  else
    mBind (f_X2_has p1 S2) fun r3 S4 =>
    if r3 = 0 then
      some ((1000 : Int32), S4)
    else
      mBind (f_X2_get p1 S4) fun r5 S6 =>
      mBind (f_X11_numberOn p2 r5 S6) fun r7 S8 =>
      some (r7, S8)
set_option maxRecDepth 100000 in
set_option maxHeartbeats 4000000 in
theorem w_X11_sample (X : mX) (l : Launch) (p1 : Int32) (p2 : Int32) (S : mM) : MW X viI rm_X11_sample cX11_sample RX11 3 (some .int) l S [(0, .ref (X.2.1 0)), (1, .int p1), (2, .int p2)] [] 0 (f_X11_sample p1 p2 S) := by
  unfold f_X11_sample
  refine mw_iload_n 2 dX11_sample_0 rfl rfl ?_
  refine mw_callS (t_X11_isTrace X l p2 S) cd_X11_isTrace lk_RX11_127 sn_X11_isTrace in_RX11 de_X11_isTrace ⟨rfl, rfl⟩ ⟨Nat.le_of_ble_eq_true rfl, Nat.le_of_ble_eq_true rfl⟩ rfl rfl ⟨Nat.le_of_ble_eq_true rfl, Nat.le_of_ble_eq_true rfl⟩ (Nat.le_of_ble_eq_true rfl) dX11_sample_1 (fun r1 S2 => ?_)
  refine mw_eq (st' := [.int r1]) rfl rfl ?_
  refine mw_if_eq (tgt := 21) dX11_sample_4 (by decide) ?_ ?_
  · refine mw_sipush (v := (1000 : Int32)) dX11_sample_21 (by decide) ?_
    exact mw_ireturn dX11_sample_24
  · refine mw_aload_n 0 dX11_sample_7 rfl rfl ?_
    refine gf_RX11_28 mk_0 dX11_sample_8 ?_
    refine gf_RX11_139 mk_7 dX11_sample_11 ?_
    refine mw_iload_n 1 dX11_sample_14 rfl rfl ?_
    refine mw_callV (t_X2_has X l p1 S2) cd_X2_has lk_RX11_143 im_X2_has se_X2_has in_RX2 de_X2_has ⟨rfl, rfl⟩ ⟨Nat.le_of_ble_eq_true rfl, Nat.le_of_ble_eq_true rfl⟩ (mKind_lt mk_8 (by decide)) (mCell_k mk_8) rfl rfl rfl rfl ⟨Nat.le_of_ble_eq_true rfl, Nat.le_of_ble_eq_true rfl⟩ (Nat.le_of_ble_eq_true rfl) dX11_sample_15 (fun r3 S4 => ?_)
    refine mw_eq (st' := [.int r3]) rfl rfl ?_
    refine mw_if_ne (tgt := 25) dX11_sample_18 (by decide) ?_ ?_
    · refine mw_sipush (v := (1000 : Int32)) dX11_sample_21 (by decide) ?_
      exact mw_ireturn dX11_sample_24
    · refine mw_iload_n 2 dX11_sample_25 rfl rfl ?_
      refine mw_aload_n 0 dX11_sample_26 rfl rfl ?_
      refine gf_RX11_28 mk_0 dX11_sample_27 ?_
      refine gf_RX11_139 mk_7 dX11_sample_30 ?_
      refine mw_iload_n 1 dX11_sample_33 rfl rfl ?_
      refine mw_callV (t_X2_get X l p1 S4) cd_X2_get lk_RX11_148 im_X2_get se_X2_get in_RX2 de_X2_get ⟨rfl, rfl⟩ ⟨Nat.le_of_ble_eq_true rfl, Nat.le_of_ble_eq_true rfl⟩ (mKind_lt mk_8 (by decide)) (mCell_k mk_8) rfl rfl rfl rfl ⟨Nat.le_of_ble_eq_true rfl, Nat.le_of_ble_eq_true rfl⟩ (Nat.le_of_ble_eq_true rfl) dX11_sample_34 (fun r5 S6 => ?_)
      refine mw_eq (st' := [.int r5, .int p2]) rfl rfl ?_
      refine mw_callS (t_X11_numberOn X l p2 r5 S6) cd_X11_numberOn lk_RX11_152 sn_X11_numberOn in_RX11 de_X11_numberOn ⟨rfl, rfl⟩ ⟨Nat.le_of_ble_eq_true rfl, Nat.le_of_ble_eq_true rfl⟩ rfl rfl ⟨Nat.le_of_ble_eq_true rfl, Nat.le_of_ble_eq_true rfl⟩ (Nat.le_of_ble_eq_true rfl) dX11_sample_37 (fun r7 S8 => ?_)
      refine mw_eq (st' := [.int r7]) rfl rfl ?_
      exact mw_ireturn dX11_sample_40
theorem t_X11_sample (X : mX) (l : Launch) (p1 : Int32) (p2 : Int32) (S : mM) : mMet X viI yX11_sample cX11_sample 3 (some .int) rm_X11_sample [.ref (X.2.1 0), .int p1, .int p2] l S (f_X11_sample p1 p2 S) :=
  mMet_of (by decide +kernel) rfl (Nat.le_of_ble_eq_true rfl) (w_X11_sample X l p1 p2 S )
/-! TraceBench.segment(II)I -/
def f_X11_segment (p1 : Int32) (p2 : Int32) (S : mM) : Option (Int32 × mM) :=
  mBind (f_X8_has p1 S) fun r1 S2 =>
  if r1 = 0 then
    some ((-1 : Int32), S2)
  else
    mBind (f_X8_get p1 S2) fun r3 S4 =>
    if mKind r3 = 5 then
    (if p2 = (0 : Int32) then
      some ((S4.1 r3 1), S4)
    else
      if p2 = (1 : Int32) then
        some ((S4.1 r3 2), S4)
      else
        if p2 = (2 : Int32) then
          some ((S4.1 r3 3), S4)
        else
          some ((-1 : Int32), S4))
    else none
set_option maxRecDepth 100000 in
set_option maxHeartbeats 4000000 in
theorem w_X11_segment (X : mX) (l : Launch) (p1 : Int32) (p2 : Int32) (S : mM) : MW X viI rm_X11_segment cX11_segment RX11 4 (some .int) l S [(0, .ref (X.2.1 0)), (1, .int p1), (2, .int p2)] [] 0 (f_X11_segment p1 p2 S) := by
  unfold f_X11_segment
  refine mw_aload_n 0 dX11_segment_0 rfl rfl ?_
  refine gf_RX11_28 mk_0 dX11_segment_1 ?_
  refine gf_RX11_109 mk_7 dX11_segment_4 ?_
  refine mw_iload_n 1 dX11_segment_7 rfl rfl ?_
  refine mw_callV (t_X8_has X l p1 S) cd_X8_has lk_RX11_168 im_X8_has se_X8_has in_RX8 de_X8_has ⟨rfl, rfl⟩ ⟨Nat.le_of_ble_eq_true rfl, Nat.le_of_ble_eq_true rfl⟩ (mKind_lt mk_10 (by decide)) (mCell_k mk_10) rfl rfl rfl rfl ⟨Nat.le_of_ble_eq_true rfl, Nat.le_of_ble_eq_true rfl⟩ (Nat.le_of_ble_eq_true rfl) dX11_segment_8 (fun r1 S2 => ?_)
  refine mw_eq (st' := [.int r1]) rfl rfl ?_
  refine mw_if_ne (tgt := 16) dX11_segment_11 (by decide) ?_ ?_
  · refine mw_iconst (v := (-1 : Int32)) dX11_segment_14 (by decide) ?_
    exact mw_ireturn dX11_segment_15
  · refine mw_aload_n 0 dX11_segment_16 rfl rfl ?_
    refine gf_RX11_28 mk_0 dX11_segment_17 ?_
    refine gf_RX11_109 mk_7 dX11_segment_20 ?_
    refine mw_iload_n 1 dX11_segment_23 rfl rfl ?_
    refine mw_callV (t_X8_get X l p1 S2) cd_X8_get lk_RX11_169 im_X8_get se_X8_get in_RX8 de_X8_get ⟨rfl, rfl⟩ ⟨Nat.le_of_ble_eq_true rfl, Nat.le_of_ble_eq_true rfl⟩ (mKind_lt mk_10 (by decide)) (mCell_k mk_10) rfl rfl rfl rfl ⟨Nat.le_of_ble_eq_true rfl, Nat.le_of_ble_eq_true rfl⟩ (Nat.le_of_ble_eq_true rfl) dX11_segment_24 (fun r3 S4 => ?_)
    refine mw_chk (fun h5 => ?_)
    refine mw_eq (st' := [.ref (X.2.1 r3)]) rfl rfl ?_
    refine mw_astore_n (lv' := [(3, .ref (X.2.1 r3)), (0, .ref (X.2.1 0)), (1, .int p1), (2, .int p2)]) dX11_segment_27 rfl (by decide) rfl ?_
    refine mw_iload_n 3 dX11_segment_28 rfl rfl ?_
    refine mw_ite (fun h6 => ?_) (fun h6 => ?_)
    · refine mw_tab (tgt := 56) h6 dX11_segment_29 (by decide) (by decide) rfl (by decide) ?_
      refine mw_aload_n 0 dX11_segment_56 rfl rfl ?_
      refine gf_RX11_172 h5 dX11_segment_57 ?_
      exact mw_ireturn dX11_segment_60
    · refine mw_ite (fun h7 => ?_) (fun h7 => ?_)
      · refine mw_tab (tgt := 61) h7 dX11_segment_29 (by decide) (by decide) rfl (by decide) ?_
        refine mw_aload_n 0 dX11_segment_61 rfl rfl ?_
        refine gf_RX11_177 h5 dX11_segment_62 ?_
        exact mw_ireturn dX11_segment_65
      · refine mw_ite (fun h8 => ?_) (fun h8 => ?_)
        · refine mw_tab (tgt := 66) h8 dX11_segment_29 (by decide) (by decide) rfl (by decide) ?_
          refine mw_aload_n 0 dX11_segment_66 rfl rfl ?_
          refine gf_RX11_178 h5 dX11_segment_67 ?_
          exact mw_ireturn dX11_segment_70
        · refine mw_tabD (tgt := 71) dX11_segment_29 (by have eh6 : ¬ p2.toInt = 0 := fun q => h6 (Int32.toInt_inj.mp (q.trans (by decide))); have eh7 : ¬ p2.toInt = 1 := fun q => h7 (Int32.toInt_inj.mp (q.trans (by decide))); have eh8 : ¬ p2.toInt = 2 := fun q => h8 (Int32.toInt_inj.mp (q.trans (by decide))); omega) (by decide) ?_
          refine mw_iconst (v := (-1 : Int32)) dX11_segment_71 (by decide) ?_
          exact mw_ireturn dX11_segment_72
theorem t_X11_segment (X : mX) (l : Launch) (p1 : Int32) (p2 : Int32) (S : mM) : mMet X viI yX11_segment cX11_segment 4 (some .int) rm_X11_segment [.ref (X.2.1 0), .int p1, .int p2] l S (f_X11_segment p1 p2 S) :=
  mMet_of (by decide +kernel) rfl (Nat.le_of_ble_eq_true rfl) (w_X11_segment X l p1 p2 S )
/-! TraceBench.sheet(III)I -/
def f_X11_sheet (p1 : Int32) (p2 : Int32) (p3 : Int32) (S : mM) : Option (Int32 × mM) :=
  mBind (f_X11_isIn p1 (0 : Int32) (3 : Int32) S) fun r1 S2 =>
  if r1 = 0 then
    some ((-1 : Int32), S2)
  else
    mBind (f_X11_isIn p2 (0 : Int32) (2 : Int32) S2) fun r3 S4 =>
    if r3 = 0 then
      some ((-1 : Int32), S4)
    else
      if p3 ≤ (64 : Int32) then
        if 0 ≤ p3 then
          if 0 ≤ p1 ∧ p1.toNatClampNeg < 4 then
          (bnd (44 + 1 + 2 * p1.toNatClampNeg) fun a6 =>
          mBind (f_X6_renew a6 p2 p3 S4) fun r7 S8 =>
          some ((1 : Int32), S8))
          else none
        else
          some ((-14 : Int32), S4)
      else
        some ((-1 : Int32), S4)
set_option maxRecDepth 100000 in
set_option maxHeartbeats 4000000 in
theorem w_X11_sheet (X : mX) (l : Launch) (p1 : Int32) (p2 : Int32) (p3 : Int32) (S : mM) : MW X viI rm_X11_sheet cX11_sheet RX11 4 (some .int) l S [(0, .ref (X.2.1 0)), (1, .int p1), (2, .int p2), (3, .int p3)] [] 0 (f_X11_sheet p1 p2 p3 S) := by
  unfold f_X11_sheet
  refine mw_iload_n 1 dX11_sheet_0 rfl rfl ?_
  refine mw_iconst (v := (0 : Int32)) dX11_sheet_1 (by decide) ?_
  refine mw_iconst (v := (3 : Int32)) dX11_sheet_2 (by decide) ?_
  refine mw_callS (t_X11_isIn X l p1 (0 : Int32) (3 : Int32) S) cd_X11_isIn lk_RX11_96 sn_X11_isIn in_RX11 de_X11_isIn ⟨rfl, rfl⟩ ⟨Nat.le_of_ble_eq_true rfl, Nat.le_of_ble_eq_true rfl⟩ rfl rfl ⟨Nat.le_of_ble_eq_true rfl, Nat.le_of_ble_eq_true rfl⟩ (Nat.le_of_ble_eq_true rfl) dX11_sheet_3 (fun r1 S2 => ?_)
  refine mw_eq (st' := [.int r1]) rfl rfl ?_
  refine mw_if_eq (tgt := 24) dX11_sheet_6 (by decide) ?_ ?_
  · refine mw_iconst (v := (-1 : Int32)) dX11_sheet_24 (by decide) ?_
    exact mw_ireturn dX11_sheet_25
  · refine mw_iload_n 2 dX11_sheet_9 rfl rfl ?_
    refine mw_iconst (v := (0 : Int32)) dX11_sheet_10 (by decide) ?_
    refine mw_iconst (v := (2 : Int32)) dX11_sheet_11 (by decide) ?_
    refine mw_callS (t_X11_isIn X l p2 (0 : Int32) (2 : Int32) S2) cd_X11_isIn lk_RX11_96 sn_X11_isIn in_RX11 de_X11_isIn ⟨rfl, rfl⟩ ⟨Nat.le_of_ble_eq_true rfl, Nat.le_of_ble_eq_true rfl⟩ rfl rfl ⟨Nat.le_of_ble_eq_true rfl, Nat.le_of_ble_eq_true rfl⟩ (Nat.le_of_ble_eq_true rfl) dX11_sheet_12 (fun r3 S4 => ?_)
    refine mw_eq (st' := [.int r3]) rfl rfl ?_
    refine mw_if_eq (tgt := 24) dX11_sheet_15 (by decide) ?_ ?_
    · refine mw_iconst (v := (-1 : Int32)) dX11_sheet_24 (by decide) ?_
      exact mw_ireturn dX11_sheet_25
    · refine mw_iload_n 3 dX11_sheet_18 rfl rfl ?_
      refine mw_bipush (v := (64 : Int32)) dX11_sheet_19 (by decide) ?_
      refine mw_icmp_le (tgt := 26) dX11_sheet_21 (by decide) ?_ ?_
      · refine mw_iload_n 3 dX11_sheet_26 rfl rfl ?_
        refine mw_if_ge (tgt := 33) dX11_sheet_27 (by decide) ?_ ?_
        · refine mw_aload_n 0 dX11_sheet_33 rfl rfl ?_
          refine gf_RX11_34 mk_0 dX11_sheet_34 ?_
          refine mw_iload_n 1 dX11_sheet_37 rfl rfl ?_
          refine mw_aaload (n := 4) (t := 6) (g := fun i => 44 + 1 + 2 * i) mk_44 (by decide) (kr_26 mk_44 ml_44) rfl dX11_sheet_38 (fun h5 => ?_)
          refine mw_bndA (ke_26 mk_44 h5.2) (fun a6 ha6 => ?_)
          refine mw_iload_n 2 dX11_sheet_39 rfl rfl ?_
          refine mw_iload_n 3 dX11_sheet_40 rfl rfl ?_
          refine mw_callV (t_X6_renew X l a6 p2 p3 S4 ha6) cd_X6_renew lk_RX11_192 im_X6_renew se_X6_renew in_RX6 de_X6_renew ⟨rfl, rfl⟩ ⟨Nat.le_of_ble_eq_true rfl, Nat.le_of_ble_eq_true rfl⟩ (mKind_lt ha6 (by decide)) (mCell_k ha6) rfl rfl rfl rfl ⟨Nat.le_of_ble_eq_true rfl, Nat.le_of_ble_eq_true rfl⟩ (Nat.le_of_ble_eq_true rfl) dX11_sheet_41 (fun r7 S8 => ?_)
          refine mw_eq (st' := []) rfl rfl ?_
          refine mw_iconst (v := (1 : Int32)) dX11_sheet_44 (by decide) ?_
          exact mw_ireturn dX11_sheet_45
        · refine mw_bipush (v := (-14 : Int32)) dX11_sheet_30 (by decide) ?_
          exact mw_ireturn dX11_sheet_32
      · refine mw_iconst (v := (-1 : Int32)) dX11_sheet_24 (by decide) ?_
        exact mw_ireturn dX11_sheet_25
theorem t_X11_sheet (X : mX) (l : Launch) (p1 : Int32) (p2 : Int32) (p3 : Int32) (S : mM) : mMet X viI yX11_sheet cX11_sheet 4 (some .int) rm_X11_sheet [.ref (X.2.1 0), .int p1, .int p2, .int p3] l S (f_X11_sheet p1 p2 p3 S) :=
  mMet_of (by decide +kernel) rfl (Nat.le_of_ble_eq_true rfl) (w_X11_sheet X l p1 p2 p3 S )
/-! TraceBench.told(I)I -/
def f_X11_told_23 (y1 : Int32) (S : mM) : Option (Int32 × mM) :=
  if y1 = (0 : Int32) then
    some ((S.1 7 6), S)
  else
    if y1 = (1 : Int32) then
      some ((S.1 7 8), S)
    else
      if y1 = (2 : Int32) then
        some ((S.1 7 9), S)
      else
        if y1 = (3 : Int32) then
          some ((S.1 7 10), S)
        else
          if y1 = (4 : Int32) then
            some ((S.1 8 1), S)
          else
            if y1 = (5 : Int32) then
              some ((S.1 10 1), S)
            else
              if y1 = (6 : Int32) then
                some ((S.1 7 4), S)
              else
                if y1 = (7 : Int32) then
                  some ((S.1 7 5), S)
                else
                  if y1 = (8 : Int32) then
                    if mKind (S.2.2 7 2) = 0 then
                    bnd (S.2.2 7 2) fun a11 =>
                    (some ((S.1 a11 1), S))
                    else none
                  else
                    if y1 = (9 : Int32) then
                      some ((S.1 7 11), S)
                    else
                      some ((-1 : Int32), S)
set_option maxRecDepth 100000 in
set_option maxHeartbeats 4000000 in
theorem w_X11_told_23 (X : mX) (l : Launch) (y1 : Int32) (S : mM) : MW X viI rm_X11_told cX11_told RX11 2 (some .int) l S [(0, .ref (X.2.1 0)), (1, .int y1)] [] 23 (f_X11_told_23 y1 S) := by
  unfold f_X11_told_23
  refine mw_iload_n 1 dX11_told_23 rfl rfl ?_
  refine mw_ite (fun h1 => ?_) (fun h1 => ?_)
  · refine mw_tab (tgt := 80) h1 dX11_told_24 (by decide) (by decide) rfl (by decide) ?_
    refine mw_aload_n 0 dX11_told_80 rfl rfl ?_
    refine gf_RX11_28 mk_0 dX11_told_81 ?_
    refine gf_RX11_100 mk_7 dX11_told_84 ?_
    exact mw_ireturn dX11_told_87
  · refine mw_ite (fun h2 => ?_) (fun h2 => ?_)
    · refine mw_tab (tgt := 88) h2 dX11_told_24 (by decide) (by decide) rfl (by decide) ?_
      refine mw_aload_n 0 dX11_told_88 rfl rfl ?_
      refine gf_RX11_28 mk_0 dX11_told_89 ?_
      refine gf_RX11_155 mk_7 dX11_told_92 ?_
      exact mw_ireturn dX11_told_95
    · refine mw_ite (fun h3 => ?_) (fun h3 => ?_)
      · refine mw_tab (tgt := 96) h3 dX11_told_24 (by decide) (by decide) rfl (by decide) ?_
        refine mw_aload_n 0 dX11_told_96 rfl rfl ?_
        refine gf_RX11_28 mk_0 dX11_told_97 ?_
        refine gf_RX11_158 mk_7 dX11_told_100 ?_
        exact mw_ireturn dX11_told_103
      · refine mw_ite (fun h4 => ?_) (fun h4 => ?_)
        · refine mw_tab (tgt := 104) h4 dX11_told_24 (by decide) (by decide) rfl (by decide) ?_
          refine mw_aload_n 0 dX11_told_104 rfl rfl ?_
          refine gf_RX11_28 mk_0 dX11_told_105 ?_
          refine gf_RX11_161 mk_7 dX11_told_108 ?_
          exact mw_ireturn dX11_told_111
        · refine mw_ite (fun h5 => ?_) (fun h5 => ?_)
          · refine mw_tab (tgt := 112) h5 dX11_told_24 (by decide) (by decide) rfl (by decide) ?_
            refine mw_aload_n 0 dX11_told_112 rfl rfl ?_
            refine gf_RX11_28 mk_0 dX11_told_113 ?_
            refine gf_RX11_139 mk_7 dX11_told_116 ?_
            refine gf_RX11_164 mk_8 dX11_told_119 ?_
            exact mw_ireturn dX11_told_122
          · refine mw_ite (fun h6 => ?_) (fun h6 => ?_)
            · refine mw_tab (tgt := 123) h6 dX11_told_24 (by decide) (by decide) rfl (by decide) ?_
              refine mw_aload_n 0 dX11_told_123 rfl rfl ?_
              refine gf_RX11_28 mk_0 dX11_told_124 ?_
              refine gf_RX11_109 mk_7 dX11_told_127 ?_
              refine gf_RX11_126 mk_10 dX11_told_130 ?_
              exact mw_ireturn dX11_told_133
            · refine mw_ite (fun h7 => ?_) (fun h7 => ?_)
              · refine mw_tab (tgt := 134) h7 dX11_told_24 (by decide) (by decide) rfl (by decide) ?_
                refine mw_aload_n 0 dX11_told_134 rfl rfl ?_
                refine gf_RX11_28 mk_0 dX11_told_135 ?_
                refine gf_RX11_103 mk_7 dX11_told_138 ?_
                exact mw_ireturn dX11_told_141
              · refine mw_ite (fun h8 => ?_) (fun h8 => ?_)
                · refine mw_tab (tgt := 142) h8 dX11_told_24 (by decide) (by decide) rfl (by decide) ?_
                  refine mw_aload_n 0 dX11_told_142 rfl rfl ?_
                  refine gf_RX11_28 mk_0 dX11_told_143 ?_
                  refine gf_RX11_106 mk_7 dX11_told_146 ?_
                  exact mw_ireturn dX11_told_149
                · refine mw_ite (fun h9 => ?_) (fun h9 => ?_)
                  · refine mw_tab (tgt := 150) h9 dX11_told_24 (by decide) (by decide) rfl (by decide) ?_
                    refine mw_aload_n 0 dX11_told_150 rfl rfl ?_
                    refine gf_RX11_28 mk_0 dX11_told_151 ?_
                    refine gf_RX11_85 mk_7 dX11_told_154 ?_
                    refine mw_chk (fun h10 => ?_)
                    refine mw_bndA h10 (fun a11 ha11 => ?_)
                    refine gf_RX11_88 ha11 dX11_told_157 ?_
                    exact mw_ireturn dX11_told_160
                  · refine mw_ite (fun h12 => ?_) (fun h12 => ?_)
                    · refine mw_tab (tgt := 161) h12 dX11_told_24 (by decide) (by decide) rfl (by decide) ?_
                      refine mw_aload_n 0 dX11_told_161 rfl rfl ?_
                      refine gf_RX11_28 mk_0 dX11_told_162 ?_
                      refine gf_RX11_165 mk_7 dX11_told_165 ?_
                      exact mw_ireturn dX11_told_168
                    · refine mw_tabD (tgt := 169) dX11_told_24 (by have eh1 : ¬ y1.toInt = 0 := fun q => h1 (Int32.toInt_inj.mp (q.trans (by decide))); have eh2 : ¬ y1.toInt = 1 := fun q => h2 (Int32.toInt_inj.mp (q.trans (by decide))); have eh3 : ¬ y1.toInt = 2 := fun q => h3 (Int32.toInt_inj.mp (q.trans (by decide))); have eh4 : ¬ y1.toInt = 3 := fun q => h4 (Int32.toInt_inj.mp (q.trans (by decide))); have eh5 : ¬ y1.toInt = 4 := fun q => h5 (Int32.toInt_inj.mp (q.trans (by decide))); have eh6 : ¬ y1.toInt = 5 := fun q => h6 (Int32.toInt_inj.mp (q.trans (by decide))); have eh7 : ¬ y1.toInt = 6 := fun q => h7 (Int32.toInt_inj.mp (q.trans (by decide))); have eh8 : ¬ y1.toInt = 7 := fun q => h8 (Int32.toInt_inj.mp (q.trans (by decide))); have eh9 : ¬ y1.toInt = 8 := fun q => h9 (Int32.toInt_inj.mp (q.trans (by decide))); have eh12 : ¬ y1.toInt = 9 := fun q => h12 (Int32.toInt_inj.mp (q.trans (by decide))); omega) (by decide) ?_
                      refine mw_iconst (v := (-1 : Int32)) dX11_told_169 (by decide) ?_
                      exact mw_ireturn dX11_told_170
def f_X11_told (p1 : Int32) (S : mM) : Option (Int32 × mM) :=
  mBind (f_X11_isIn p1 (1 : Int32) (3 : Int32) S) fun r1 S2 =>
  if r1 = 0 then
    f_X11_told_23 p1 S2
  else
    if (S2.1 7 6) = (1 : Int32) then
      f_X11_told_23 p1 S2
    else
      some ((-4 : Int32), S2)
set_option maxRecDepth 100000 in
set_option maxHeartbeats 4000000 in
theorem w_X11_told (X : mX) (l : Launch) (p1 : Int32) (S : mM) : MW X viI rm_X11_told cX11_told RX11 2 (some .int) l S [(0, .ref (X.2.1 0)), (1, .int p1)] [] 0 (f_X11_told p1 S) := by
  unfold f_X11_told
  refine mw_iload_n 1 dX11_told_0 rfl rfl ?_
  refine mw_iconst (v := (1 : Int32)) dX11_told_1 (by decide) ?_
  refine mw_iconst (v := (3 : Int32)) dX11_told_2 (by decide) ?_
  refine mw_callS (t_X11_isIn X l p1 (1 : Int32) (3 : Int32) S) cd_X11_isIn lk_RX11_96 sn_X11_isIn in_RX11 de_X11_isIn ⟨rfl, rfl⟩ ⟨Nat.le_of_ble_eq_true rfl, Nat.le_of_ble_eq_true rfl⟩ rfl rfl ⟨Nat.le_of_ble_eq_true rfl, Nat.le_of_ble_eq_true rfl⟩ (Nat.le_of_ble_eq_true rfl) dX11_told_3 (fun r1 S2 => ?_)
  refine mw_eq (st' := [.int r1]) rfl rfl ?_
  refine mw_if_eq (tgt := 23) dX11_told_6 (by decide) ?_ ?_
  · exact mw_sub [0, 1] rfl (w_X11_told_23 X l p1 S2)
  · refine mw_aload_n 0 dX11_told_9 rfl rfl ?_
    refine gf_RX11_28 mk_0 dX11_told_10 ?_
    refine gf_RX11_100 mk_7 dX11_told_13 ?_
    refine mw_iconst (v := (1 : Int32)) dX11_told_16 (by decide) ?_
    refine mw_icmp_eq (tgt := 23) dX11_told_17 (by decide) ?_ ?_
    · exact mw_sub [0, 1] rfl (w_X11_told_23 X l p1 S2)
    · refine mw_bipush (v := (-4 : Int32)) dX11_told_20 (by decide) ?_
      exact mw_ireturn dX11_told_22
theorem t_X11_told (X : mX) (l : Launch) (p1 : Int32) (S : mM) : mMet X viI yX11_told cX11_told 2 (some .int) rm_X11_told [.ref (X.2.1 0), .int p1] l S (f_X11_told p1 S) :=
  mMet_of (by decide +kernel) rfl (Nat.le_of_ble_eq_true rfl) (w_X11_told X l p1 S )
/-! TraceBench.total(I)J -/
def f_X11_total (p1 : Int32) (S : mM) : Option (Int64 × mM) :=
  mBind (f_X11_isFilled p1 S) fun r1 S2 =>
  if r1 = 0 then
    some ((0 : Int64), S2)
  else
    if 0 ≤ p1 ∧ p1.toNatClampNeg < 4 then
    (bnd (53 + 1 + 3 * p1.toNatClampNeg) fun a4 =>
    if 0 ≤ p1 ∧ p1.toNatClampNeg < 4 then
    (bnd (53 + 1 + 3 * p1.toNatClampNeg) fun a6 =>
    mBind (f_X3_sum a4 (0 : Int32) ((S2.1 a6 2) - (1 : Int32)) S2) fun r7 S8 =>
    some (r7, S8))
    else none)
    else none
set_option maxRecDepth 100000 in
set_option maxHeartbeats 4000000 in
theorem w_X11_total (X : mX) (l : Launch) (p1 : Int32) (S : mM) : MW X viJ rm_X11_total cX11_total RX11 2 (some .long) l S [(0, .ref (X.2.1 0)), (1, .int p1)] [] 0 (f_X11_total p1 S) := by
  unfold f_X11_total
  refine mw_aload_n 0 dX11_total_0 rfl rfl ?_
  refine mw_iload_n 1 dX11_total_1 rfl rfl ?_
  refine mw_callV (t_X11_isFilled X l p1 S) cd_X11_isFilled lk_RX11_213 im_X11_isFilled se_X11_isFilled in_RX11 de_X11_isFilled ⟨rfl, rfl⟩ ⟨Nat.le_of_ble_eq_true rfl, Nat.le_of_ble_eq_true rfl⟩ (mKind_lt mk_0 (by decide)) (mCell_k mk_0) rfl rfl rfl rfl ⟨Nat.le_of_ble_eq_true rfl, Nat.le_of_ble_eq_true rfl⟩ (Nat.le_of_ble_eq_true rfl) dX11_total_2 (fun r1 S2 => ?_)
  refine mw_eq (st' := [.int r1]) rfl rfl ?_
  refine mw_if_eq (tgt := 32) dX11_total_5 (by decide) ?_ ?_
  · refine mw_lconst (v := (0 : Int64)) dX11_total_32 (by decide) ?_
    exact mw_lreturn dX11_total_33
  · refine mw_aload_n 0 dX11_total_8 rfl rfl ?_
    refine gf_RX11_41 mk_0 dX11_total_9 ?_
    refine mw_iload_n 1 dX11_total_12 rfl rfl ?_
    refine mw_aaload (n := 4) (t := 4) (g := fun i => 53 + 1 + 3 * i) mk_53 (by decide) (kr_24 mk_53 ml_53) rfl dX11_total_13 (fun h3 => ?_)
    refine mw_bndA (ke_24 mk_53 h3.2) (fun a4 ha4 => ?_)
    refine mw_iconst (v := (0 : Int32)) dX11_total_14 (by decide) ?_
    refine mw_aload_n 0 dX11_total_15 rfl rfl ?_
    refine gf_RX11_41 mk_0 dX11_total_16 ?_
    refine mw_iload_n 1 dX11_total_19 rfl rfl ?_
    refine mw_aaload (n := 4) (t := 4) (g := fun i => 53 + 1 + 3 * i) mk_53 (by decide) (kr_24 mk_53 ml_53) rfl dX11_total_20 (fun h5 => ?_)
    refine mw_bndA (ke_24 mk_53 h5.2) (fun a6 ha6 => ?_)
    refine gf_RX11_130 ha6 dX11_total_21 ?_
    refine mw_iconst (v := (1 : Int32)) dX11_total_24 (by decide) ?_
    refine mw_isub dX11_total_25 ?_
    refine mw_callV (t_X3_sum X l a4 (0 : Int32) ((S2.1 a6 2) - (1 : Int32)) S2 ha4) cd_X3_sum lk_RX11_237 im_X3_sum se_X3_sum in_RX3 de_X3_sum ⟨rfl, rfl⟩ ⟨Nat.le_of_ble_eq_true rfl, Nat.le_of_ble_eq_true rfl⟩ (mKind_lt ha4 (by decide)) (mCell_k ha4) rfl rfl rfl rfl ⟨Nat.le_of_ble_eq_true rfl, Nat.le_of_ble_eq_true rfl⟩ (Nat.le_of_ble_eq_true rfl) dX11_total_26 (fun r7 S8 => ?_)
    refine mw_eq (st' := [.long r7]) rfl rfl ?_
    refine mw_goto (tgt := 33) dX11_total_29 (by decide) ?_
    exact mw_lreturn dX11_total_33
theorem t_X11_total (X : mX) (l : Launch) (p1 : Int32) (S : mM) : mMet X viJ yX11_total cX11_total 2 (some .long) rm_X11_total [.ref (X.2.1 0), .int p1] l S (f_X11_total p1 S) :=
  mMet_of (by decide +kernel) rfl (Nat.le_of_ble_eq_true rfl) (w_X11_total X l p1 S )
/-! TraceBench.trigger()I -/
def f_X11_trigger (S : mM) : Option (Int32 × mM) :=
  mBind (f_X9_split S) fun r1 S2 =>
  if mKind (S2.2.2 7 3) = 0 then
  bnd (S2.2.2 7 3) fun a4 =>
  (mBind (f_X1_readPlan a4 S2) fun r5 S6 =>
  mBind (f_X9_cutTo (0 : Int32) S6) fun r7 S8 =>
  if r5 = 0 then
    some (((-10 : Int32) - (S8.1 6 4)), S8)
  else
    mBind (f_X4_takeDraft S8) fun r9 S10 =>
    if mKind (S10.2.2 7 2) = 0 then
    bnd (S10.2.2 7 2) fun a12 =>
    (some ((S10.1 a12 1), S10))
    else none)
  else none
set_option maxRecDepth 100000 in
set_option maxHeartbeats 4000000 in
theorem w_X11_trigger (X : mX) (l : Launch) (S : mM) : MW X viI rm_X11_trigger cX11_trigger RX11 2 (some .int) l S [(0, .ref (X.2.1 0))] [] 0 (f_X11_trigger  S) := by
  unfold f_X11_trigger
  refine mw_aload_n 0 dX11_trigger_0 rfl rfl ?_
  refine gf_RX11_12 mk_0 dX11_trigger_1 ?_
  refine mw_callV (t_X9_split X l S) cd_X9_split lk_RX11_68 im_X9_split se_X9_split in_RX9 de_X9_split ⟨rfl, rfl⟩ ⟨Nat.le_of_ble_eq_true rfl, Nat.le_of_ble_eq_true rfl⟩ (mKind_lt mk_1 (by decide)) (mCell_k mk_1) rfl rfl rfl rfl ⟨Nat.le_of_ble_eq_true rfl, Nat.le_of_ble_eq_true rfl⟩ (Nat.le_of_ble_eq_true rfl) dX11_trigger_4 (fun r1 S2 => ?_)
  refine mw_eq (st' := []) rfl rfl ?_
  refine mw_aload_n 0 dX11_trigger_7 rfl rfl ?_
  refine gf_RX11_21 mk_0 dX11_trigger_8 ?_
  refine mw_aload_n 0 dX11_trigger_11 rfl rfl ?_
  refine gf_RX11_28 mk_0 dX11_trigger_12 ?_
  refine gf_RX11_71 mk_7 dX11_trigger_15 ?_
  refine mw_chk (fun h3 => ?_)
  refine mw_bndA h3 (fun a4 ha4 => ?_)
  refine mw_callV (t_X1_readPlan X l a4 S2 ha4) cd_X1_readPlan lk_RX11_75 im_X1_readPlan se_X1_readPlan in_RX1 de_X1_readPlan ⟨rfl, rfl⟩ ⟨Nat.le_of_ble_eq_true rfl, Nat.le_of_ble_eq_true rfl⟩ (mKind_lt mk_6 (by decide)) (mCell_k mk_6) rfl rfl rfl rfl ⟨Nat.le_of_ble_eq_true rfl, Nat.le_of_ble_eq_true rfl⟩ (Nat.le_of_ble_eq_true rfl) dX11_trigger_18 (fun r5 S6 => ?_)
  refine mw_eq (st' := [.int r5]) rfl rfl ?_
  refine mw_istore_n (lv' := [(1, .int r5), (0, .ref (X.2.1 0))]) dX11_trigger_21 rfl (by decide) rfl ?_
  refine mw_aload_n 1 dX11_trigger_22 rfl rfl ?_
  refine gf_RX11_12 mk_0 dX11_trigger_23 ?_
  refine mw_iconst (v := (0 : Int32)) dX11_trigger_26 (by decide) ?_
  refine mw_callV (t_X9_cutTo X l (0 : Int32) S6) cd_X9_cutTo lk_RX11_64 im_X9_cutTo se_X9_cutTo in_RX9 de_X9_cutTo ⟨rfl, rfl⟩ ⟨Nat.le_of_ble_eq_true rfl, Nat.le_of_ble_eq_true rfl⟩ (mKind_lt mk_1 (by decide)) (mCell_k mk_1) rfl rfl rfl rfl ⟨Nat.le_of_ble_eq_true rfl, Nat.le_of_ble_eq_true rfl⟩ (Nat.le_of_ble_eq_true rfl) dX11_trigger_27 (fun r7 S8 => ?_)
  refine mw_eq (st' := [.int r7]) rfl rfl ?_
  refine mw_pop dX11_trigger_30 rfl ?_
  refine mw_iload_n 0 dX11_trigger_31 rfl rfl ?_
  refine mw_if_ne (tgt := 46) dX11_trigger_32 (by decide) ?_ ?_
  · refine mw_bipush (v := (-10 : Int32)) dX11_trigger_35 (by decide) ?_
    refine mw_aload_n 1 dX11_trigger_37 rfl rfl ?_
    refine gf_RX11_21 mk_0 dX11_trigger_38 ?_
    refine gf_RX11_79 mk_6 dX11_trigger_41 ?_
    refine mw_isub dX11_trigger_44 ?_
    exact mw_ireturn dX11_trigger_45
  · refine mw_aload_n 1 dX11_trigger_46 rfl rfl ?_
    refine gf_RX11_28 mk_0 dX11_trigger_47 ?_
    refine mw_callV (t_X4_takeDraft X l S8) cd_X4_takeDraft lk_RX11_82 im_X4_takeDraft se_X4_takeDraft in_RX4 de_X4_takeDraft ⟨rfl, rfl⟩ ⟨Nat.le_of_ble_eq_true rfl, Nat.le_of_ble_eq_true rfl⟩ (mKind_lt mk_7 (by decide)) (mCell_k mk_7) rfl rfl rfl rfl ⟨Nat.le_of_ble_eq_true rfl, Nat.le_of_ble_eq_true rfl⟩ (Nat.le_of_ble_eq_true rfl) dX11_trigger_50 (fun r9 S10 => ?_)
    refine mw_eq (st' := []) rfl rfl ?_
    refine mw_aload_n 1 dX11_trigger_53 rfl rfl ?_
    refine gf_RX11_28 mk_0 dX11_trigger_54 ?_
    refine gf_RX11_85 mk_7 dX11_trigger_57 ?_
    refine mw_chk (fun h11 => ?_)
    refine mw_bndA h11 (fun a12 ha12 => ?_)
    refine gf_RX11_88 ha12 dX11_trigger_60 ?_
    exact mw_ireturn dX11_trigger_63
theorem t_X11_trigger (X : mX) (l : Launch) (S : mM) : mMet X viI yX11_trigger cX11_trigger 2 (some .int) rm_X11_trigger [.ref (X.2.1 0)] l S (f_X11_trigger  S) :=
  mMet_of (by decide +kernel) rfl (Nat.le_of_ble_eq_true rfl) (w_X11_trigger X l  S )
/-! TraceBench.turns(IJI)I -/
def f_X11_turns (p1 : Int32) (p2 : Int64) (p4 : Int32) (S : mM) : Option (Int32 × mM) :=
  mBind (f_X11_isFilled p1 S) fun r1 S2 =>
  if r1 = 0 then
    some ((-1 : Int32), S2)
  else
    mBind (f_X11_isIn p4 (0 : Int32) (4 : Int32) S2) fun r3 S4 =>
    if r3 = 0 then
      some ((-1 : Int32), S4)
    else
      if 0 ≤ p1 ∧ p1.toNatClampNeg < 4 then
      (bnd (53 + 1 + 3 * p1.toNatClampNeg) fun a6 =>
      mBind (f_X3_measureTurns a6 p2 p4 S4) fun r7 S8 =>
      some (r7, S8))
      else none
set_option maxRecDepth 100000 in
set_option maxHeartbeats 4000000 in
theorem w_X11_turns (X : mX) (l : Launch) (p1 : Int32) (p2 : Int64) (p4 : Int32) (S : mM) : MW X viI rm_X11_turns cX11_turns RX11 5 (some .int) l S [(0, .ref (X.2.1 0)), (1, .int p1), (2, .long p2), (4, .int p4)] [] 0 (f_X11_turns p1 p2 p4 S) := by
  unfold f_X11_turns
  refine mw_aload_n 0 dX11_turns_0 rfl rfl ?_
  refine mw_iload_n 1 dX11_turns_1 rfl rfl ?_
  refine mw_callV (t_X11_isFilled X l p1 S) cd_X11_isFilled lk_RX11_213 im_X11_isFilled se_X11_isFilled in_RX11 de_X11_isFilled ⟨rfl, rfl⟩ ⟨Nat.le_of_ble_eq_true rfl, Nat.le_of_ble_eq_true rfl⟩ (mKind_lt mk_0 (by decide)) (mCell_k mk_0) rfl rfl rfl rfl ⟨Nat.le_of_ble_eq_true rfl, Nat.le_of_ble_eq_true rfl⟩ (Nat.le_of_ble_eq_true rfl) dX11_turns_2 (fun r1 S2 => ?_)
  refine mw_eq (st' := [.int r1]) rfl rfl ?_
  refine mw_if_eq (tgt := 18) dX11_turns_5 (by decide) ?_ ?_
  · refine mw_iconst (v := (-1 : Int32)) dX11_turns_18 (by decide) ?_
    exact mw_ireturn dX11_turns_19
  · refine mw_iload 3 dX11_turns_8 rfl ?_
    refine mw_iconst (v := (0 : Int32)) dX11_turns_10 (by decide) ?_
    refine mw_iconst (v := (4 : Int32)) dX11_turns_11 (by decide) ?_
    refine mw_callS (t_X11_isIn X l p4 (0 : Int32) (4 : Int32) S2) cd_X11_isIn lk_RX11_96 sn_X11_isIn in_RX11 de_X11_isIn ⟨rfl, rfl⟩ ⟨Nat.le_of_ble_eq_true rfl, Nat.le_of_ble_eq_true rfl⟩ rfl rfl ⟨Nat.le_of_ble_eq_true rfl, Nat.le_of_ble_eq_true rfl⟩ (Nat.le_of_ble_eq_true rfl) dX11_turns_12 (fun r3 S4 => ?_)
    refine mw_eq (st' := [.int r3]) rfl rfl ?_
    refine mw_if_ne (tgt := 20) dX11_turns_15 (by decide) ?_ ?_
    · refine mw_iconst (v := (-1 : Int32)) dX11_turns_18 (by decide) ?_
      exact mw_ireturn dX11_turns_19
    · refine mw_aload_n 0 dX11_turns_20 rfl rfl ?_
      refine gf_RX11_41 mk_0 dX11_turns_21 ?_
      refine mw_iload_n 1 dX11_turns_24 rfl rfl ?_
      refine mw_aaload (n := 4) (t := 4) (g := fun i => 53 + 1 + 3 * i) mk_53 (by decide) (kr_24 mk_53 ml_53) rfl dX11_turns_25 (fun h5 => ?_)
      refine mw_bndA (ke_24 mk_53 h5.2) (fun a6 ha6 => ?_)
      refine mw_lload_n 2 dX11_turns_26 rfl rfl ?_
      refine mw_iload 3 dX11_turns_27 rfl ?_
      refine mw_callV (t_X3_measureTurns X l a6 p2 p4 S4 ha6) cd_X3_measureTurns lk_RX11_241 im_X3_measureTurns se_X3_measureTurns in_RX3 de_X3_measureTurns ⟨rfl, rfl⟩ ⟨Nat.le_of_ble_eq_true rfl, Nat.le_of_ble_eq_true rfl⟩ (mKind_lt ha6 (by decide)) (mCell_k ha6) rfl rfl rfl rfl ⟨Nat.le_of_ble_eq_true rfl, Nat.le_of_ble_eq_true rfl⟩ (Nat.le_of_ble_eq_true rfl) dX11_turns_29 (fun r7 S8 => ?_)
      refine mw_eq (st' := [.int r7]) rfl rfl ?_
      exact mw_ireturn dX11_turns_32
theorem t_X11_turns (X : mX) (l : Launch) (p1 : Int32) (p2 : Int64) (p4 : Int32) (S : mM) : mMet X viI yX11_turns cX11_turns 5 (some .int) rm_X11_turns [.ref (X.2.1 0), .int p1, .long p2, .int p4] l S (f_X11_turns p1 p2 p4 S) :=
  mMet_of (by decide +kernel) rfl (Nat.le_of_ble_eq_true rfl) (w_X11_turns X l p1 p2 p4 S )
/-! TraceBench.when(I)I -/
def f_X11_when (p1 : Int32) (S : mM) : Option (Int32 × mM) :=
  if p1 = (-1 : Int32) then
    some ((S.1 66 3), S)
  else
    mBind (f_X10_has p1 S) fun r1 S2 =>
    if r1 = 0 then
      some ((-1 : Int32), S2)
    else
      if 0 ≤ p1 ∧ p1.toNatClampNeg < 20 then
      (some ((S2.1 68 p1.toNatClampNeg), S2))
      else none
set_option maxRecDepth 100000 in
set_option maxHeartbeats 4000000 in
theorem w_X11_when (X : mX) (l : Launch) (p1 : Int32) (S : mM) : MW X viI rm_X11_when cX11_when RX11 2 (some .int) l S [(0, .ref (X.2.1 0)), (1, .int p1)] [] 0 (f_X11_when p1 S) := by
  unfold f_X11_when
  refine mw_iload_n 1 dX11_when_0 rfl rfl ?_
  refine mw_iconst (v := (-1 : Int32)) dX11_when_1 (by decide) ?_
  refine mw_icmp_ne (tgt := 13) dX11_when_2 (by decide) ?_ ?_
  · refine mw_aload_n 0 dX11_when_5 rfl rfl ?_
    refine gf_RX11_49 mk_0 dX11_when_6 ?_
    refine gf_RX11_262 mk_66 dX11_when_9 ?_
    exact mw_ireturn dX11_when_12
  · refine mw_aload_n 0 dX11_when_13 rfl rfl ?_
    refine gf_RX11_49 mk_0 dX11_when_14 ?_
    refine mw_iload_n 1 dX11_when_17 rfl rfl ?_
    refine mw_callV (t_X10_has X l p1 S) cd_X10_has lk_RX11_257 im_X10_has se_X10_has in_RX10 de_X10_has ⟨rfl, rfl⟩ ⟨Nat.le_of_ble_eq_true rfl, Nat.le_of_ble_eq_true rfl⟩ (mKind_lt mk_66 (by decide)) (mCell_k mk_66) rfl rfl rfl rfl ⟨Nat.le_of_ble_eq_true rfl, Nat.le_of_ble_eq_true rfl⟩ (Nat.le_of_ble_eq_true rfl) dX11_when_18 (fun r1 S2 => ?_)
    refine mw_eq (st' := [.int r1]) rfl rfl ?_
    refine mw_if_eq (tgt := 36) dX11_when_21 (by decide) ?_ ?_
    · refine mw_iconst (v := (-1 : Int32)) dX11_when_36 (by decide) ?_
      exact mw_ireturn dX11_when_37
    · refine mw_aload_n 0 dX11_when_24 rfl rfl ?_
      refine gf_RX11_49 mk_0 dX11_when_25 ?_
      refine gf_RX11_265 mk_66 dX11_when_28 ?_
      refine mw_iload_n 1 dX11_when_31 rfl rfl ?_
      refine mw_iaload mk_68 ml_68 dX11_when_32 ?_
      refine mw_goto (tgt := 37) dX11_when_33 (by decide) ?_
      exact mw_ireturn dX11_when_37
theorem t_X11_when (X : mX) (l : Launch) (p1 : Int32) (S : mM) : mMet X viI yX11_when cX11_when 2 (some .int) rm_X11_when [.ref (X.2.1 0), .int p1] l S (f_X11_when p1 S) :=
  mMet_of (by decide +kernel) rfl (Nat.le_of_ble_eq_true rfl) (w_X11_when X l p1 S )
/-! TraceBench.wires(III)I -/
def f_X11_wires (p1 : Int32) (p2 : Int32) (p3 : Int32) (S : mM) : Option (Int32 × mM) :=
  mBind (f_X11_hasTrace p1 p2 S) fun r1 S2 =>
  if r1 = 0 then
    some ((-1 : Int32), S2)
  else
    mBind (f_X11_isTrace p3 S2) fun r3 S4 =>
    if r3 = 0 then
      some ((-1 : Int32), S4)
    else
      if p2 = p3 then
        some ((-1 : Int32), S4)
      else
        mBind (f_X8_get p1 S4) fun r5 S6 =>
        if mKind r5 = 5 then
        (mBind (f_X10_readTwo r5 p2 p3 S6) fun r8 S9 =>
        some ((S9.1 66 2), S9))
        else none
set_option maxRecDepth 100000 in
set_option maxHeartbeats 4000000 in
theorem w_X11_wires (X : mX) (l : Launch) (p1 : Int32) (p2 : Int32) (p3 : Int32) (S : mM) : MW X viI rm_X11_wires cX11_wires RX11 4 (some .int) l S [(0, .ref (X.2.1 0)), (1, .int p1), (2, .int p2), (3, .int p3)] [] 0 (f_X11_wires p1 p2 p3 S) := by
  unfold f_X11_wires
  refine mw_aload_n 0 dX11_wires_0 rfl rfl ?_
  refine mw_iload_n 1 dX11_wires_1 rfl rfl ?_
  refine mw_iload_n 2 dX11_wires_2 rfl rfl ?_
  refine mw_callV (t_X11_hasTrace X l p1 p2 S) cd_X11_hasTrace lk_RX11_181 im_X11_hasTrace se_X11_hasTrace in_RX11 de_X11_hasTrace ⟨rfl, rfl⟩ ⟨Nat.le_of_ble_eq_true rfl, Nat.le_of_ble_eq_true rfl⟩ (mKind_lt mk_0 (by decide)) (mCell_k mk_0) rfl rfl rfl rfl ⟨Nat.le_of_ble_eq_true rfl, Nat.le_of_ble_eq_true rfl⟩ (Nat.le_of_ble_eq_true rfl) dX11_wires_3 (fun r1 S2 => ?_)
  refine mw_eq (st' := [.int r1]) rfl rfl ?_
  refine mw_if_eq (tgt := 21) dX11_wires_6 (by decide) ?_ ?_
  · refine mw_iconst (v := (-1 : Int32)) dX11_wires_21 (by decide) ?_
    exact mw_ireturn dX11_wires_22
  · refine mw_iload_n 3 dX11_wires_9 rfl rfl ?_
    refine mw_callS (t_X11_isTrace X l p3 S2) cd_X11_isTrace lk_RX11_127 sn_X11_isTrace in_RX11 de_X11_isTrace ⟨rfl, rfl⟩ ⟨Nat.le_of_ble_eq_true rfl, Nat.le_of_ble_eq_true rfl⟩ rfl rfl ⟨Nat.le_of_ble_eq_true rfl, Nat.le_of_ble_eq_true rfl⟩ (Nat.le_of_ble_eq_true rfl) dX11_wires_10 (fun r3 S4 => ?_)
    refine mw_eq (st' := [.int r3]) rfl rfl ?_
    refine mw_if_eq (tgt := 21) dX11_wires_13 (by decide) ?_ ?_
    · refine mw_iconst (v := (-1 : Int32)) dX11_wires_21 (by decide) ?_
      exact mw_ireturn dX11_wires_22
    · refine mw_iload_n 2 dX11_wires_16 rfl rfl ?_
      refine mw_iload_n 3 dX11_wires_17 rfl rfl ?_
      refine mw_icmp_ne (tgt := 23) dX11_wires_18 (by decide) ?_ ?_
      · refine mw_iconst (v := (-1 : Int32)) dX11_wires_21 (by decide) ?_
        exact mw_ireturn dX11_wires_22
      · refine mw_aload_n 0 dX11_wires_23 rfl rfl ?_
        refine gf_RX11_49 mk_0 dX11_wires_24 ?_
        refine mw_aload_n 0 dX11_wires_27 rfl rfl ?_
        refine gf_RX11_28 mk_0 dX11_wires_28 ?_
        refine gf_RX11_109 mk_7 dX11_wires_31 ?_
        refine mw_iload_n 1 dX11_wires_34 rfl rfl ?_
        refine mw_callV (t_X8_get X l p1 S4) cd_X8_get lk_RX11_169 im_X8_get se_X8_get in_RX8 de_X8_get ⟨rfl, rfl⟩ ⟨Nat.le_of_ble_eq_true rfl, Nat.le_of_ble_eq_true rfl⟩ (mKind_lt mk_10 (by decide)) (mCell_k mk_10) rfl rfl rfl rfl ⟨Nat.le_of_ble_eq_true rfl, Nat.le_of_ble_eq_true rfl⟩ (Nat.le_of_ble_eq_true rfl) dX11_wires_35 (fun r5 S6 => ?_)
        refine mw_chk (fun h7 => ?_)
        refine mw_eq (st' := [.ref (X.2.1 r5), .ref (X.2.1 66)]) rfl rfl ?_
        refine mw_iload_n 2 dX11_wires_38 rfl rfl ?_
        refine mw_iload_n 3 dX11_wires_39 rfl rfl ?_
        refine mw_callV (t_X10_readTwo X l r5 p2 p3 S6 h7) cd_X10_readTwo lk_RX11_254 im_X10_readTwo se_X10_readTwo in_RX10 de_X10_readTwo ⟨rfl, rfl⟩ ⟨Nat.le_of_ble_eq_true rfl, Nat.le_of_ble_eq_true rfl⟩ (mKind_lt mk_66 (by decide)) (mCell_k mk_66) rfl rfl rfl rfl ⟨Nat.le_of_ble_eq_true rfl, Nat.le_of_ble_eq_true rfl⟩ (Nat.le_of_ble_eq_true rfl) dX11_wires_40 (fun r8 S9 => ?_)
        refine mw_eq (st' := []) rfl rfl ?_
        refine mw_aload_n 0 dX11_wires_43 rfl rfl ?_
        refine gf_RX11_49 mk_0 dX11_wires_44 ?_
        refine gf_RX11_253 mk_66 dX11_wires_47 ?_
        exact mw_ireturn dX11_wires_50
theorem t_X11_wires (X : mX) (l : Launch) (p1 : Int32) (p2 : Int32) (p3 : Int32) (S : mM) : mMet X viI yX11_wires cX11_wires 4 (some .int) rm_X11_wires [.ref (X.2.1 0), .int p1, .int p2, .int p3] l S (f_X11_wires p1 p2 p3 S) :=
  mMet_of (by decide +kernel) rfl (Nat.le_of_ble_eq_true rfl) (w_X11_wires X l p1 p2 p3 S )
