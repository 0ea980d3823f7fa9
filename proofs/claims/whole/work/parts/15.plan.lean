/-! TraceBench$Plan.forgetHighs()V -/
def f_X0_forgetHighs_2 (n : Nat) (y0 : Nat) (y1 : Int32) (S : mM) : Option (Unit × mM) := match n with
  | 0 => none
  | n + 1 =>
    if (S.1 y0 1) ≤ y1 then
      some ((), S)
    else
      if 0 ≤ y1 ∧ y1.toNatClampNeg < 6 then
      (bnd ((y0 + 1) + 1 + y1.toNatClampNeg) fun a2 =>
      bnd (setI S a2 8 (0 : Int32)) fun S3 =>
      bnd (y1 + (1 : Int32)) fun x4 =>
      f_X0_forgetHighs_2 n y0 x4 S3)
      else none
set_option maxRecDepth 100000 in
set_option maxHeartbeats 4000000 in
theorem w_X0_forgetHighs_2 (X : mX) (l : Launch) (n : Nat) (y0 : Nat) (y1 : Int32) (S : mM) (hy0 : mKind y0 = 0) : MW X viV rm_X0_forgetHighs cX0_forgetHighs RX0 2 none l S [(0, .ref (X.2.1 y0)), (1, .int y1)] [] 2 (f_X0_forgetHighs_2 n y0 y1 S) := by
  induction n generalizing y0 y1 S with
  | zero => exact mw_none
  | succ n ih =>
    unfold f_X0_forgetHighs_2
    refine mw_iload_n 1 dX0_forgetHighs_2 rfl rfl ?_
    refine mw_aload_n 0 dX0_forgetHighs_3 rfl rfl ?_
    refine gf_RX0_18 hy0 dX0_forgetHighs_4 ?_
    refine mw_icmp_ge (tgt := 26) dX0_forgetHighs_7 (by decide) ?_ ?_
    · exact mw_return dX0_forgetHighs_26
    · refine mw_aload_n 0 dX0_forgetHighs_10 rfl rfl ?_
      refine gf_RX0_11 hy0 dX0_forgetHighs_11 ?_
      refine mw_iload_n 1 dX0_forgetHighs_14 rfl rfl ?_
      refine mw_aaload (n := 6) (t := 7) (g := fun i => (y0 + 1) + 1 + i) (ko_0_0 hy0) (by decide) (kr_27 (ko_0_0 hy0) (lo_0_0 hy0)) rfl dX0_forgetHighs_15 (fun h1 => ?_)
      refine mw_bndA (ke_27 (ko_0_0 hy0) h1.2) (fun a2 ha2 => ?_)
      refine mw_iconst (v := (0 : Int32)) dX0_forgetHighs_16 (by decide) ?_
      refine pf_RX0_22 ha2 dX0_forgetHighs_17 ?_
      refine mw_bndS (fun S3 => ?_)
      refine mw_iincB (lvf := fun x4 => [(1, .int x4), (0, .ref (X.2.1 y0))]) (k := 1) dX0_forgetHighs_20 rfl (by decide) (by decide) (fun _ => rfl) (fun x4 => ?_)
      refine mw_goto (tgt := 2) dX0_forgetHighs_23 (by decide) ?_
      exact mw_sub [1, 0] rfl (ih y0 x4 S3 hy0)
def f_X0_forgetHighs (t : Nat) (S : mM) : Option (Unit × mM) :=
  f_X0_forgetHighs_2 mFuel t (0 : Int32) S
set_option maxRecDepth 100000 in
set_option maxHeartbeats 4000000 in
theorem w_X0_forgetHighs (X : mX) (l : Launch) (t : Nat) (S : mM) (ht : mKind t = 0) : MW X viV rm_X0_forgetHighs cX0_forgetHighs RX0 2 none l S [(0, .ref (X.2.1 t))] [] 0 (f_X0_forgetHighs t S) := by
  unfold f_X0_forgetHighs
  refine mw_iconst (v := (0 : Int32)) dX0_forgetHighs_0 (by decide) ?_
  refine mw_istore_n (lv' := [(1, .int (0 : Int32)), (0, .ref (X.2.1 t))]) dX0_forgetHighs_1 rfl (by decide) rfl ?_
  exact mw_sub [1, 0] rfl (w_X0_forgetHighs_2 X l mFuel t (0 : Int32) S ht)
theorem t_X0_forgetHighs (X : mX) (l : Launch) (t : Nat) (S : mM) (ht : mKind t = 0) : mMet X viV yX0_forgetHighs cX0_forgetHighs 2 none rm_X0_forgetHighs [.ref (X.2.1 t)] l S (f_X0_forgetHighs t S) :=
  mMet_of (by decide +kernel) rfl (Nat.le_of_ble_eq_true rfl) (w_X0_forgetHighs X l t S ht)
/-! TraceBench$Plan.followHighs(II)V -/
def f_X0_followHighs_2 (n : Nat) (y0 : Nat) (y1 : Int32) (y2 : Int32) (y3 : Int32) (S : mM) : Option (Unit × mM) := match n with
  | 0 => none
  | n + 1 =>
    if (S.1 y0 1) ≤ y3 then
      some ((), S)
    else
      if 0 ≤ y3 ∧ y3.toNatClampNeg < 6 then
      (bnd ((y0 + 1) + 1 + y3.toNatClampNeg) fun a2 =>
      mBind (f_X7_followHigh a2 y1 y2 S) fun r3 S4 =>
      bnd (y3 + (1 : Int32)) fun x5 =>
      f_X0_followHighs_2 n y0 y1 y2 x5 S4)
      else none
set_option maxRecDepth 100000 in
set_option maxHeartbeats 4000000 in
theorem w_X0_followHighs_2 (X : mX) (l : Launch) (n : Nat) (y0 : Nat) (y1 : Int32) (y2 : Int32) (y3 : Int32) (S : mM) (hy0 : mKind y0 = 0) : MW X viV rm_X0_followHighs cX0_followHighs RX0 4 none l S [(0, .ref (X.2.1 y0)), (1, .int y1), (2, .int y2), (3, .int y3)] [] 2 (f_X0_followHighs_2 n y0 y1 y2 y3 S) := by
  induction n generalizing y0 y1 y2 y3 S with
  | zero => exact mw_none
  | succ n ih =>
    unfold f_X0_followHighs_2
    refine mw_iload_n 3 dX0_followHighs_2 rfl rfl ?_
    refine mw_aload_n 0 dX0_followHighs_3 rfl rfl ?_
    refine gf_RX0_18 hy0 dX0_followHighs_4 ?_
    refine mw_icmp_ge (tgt := 27) dX0_followHighs_7 (by decide) ?_ ?_
    · exact mw_return dX0_followHighs_27
    · refine mw_aload_n 0 dX0_followHighs_10 rfl rfl ?_
      refine gf_RX0_11 hy0 dX0_followHighs_11 ?_
      refine mw_iload_n 3 dX0_followHighs_14 rfl rfl ?_
      refine mw_aaload (n := 6) (t := 7) (g := fun i => (y0 + 1) + 1 + i) (ko_0_0 hy0) (by decide) (kr_27 (ko_0_0 hy0) (lo_0_0 hy0)) rfl dX0_followHighs_15 (fun h1 => ?_)
      refine mw_bndA (ke_27 (ko_0_0 hy0) h1.2) (fun a2 ha2 => ?_)
      refine mw_iload_n 1 dX0_followHighs_16 rfl rfl ?_
      refine mw_iload_n 2 dX0_followHighs_17 rfl rfl ?_
      refine mw_callV (t_X7_followHigh X l a2 y1 y2 S ha2) cd_X7_followHigh lk_RX0_25 im_X7_followHigh se_X7_followHigh in_RX7 de_X7_followHigh ⟨rfl, rfl⟩ ⟨Nat.le_of_ble_eq_true rfl, Nat.le_of_ble_eq_true rfl⟩ (mKind_lt ha2 (by decide)) (mCell_k ha2) rfl rfl rfl rfl ⟨Nat.le_of_ble_eq_true rfl, Nat.le_of_ble_eq_true rfl⟩ (Nat.le_of_ble_eq_true rfl) dX0_followHighs_18 (fun r3 S4 => ?_)
      refine mw_eq (st' := []) rfl rfl ?_
      refine mw_iincB (lvf := fun x5 => [(3, .int x5), (0, .ref (X.2.1 y0)), (1, .int y1), (2, .int y2)]) (k := 3) dX0_followHighs_21 rfl (by decide) (by decide) (fun _ => rfl) (fun x5 => ?_)
      refine mw_goto (tgt := 2) dX0_followHighs_24 (by decide) ?_
      exact mw_sub [1, 2, 3, 0] rfl (ih y0 y1 y2 x5 S4 hy0)
def f_X0_followHighs (t : Nat) (p1 : Int32) (p2 : Int32) (S : mM) : Option (Unit × mM) :=
  f_X0_followHighs_2 mFuel t p1 p2 (0 : Int32) S
set_option maxRecDepth 100000 in
set_option maxHeartbeats 4000000 in
theorem w_X0_followHighs (X : mX) (l : Launch) (t : Nat) (p1 : Int32) (p2 : Int32) (S : mM) (ht : mKind t = 0) : MW X viV rm_X0_followHighs cX0_followHighs RX0 4 none l S [(0, .ref (X.2.1 t)), (1, .int p1), (2, .int p2)] [] 0 (f_X0_followHighs t p1 p2 S) := by
  unfold f_X0_followHighs
  refine mw_iconst (v := (0 : Int32)) dX0_followHighs_0 (by decide) ?_
  refine mw_istore_n (lv' := [(3, .int (0 : Int32)), (0, .ref (X.2.1 t)), (1, .int p1), (2, .int p2)]) dX0_followHighs_1 rfl (by decide) rfl ?_
  exact mw_sub [1, 2, 3, 0] rfl (w_X0_followHighs_2 X l mFuel t p1 p2 (0 : Int32) S ht)
theorem t_X0_followHighs (X : mX) (l : Launch) (t : Nat) (p1 : Int32) (p2 : Int32) (S : mM) (ht : mKind t = 0) : mMet X viV yX0_followHighs cX0_followHighs 4 none rm_X0_followHighs [.ref (X.2.1 t), .int p1, .int p2] l S (f_X0_followHighs t p1 p2 S) :=
  mMet_of (by decide +kernel) rfl (Nat.le_of_ble_eq_true rfl) (w_X0_followHighs X l t p1 p2 S ht)
