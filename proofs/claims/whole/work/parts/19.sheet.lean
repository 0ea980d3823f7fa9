/-! TraceBench$Sheet.has(I)Z -/
def f_X6_has (t : Nat) (p1 : Int32) (S : mM) : Option (Int32 × mM) :=
  mBind (f_X11_isIn p1 (0 : Int32) ((S.1 t 2) - (1 : Int32)) S) fun r1 S2 =>
  if r1 = 0 ∨ r1 = 1 then some (r1, S2) else none
set_option maxRecDepth 100000 in
set_option maxHeartbeats 4000000 in
theorem w_X6_has (X : mX) (l : Launch) (t : Nat) (p1 : Int32) (S : mM) (ht : mKind t = 6) : MW X viI rm_X6_has cX6_has RX6 2 (some .boolean) l S [(0, .ref (X.2.1 t)), (1, .int p1)] [] 0 (f_X6_has t p1 S) := by
  unfold f_X6_has
  refine mw_iload_n 1 dX6_has_0 rfl rfl ?_
  refine mw_iconst (v := (0 : Int32)) dX6_has_1 (by decide) ?_
  refine mw_aload_n 0 dX6_has_2 rfl rfl ?_
  refine gf_RX6_25 ht dX6_has_3 ?_
  refine mw_iconst (v := (1 : Int32)) dX6_has_6 (by decide) ?_
  refine mw_isub dX6_has_7 ?_
  refine mw_callSN (t_X11_isIn X l p1 (0 : Int32) ((S.1 t 2) - (1 : Int32)) S) cd_X11_isIn lk_RX6_28 sn_X11_isIn in_RX11 de_X11_isIn ⟨rfl, rfl⟩ ⟨Nat.le_of_ble_eq_true rfl, Nat.le_of_ble_eq_true rfl⟩ rfl rfl ⟨Nat.le_of_ble_eq_true rfl, Nat.le_of_ble_eq_true rfl⟩ (Nat.le_of_ble_eq_true rfl) dX6_has_8 (fun r1 S2 => ?_)
  refine mw_eq (st' := [.int r1]) rfl rfl ?_
  exact mw_zreturn dX6_has_11
theorem t_X6_has (X : mX) (l : Launch) (t : Nat) (p1 : Int32) (S : mM) (ht : mKind t = 6) : mMet X viI yX6_has cX6_has 2 (some .boolean) rm_X6_has [.ref (X.2.1 t), .int p1] l S (f_X6_has t p1 S) :=
  mMet_of (by decide +kernel) rfl (Nat.le_of_ble_eq_true rfl) (w_X6_has X l t p1 S ht)
/-! TraceBench$Sheet.isNothing()Z -/
def f_X6_isNothing (t : Nat) (S : mM) : Option (Int32 × mM) :=
  if (S.1 t 1) = (-1 : Int32) then
    some ((1 : Int32), S)
  else
    some ((0 : Int32), S)
set_option maxRecDepth 100000 in
set_option maxHeartbeats 4000000 in
theorem w_X6_isNothing (X : mX) (l : Launch) (t : Nat) (S : mM) (ht : mKind t = 6) : MW X viI rm_X6_isNothing cX6_isNothing RX6 1 (some .boolean) l S [(0, .ref (X.2.1 t))] [] 0 (f_X6_isNothing t S) := by
  unfold f_X6_isNothing
  refine mw_aload_n 0 dX6_isNothing_0 rfl rfl ?_
  refine gf_RX6_15 ht dX6_isNothing_1 ?_
  refine mw_iconst (v := (-1 : Int32)) dX6_isNothing_4 (by decide) ?_
  refine mw_icmp_ne (tgt := 12) dX6_isNothing_5 (by decide) ?_ ?_
  · refine mw_iconst (v := (1 : Int32)) dX6_isNothing_8 (by decide) ?_
    refine mw_goto (tgt := 13) dX6_isNothing_9 (by decide) ?_
    exact mw_zret (by decide) dX6_isNothing_13
  · refine mw_iconst (v := (0 : Int32)) dX6_isNothing_12 (by decide) ?_
    exact mw_zret (by decide) dX6_isNothing_13
theorem t_X6_isNothing (X : mX) (l : Launch) (t : Nat) (S : mM) (ht : mKind t = 6) : mMet X viI yX6_isNothing cX6_isNothing 1 (some .boolean) rm_X6_isNothing [.ref (X.2.1 t)] l S (f_X6_isNothing t S) :=
  mMet_of (by decide +kernel) rfl (Nat.le_of_ble_eq_true rfl) (w_X6_isNothing X l t S ht)
/-! TraceBench$Sheet.put(II)V -/
def f_X6_put (t : Nat) (p1 : Int32) (p2 : Int32) (S : mM) : Option (Unit × mM) :=
  mBind (f_X6_has t p1 S) fun r1 S2 =>
  if r1 = 0 then
    some ((), S2)
  else
    if (S2.1 t 1) = 0 then
      if 0 ≤ p1 ∧ p1.toNatClampNeg < 64 then
      (bnd (setI S2 (t + 1) p1.toNatClampNeg p2.toInt8.toInt32) fun S3 =>
      some ((), S3))
      else none
    else
      if (S2.1 t 1) = (1 : Int32) then
        if 0 ≤ p1 ∧ p1.toNatClampNeg < 64 then
        (bnd (setI S2 (t + 1) p1.toNatClampNeg p2.toInt16.toInt32) fun S4 =>
        some ((), S4))
        else none
      else
        if 0 ≤ p1 ∧ p1.toNatClampNeg < 64 then
        (bnd (setI S2 (t + 1) p1.toNatClampNeg p2) fun S5 =>
        some ((), S5))
        else none
set_option maxRecDepth 100000 in
set_option maxHeartbeats 4000000 in
theorem w_X6_put (X : mX) (l : Launch) (t : Nat) (p1 : Int32) (p2 : Int32) (S : mM) (ht : mKind t = 6) : MW X viV rm_X6_put cX6_put RX6 3 none l S [(0, .ref (X.2.1 t)), (1, .int p1), (2, .int p2)] [] 0 (f_X6_put t p1 p2 S) := by
  unfold f_X6_put
  refine mw_aload_n 0 dX6_put_0 rfl rfl ?_
  refine mw_iload_n 1 dX6_put_1 rfl rfl ?_
  refine mw_callV (t_X6_has X l t p1 S ht) cd_X6_has lk_RX6_32 im_X6_has se_X6_has in_RX6 de_X6_has ⟨rfl, rfl⟩ ⟨Nat.le_of_ble_eq_true rfl, Nat.le_of_ble_eq_true rfl⟩ (mKind_lt ht (by decide)) (mCell_k ht) rfl rfl rfl rfl ⟨Nat.le_of_ble_eq_true rfl, Nat.le_of_ble_eq_true rfl⟩ (Nat.le_of_ble_eq_true rfl) dX6_put_2 (fun r1 S2 => ?_)
  refine mw_eq (st' := [.int r1]) rfl rfl ?_
  refine mw_if_eq (tgt := 40) dX6_put_5 (by decide) ?_ ?_
  · exact mw_return dX6_put_40
  · refine mw_aload_n 0 dX6_put_8 rfl rfl ?_
    refine gf_RX6_9 ht dX6_put_9 ?_
    refine mw_iload_n 1 dX6_put_12 rfl rfl ?_
    refine mw_aload_n 0 dX6_put_13 rfl rfl ?_
    refine gf_RX6_15 ht dX6_put_14 ?_
    refine mw_if_ne (tgt := 25) dX6_put_17 (by decide) ?_ ?_
    · refine mw_iload_n 2 dX6_put_20 rfl rfl ?_
      refine mw_i2b dX6_put_21 ?_
      refine mw_goto (tgt := 39) dX6_put_22 (by decide) ?_
      refine mw_iastore (ko_6_0 ht) (lo_6_0 ht) dX6_put_39 ?_
      refine mw_bndS (fun S3 => ?_)
      exact mw_return dX6_put_40
    · refine mw_aload_n 0 dX6_put_25 rfl rfl ?_
      refine gf_RX6_15 ht dX6_put_26 ?_
      refine mw_iconst (v := (1 : Int32)) dX6_put_29 (by decide) ?_
      refine mw_icmp_ne (tgt := 38) dX6_put_30 (by decide) ?_ ?_
      · refine mw_iload_n 2 dX6_put_33 rfl rfl ?_
        refine mw_i2s dX6_put_34 ?_
        refine mw_goto (tgt := 39) dX6_put_35 (by decide) ?_
        refine mw_iastore (ko_6_0 ht) (lo_6_0 ht) dX6_put_39 ?_
        refine mw_bndS (fun S4 => ?_)
        exact mw_return dX6_put_40
      · refine mw_iload_n 2 dX6_put_38 rfl rfl ?_
        refine mw_iastore (ko_6_0 ht) (lo_6_0 ht) dX6_put_39 ?_
        refine mw_bndS (fun S5 => ?_)
        exact mw_return dX6_put_40
theorem t_X6_put (X : mX) (l : Launch) (t : Nat) (p1 : Int32) (p2 : Int32) (S : mM) (ht : mKind t = 6) : mMet X viV yX6_put cX6_put 3 none rm_X6_put [.ref (X.2.1 t), .int p1, .int p2] l S (f_X6_put t p1 p2 S) :=
  mMet_of (by decide +kernel) rfl (Nat.le_of_ble_eq_true rfl) (w_X6_put X l t p1 p2 S ht)
/-! TraceBench$Sheet.allows(II)Z -/
def f_X6_allows (t : Nat) (p1 : Int32) (p2 : Int32) (S : mM) : Option (Int32 × mM) :=
  bnd ((2 : Int32) * p1) fun x1 =>
  mBind (f_X6_has t x1 S) fun r2 S3 =>
  if r2 = 0 then
    some ((1 : Int32), S3)
  else
    mBind (f_X6_has t (x1 + (1 : Int32)) S3) fun r4 S5 =>
    if r4 = 0 then
      some ((1 : Int32), S5)
    else
      if 0 ≤ x1 ∧ x1.toNatClampNeg < 64 then
      (if 0 ≤ (x1 + (1 : Int32)) ∧ (x1 + (1 : Int32)).toNatClampNeg < 64 then
      (mBind (f_X11_isIn p2 (S5.1 (t + 1) x1.toNatClampNeg) (S5.1 (t + 1) (x1 + (1 : Int32)).toNatClampNeg) S5) fun r6 S7 =>
      if r6 = 0 then
        some ((0 : Int32), S7)
      else
        some ((1 : Int32), S7))
      else none)
      else none
set_option maxRecDepth 100000 in
set_option maxHeartbeats 4000000 in
theorem w_X6_allows (X : mX) (l : Launch) (t : Nat) (p1 : Int32) (p2 : Int32) (S : mM) (ht : mKind t = 6) : MW X viI rm_X6_allows cX6_allows RX6 4 (some .boolean) l S [(0, .ref (X.2.1 t)), (1, .int p1), (2, .int p2)] [] 0 (f_X6_allows t p1 p2 S) := by
  unfold f_X6_allows
  refine mw_iconst (v := (2 : Int32)) dX6_allows_0 (by decide) ?_
  refine mw_iload_n 1 dX6_allows_1 rfl rfl ?_
  refine mw_imul dX6_allows_2 ?_
  refine mw_bndI (fun x1 => ?_)
  refine mw_istore_n (lv' := [(3, .int x1), (0, .ref (X.2.1 t)), (1, .int p1), (2, .int p2)]) dX6_allows_3 rfl (by decide) rfl ?_
  refine mw_aload_n 1 dX6_allows_4 rfl rfl ?_
  refine mw_iload_n 0 dX6_allows_5 rfl rfl ?_
  refine mw_callV (t_X6_has X l t x1 S ht) cd_X6_has lk_RX6_32 im_X6_has se_X6_has in_RX6 de_X6_has ⟨rfl, rfl⟩ ⟨Nat.le_of_ble_eq_true rfl, Nat.le_of_ble_eq_true rfl⟩ (mKind_lt ht (by decide)) (mCell_k ht) rfl rfl rfl rfl ⟨Nat.le_of_ble_eq_true rfl, Nat.le_of_ble_eq_true rfl⟩ (Nat.le_of_ble_eq_true rfl) dX6_allows_6 (fun r2 S3 => ?_)
  refine mw_eq (st' := [.int r2]) rfl rfl ?_
  refine mw_if_eq (tgt := 43) dX6_allows_9 (by decide) ?_ ?_
  · refine mw_iconst (v := (1 : Int32)) dX6_allows_43 (by decide) ?_
    refine mw_goto (tgt := 48) dX6_allows_44 (by decide) ?_
    exact mw_zret (by decide) dX6_allows_48
  · refine mw_aload_n 1 dX6_allows_12 rfl rfl ?_
    refine mw_iload_n 0 dX6_allows_13 rfl rfl ?_
    refine mw_iconst (v := (1 : Int32)) dX6_allows_14 (by decide) ?_
    refine mw_iadd dX6_allows_15 ?_
    refine mw_callV (t_X6_has X l t (x1 + (1 : Int32)) S3 ht) cd_X6_has lk_RX6_32 im_X6_has se_X6_has in_RX6 de_X6_has ⟨rfl, rfl⟩ ⟨Nat.le_of_ble_eq_true rfl, Nat.le_of_ble_eq_true rfl⟩ (mKind_lt ht (by decide)) (mCell_k ht) rfl rfl rfl rfl ⟨Nat.le_of_ble_eq_true rfl, Nat.le_of_ble_eq_true rfl⟩ (Nat.le_of_ble_eq_true rfl) dX6_allows_16 (fun r4 S5 => ?_)
    refine mw_eq (st' := [.int r4]) rfl rfl ?_
    refine mw_if_eq (tgt := 43) dX6_allows_19 (by decide) ?_ ?_
    · refine mw_iconst (v := (1 : Int32)) dX6_allows_43 (by decide) ?_
      refine mw_goto (tgt := 48) dX6_allows_44 (by decide) ?_
      exact mw_zret (by decide) dX6_allows_48
    · refine mw_iload_n 3 dX6_allows_22 rfl rfl ?_
      refine mw_aload_n 1 dX6_allows_23 rfl rfl ?_
      refine gf_RX6_9 ht dX6_allows_24 ?_
      refine mw_iload_n 0 dX6_allows_27 rfl rfl ?_
      refine mw_iaload (ko_6_0 ht) (lo_6_0 ht) dX6_allows_28 ?_
      refine mw_aload_n 1 dX6_allows_29 rfl rfl ?_
      refine gf_RX6_9 ht dX6_allows_30 ?_
      refine mw_iload_n 0 dX6_allows_33 rfl rfl ?_
      refine mw_iconst (v := (1 : Int32)) dX6_allows_34 (by decide) ?_
      refine mw_iadd dX6_allows_35 ?_
      refine mw_iaload (ko_6_0 ht) (lo_6_0 ht) dX6_allows_36 ?_
      refine mw_callSN (t_X11_isIn X l p2 (S5.1 (t + 1) x1.toNatClampNeg) (S5.1 (t + 1) (x1 + (1 : Int32)).toNatClampNeg) S5) cd_X11_isIn lk_RX6_28 sn_X11_isIn in_RX11 de_X11_isIn ⟨rfl, rfl⟩ ⟨Nat.le_of_ble_eq_true rfl, Nat.le_of_ble_eq_true rfl⟩ rfl rfl ⟨Nat.le_of_ble_eq_true rfl, Nat.le_of_ble_eq_true rfl⟩ (Nat.le_of_ble_eq_true rfl) dX6_allows_37 (fun r6 S7 => ?_)
      refine mw_eq (st' := [.int r6]) rfl rfl ?_
      refine mw_if_eq (tgt := 47) dX6_allows_40 (by decide) ?_ ?_
      · refine mw_iconst (v := (0 : Int32)) dX6_allows_47 (by decide) ?_
        exact mw_zret (by decide) dX6_allows_48
      · refine mw_iconst (v := (1 : Int32)) dX6_allows_43 (by decide) ?_
        refine mw_goto (tgt := 48) dX6_allows_44 (by decide) ?_
        exact mw_zret (by decide) dX6_allows_48
theorem t_X6_allows (X : mX) (l : Launch) (t : Nat) (p1 : Int32) (p2 : Int32) (S : mM) (ht : mKind t = 6) : mMet X viI yX6_allows cX6_allows 4 (some .boolean) rm_X6_allows [.ref (X.2.1 t), .int p1, .int p2] l S (f_X6_allows t p1 p2 S) :=
  mMet_of (by decide +kernel) rfl (Nat.le_of_ble_eq_true rfl) (w_X6_allows X l t p1 p2 S ht)
/-! TraceBench$Sheet.faultAs(II)I -/
def f_X6_faultAs (t : Nat) (p1 : Int32) (p2 : Int32) (S : mM) : Option (Int32 × mM) :=
  mBind (f_X6_isNothing t S) fun r1 S2 =>
  if r1 = 0 then
    if (S2.1 t 1) = p1 then
      if p2 ≤ ((S2.1 t 2) / (2 : Int32)) then
        some ((0 : Int32), S2)
      else
        some ((2 : Int32), S2)
    else
      some ((3 : Int32), S2)
  else
    some ((1 : Int32), S2)
set_option maxRecDepth 100000 in
set_option maxHeartbeats 4000000 in
theorem w_X6_faultAs (X : mX) (l : Launch) (t : Nat) (p1 : Int32) (p2 : Int32) (S : mM) (ht : mKind t = 6) : MW X viI rm_X6_faultAs cX6_faultAs RX6 3 (some .int) l S [(0, .ref (X.2.1 t)), (1, .int p1), (2, .int p2)] [] 0 (f_X6_faultAs t p1 p2 S) := by
  unfold f_X6_faultAs
  refine mw_aload_n 0 dX6_faultAs_0 rfl rfl ?_
  refine mw_callV (t_X6_isNothing X l t S ht) cd_X6_isNothing lk_RX6_36 im_X6_isNothing se_X6_isNothing in_RX6 de_X6_isNothing ⟨rfl, rfl⟩ ⟨Nat.le_of_ble_eq_true rfl, Nat.le_of_ble_eq_true rfl⟩ (mKind_lt ht (by decide)) (mCell_k ht) rfl rfl rfl rfl ⟨Nat.le_of_ble_eq_true rfl, Nat.le_of_ble_eq_true rfl⟩ (Nat.le_of_ble_eq_true rfl) dX6_faultAs_1 (fun r1 S2 => ?_)
  refine mw_eq (st' := [.int r1]) rfl rfl ?_
  refine mw_if_eq (tgt := 9) dX6_faultAs_4 (by decide) ?_ ?_
  · refine mw_aload_n 0 dX6_faultAs_9 rfl rfl ?_
    refine gf_RX6_15 ht dX6_faultAs_10 ?_
    refine mw_iload_n 1 dX6_faultAs_13 rfl rfl ?_
    refine mw_icmp_eq (tgt := 19) dX6_faultAs_14 (by decide) ?_ ?_
    · refine mw_iload_n 2 dX6_faultAs_19 rfl rfl ?_
      refine mw_aload_n 0 dX6_faultAs_20 rfl rfl ?_
      refine gf_RX6_25 ht dX6_faultAs_21 ?_
      refine mw_iconst (v := (2 : Int32)) dX6_faultAs_24 (by decide) ?_
      refine mw_idiv dX6_faultAs_25 (by decide) ?_
      refine mw_icmp_le (tgt := 33) dX6_faultAs_26 (by decide) ?_ ?_
      · refine mw_iconst (v := (0 : Int32)) dX6_faultAs_33 (by decide) ?_
        exact mw_ireturn dX6_faultAs_34
      · refine mw_iconst (v := (2 : Int32)) dX6_faultAs_29 (by decide) ?_
        refine mw_goto (tgt := 34) dX6_faultAs_30 (by decide) ?_
        exact mw_ireturn dX6_faultAs_34
    · refine mw_iconst (v := (3 : Int32)) dX6_faultAs_17 (by decide) ?_
      exact mw_ireturn dX6_faultAs_18
  · refine mw_iconst (v := (1 : Int32)) dX6_faultAs_7 (by decide) ?_
    exact mw_ireturn dX6_faultAs_8
theorem t_X6_faultAs (X : mX) (l : Launch) (t : Nat) (p1 : Int32) (p2 : Int32) (S : mM) (ht : mKind t = 6) : mMet X viI yX6_faultAs cX6_faultAs 3 (some .int) rm_X6_faultAs [.ref (X.2.1 t), .int p1, .int p2] l S (f_X6_faultAs t p1 p2 S) :=
  mMet_of (by decide +kernel) rfl (Nat.le_of_ble_eq_true rfl) (w_X6_faultAs X l t p1 p2 S ht)
/-! TraceBench$Sheet.renew(II)V -/
def f_X6_renew_17 (n : Nat) (y0 : Nat) (y3 : Int32) (S : mM) : Option (Unit × mM) := match n with
  | 0 => none
  | n + 1 =>
    if (S.1 y0 2) ≤ y3 then
      some ((), S)
    else
      if 0 ≤ y3 ∧ y3.toNatClampNeg < 64 then
      (bnd (setI S (y0 + 1) y3.toNatClampNeg (0 : Int32)) fun S1 =>
      bnd (y3 + (1 : Int32)) fun x2 =>
      f_X6_renew_17 n y0 x2 S1)
      else none
set_option maxRecDepth 100000 in
set_option maxHeartbeats 4000000 in
theorem w_X6_renew_17 (X : mX) (l : Launch) (n : Nat) (y0 : Nat) (y3 : Int32) (S : mM) (hy0 : mKind y0 = 6) : MW X viV rm_X6_renew cX6_renew RX6 4 none l S [(0, .ref (X.2.1 y0)), (3, .int y3)] [] 17 (f_X6_renew_17 n y0 y3 S) := by
  induction n generalizing y0 y3 S with
  | zero => exact mw_none
  | succ n ih =>
    unfold f_X6_renew_17
    refine mw_iload_n 1 dX6_renew_17 rfl rfl ?_
    refine mw_aload_n 0 dX6_renew_18 rfl rfl ?_
    refine gf_RX6_25 hy0 dX6_renew_19 ?_
    refine mw_icmp_ge (tgt := 38) dX6_renew_22 (by decide) ?_ ?_
    · exact mw_return dX6_renew_38
    · refine mw_aload_n 0 dX6_renew_25 rfl rfl ?_
      refine gf_RX6_9 hy0 dX6_renew_26 ?_
      refine mw_iload_n 1 dX6_renew_29 rfl rfl ?_
      refine mw_iconst (v := (0 : Int32)) dX6_renew_30 (by decide) ?_
      refine mw_iastore (ko_6_0 hy0) (lo_6_0 hy0) dX6_renew_31 ?_
      refine mw_bndS (fun S1 => ?_)
      refine mw_iincB (lvf := fun x2 => [(3, .int x2), (0, .ref (X.2.1 y0))]) (k := 1) dX6_renew_32 rfl (by decide) (by decide) (fun _ => rfl) (fun x2 => ?_)
      refine mw_goto (tgt := 17) dX6_renew_35 (by decide) ?_
      exact mw_sub [1, 0] rfl (ih y0 x2 S1 hy0)
def f_X6_renew (t : Nat) (p1 : Int32) (p2 : Int32) (S : mM) : Option (Unit × mM) :=
  bnd (setI S t 1 p1) fun S1 =>
  mBind (f_J9_min_7cf53 p2 (64 : Int32) S1) fun r2 S3 =>
  bnd (setI S3 t 2 r2) fun S4 =>
  f_X6_renew_17 mFuel t (0 : Int32) S4
set_option maxRecDepth 100000 in
set_option maxHeartbeats 4000000 in
theorem w_X6_renew (X : mX) (l : Launch) (t : Nat) (p1 : Int32) (p2 : Int32) (S : mM) (ht : mKind t = 6) : MW X viV rm_X6_renew cX6_renew RX6 4 none l S [(0, .ref (X.2.1 t)), (1, .int p1), (2, .int p2)] [] 0 (f_X6_renew t p1 p2 S) := by
  unfold f_X6_renew
  refine mw_aload_n 0 dX6_renew_0 rfl rfl ?_
  refine mw_iload_n 1 dX6_renew_1 rfl rfl ?_
  refine pf_RX6_15 ht dX6_renew_2 ?_
  refine mw_bndS (fun S1 => ?_)
  refine mw_aload_n 0 dX6_renew_5 rfl rfl ?_
  refine mw_iload_n 2 dX6_renew_6 rfl rfl ?_
  refine mw_bipush (v := (64 : Int32)) dX6_renew_7 (by decide) ?_
  refine mw_callS (t_J9_min_7cf53 X l p2 (64 : Int32) S1) cd_J9_min_7cf53 lk_RX6_19 sn_J9_min_7cf53 in_RJ9 de_J9_min_7cf53 ⟨rfl, rfl⟩ ⟨Nat.le_of_ble_eq_true rfl, Nat.le_of_ble_eq_true rfl⟩ rfl rfl ⟨Nat.le_of_ble_eq_true rfl, Nat.le_of_ble_eq_true rfl⟩ (Nat.le_of_ble_eq_true rfl) dX6_renew_9 (fun r2 S3 => ?_)
  refine mw_eq (st' := [.int r2, .ref (X.2.1 t)]) rfl rfl ?_
  refine pf_RX6_25 ht dX6_renew_12 ?_
  refine mw_bndS (fun S4 => ?_)
  refine mw_iconst (v := (0 : Int32)) dX6_renew_15 (by decide) ?_
  refine mw_istore_n (lv' := [(3, .int (0 : Int32)), (0, .ref (X.2.1 t)), (1, .int p1), (2, .int p2)]) dX6_renew_16 rfl (by decide) rfl ?_
  exact mw_sub [1, 0] rfl (w_X6_renew_17 X l mFuel t (0 : Int32) S4 ht)
theorem t_X6_renew (X : mX) (l : Launch) (t : Nat) (p1 : Int32) (p2 : Int32) (S : mM) (ht : mKind t = 6) : mMet X viV yX6_renew cX6_renew 4 none rm_X6_renew [.ref (X.2.1 t), .int p1, .int p2] l S (f_X6_renew t p1 p2 S) :=
  mMet_of (by decide +kernel) rfl (Nat.le_of_ble_eq_true rfl) (w_X6_renew X l t p1 p2 S ht)
