/-! TraceBench$Row.countGaps()I -/
def f_X3_countGaps_4 (n : Nat) (y0 : Nat) (y1 : Int32) (y2 : Int32) (S : mM) : Option (Int32 × mM) := match n with
  | 0 => none
  | n + 1 =>
    if (S.1 y0 2) ≤ y2 then
      some (y1, S)
    else
      if 0 ≤ y2 ∧ y2.toNatClampNeg < 201 then
      (if (S.1 (y0 + 2) y2.toNatClampNeg) = 0 then
        bnd (y2 + (1 : Int32)) fun x1 =>
        f_X3_countGaps_4 n y0 y1 x1 S
      else
        bnd (y1 + (1 : Int32)) fun x2 =>
        bnd (y2 + (1 : Int32)) fun x3 =>
        f_X3_countGaps_4 n y0 x2 x3 S)
      else none
set_option maxRecDepth 100000 in
set_option maxHeartbeats 4000000 in
theorem w_X3_countGaps_4 (X : mX) (l : Launch) (n : Nat) (y0 : Nat) (y1 : Int32) (y2 : Int32) (S : mM) (hy0 : mKind y0 = 3) : MW X viI rm_X3_countGaps cX3_countGaps RX3 3 (some .int) l S [(0, .ref (X.2.1 y0)), (1, .int y1), (2, .int y2)] [] 4 (f_X3_countGaps_4 n y0 y1 y2 S) := by
  induction n generalizing y0 y1 y2 S with
  | zero => exact mw_none
  | succ n ih =>
    unfold f_X3_countGaps_4
    refine mw_iload_n 2 dX3_countGaps_4 rfl rfl ?_
    refine mw_aload_n 0 dX3_countGaps_5 rfl rfl ?_
    refine gf_RX3_25 hy0 dX3_countGaps_6 ?_
    refine mw_icmp_ge (tgt := 30) dX3_countGaps_9 (by decide) ?_ ?_
    · refine mw_iload_n 1 dX3_countGaps_30 rfl rfl ?_
      exact mw_ireturn dX3_countGaps_31
    · refine mw_aload_n 0 dX3_countGaps_12 rfl rfl ?_
      refine gf_RX3_15 hy0 dX3_countGaps_13 ?_
      refine mw_iload_n 2 dX3_countGaps_16 rfl rfl ?_
      refine mw_zaload (ko_3_1 hy0) (lo_3_1 hy0) dX3_countGaps_17 ?_
      refine mw_if_eq (tgt := 24) dX3_countGaps_18 (by decide) ?_ ?_
      · refine mw_iincB (lvf := fun x1 => [(2, .int x1), (0, .ref (X.2.1 y0)), (1, .int y1)]) (k := 2) dX3_countGaps_24 rfl (by decide) (by decide) (fun _ => rfl) (fun x1 => ?_)
        refine mw_goto (tgt := 4) dX3_countGaps_27 (by decide) ?_
        exact mw_sub [1, 2, 0] rfl (ih y0 y1 x1 S hy0)
      · refine mw_iincB (lvf := fun x2 => [(1, .int x2), (0, .ref (X.2.1 y0)), (2, .int y2)]) (k := 1) dX3_countGaps_21 rfl (by decide) (by decide) (fun _ => rfl) (fun x2 => ?_)
        refine mw_iincB (lvf := fun x3 => [(2, .int x3), (1, .int x2), (0, .ref (X.2.1 y0))]) (k := 2) dX3_countGaps_24 rfl (by decide) (by decide) (fun _ => rfl) (fun x3 => ?_)
        refine mw_goto (tgt := 4) dX3_countGaps_27 (by decide) ?_
        exact mw_sub [2, 1, 0] rfl (ih y0 x2 x3 S hy0)
def f_X3_countGaps (t : Nat) (S : mM) : Option (Int32 × mM) :=
  f_X3_countGaps_4 mFuel t (0 : Int32) (0 : Int32) S
set_option maxRecDepth 100000 in
set_option maxHeartbeats 4000000 in
theorem w_X3_countGaps (X : mX) (l : Launch) (t : Nat) (S : mM) (ht : mKind t = 3) : MW X viI rm_X3_countGaps cX3_countGaps RX3 3 (some .int) l S [(0, .ref (X.2.1 t))] [] 0 (f_X3_countGaps t S) := by
  unfold f_X3_countGaps
  refine mw_iconst (v := (0 : Int32)) dX3_countGaps_0 (by decide) ?_
  refine mw_istore_n (lv' := [(1, .int (0 : Int32)), (0, .ref (X.2.1 t))]) dX3_countGaps_1 rfl (by decide) rfl ?_
  refine mw_iconst (v := (0 : Int32)) dX3_countGaps_2 (by decide) ?_
  refine mw_istore_n (lv' := [(2, .int (0 : Int32)), (1, .int (0 : Int32)), (0, .ref (X.2.1 t))]) dX3_countGaps_3 rfl (by decide) rfl ?_
  exact mw_sub [2, 1, 0] rfl (w_X3_countGaps_4 X l mFuel t (0 : Int32) (0 : Int32) S ht)
theorem t_X3_countGaps (X : mX) (l : Launch) (t : Nat) (S : mM) (ht : mKind t = 3) : mMet X viI yX3_countGaps cX3_countGaps 3 (some .int) rm_X3_countGaps [.ref (X.2.1 t)] l S (f_X3_countGaps t S) :=
  mMet_of (by decide +kernel) rfl (Nat.le_of_ble_eq_true rfl) (w_X3_countGaps X l t S ht)
/-! TraceBench$Row.firstGap()I -/
def f_X3_firstGap_2 (n : Nat) (y0 : Nat) (y1 : Int32) (S : mM) : Option (Int32 × mM) := match n with
  | 0 => none
  | n + 1 =>
    if (S.1 y0 2) ≤ y1 then
      some ((-4 : Int32), S)
    else
      if 0 ≤ y1 ∧ y1.toNatClampNeg < 201 then
      (if (S.1 (y0 + 2) y1.toNatClampNeg) = 0 then
        bnd (y1 + (1 : Int32)) fun x1 =>
        f_X3_firstGap_2 n y0 x1 S
      else
        some (y1, S))
      else none
set_option maxRecDepth 100000 in
set_option maxHeartbeats 4000000 in
theorem w_X3_firstGap_2 (X : mX) (l : Launch) (n : Nat) (y0 : Nat) (y1 : Int32) (S : mM) (hy0 : mKind y0 = 3) : MW X viI rm_X3_firstGap cX3_firstGap RX3 2 (some .int) l S [(0, .ref (X.2.1 y0)), (1, .int y1)] [] 2 (f_X3_firstGap_2 n y0 y1 S) := by
  induction n generalizing y0 y1 S with
  | zero => exact mw_none
  | succ n ih =>
    unfold f_X3_firstGap_2
    refine mw_iload_n 1 dX3_firstGap_2 rfl rfl ?_
    refine mw_aload_n 0 dX3_firstGap_3 rfl rfl ?_
    refine gf_RX3_25 hy0 dX3_firstGap_4 ?_
    refine mw_icmp_ge (tgt := 27) dX3_firstGap_7 (by decide) ?_ ?_
    · refine mw_bipush (v := (-4 : Int32)) dX3_firstGap_27 (by decide) ?_
      exact mw_ireturn dX3_firstGap_29
    · refine mw_aload_n 0 dX3_firstGap_10 rfl rfl ?_
      refine gf_RX3_15 hy0 dX3_firstGap_11 ?_
      refine mw_iload_n 1 dX3_firstGap_14 rfl rfl ?_
      refine mw_zaload (ko_3_1 hy0) (lo_3_1 hy0) dX3_firstGap_15 ?_
      refine mw_if_eq (tgt := 21) dX3_firstGap_16 (by decide) ?_ ?_
      · refine mw_iincB (lvf := fun x1 => [(1, .int x1), (0, .ref (X.2.1 y0))]) (k := 1) dX3_firstGap_21 rfl (by decide) (by decide) (fun _ => rfl) (fun x1 => ?_)
        refine mw_goto (tgt := 2) dX3_firstGap_24 (by decide) ?_
        exact mw_sub [1, 0] rfl (ih y0 x1 S hy0)
      · refine mw_iload_n 1 dX3_firstGap_19 rfl rfl ?_
        exact mw_ireturn dX3_firstGap_20
def f_X3_firstGap (t : Nat) (S : mM) : Option (Int32 × mM) :=
  f_X3_firstGap_2 mFuel t (0 : Int32) S
set_option maxRecDepth 100000 in
set_option maxHeartbeats 4000000 in
theorem w_X3_firstGap (X : mX) (l : Launch) (t : Nat) (S : mM) (ht : mKind t = 3) : MW X viI rm_X3_firstGap cX3_firstGap RX3 2 (some .int) l S [(0, .ref (X.2.1 t))] [] 0 (f_X3_firstGap t S) := by
  unfold f_X3_firstGap
  refine mw_iconst (v := (0 : Int32)) dX3_firstGap_0 (by decide) ?_
  refine mw_istore_n (lv' := [(1, .int (0 : Int32)), (0, .ref (X.2.1 t))]) dX3_firstGap_1 rfl (by decide) rfl ?_
  exact mw_sub [1, 0] rfl (w_X3_firstGap_2 X l mFuel t (0 : Int32) S ht)
theorem t_X3_firstGap (X : mX) (l : Launch) (t : Nat) (S : mM) (ht : mKind t = 3) : mMet X viI yX3_firstGap cX3_firstGap 2 (some .int) rm_X3_firstGap [.ref (X.2.1 t)] l S (f_X3_firstGap t S) :=
  mMet_of (by decide +kernel) rfl (Nat.le_of_ble_eq_true rfl) (w_X3_firstGap X l t S ht)
/-! TraceBench$Row.placeOfGreatest()I -/
def f_X3_placeOfGreatest_5 (n : Nat) (y0 : Nat) (y1 : Int32) (y2 : Int32) (S : mM) : Option (Int32 × mM) := match n with
  | 0 => none
  | n + 1 =>
    if (S.1 y0 2) ≤ y2 then
      some (y1, S)
    else
      if 0 ≤ y2 ∧ y2.toNatClampNeg < 201 then
      (if (S.1 (y0 + 2) y2.toNatClampNeg) = 0 then
        if y1 < 0 then
          bnd (y2 + (1 : Int32)) fun x1 =>
          f_X3_placeOfGreatest_5 n y0 y2 x1 S
        else
          if 0 ≤ y2 ∧ y2.toNatClampNeg < 201 then
          (if 0 ≤ y1 ∧ y1.toNatClampNeg < 201 then
          (if (lg_cmp (S.2.1 (y0 + 1) y2.toNatClampNeg) (S.2.1 (y0 + 1) y1.toNatClampNeg)) ≤ 0 then
            bnd (y2 + (1 : Int32)) fun x2 =>
            f_X3_placeOfGreatest_5 n y0 y1 x2 S
          else
            bnd (y2 + (1 : Int32)) fun x3 =>
            f_X3_placeOfGreatest_5 n y0 y2 x3 S)
          else none)
          else none
      else
        bnd (y2 + (1 : Int32)) fun x4 =>
        f_X3_placeOfGreatest_5 n y0 y1 x4 S)
      else none
set_option maxRecDepth 100000 in
set_option maxHeartbeats 4000000 in
theorem w_X3_placeOfGreatest_5 (X : mX) (l : Launch) (n : Nat) (y0 : Nat) (y1 : Int32) (y2 : Int32) (S : mM) (hy0 : mKind y0 = 3) : MW X viI rm_X3_placeOfGreatest cX3_placeOfGreatest RX3 3 (some .int) l S [(0, .ref (X.2.1 y0)), (1, .int y1), (2, .int y2)] [] 5 (f_X3_placeOfGreatest_5 n y0 y1 y2 S) := by
  induction n generalizing y0 y1 y2 S with
  | zero => exact mw_none
  | succ n ih =>
    unfold f_X3_placeOfGreatest_5
    refine mw_iload_n 2 dX3_placeOfGreatest_5 rfl rfl ?_
    refine mw_aload_n 0 dX3_placeOfGreatest_6 rfl rfl ?_
    refine gf_RX3_25 hy0 dX3_placeOfGreatest_7 ?_
    refine mw_icmp_ge (tgt := 50) dX3_placeOfGreatest_10 (by decide) ?_ ?_
    · refine mw_iload_n 1 dX3_placeOfGreatest_50 rfl rfl ?_
      exact mw_ireturn dX3_placeOfGreatest_51
    · refine mw_aload_n 0 dX3_placeOfGreatest_13 rfl rfl ?_
      refine gf_RX3_15 hy0 dX3_placeOfGreatest_14 ?_
      refine mw_iload_n 2 dX3_placeOfGreatest_17 rfl rfl ?_
      refine mw_zaload (ko_3_1 hy0) (lo_3_1 hy0) dX3_placeOfGreatest_18 ?_
      refine mw_if_ne (tgt := 44) dX3_placeOfGreatest_19 (by decide) ?_ ?_
      · refine mw_iload_n 1 dX3_placeOfGreatest_22 rfl rfl ?_
        refine mw_if_lt (tgt := 42) dX3_placeOfGreatest_23 (by decide) ?_ ?_
        · refine mw_iload_n 2 dX3_placeOfGreatest_42 rfl rfl ?_
          refine mw_istore_n (lv' := [(1, .int y2), (0, .ref (X.2.1 y0)), (2, .int y2)]) dX3_placeOfGreatest_43 rfl (by decide) rfl ?_
          refine mw_iincB (lvf := fun x1 => [(2, .int x1), (1, .int y2), (0, .ref (X.2.1 y0))]) (k := 2) dX3_placeOfGreatest_44 rfl (by decide) (by decide) (fun _ => rfl) (fun x1 => ?_)
          refine mw_goto (tgt := 5) dX3_placeOfGreatest_47 (by decide) ?_
          exact mw_sub [2, 1, 0] rfl (ih y0 y2 x1 S hy0)
        · refine mw_aload_n 0 dX3_placeOfGreatest_26 rfl rfl ?_
          refine gf_RX3_9 hy0 dX3_placeOfGreatest_27 ?_
          refine mw_iload_n 2 dX3_placeOfGreatest_30 rfl rfl ?_
          refine mw_laload (ko_3_0 hy0) (lo_3_0 hy0) dX3_placeOfGreatest_31 ?_
          refine mw_aload_n 0 dX3_placeOfGreatest_32 rfl rfl ?_
          refine gf_RX3_9 hy0 dX3_placeOfGreatest_33 ?_
          refine mw_iload_n 1 dX3_placeOfGreatest_36 rfl rfl ?_
          refine mw_laload (ko_3_0 hy0) (lo_3_0 hy0) dX3_placeOfGreatest_37 ?_
          refine mw_lcmp dX3_placeOfGreatest_38 ?_
          refine mw_if_le (tgt := 44) dX3_placeOfGreatest_39 (by decide) ?_ ?_
          · refine mw_iincB (lvf := fun x2 => [(2, .int x2), (0, .ref (X.2.1 y0)), (1, .int y1)]) (k := 2) dX3_placeOfGreatest_44 rfl (by decide) (by decide) (fun _ => rfl) (fun x2 => ?_)
            refine mw_goto (tgt := 5) dX3_placeOfGreatest_47 (by decide) ?_
            exact mw_sub [1, 2, 0] rfl (ih y0 y1 x2 S hy0)
          · refine mw_iload_n 2 dX3_placeOfGreatest_42 rfl rfl ?_
            refine mw_istore_n (lv' := [(1, .int y2), (0, .ref (X.2.1 y0)), (2, .int y2)]) dX3_placeOfGreatest_43 rfl (by decide) rfl ?_
            refine mw_iincB (lvf := fun x3 => [(2, .int x3), (1, .int y2), (0, .ref (X.2.1 y0))]) (k := 2) dX3_placeOfGreatest_44 rfl (by decide) (by decide) (fun _ => rfl) (fun x3 => ?_)
            refine mw_goto (tgt := 5) dX3_placeOfGreatest_47 (by decide) ?_
            exact mw_sub [2, 1, 0] rfl (ih y0 y2 x3 S hy0)
      · refine mw_iincB (lvf := fun x4 => [(2, .int x4), (0, .ref (X.2.1 y0)), (1, .int y1)]) (k := 2) dX3_placeOfGreatest_44 rfl (by decide) (by decide) (fun _ => rfl) (fun x4 => ?_)
        refine mw_goto (tgt := 5) dX3_placeOfGreatest_47 (by decide) ?_
        exact mw_sub [1, 2, 0] rfl (ih y0 y1 x4 S hy0)
def f_X3_placeOfGreatest (t : Nat) (S : mM) : Option (Int32 × mM) :=
  f_X3_placeOfGreatest_5 mFuel t (-4 : Int32) (0 : Int32) S
set_option maxRecDepth 100000 in
set_option maxHeartbeats 4000000 in
theorem w_X3_placeOfGreatest (X : mX) (l : Launch) (t : Nat) (S : mM) (ht : mKind t = 3) : MW X viI rm_X3_placeOfGreatest cX3_placeOfGreatest RX3 3 (some .int) l S [(0, .ref (X.2.1 t))] [] 0 (f_X3_placeOfGreatest t S) := by
  unfold f_X3_placeOfGreatest
  refine mw_bipush (v := (-4 : Int32)) dX3_placeOfGreatest_0 (by decide) ?_
  refine mw_istore_n (lv' := [(1, .int (-4 : Int32)), (0, .ref (X.2.1 t))]) dX3_placeOfGreatest_2 rfl (by decide) rfl ?_
  refine mw_iconst (v := (0 : Int32)) dX3_placeOfGreatest_3 (by decide) ?_
  refine mw_istore_n (lv' := [(2, .int (0 : Int32)), (1, .int (-4 : Int32)), (0, .ref (X.2.1 t))]) dX3_placeOfGreatest_4 rfl (by decide) rfl ?_
  exact mw_sub [2, 1, 0] rfl (w_X3_placeOfGreatest_5 X l mFuel t (-4 : Int32) (0 : Int32) S ht)
theorem t_X3_placeOfGreatest (X : mX) (l : Launch) (t : Nat) (S : mM) (ht : mKind t = 3) : mMet X viI yX3_placeOfGreatest cX3_placeOfGreatest 3 (some .int) rm_X3_placeOfGreatest [.ref (X.2.1 t)] l S (f_X3_placeOfGreatest t S) :=
  mMet_of (by decide +kernel) rfl (Nat.le_of_ble_eq_true rfl) (w_X3_placeOfGreatest X l t S ht)
/-! TraceBench$Row.placeOfLeast()I -/
def f_X3_placeOfLeast_5 (n : Nat) (y0 : Nat) (y1 : Int32) (y2 : Int32) (S : mM) : Option (Int32 × mM) := match n with
  | 0 => none
  | n + 1 =>
    if (S.1 y0 2) ≤ y2 then
      some (y1, S)
    else
      if 0 ≤ y2 ∧ y2.toNatClampNeg < 201 then
      (if (S.1 (y0 + 2) y2.toNatClampNeg) = 0 then
        if y1 < 0 then
          bnd (y2 + (1 : Int32)) fun x1 =>
          f_X3_placeOfLeast_5 n y0 y2 x1 S
        else
          if 0 ≤ y2 ∧ y2.toNatClampNeg < 201 then
          (if 0 ≤ y1 ∧ y1.toNatClampNeg < 201 then
          (if 0 ≤ (lg_cmp (S.2.1 (y0 + 1) y2.toNatClampNeg) (S.2.1 (y0 + 1) y1.toNatClampNeg)) then
            bnd (y2 + (1 : Int32)) fun x2 =>
            f_X3_placeOfLeast_5 n y0 y1 x2 S
          else
            bnd (y2 + (1 : Int32)) fun x3 =>
            f_X3_placeOfLeast_5 n y0 y2 x3 S)
          else none)
          else none
      else
        bnd (y2 + (1 : Int32)) fun x4 =>
        f_X3_placeOfLeast_5 n y0 y1 x4 S)
      else none
set_option maxRecDepth 100000 in
set_option maxHeartbeats 4000000 in
theorem w_X3_placeOfLeast_5 (X : mX) (l : Launch) (n : Nat) (y0 : Nat) (y1 : Int32) (y2 : Int32) (S : mM) (hy0 : mKind y0 = 3) : MW X viI rm_X3_placeOfLeast cX3_placeOfLeast RX3 3 (some .int) l S [(0, .ref (X.2.1 y0)), (1, .int y1), (2, .int y2)] [] 5 (f_X3_placeOfLeast_5 n y0 y1 y2 S) := by
  induction n generalizing y0 y1 y2 S with
  | zero => exact mw_none
  | succ n ih =>
    unfold f_X3_placeOfLeast_5
    refine mw_iload_n 2 dX3_placeOfLeast_5 rfl rfl ?_
    refine mw_aload_n 0 dX3_placeOfLeast_6 rfl rfl ?_
    refine gf_RX3_25 hy0 dX3_placeOfLeast_7 ?_
    refine mw_icmp_ge (tgt := 50) dX3_placeOfLeast_10 (by decide) ?_ ?_
    · refine mw_iload_n 1 dX3_placeOfLeast_50 rfl rfl ?_
      exact mw_ireturn dX3_placeOfLeast_51
    · refine mw_aload_n 0 dX3_placeOfLeast_13 rfl rfl ?_
      refine gf_RX3_15 hy0 dX3_placeOfLeast_14 ?_
      refine mw_iload_n 2 dX3_placeOfLeast_17 rfl rfl ?_
      refine mw_zaload (ko_3_1 hy0) (lo_3_1 hy0) dX3_placeOfLeast_18 ?_
      refine mw_if_ne (tgt := 44) dX3_placeOfLeast_19 (by decide) ?_ ?_
      · refine mw_iload_n 1 dX3_placeOfLeast_22 rfl rfl ?_
        refine mw_if_lt (tgt := 42) dX3_placeOfLeast_23 (by decide) ?_ ?_
        · refine mw_iload_n 2 dX3_placeOfLeast_42 rfl rfl ?_
          refine mw_istore_n (lv' := [(1, .int y2), (0, .ref (X.2.1 y0)), (2, .int y2)]) dX3_placeOfLeast_43 rfl (by decide) rfl ?_
          refine mw_iincB (lvf := fun x1 => [(2, .int x1), (1, .int y2), (0, .ref (X.2.1 y0))]) (k := 2) dX3_placeOfLeast_44 rfl (by decide) (by decide) (fun _ => rfl) (fun x1 => ?_)
          refine mw_goto (tgt := 5) dX3_placeOfLeast_47 (by decide) ?_
          exact mw_sub [2, 1, 0] rfl (ih y0 y2 x1 S hy0)
        · refine mw_aload_n 0 dX3_placeOfLeast_26 rfl rfl ?_
          refine gf_RX3_9 hy0 dX3_placeOfLeast_27 ?_
          refine mw_iload_n 2 dX3_placeOfLeast_30 rfl rfl ?_
          refine mw_laload (ko_3_0 hy0) (lo_3_0 hy0) dX3_placeOfLeast_31 ?_
          refine mw_aload_n 0 dX3_placeOfLeast_32 rfl rfl ?_
          refine gf_RX3_9 hy0 dX3_placeOfLeast_33 ?_
          refine mw_iload_n 1 dX3_placeOfLeast_36 rfl rfl ?_
          refine mw_laload (ko_3_0 hy0) (lo_3_0 hy0) dX3_placeOfLeast_37 ?_
          refine mw_lcmp dX3_placeOfLeast_38 ?_
          refine mw_if_ge (tgt := 44) dX3_placeOfLeast_39 (by decide) ?_ ?_
          · refine mw_iincB (lvf := fun x2 => [(2, .int x2), (0, .ref (X.2.1 y0)), (1, .int y1)]) (k := 2) dX3_placeOfLeast_44 rfl (by decide) (by decide) (fun _ => rfl) (fun x2 => ?_)
            refine mw_goto (tgt := 5) dX3_placeOfLeast_47 (by decide) ?_
            exact mw_sub [1, 2, 0] rfl (ih y0 y1 x2 S hy0)
          · refine mw_iload_n 2 dX3_placeOfLeast_42 rfl rfl ?_
            refine mw_istore_n (lv' := [(1, .int y2), (0, .ref (X.2.1 y0)), (2, .int y2)]) dX3_placeOfLeast_43 rfl (by decide) rfl ?_
            refine mw_iincB (lvf := fun x3 => [(2, .int x3), (1, .int y2), (0, .ref (X.2.1 y0))]) (k := 2) dX3_placeOfLeast_44 rfl (by decide) (by decide) (fun _ => rfl) (fun x3 => ?_)
            refine mw_goto (tgt := 5) dX3_placeOfLeast_47 (by decide) ?_
            exact mw_sub [2, 1, 0] rfl (ih y0 y2 x3 S hy0)
      · refine mw_iincB (lvf := fun x4 => [(2, .int x4), (0, .ref (X.2.1 y0)), (1, .int y1)]) (k := 2) dX3_placeOfLeast_44 rfl (by decide) (by decide) (fun _ => rfl) (fun x4 => ?_)
        refine mw_goto (tgt := 5) dX3_placeOfLeast_47 (by decide) ?_
        exact mw_sub [1, 2, 0] rfl (ih y0 y1 x4 S hy0)
def f_X3_placeOfLeast (t : Nat) (S : mM) : Option (Int32 × mM) :=
  f_X3_placeOfLeast_5 mFuel t (-4 : Int32) (0 : Int32) S
set_option maxRecDepth 100000 in
set_option maxHeartbeats 4000000 in
theorem w_X3_placeOfLeast (X : mX) (l : Launch) (t : Nat) (S : mM) (ht : mKind t = 3) : MW X viI rm_X3_placeOfLeast cX3_placeOfLeast RX3 3 (some .int) l S [(0, .ref (X.2.1 t))] [] 0 (f_X3_placeOfLeast t S) := by
  unfold f_X3_placeOfLeast
  refine mw_bipush (v := (-4 : Int32)) dX3_placeOfLeast_0 (by decide) ?_
  refine mw_istore_n (lv' := [(1, .int (-4 : Int32)), (0, .ref (X.2.1 t))]) dX3_placeOfLeast_2 rfl (by decide) rfl ?_
  refine mw_iconst (v := (0 : Int32)) dX3_placeOfLeast_3 (by decide) ?_
  refine mw_istore_n (lv' := [(2, .int (0 : Int32)), (1, .int (-4 : Int32)), (0, .ref (X.2.1 t))]) dX3_placeOfLeast_4 rfl (by decide) rfl ?_
  exact mw_sub [2, 1, 0] rfl (w_X3_placeOfLeast_5 X l mFuel t (-4 : Int32) (0 : Int32) S ht)
theorem t_X3_placeOfLeast (X : mX) (l : Launch) (t : Nat) (S : mM) (ht : mKind t = 3) : mMet X viI yX3_placeOfLeast cX3_placeOfLeast 3 (some .int) rm_X3_placeOfLeast [.ref (X.2.1 t)] l S (f_X3_placeOfLeast t S) :=
  mMet_of (by decide +kernel) rfl (Nat.le_of_ble_eq_true rfl) (w_X3_placeOfLeast X l t S ht)
/-! TraceBench$Row.isInBand(IJII)Z -/
def f_X3_isInBand (t : Nat) (p1 : Int32) (p2 : Int64) (p4 : Int32) (p5 : Int32) (S : mM) : Option (Int32 × mM) :=
  mBind (f_X11_isIn p1 (0 : Int32) ((S.1 t 2) - (1 : Int32)) S) fun r1 S2 =>
  if r1 = 0 then
    some ((0 : Int32), S2)
  else
    if 0 ≤ p1 ∧ p1.toNatClampNeg < 201 then
    (if (S2.1 (t + 2) p1.toNatClampNeg) = 0 then
      if (1 : Int32) ≤ p4 then
        if 0 ≤ p1 ∧ p1.toNatClampNeg < 201 then
        (mBind (f_J9_floorDiv_f86c9 ((S2.2.1 (t + 1) p1.toNatClampNeg) - p2) p4.toInt64 S2) fun r3 S4 =>
        if (lg_cmp r3 p5.toInt64) = 0 then
          some ((1 : Int32), S4)
        else
          some ((0 : Int32), S4))
        else none
      else
        some ((0 : Int32), S2)
    else
      some ((0 : Int32), S2))
    else none
set_option maxRecDepth 100000 in
set_option maxHeartbeats 4000000 in
theorem w_X3_isInBand (X : mX) (l : Launch) (t : Nat) (p1 : Int32) (p2 : Int64) (p4 : Int32) (p5 : Int32) (S : mM) (ht : mKind t = 3) : MW X viI rm_X3_isInBand cX3_isInBand RX3 6 (some .boolean) l S [(0, .ref (X.2.1 t)), (1, .int p1), (2, .long p2), (4, .int p4), (5, .int p5)] [] 0 (f_X3_isInBand t p1 p2 p4 p5 S) := by
  unfold f_X3_isInBand
  refine mw_iload_n 1 dX3_isInBand_0 rfl rfl ?_
  refine mw_iconst (v := (0 : Int32)) dX3_isInBand_1 (by decide) ?_
  refine mw_aload_n 0 dX3_isInBand_2 rfl rfl ?_
  refine gf_RX3_25 ht dX3_isInBand_3 ?_
  refine mw_iconst (v := (1 : Int32)) dX3_isInBand_6 (by decide) ?_
  refine mw_isub dX3_isInBand_7 ?_
  refine mw_callSN (t_X11_isIn X l p1 (0 : Int32) ((S.1 t 2) - (1 : Int32)) S) cd_X11_isIn lk_RX3_34 sn_X11_isIn in_RX11 de_X11_isIn ⟨rfl, rfl⟩ ⟨Nat.le_of_ble_eq_true rfl, Nat.le_of_ble_eq_true rfl⟩ rfl rfl ⟨Nat.le_of_ble_eq_true rfl, Nat.le_of_ble_eq_true rfl⟩ (Nat.le_of_ble_eq_true rfl) dX3_isInBand_8 (fun r1 S2 => ?_)
  refine mw_eq (st' := [.int r1]) rfl rfl ?_
  refine mw_if_eq (tgt := 29) dX3_isInBand_11 (by decide) ?_ ?_
  · refine mw_iconst (v := (0 : Int32)) dX3_isInBand_29 (by decide) ?_
    exact mw_zret (by decide) dX3_isInBand_30
  · refine mw_aload_n 0 dX3_isInBand_14 rfl rfl ?_
    refine gf_RX3_15 ht dX3_isInBand_15 ?_
    refine mw_iload_n 1 dX3_isInBand_18 rfl rfl ?_
    refine mw_zaload (ko_3_1 ht) (lo_3_1 ht) dX3_isInBand_19 ?_
    refine mw_if_ne (tgt := 29) dX3_isInBand_20 (by decide) ?_ ?_
    · refine mw_iload 3 dX3_isInBand_23 rfl ?_
      refine mw_iconst (v := (1 : Int32)) dX3_isInBand_25 (by decide) ?_
      refine mw_icmp_ge (tgt := 31) dX3_isInBand_26 (by decide) ?_ ?_
      · refine mw_aload_n 0 dX3_isInBand_31 rfl rfl ?_
        refine gf_RX3_9 ht dX3_isInBand_32 ?_
        refine mw_iload_n 1 dX3_isInBand_35 rfl rfl ?_
        refine mw_laload (ko_3_0 ht) (lo_3_0 ht) dX3_isInBand_36 ?_
        refine mw_lload_n 2 dX3_isInBand_37 rfl rfl ?_
        refine mw_lsub dX3_isInBand_38 ?_
        refine mw_iload 3 dX3_isInBand_39 rfl ?_
        refine mw_i2l dX3_isInBand_41 ?_
        refine mw_callS (t_J9_floorDiv_f86c9 X l ((S2.2.1 (t + 1) p1.toNatClampNeg) - p2) p4.toInt64 S2) cd_J9_floorDiv_f86c9 lk_RX3_81 sn_J9_floorDiv_f86c9 in_RJ9 de_J9_floorDiv_f86c9 ⟨rfl, rfl⟩ ⟨Nat.le_of_ble_eq_true rfl, Nat.le_of_ble_eq_true rfl⟩ rfl rfl ⟨Nat.le_of_ble_eq_true rfl, Nat.le_of_ble_eq_true rfl⟩ (Nat.le_of_ble_eq_true rfl) dX3_isInBand_42 (fun r3 S4 => ?_)
        refine mw_eq (st' := [.long r3]) rfl rfl ?_
        refine mw_iload 4 dX3_isInBand_45 rfl ?_
        refine mw_i2l dX3_isInBand_47 ?_
        refine mw_lcmp dX3_isInBand_48 ?_
        refine mw_if_ne (tgt := 56) dX3_isInBand_49 (by decide) ?_ ?_
        · refine mw_iconst (v := (1 : Int32)) dX3_isInBand_52 (by decide) ?_
          refine mw_goto (tgt := 57) dX3_isInBand_53 (by decide) ?_
          exact mw_zret (by decide) dX3_isInBand_57
        · refine mw_iconst (v := (0 : Int32)) dX3_isInBand_56 (by decide) ?_
          exact mw_zret (by decide) dX3_isInBand_57
      · refine mw_iconst (v := (0 : Int32)) dX3_isInBand_29 (by decide) ?_
        exact mw_zret (by decide) dX3_isInBand_30
    · refine mw_iconst (v := (0 : Int32)) dX3_isInBand_29 (by decide) ?_
      exact mw_zret (by decide) dX3_isInBand_30
theorem t_X3_isInBand (X : mX) (l : Launch) (t : Nat) (p1 : Int32) (p2 : Int64) (p4 : Int32) (p5 : Int32) (S : mM) (ht : mKind t = 3) : mMet X viI yX3_isInBand cX3_isInBand 6 (some .boolean) rm_X3_isInBand [.ref (X.2.1 t), .int p1, .long p2, .int p4, .int p5] l S (f_X3_isInBand t p1 p2 p4 p5 S) :=
  mMet_of (by decide +kernel) rfl (Nat.le_of_ble_eq_true rfl) (w_X3_isInBand X l t p1 p2 p4 p5 S ht)
/-! TraceBench$Row.valueAt(I)J -/
def f_X3_valueAt (t : Nat) (p1 : Int32) (S : mM) : Option (Int64 × mM) :=
  mBind (f_X11_isIn p1 (0 : Int32) ((S.1 t 2) - (1 : Int32)) S) fun r1 S2 =>
  if r1 = 0 then
    some ((0 : Int64), S2)
  else
    if 0 ≤ p1 ∧ p1.toNatClampNeg < 201 then
    (some ((S2.2.1 (t + 1) p1.toNatClampNeg), S2))
    else none
set_option maxRecDepth 100000 in
set_option maxHeartbeats 4000000 in
theorem w_X3_valueAt (X : mX) (l : Launch) (t : Nat) (p1 : Int32) (S : mM) (ht : mKind t = 3) : MW X viJ rm_X3_valueAt cX3_valueAt RX3 2 (some .long) l S [(0, .ref (X.2.1 t)), (1, .int p1)] [] 0 (f_X3_valueAt t p1 S) := by
  unfold f_X3_valueAt
  refine mw_iload_n 1 dX3_valueAt_0 rfl rfl ?_
  refine mw_iconst (v := (0 : Int32)) dX3_valueAt_1 (by decide) ?_
  refine mw_aload_n 0 dX3_valueAt_2 rfl rfl ?_
  refine gf_RX3_25 ht dX3_valueAt_3 ?_
  refine mw_iconst (v := (1 : Int32)) dX3_valueAt_6 (by decide) ?_
  refine mw_isub dX3_valueAt_7 ?_
  refine mw_callSN (t_X11_isIn X l p1 (0 : Int32) ((S.1 t 2) - (1 : Int32)) S) cd_X11_isIn lk_RX3_34 sn_X11_isIn in_RX11 de_X11_isIn ⟨rfl, rfl⟩ ⟨Nat.le_of_ble_eq_true rfl, Nat.le_of_ble_eq_true rfl⟩ rfl rfl ⟨Nat.le_of_ble_eq_true rfl, Nat.le_of_ble_eq_true rfl⟩ (Nat.le_of_ble_eq_true rfl) dX3_valueAt_8 (fun r1 S2 => ?_)
  refine mw_eq (st' := [.int r1]) rfl rfl ?_
  refine mw_if_eq (tgt := 23) dX3_valueAt_11 (by decide) ?_ ?_
  · refine mw_lconst (v := (0 : Int64)) dX3_valueAt_23 (by decide) ?_
    exact mw_lreturn dX3_valueAt_24
  · refine mw_aload_n 0 dX3_valueAt_14 rfl rfl ?_
    refine gf_RX3_9 ht dX3_valueAt_15 ?_
    refine mw_iload_n 1 dX3_valueAt_18 rfl rfl ?_
    refine mw_laload (ko_3_0 ht) (lo_3_0 ht) dX3_valueAt_19 ?_
    refine mw_goto (tgt := 24) dX3_valueAt_20 (by decide) ?_
    exact mw_lreturn dX3_valueAt_24
theorem t_X3_valueAt (X : mX) (l : Launch) (t : Nat) (p1 : Int32) (S : mM) (ht : mKind t = 3) : mMet X viJ yX3_valueAt cX3_valueAt 2 (some .long) rm_X3_valueAt [.ref (X.2.1 t), .int p1] l S (f_X3_valueAt t p1 S) :=
  mMet_of (by decide +kernel) rfl (Nat.le_of_ble_eq_true rfl) (w_X3_valueAt X l t p1 S ht)
/-! TraceBench$Row.put(IJ)V -/
def f_X3_put (t : Nat) (p1 : Int32) (p2 : Int64) (S : mM) : Option (Unit × mM) :=
  if 0 ≤ p1 ∧ p1.toNatClampNeg < 201 then
  (bnd (setJ S (t + 1) p1.toNatClampNeg p2) fun S1 =>
  if 0 ≤ p1 ∧ p1.toNatClampNeg < 201 then
  (bnd (setI S1 (t + 2) p1.toNatClampNeg (vp_nar .boolean (0 : Int32))) fun S2 =>
  some ((), S2))
  else none)
  else none
set_option maxRecDepth 100000 in
set_option maxHeartbeats 4000000 in
theorem w_X3_put (X : mX) (l : Launch) (t : Nat) (p1 : Int32) (p2 : Int64) (S : mM) (ht : mKind t = 3) : MW X viV rm_X3_put cX3_put RX3 4 none l S [(0, .ref (X.2.1 t)), (1, .int p1), (2, .long p2)] [] 0 (f_X3_put t p1 p2 S) := by
  unfold f_X3_put
  refine mw_aload_n 0 dX3_put_0 rfl rfl ?_
  refine gf_RX3_9 ht dX3_put_1 ?_
  refine mw_iload_n 1 dX3_put_4 rfl rfl ?_
  refine mw_lload_n 2 dX3_put_5 rfl rfl ?_
  refine mw_lastore (ko_3_0 ht) (lo_3_0 ht) dX3_put_6 ?_
  refine mw_bndS (fun S1 => ?_)
  refine mw_aload_n 0 dX3_put_7 rfl rfl ?_
  refine gf_RX3_15 ht dX3_put_8 ?_
  refine mw_iload_n 1 dX3_put_11 rfl rfl ?_
  refine mw_iconst (v := (0 : Int32)) dX3_put_12 (by decide) ?_
  refine mw_zastore (ko_3_1 ht) (lo_3_1 ht) dX3_put_13 ?_
  refine mw_bndS (fun S2 => ?_)
  exact mw_return dX3_put_14
theorem t_X3_put (X : mX) (l : Launch) (t : Nat) (p1 : Int32) (p2 : Int64) (S : mM) (ht : mKind t = 3) : mMet X viV yX3_put cX3_put 4 none rm_X3_put [.ref (X.2.1 t), .int p1, .long p2] l S (f_X3_put t p1 p2 S) :=
  mMet_of (by decide +kernel) rfl (Nat.le_of_ble_eq_true rfl) (w_X3_put X l t p1 p2 S ht)
/-! TraceBench$Row.putGap(I)V -/
def f_X3_putGap (t : Nat) (p1 : Int32) (S : mM) : Option (Unit × mM) :=
  if 0 ≤ p1 ∧ p1.toNatClampNeg < 201 then
  (bnd (setJ S (t + 1) p1.toNatClampNeg (0 : Int64)) fun S1 =>
  if 0 ≤ p1 ∧ p1.toNatClampNeg < 201 then
  (bnd (setI S1 (t + 2) p1.toNatClampNeg (vp_nar .boolean (1 : Int32))) fun S2 =>
  some ((), S2))
  else none)
  else none
set_option maxRecDepth 100000 in
set_option maxHeartbeats 4000000 in
theorem w_X3_putGap (X : mX) (l : Launch) (t : Nat) (p1 : Int32) (S : mM) (ht : mKind t = 3) : MW X viV rm_X3_putGap cX3_putGap RX3 2 none l S [(0, .ref (X.2.1 t)), (1, .int p1)] [] 0 (f_X3_putGap t p1 S) := by
  unfold f_X3_putGap
  refine mw_aload_n 0 dX3_putGap_0 rfl rfl ?_
  refine gf_RX3_9 ht dX3_putGap_1 ?_
  refine mw_iload_n 1 dX3_putGap_4 rfl rfl ?_
  refine mw_lconst (v := (0 : Int64)) dX3_putGap_5 (by decide) ?_
  refine mw_lastore (ko_3_0 ht) (lo_3_0 ht) dX3_putGap_6 ?_
  refine mw_bndS (fun S1 => ?_)
  refine mw_aload_n 0 dX3_putGap_7 rfl rfl ?_
  refine gf_RX3_15 ht dX3_putGap_8 ?_
  refine mw_iload_n 1 dX3_putGap_11 rfl rfl ?_
  refine mw_iconst (v := (1 : Int32)) dX3_putGap_12 (by decide) ?_
  refine mw_zastore (ko_3_1 ht) (lo_3_1 ht) dX3_putGap_13 ?_
  refine mw_bndS (fun S2 => ?_)
  exact mw_return dX3_putGap_14
theorem t_X3_putGap (X : mX) (l : Launch) (t : Nat) (p1 : Int32) (S : mM) (ht : mKind t = 3) : mMet X viV yX3_putGap cX3_putGap 2 none rm_X3_putGap [.ref (X.2.1 t), .int p1] l S (f_X3_putGap t p1 S) :=
  mMet_of (by decide +kernel) rfl (Nat.le_of_ble_eq_true rfl) (w_X3_putGap X l t p1 S ht)
/-! TraceBench$Row.fillFrom(LTraceBench$Row;)V -/
def f_X3_fillFrom_44 (k15 : Nat → Nat → Int32 → Int64 → Int32 → mM → Option (Unit × mM)) (y0 : Nat) (y1 : Nat) (y2 : Int32) (y3 : Int64) (y5 : Int32) (S : mM) : Option (Unit × mM) :=
  if y2 = 0 then
    mBind (f_X3_putGap y0 y5 S) fun r1 S2 =>
    bnd (y5 + (1 : Int32)) fun x3 =>
    k15 y0 y1 y2 y3 x3 S2
  else
    mBind (f_X3_put y0 y5 y3 S) fun r4 S5 =>
    bnd (y5 + (1 : Int32)) fun x6 =>
    k15 y0 y1 y2 y3 x6 S5
set_option maxRecDepth 100000 in
set_option maxHeartbeats 4000000 in
theorem w_X3_fillFrom_44 (X : mX) (l : Launch) (k15 : Nat → Nat → Int32 → Int64 → Int32 → mM → Option (Unit × mM)) (hk15 : ∀ (y0 : Nat) (y1 : Nat) (y2 : Int32) (y3 : Int64) (y5 : Int32) (S : mM) (_ : mKind y0 = 3) (_ : mKind y1 = 3), MW X viV rm_X3_fillFrom cX3_fillFrom RX3 6 none l S [(0, .ref (X.2.1 y0)), (1, .ref (X.2.1 y1)), (2, .int y2), (3, .long y3), (5, .int y5)] [] 15 (k15 y0 y1 y2 y3 y5 S)) (y0 : Nat) (y1 : Nat) (y2 : Int32) (y3 : Int64) (y5 : Int32) (S : mM) (hy0 : mKind y0 = 3) (hy1 : mKind y1 = 3) : MW X viV rm_X3_fillFrom cX3_fillFrom RX3 6 none l S [(0, .ref (X.2.1 y0)), (1, .ref (X.2.1 y1)), (2, .int y2), (3, .long y3), (5, .int y5)] [] 44 (f_X3_fillFrom_44 k15 y0 y1 y2 y3 y5 S) := by
  unfold f_X3_fillFrom_44
  refine mw_iload_n 2 dX3_fillFrom_44 rfl rfl ?_
  refine mw_if_eq (tgt := 58) dX3_fillFrom_45 (by decide) ?_ ?_
  · refine mw_aload_n 0 dX3_fillFrom_58 rfl rfl ?_
    refine mw_iload 4 dX3_fillFrom_59 rfl ?_
    refine mw_callV (t_X3_putGap X l y0 y5 S hy0) cd_X3_putGap lk_RX3_43 im_X3_putGap se_X3_putGap in_RX3 de_X3_putGap ⟨rfl, rfl⟩ ⟨Nat.le_of_ble_eq_true rfl, Nat.le_of_ble_eq_true rfl⟩ (mKind_lt hy0 (by decide)) (mCell_k hy0) rfl rfl rfl rfl ⟨Nat.le_of_ble_eq_true rfl, Nat.le_of_ble_eq_true rfl⟩ (Nat.le_of_ble_eq_true rfl) dX3_fillFrom_61 (fun r1 S2 => ?_)
    refine mw_eq (st' := []) rfl rfl ?_
    refine mw_iincB (lvf := fun x3 => [(5, .int x3), (0, .ref (X.2.1 y0)), (1, .ref (X.2.1 y1)), (2, .int y2), (3, .long y3)]) (k := 4) dX3_fillFrom_64 rfl (by decide) (by decide) (fun _ => rfl) (fun x3 => ?_)
    refine mw_goto (tgt := 15) dX3_fillFrom_67 (by decide) ?_
    exact mw_sub [1, 2, 3, 4, 0] rfl (hk15 y0 y1 y2 y3 x3 S2 hy0 hy1)
  · refine mw_aload_n 0 dX3_fillFrom_48 rfl rfl ?_
    refine mw_iload 4 dX3_fillFrom_49 rfl ?_
    refine mw_lload_n 3 dX3_fillFrom_51 rfl rfl ?_
    refine mw_callV (t_X3_put X l y0 y5 y3 S hy0) cd_X3_put lk_RX3_30 im_X3_put se_X3_put in_RX3 de_X3_put ⟨rfl, rfl⟩ ⟨Nat.le_of_ble_eq_true rfl, Nat.le_of_ble_eq_true rfl⟩ (mKind_lt hy0 (by decide)) (mCell_k hy0) rfl rfl rfl rfl ⟨Nat.le_of_ble_eq_true rfl, Nat.le_of_ble_eq_true rfl⟩ (Nat.le_of_ble_eq_true rfl) dX3_fillFrom_52 (fun r4 S5 => ?_)
    refine mw_eq (st' := []) rfl rfl ?_
    refine mw_goto (tgt := 64) dX3_fillFrom_55 (by decide) ?_
    refine mw_iincB (lvf := fun x6 => [(5, .int x6), (0, .ref (X.2.1 y0)), (1, .ref (X.2.1 y1)), (2, .int y2), (3, .long y3)]) (k := 4) dX3_fillFrom_64 rfl (by decide) (by decide) (fun _ => rfl) (fun x6 => ?_)
    refine mw_goto (tgt := 15) dX3_fillFrom_67 (by decide) ?_
    exact mw_sub [1, 2, 3, 4, 0] rfl (hk15 y0 y1 y2 y3 x6 S5 hy0 hy1)
def f_X3_fillFrom_15 (n : Nat) (y0 : Nat) (y1 : Nat) (y2 : Int32) (y3 : Int64) (y5 : Int32) (S : mM) : Option (Unit × mM) := match n with
  | 0 => none
  | n + 1 =>
    if (S.1 y0 2) ≤ y5 then
      some ((), S)
    else
      if 0 ≤ y5 ∧ y5.toNatClampNeg < 201 then
      (if (S.1 (y1 + 2) y5.toNatClampNeg) = 0 then
        if 0 ≤ y5 ∧ y5.toNatClampNeg < 201 then
        (bnd (S.2.1 (y1 + 1) y5.toNatClampNeg) fun x1 =>
        f_X3_fillFrom_44 (f_X3_fillFrom_15 n) y0 y1 (1 : Int32) x1 y5 S)
        else none
      else
        f_X3_fillFrom_44 (f_X3_fillFrom_15 n) y0 y1 y2 y3 y5 S)
      else none
set_option maxRecDepth 100000 in
set_option maxHeartbeats 4000000 in
theorem w_X3_fillFrom_15 (X : mX) (l : Launch) (n : Nat) (y0 : Nat) (y1 : Nat) (y2 : Int32) (y3 : Int64) (y5 : Int32) (S : mM) (hy0 : mKind y0 = 3) (hy1 : mKind y1 = 3) : MW X viV rm_X3_fillFrom cX3_fillFrom RX3 6 none l S [(0, .ref (X.2.1 y0)), (1, .ref (X.2.1 y1)), (2, .int y2), (3, .long y3), (5, .int y5)] [] 15 (f_X3_fillFrom_15 n y0 y1 y2 y3 y5 S) := by
  induction n generalizing y0 y1 y2 y3 y5 S with
  | zero => exact mw_none
  | succ n ih =>
    unfold f_X3_fillFrom_15
    refine mw_iload 4 dX3_fillFrom_15 rfl ?_
    refine mw_aload_n 0 dX3_fillFrom_17 rfl rfl ?_
    refine gf_RX3_25 hy0 dX3_fillFrom_18 ?_
    refine mw_icmp_ge (tgt := 70) dX3_fillFrom_21 (by decide) ?_ ?_
    · exact mw_return dX3_fillFrom_70
    · refine mw_aload_n 1 dX3_fillFrom_24 rfl rfl ?_
      refine gf_RX3_15 hy1 dX3_fillFrom_25 ?_
      refine mw_iload 4 dX3_fillFrom_28 rfl ?_
      refine mw_zaload (ko_3_1 hy1) (lo_3_1 hy1) dX3_fillFrom_30 ?_
      refine mw_if_ne (tgt := 44) dX3_fillFrom_31 (by decide) ?_ ?_
      · refine mw_iconst (v := (1 : Int32)) dX3_fillFrom_34 (by decide) ?_
        refine mw_istore_n (lv' := [(2, .int (1 : Int32)), (0, .ref (X.2.1 y0)), (1, .ref (X.2.1 y1)), (3, .long y3), (5, .int y5)]) dX3_fillFrom_35 rfl (by decide) rfl ?_
        refine mw_aload_n 2 dX3_fillFrom_36 rfl rfl ?_
        refine gf_RX3_9 hy1 dX3_fillFrom_37 ?_
        refine mw_iload 4 dX3_fillFrom_40 rfl ?_
        refine mw_laload (ko_3_0 hy1) (lo_3_0 hy1) dX3_fillFrom_42 ?_
        refine mw_bndJ (fun x1 => ?_)
        refine mw_lstore_n (lv' := [(3, .long x1), (2, .int (1 : Int32)), (0, .ref (X.2.1 y0)), (1, .ref (X.2.1 y1)), (5, .int y5)]) dX3_fillFrom_43 rfl (by decide) rfl ?_
        exact mw_sub [2, 3, 1, 0, 4] rfl (w_X3_fillFrom_44 X l (f_X3_fillFrom_15 n) ih y0 y1 (1 : Int32) x1 y5 S hy0 hy1)
      · exact mw_sub [0, 1, 2, 3, 4] rfl (w_X3_fillFrom_44 X l (f_X3_fillFrom_15 n) ih y0 y1 y2 y3 y5 S hy0 hy1)
def f_X3_fillFrom (t : Nat) (p1 : Nat) (S : mM) : Option (Unit × mM) :=
  bnd (setI S t 2 (S.1 p1 2)) fun S1 =>
  f_X3_fillFrom_15 mFuel t p1 (0 : Int32) (0 : Int64) (0 : Int32) S1
set_option maxRecDepth 100000 in
set_option maxHeartbeats 4000000 in
theorem w_X3_fillFrom (X : mX) (l : Launch) (t : Nat) (p1 : Nat) (S : mM) (ht : mKind t = 3) (hp1 : mKind p1 = 3) : MW X viV rm_X3_fillFrom cX3_fillFrom RX3 6 none l S [(0, .ref (X.2.1 t)), (1, .ref (X.2.1 p1))] [] 0 (f_X3_fillFrom t p1 S) := by
  unfold f_X3_fillFrom
  refine mw_iconst (v := (0 : Int32)) dX3_fillFrom_0 (by decide) ?_
  refine mw_istore_n (lv' := [(2, .int (0 : Int32)), (0, .ref (X.2.1 t)), (1, .ref (X.2.1 p1))]) dX3_fillFrom_1 rfl (by decide) rfl ?_
  refine mw_lconst (v := (0 : Int64)) dX3_fillFrom_2 (by decide) ?_
  refine mw_lstore_n (lv' := [(3, .long (0 : Int64)), (2, .int (0 : Int32)), (0, .ref (X.2.1 t)), (1, .ref (X.2.1 p1))]) dX3_fillFrom_3 rfl (by decide) rfl ?_
  refine mw_aload_n 2 dX3_fillFrom_4 rfl rfl ?_
  refine mw_aload_n 3 dX3_fillFrom_5 rfl rfl ?_
  refine gf_RX3_25 hp1 dX3_fillFrom_6 ?_
  refine pf_RX3_25 ht dX3_fillFrom_9 ?_
  refine mw_bndS (fun S1 => ?_)
  refine mw_iconst (v := (0 : Int32)) dX3_fillFrom_12 (by decide) ?_
  refine mw_istore (lv' := [(5, .int (0 : Int32)), (3, .long (0 : Int64)), (2, .int (0 : Int32)), (0, .ref (X.2.1 t)), (1, .ref (X.2.1 p1))]) dX3_fillFrom_13 (by decide) rfl ?_
  exact mw_sub [3, 4, 2, 1, 0] rfl (w_X3_fillFrom_15 X l mFuel t p1 (0 : Int32) (0 : Int64) (0 : Int32) S1 ht hp1)
theorem t_X3_fillFrom (X : mX) (l : Launch) (t : Nat) (p1 : Nat) (S : mM) (ht : mKind t = 3) (hp1 : mKind p1 = 3) : mMet X viV yX3_fillFrom cX3_fillFrom 6 none rm_X3_fillFrom [.ref (X.2.1 t), .ref (X.2.1 p1)] l S (f_X3_fillFrom t p1 S) :=
  mMet_of (by decide +kernel) rfl (Nat.le_of_ble_eq_true rfl) (w_X3_fillFrom X l t p1 S ht hp1)
/-! TraceBench$Row.hasGap(II)Z -/
def f_X3_hasGap_6 (n : Nat) (y0 : Nat) (y2 : Int32) (y3 : Int32) (S : mM) : Option (Int32 × mM) := match n with
  | 0 => none
  | n + 1 =>
    if y2 < y3 then
      some ((0 : Int32), S)
    else
      if (S.1 y0 2) ≤ y3 then
        some ((0 : Int32), S)
      else
        if 0 ≤ y3 ∧ y3.toNatClampNeg < 201 then
        (if (S.1 (y0 + 2) y3.toNatClampNeg) = 0 then
          bnd (y3 + (1 : Int32)) fun x1 =>
          f_X3_hasGap_6 n y0 y2 x1 S
        else
          some ((1 : Int32), S))
        else none
set_option maxRecDepth 100000 in
set_option maxHeartbeats 4000000 in
theorem w_X3_hasGap_6 (X : mX) (l : Launch) (n : Nat) (y0 : Nat) (y2 : Int32) (y3 : Int32) (S : mM) (hy0 : mKind y0 = 3) : MW X viI rm_X3_hasGap cX3_hasGap RX3 4 (some .boolean) l S [(0, .ref (X.2.1 y0)), (2, .int y2), (3, .int y3)] [] 6 (f_X3_hasGap_6 n y0 y2 y3 S) := by
  induction n generalizing y0 y2 y3 S with
  | zero => exact mw_none
  | succ n ih =>
    unfold f_X3_hasGap_6
    refine mw_iload_n 2 dX3_hasGap_6 rfl rfl ?_
    refine mw_iload_n 1 dX3_hasGap_7 rfl rfl ?_
    refine mw_icmp_gt (tgt := 36) dX3_hasGap_8 (by decide) ?_ ?_
    · refine mw_iconst (v := (0 : Int32)) dX3_hasGap_36 (by decide) ?_
      exact mw_zret (by decide) dX3_hasGap_37
    · refine mw_iload_n 2 dX3_hasGap_11 rfl rfl ?_
      refine mw_aload_n 0 dX3_hasGap_12 rfl rfl ?_
      refine gf_RX3_25 hy0 dX3_hasGap_13 ?_
      refine mw_icmp_ge (tgt := 36) dX3_hasGap_16 (by decide) ?_ ?_
      · refine mw_iconst (v := (0 : Int32)) dX3_hasGap_36 (by decide) ?_
        exact mw_zret (by decide) dX3_hasGap_37
      · refine mw_aload_n 0 dX3_hasGap_19 rfl rfl ?_
        refine gf_RX3_15 hy0 dX3_hasGap_20 ?_
        refine mw_iload_n 2 dX3_hasGap_23 rfl rfl ?_
        refine mw_zaload (ko_3_1 hy0) (lo_3_1 hy0) dX3_hasGap_24 ?_
        refine mw_if_eq (tgt := 30) dX3_hasGap_25 (by decide) ?_ ?_
        · refine mw_iincB (lvf := fun x1 => [(3, .int x1), (0, .ref (X.2.1 y0)), (2, .int y2)]) (k := 2) dX3_hasGap_30 rfl (by decide) (by decide) (fun _ => rfl) (fun x1 => ?_)
          refine mw_goto (tgt := 6) dX3_hasGap_33 (by decide) ?_
          exact mw_sub [1, 2, 0] rfl (ih y0 y2 x1 S hy0)
        · refine mw_iconst (v := (1 : Int32)) dX3_hasGap_28 (by decide) ?_
          exact mw_zret (by decide) dX3_hasGap_29
def f_X3_hasGap (t : Nat) (p1 : Int32) (p2 : Int32) (S : mM) : Option (Int32 × mM) :=
  mBind (f_J9_max_7cf53 p1 (0 : Int32) S) fun r1 S2 =>
  f_X3_hasGap_6 mFuel t p2 r1 S2
set_option maxRecDepth 100000 in
set_option maxHeartbeats 4000000 in
theorem w_X3_hasGap (X : mX) (l : Launch) (t : Nat) (p1 : Int32) (p2 : Int32) (S : mM) (ht : mKind t = 3) : MW X viI rm_X3_hasGap cX3_hasGap RX3 4 (some .boolean) l S [(0, .ref (X.2.1 t)), (1, .int p1), (2, .int p2)] [] 0 (f_X3_hasGap t p1 p2 S) := by
  unfold f_X3_hasGap
  refine mw_iload_n 1 dX3_hasGap_0 rfl rfl ?_
  refine mw_iconst (v := (0 : Int32)) dX3_hasGap_1 (by decide) ?_
  refine mw_callS (t_J9_max_7cf53 X l p1 (0 : Int32) S) cd_J9_max_7cf53 lk_RX3_74 sn_J9_max_7cf53 in_RJ9 de_J9_max_7cf53 ⟨rfl, rfl⟩ ⟨Nat.le_of_ble_eq_true rfl, Nat.le_of_ble_eq_true rfl⟩ rfl rfl ⟨Nat.le_of_ble_eq_true rfl, Nat.le_of_ble_eq_true rfl⟩ (Nat.le_of_ble_eq_true rfl) dX3_hasGap_2 (fun r1 S2 => ?_)
  refine mw_eq (st' := [.int r1]) rfl rfl ?_
  refine mw_istore_n (lv' := [(3, .int r1), (0, .ref (X.2.1 t)), (1, .int p1), (2, .int p2)]) dX3_hasGap_5 rfl (by decide) rfl ?_
  exact mw_sub [1, 3, 0] rfl (w_X3_hasGap_6 X l mFuel t p2 r1 S2 ht)
theorem t_X3_hasGap (X : mX) (l : Launch) (t : Nat) (p1 : Int32) (p2 : Int32) (S : mM) (ht : mKind t = 3) : mMet X viI yX3_hasGap cX3_hasGap 4 (some .boolean) rm_X3_hasGap [.ref (X.2.1 t), .int p1, .int p2] l S (f_X3_hasGap t p1 p2 S) :=
  mMet_of (by decide +kernel) rfl (Nat.le_of_ble_eq_true rfl) (w_X3_hasGap X l t p1 p2 S ht)
/-! TraceBench$Row.leavesGap(III)Z -/
def f_X3_leavesGap (t : Nat) (p1 : Int32) (p2 : Int32) (p3 : Int32) (S : mM) : Option (Int32 × mM) :=
  if p1 = (3 : Int32) then
    if ((p2 - p3) + (1 : Int32)) < 0 then
      some ((1 : Int32), S)
    else
      mBind (f_X3_hasGap t ((p2 - p3) + (1 : Int32)) p2 S) fun r2 S3 =>
      if r2 = 0 then
        some ((0 : Int32), S3)
      else
        some ((1 : Int32), S3)
  else
    if p1 = (4 : Int32) then
      if (p2 - p3) < 0 then
        some ((1 : Int32), S)
      else
        if 0 ≤ p2 ∧ p2.toNatClampNeg < 201 then
        (if (S.1 (t + 2) p2.toNatClampNeg) = 0 then
          if 0 ≤ (p2 - p3) ∧ (p2 - p3).toNatClampNeg < 201 then
          (if (S.1 (t + 2) (p2 - p3).toNatClampNeg) = 0 then
            some ((0 : Int32), S)
          else
            some ((1 : Int32), S))
          else none
        else
          some ((1 : Int32), S))
        else none
    else
      if p1 = (5 : Int32) then
        if 0 ≤ p2 ∧ p2.toNatClampNeg < 201 then
        (if (S.1 (t + 2) p2.toNatClampNeg) = 0 then
          if 0 ≤ p2 ∧ p2.toNatClampNeg < 201 then
          (if 0 ≤ (lg_cmp (S.2.1 (t + 1) p2.toNatClampNeg) p3.toInt64) then
            some ((0 : Int32), S)
          else
            some ((1 : Int32), S))
          else none
        else
          some ((1 : Int32), S))
        else none
      else
        if 0 ≤ p2 ∧ p2.toNatClampNeg < 201 then
        (if (S.1 (t + 2) p2.toNatClampNeg) = 0 ∨ (S.1 (t + 2) p2.toNatClampNeg) = 1 then some ((S.1 (t + 2) p2.toNatClampNeg), S) else none)
        else none
set_option maxRecDepth 100000 in
set_option maxHeartbeats 4000000 in
theorem w_X3_leavesGap (X : mX) (l : Launch) (t : Nat) (p1 : Int32) (p2 : Int32) (p3 : Int32) (S : mM) (ht : mKind t = 3) : MW X viI rm_X3_leavesGap cX3_leavesGap RX3 4 (some .boolean) l S [(0, .ref (X.2.1 t)), (1, .int p1), (2, .int p2), (3, .int p3)] [] 0 (f_X3_leavesGap t p1 p2 p3 S) := by
  unfold f_X3_leavesGap
  refine mw_iload_n 1 dX3_leavesGap_0 rfl rfl ?_
  refine mw_ite (fun h1 => ?_) (fun h1 => ?_)
  · refine mw_tab (tgt := 28) h1 dX3_leavesGap_1 (by decide) (by decide) rfl (by decide) ?_
    refine mw_iload_n 2 dX3_leavesGap_28 rfl rfl ?_
    refine mw_iload_n 3 dX3_leavesGap_29 rfl rfl ?_
    refine mw_isub dX3_leavesGap_30 ?_
    refine mw_iconst (v := (1 : Int32)) dX3_leavesGap_31 (by decide) ?_
    refine mw_iadd dX3_leavesGap_32 ?_
    refine mw_if_lt (tgt := 49) dX3_leavesGap_33 (by decide) ?_ ?_
    · refine mw_iconst (v := (1 : Int32)) dX3_leavesGap_49 (by decide) ?_
      refine mw_goto (tgt := 54) dX3_leavesGap_50 (by decide) ?_
      exact mw_zret (by decide) dX3_leavesGap_54
    · refine mw_aload_n 0 dX3_leavesGap_36 rfl rfl ?_
      refine mw_iload_n 2 dX3_leavesGap_37 rfl rfl ?_
      refine mw_iload_n 3 dX3_leavesGap_38 rfl rfl ?_
      refine mw_isub dX3_leavesGap_39 ?_
      refine mw_iconst (v := (1 : Int32)) dX3_leavesGap_40 (by decide) ?_
      refine mw_iadd dX3_leavesGap_41 ?_
      refine mw_iload_n 2 dX3_leavesGap_42 rfl rfl ?_
      refine mw_callV (t_X3_hasGap X l t ((p2 - p3) + (1 : Int32)) p2 S ht) cd_X3_hasGap lk_RX3_62 im_X3_hasGap se_X3_hasGap in_RX3 de_X3_hasGap ⟨rfl, rfl⟩ ⟨Nat.le_of_ble_eq_true rfl, Nat.le_of_ble_eq_true rfl⟩ (mKind_lt ht (by decide)) (mCell_k ht) rfl rfl rfl rfl ⟨Nat.le_of_ble_eq_true rfl, Nat.le_of_ble_eq_true rfl⟩ (Nat.le_of_ble_eq_true rfl) dX3_leavesGap_43 (fun r2 S3 => ?_)
      refine mw_eq (st' := [.int r2]) rfl rfl ?_
      refine mw_if_eq (tgt := 53) dX3_leavesGap_46 (by decide) ?_ ?_
      · refine mw_iconst (v := (0 : Int32)) dX3_leavesGap_53 (by decide) ?_
        exact mw_zret (by decide) dX3_leavesGap_54
      · refine mw_iconst (v := (1 : Int32)) dX3_leavesGap_49 (by decide) ?_
        refine mw_goto (tgt := 54) dX3_leavesGap_50 (by decide) ?_
        exact mw_zret (by decide) dX3_leavesGap_54
  · refine mw_ite (fun h4 => ?_) (fun h4 => ?_)
    · refine mw_tab (tgt := 55) h4 dX3_leavesGap_1 (by decide) (by decide) rfl (by decide) ?_
      refine mw_iload_n 2 dX3_leavesGap_55 rfl rfl ?_
      refine mw_iload_n 3 dX3_leavesGap_56 rfl rfl ?_
      refine mw_isub dX3_leavesGap_57 ?_
      refine mw_if_lt (tgt := 81) dX3_leavesGap_58 (by decide) ?_ ?_
      · refine mw_iconst (v := (1 : Int32)) dX3_leavesGap_81 (by decide) ?_
        refine mw_goto (tgt := 86) dX3_leavesGap_82 (by decide) ?_
        exact mw_zret (by decide) dX3_leavesGap_86
      · refine mw_aload_n 0 dX3_leavesGap_61 rfl rfl ?_
        refine gf_RX3_15 ht dX3_leavesGap_62 ?_
        refine mw_iload_n 2 dX3_leavesGap_65 rfl rfl ?_
        refine mw_zaload (ko_3_1 ht) (lo_3_1 ht) dX3_leavesGap_66 ?_
        refine mw_if_ne (tgt := 81) dX3_leavesGap_67 (by decide) ?_ ?_
        · refine mw_aload_n 0 dX3_leavesGap_70 rfl rfl ?_
          refine gf_RX3_15 ht dX3_leavesGap_71 ?_
          refine mw_iload_n 2 dX3_leavesGap_74 rfl rfl ?_
          refine mw_iload_n 3 dX3_leavesGap_75 rfl rfl ?_
          refine mw_isub dX3_leavesGap_76 ?_
          refine mw_zaload (ko_3_1 ht) (lo_3_1 ht) dX3_leavesGap_77 ?_
          refine mw_if_eq (tgt := 85) dX3_leavesGap_78 (by decide) ?_ ?_
          · refine mw_iconst (v := (0 : Int32)) dX3_leavesGap_85 (by decide) ?_
            exact mw_zret (by decide) dX3_leavesGap_86
          · refine mw_iconst (v := (1 : Int32)) dX3_leavesGap_81 (by decide) ?_
            refine mw_goto (tgt := 86) dX3_leavesGap_82 (by decide) ?_
            exact mw_zret (by decide) dX3_leavesGap_86
        · refine mw_iconst (v := (1 : Int32)) dX3_leavesGap_81 (by decide) ?_
          refine mw_goto (tgt := 86) dX3_leavesGap_82 (by decide) ?_
          exact mw_zret (by decide) dX3_leavesGap_86
    · refine mw_ite (fun h5 => ?_) (fun h5 => ?_)
      · refine mw_tab (tgt := 87) h5 dX3_leavesGap_1 (by decide) (by decide) rfl (by decide) ?_
        refine mw_aload_n 0 dX3_leavesGap_87 rfl rfl ?_
        refine gf_RX3_15 ht dX3_leavesGap_88 ?_
        refine mw_iload_n 2 dX3_leavesGap_91 rfl rfl ?_
        refine mw_zaload (ko_3_1 ht) (lo_3_1 ht) dX3_leavesGap_92 ?_
        refine mw_if_ne (tgt := 108) dX3_leavesGap_93 (by decide) ?_ ?_
        · refine mw_aload_n 0 dX3_leavesGap_96 rfl rfl ?_
          refine gf_RX3_9 ht dX3_leavesGap_97 ?_
          refine mw_iload_n 2 dX3_leavesGap_100 rfl rfl ?_
          refine mw_laload (ko_3_0 ht) (lo_3_0 ht) dX3_leavesGap_101 ?_
          refine mw_iload_n 3 dX3_leavesGap_102 rfl rfl ?_
          refine mw_i2l dX3_leavesGap_103 ?_
          refine mw_lcmp dX3_leavesGap_104 ?_
          refine mw_if_ge (tgt := 112) dX3_leavesGap_105 (by decide) ?_ ?_
          · refine mw_iconst (v := (0 : Int32)) dX3_leavesGap_112 (by decide) ?_
            exact mw_zret (by decide) dX3_leavesGap_113
          · refine mw_iconst (v := (1 : Int32)) dX3_leavesGap_108 (by decide) ?_
            refine mw_goto (tgt := 113) dX3_leavesGap_109 (by decide) ?_
            exact mw_zret (by decide) dX3_leavesGap_113
        · refine mw_iconst (v := (1 : Int32)) dX3_leavesGap_108 (by decide) ?_
          refine mw_goto (tgt := 113) dX3_leavesGap_109 (by decide) ?_
          exact mw_zret (by decide) dX3_leavesGap_113
      · refine mw_tabD (tgt := 114) dX3_leavesGap_1 (by have eh1 : ¬ p1.toInt = 3 := fun q => h1 (Int32.toInt_inj.mp (q.trans (by decide))); have eh4 : ¬ p1.toInt = 4 := fun q => h4 (Int32.toInt_inj.mp (q.trans (by decide))); have eh5 : ¬ p1.toInt = 5 := fun q => h5 (Int32.toInt_inj.mp (q.trans (by decide))); omega) (by decide) ?_
        refine mw_aload_n 0 dX3_leavesGap_114 rfl rfl ?_
        refine gf_RX3_15 ht dX3_leavesGap_115 ?_
        refine mw_iload_n 2 dX3_leavesGap_118 rfl rfl ?_
        refine mw_zaload (ko_3_1 ht) (lo_3_1 ht) dX3_leavesGap_119 ?_
        exact mw_zreturn dX3_leavesGap_120
theorem t_X3_leavesGap (X : mX) (l : Launch) (t : Nat) (p1 : Int32) (p2 : Int32) (p3 : Int32) (S : mM) (ht : mKind t = 3) : mMet X viI yX3_leavesGap cX3_leavesGap 4 (some .boolean) rm_X3_leavesGap [.ref (X.2.1 t), .int p1, .int p2, .int p3] l S (f_X3_leavesGap t p1 p2 p3 S) :=
  mMet_of (by decide +kernel) rfl (Nat.le_of_ble_eq_true rfl) (w_X3_leavesGap X l t p1 p2 p3 S ht)
/-! TraceBench$Row.sum(II)J -/
def f_X3_sum_9 (n : Nat) (y0 : Nat) (y2 : Int32) (y3 : Int64) (y5 : Int32) (S : mM) : Option (Int64 × mM) := match n with
  | 0 => none
  | n + 1 =>
    if y2 < y5 then
      some (y3, S)
    else
      if (S.1 y0 2) ≤ y5 then
        some (y3, S)
      else
        if 0 ≤ y5 ∧ y5.toNatClampNeg < 201 then
        (bnd (y3 + (S.2.1 (y0 + 1) y5.toNatClampNeg)) fun x1 =>
        bnd (y5 + (1 : Int32)) fun x2 =>
        f_X3_sum_9 n y0 y2 x1 x2 S)
        else none
set_option maxRecDepth 100000 in
set_option maxHeartbeats 4000000 in
theorem w_X3_sum_9 (X : mX) (l : Launch) (n : Nat) (y0 : Nat) (y2 : Int32) (y3 : Int64) (y5 : Int32) (S : mM) (hy0 : mKind y0 = 3) : MW X viJ rm_X3_sum cX3_sum RX3 6 (some .long) l S [(0, .ref (X.2.1 y0)), (2, .int y2), (3, .long y3), (5, .int y5)] [] 9 (f_X3_sum_9 n y0 y2 y3 y5 S) := by
  induction n generalizing y0 y2 y3 y5 S with
  | zero => exact mw_none
  | succ n ih =>
    unfold f_X3_sum_9
    refine mw_iload 3 dX3_sum_9 rfl ?_
    refine mw_iload_n 1 dX3_sum_11 rfl rfl ?_
    refine mw_icmp_gt (tgt := 40) dX3_sum_12 (by decide) ?_ ?_
    · refine mw_lload_n 2 dX3_sum_40 rfl rfl ?_
      exact mw_lreturn dX3_sum_41
    · refine mw_iload 3 dX3_sum_15 rfl ?_
      refine mw_aload_n 0 dX3_sum_17 rfl rfl ?_
      refine gf_RX3_25 hy0 dX3_sum_18 ?_
      refine mw_icmp_ge (tgt := 40) dX3_sum_21 (by decide) ?_ ?_
      · refine mw_lload_n 2 dX3_sum_40 rfl rfl ?_
        exact mw_lreturn dX3_sum_41
      · refine mw_lload_n 2 dX3_sum_24 rfl rfl ?_
        refine mw_aload_n 0 dX3_sum_25 rfl rfl ?_
        refine gf_RX3_9 hy0 dX3_sum_26 ?_
        refine mw_iload 3 dX3_sum_29 rfl ?_
        refine mw_laload (ko_3_0 hy0) (lo_3_0 hy0) dX3_sum_31 ?_
        refine mw_ladd dX3_sum_32 ?_
        refine mw_bndJ (fun x1 => ?_)
        refine mw_lstore_n (lv' := [(3, .long x1), (0, .ref (X.2.1 y0)), (2, .int y2), (5, .int y5)]) dX3_sum_33 rfl (by decide) rfl ?_
        refine mw_iincB (lvf := fun x2 => [(5, .int x2), (3, .long x1), (0, .ref (X.2.1 y0)), (2, .int y2)]) (k := 3) dX3_sum_34 rfl (by decide) (by decide) (fun _ => rfl) (fun x2 => ?_)
        refine mw_goto (tgt := 9) dX3_sum_37 (by decide) ?_
        exact mw_sub [2, 3, 1, 0] rfl (ih y0 y2 x1 x2 S hy0)
def f_X3_sum (t : Nat) (p1 : Int32) (p2 : Int32) (S : mM) : Option (Int64 × mM) :=
  mBind (f_J9_max_7cf53 p1 (0 : Int32) S) fun r1 S2 =>
  f_X3_sum_9 mFuel t p2 (0 : Int64) r1 S2
set_option maxRecDepth 100000 in
set_option maxHeartbeats 4000000 in
theorem w_X3_sum (X : mX) (l : Launch) (t : Nat) (p1 : Int32) (p2 : Int32) (S : mM) (ht : mKind t = 3) : MW X viJ rm_X3_sum cX3_sum RX3 6 (some .long) l S [(0, .ref (X.2.1 t)), (1, .int p1), (2, .int p2)] [] 0 (f_X3_sum t p1 p2 S) := by
  unfold f_X3_sum
  refine mw_lconst (v := (0 : Int64)) dX3_sum_0 (by decide) ?_
  refine mw_lstore_n (lv' := [(3, .long (0 : Int64)), (0, .ref (X.2.1 t)), (1, .int p1), (2, .int p2)]) dX3_sum_1 rfl (by decide) rfl ?_
  refine mw_iload_n 2 dX3_sum_2 rfl rfl ?_
  refine mw_iconst (v := (0 : Int32)) dX3_sum_3 (by decide) ?_
  refine mw_callS (t_J9_max_7cf53 X l p1 (0 : Int32) S) cd_J9_max_7cf53 lk_RX3_74 sn_J9_max_7cf53 in_RJ9 de_J9_max_7cf53 ⟨rfl, rfl⟩ ⟨Nat.le_of_ble_eq_true rfl, Nat.le_of_ble_eq_true rfl⟩ rfl rfl ⟨Nat.le_of_ble_eq_true rfl, Nat.le_of_ble_eq_true rfl⟩ (Nat.le_of_ble_eq_true rfl) dX3_sum_4 (fun r1 S2 => ?_)
  refine mw_eq (st' := [.int r1]) rfl rfl ?_
  refine mw_istore (lv' := [(5, .int r1), (3, .long (0 : Int64)), (0, .ref (X.2.1 t)), (1, .int p1), (2, .int p2)]) dX3_sum_7 (by decide) rfl ?_
  exact mw_sub [2, 4, 1, 0] rfl (w_X3_sum_9 X l mFuel t p2 (0 : Int64) r1 S2 ht)
theorem t_X3_sum (X : mX) (l : Launch) (t : Nat) (p1 : Int32) (p2 : Int32) (S : mM) (ht : mKind t = 3) : mMet X viJ yX3_sum cX3_sum 6 (some .long) rm_X3_sum [.ref (X.2.1 t), .int p1, .int p2] l S (f_X3_sum t p1 p2 S) :=
  mMet_of (by decide +kernel) rfl (Nat.le_of_ble_eq_true rfl) (w_X3_sum X l t p1 p2 S ht)
/-! TraceBench$Row.reckoned(III)J -/
def f_X3_reckoned (t : Nat) (p1 : Int32) (p2 : Int32) (p3 : Int32) (S : mM) : Option (Int64 × mM) :=
  if p1 = (3 : Int32) then
    mBind (f_X3_sum t ((p2 - p3) + (1 : Int32)) p2 S) fun r2 S3 =>
    some (r2, S3)
  else
    if p1 = (4 : Int32) then
      if 0 ≤ p2 ∧ p2.toNatClampNeg < 201 then
      (mBind (f_X3_valueAt t (p2 - p3) S) fun r5 S6 =>
      some (((S.2.1 (t + 1) p2.toNatClampNeg) - r5), S6))
      else none
    else
      if p1 = (5 : Int32) then
        if 0 ≤ p2 ∧ p2.toNatClampNeg < 201 then
        (some ((S.2.1 (t + 1) p2.toNatClampNeg), S))
        else none
      else
        if 0 ≤ p2 ∧ p2.toNatClampNeg < 201 then
        (some ((p3.toInt64 * (S.2.1 (t + 1) p2.toNatClampNeg)), S))
        else none
set_option maxRecDepth 100000 in
set_option maxHeartbeats 4000000 in
theorem w_X3_reckoned (X : mX) (l : Launch) (t : Nat) (p1 : Int32) (p2 : Int32) (p3 : Int32) (S : mM) (ht : mKind t = 3) : MW X viJ rm_X3_reckoned cX3_reckoned RX3 4 (some .long) l S [(0, .ref (X.2.1 t)), (1, .int p1), (2, .int p2), (3, .int p3)] [] 0 (f_X3_reckoned t p1 p2 p3 S) := by
  unfold f_X3_reckoned
  refine mw_iload_n 1 dX3_reckoned_0 rfl rfl ?_
  refine mw_ite (fun h1 => ?_) (fun h1 => ?_)
  · refine mw_tab (tgt := 28) h1 dX3_reckoned_1 (by decide) (by decide) rfl (by decide) ?_
    refine mw_aload_n 0 dX3_reckoned_28 rfl rfl ?_
    refine mw_iload_n 2 dX3_reckoned_29 rfl rfl ?_
    refine mw_iload_n 3 dX3_reckoned_30 rfl rfl ?_
    refine mw_isub dX3_reckoned_31 ?_
    refine mw_iconst (v := (1 : Int32)) dX3_reckoned_32 (by decide) ?_
    refine mw_iadd dX3_reckoned_33 ?_
    refine mw_iload_n 2 dX3_reckoned_34 rfl rfl ?_
    refine mw_callV (t_X3_sum X l t ((p2 - p3) + (1 : Int32)) p2 S ht) cd_X3_sum lk_RX3_66 im_X3_sum se_X3_sum in_RX3 de_X3_sum ⟨rfl, rfl⟩ ⟨Nat.le_of_ble_eq_true rfl, Nat.le_of_ble_eq_true rfl⟩ (mKind_lt ht (by decide)) (mCell_k ht) rfl rfl rfl rfl ⟨Nat.le_of_ble_eq_true rfl, Nat.le_of_ble_eq_true rfl⟩ (Nat.le_of_ble_eq_true rfl) dX3_reckoned_35 (fun r2 S3 => ?_)
    refine mw_eq (st' := [.long r2]) rfl rfl ?_
    exact mw_lreturn dX3_reckoned_38
  · refine mw_ite (fun h4 => ?_) (fun h4 => ?_)
    · refine mw_tab (tgt := 39) h4 dX3_reckoned_1 (by decide) (by decide) rfl (by decide) ?_
      refine mw_aload_n 0 dX3_reckoned_39 rfl rfl ?_
      refine gf_RX3_9 ht dX3_reckoned_40 ?_
      refine mw_iload_n 2 dX3_reckoned_43 rfl rfl ?_
      refine mw_laload (ko_3_0 ht) (lo_3_0 ht) dX3_reckoned_44 ?_
      refine mw_aload_n 0 dX3_reckoned_45 rfl rfl ?_
      refine mw_iload_n 2 dX3_reckoned_46 rfl rfl ?_
      refine mw_iload_n 3 dX3_reckoned_47 rfl rfl ?_
      refine mw_isub dX3_reckoned_48 ?_
      refine mw_callV (t_X3_valueAt X l t (p2 - p3) S ht) cd_X3_valueAt lk_RX3_70 im_X3_valueAt se_X3_valueAt in_RX3 de_X3_valueAt ⟨rfl, rfl⟩ ⟨Nat.le_of_ble_eq_true rfl, Nat.le_of_ble_eq_true rfl⟩ (mKind_lt ht (by decide)) (mCell_k ht) rfl rfl rfl rfl ⟨Nat.le_of_ble_eq_true rfl, Nat.le_of_ble_eq_true rfl⟩ (Nat.le_of_ble_eq_true rfl) dX3_reckoned_49 (fun r5 S6 => ?_)
      refine mw_eq (st' := [.long r5, .long (S.2.1 (t + 1) p2.toNatClampNeg)]) rfl rfl ?_
      refine mw_lsub dX3_reckoned_52 ?_
      exact mw_lreturn dX3_reckoned_53
    · refine mw_ite (fun h7 => ?_) (fun h7 => ?_)
      · refine mw_tab (tgt := 54) h7 dX3_reckoned_1 (by decide) (by decide) rfl (by decide) ?_
        refine mw_aload_n 0 dX3_reckoned_54 rfl rfl ?_
        refine gf_RX3_9 ht dX3_reckoned_55 ?_
        refine mw_iload_n 2 dX3_reckoned_58 rfl rfl ?_
        refine mw_laload (ko_3_0 ht) (lo_3_0 ht) dX3_reckoned_59 ?_
        exact mw_lreturn dX3_reckoned_60
      · refine mw_tabD (tgt := 61) dX3_reckoned_1 (by have eh1 : ¬ p1.toInt = 3 := fun q => h1 (Int32.toInt_inj.mp (q.trans (by decide))); have eh4 : ¬ p1.toInt = 4 := fun q => h4 (Int32.toInt_inj.mp (q.trans (by decide))); have eh7 : ¬ p1.toInt = 5 := fun q => h7 (Int32.toInt_inj.mp (q.trans (by decide))); omega) (by decide) ?_
        refine mw_iload_n 3 dX3_reckoned_61 rfl rfl ?_
        refine mw_i2l dX3_reckoned_62 ?_
        refine mw_aload_n 0 dX3_reckoned_63 rfl rfl ?_
        refine gf_RX3_9 ht dX3_reckoned_64 ?_
        refine mw_iload_n 2 dX3_reckoned_67 rfl rfl ?_
        refine mw_laload (ko_3_0 ht) (lo_3_0 ht) dX3_reckoned_68 ?_
        refine mw_lmul dX3_reckoned_69 ?_
        exact mw_lreturn dX3_reckoned_70
theorem t_X3_reckoned (X : mX) (l : Launch) (t : Nat) (p1 : Int32) (p2 : Int32) (p3 : Int32) (S : mM) (ht : mKind t = 3) : mMet X viJ yX3_reckoned cX3_reckoned 4 (some .long) rm_X3_reckoned [.ref (X.2.1 t), .int p1, .int p2, .int p3] l S (f_X3_reckoned t p1 p2 p3 S) :=
  mMet_of (by decide +kernel) rfl (Nat.le_of_ble_eq_true rfl) (w_X3_reckoned X l t p1 p2 p3 S ht)
/-! TraceBench$Row.reckonOne(ILTraceBench$Row;I)V -/
def f_X3_reckonOne_28 (n : Nat) (y0 : Nat) (y1 : Int32) (y2 : Nat) (y3 : Int32) (y4 : Int32) (S : mM) : Option (Unit × mM) := match n with
  | 0 => none
  | n + 1 =>
    if y4 < 0 then
      some ((), S)
    else
      mBind (f_X3_leavesGap y2 y1 y4 y3 S) fun r1 S2 =>
      if r1 = 0 then
        mBind (f_X3_reckoned y2 y1 y4 y3 S2) fun r3 S4 =>
        mBind (f_X3_put y0 y4 r3 S4) fun r5 S6 =>
        bnd (y4 + (-1 : Int32)) fun x7 =>
        f_X3_reckonOne_28 n y0 y1 y2 y3 x7 S6
      else
        mBind (f_X3_putGap y0 y4 S2) fun r8 S9 =>
        bnd (y4 + (-1 : Int32)) fun x10 =>
        f_X3_reckonOne_28 n y0 y1 y2 y3 x10 S9
set_option maxRecDepth 100000 in
set_option maxHeartbeats 4000000 in
theorem w_X3_reckonOne_28 (X : mX) (l : Launch) (n : Nat) (y0 : Nat) (y1 : Int32) (y2 : Nat) (y3 : Int32) (y4 : Int32) (S : mM) (hy0 : mKind y0 = 3) (hy2 : mKind y2 = 3) : MW X viV rm_X3_reckonOne cX3_reckonOne RX3 5 none l S [(0, .ref (X.2.1 y0)), (1, .int y1), (2, .ref (X.2.1 y2)), (3, .int y3), (4, .int y4)] [] 28 (f_X3_reckonOne_28 n y0 y1 y2 y3 y4 S) := by
  induction n generalizing y0 y1 y2 y3 y4 S with
  | zero => exact mw_none
  | succ n ih =>
    unfold f_X3_reckonOne_28
    refine mw_iload 4 dX3_reckonOne_28 rfl ?_
    refine mw_if_lt (tgt := 73) dX3_reckonOne_30 (by decide) ?_ ?_
    · exact mw_return dX3_reckonOne_73
    · refine mw_aload_n 2 dX3_reckonOne_33 rfl rfl ?_
      refine mw_iload_n 1 dX3_reckonOne_34 rfl rfl ?_
      refine mw_iload 4 dX3_reckonOne_35 rfl ?_
      refine mw_iload_n 3 dX3_reckonOne_37 rfl rfl ?_
      refine mw_callV (t_X3_leavesGap X l y2 y1 y4 y3 S hy2) cd_X3_leavesGap lk_RX3_55 im_X3_leavesGap se_X3_leavesGap in_RX3 de_X3_leavesGap ⟨rfl, rfl⟩ ⟨Nat.le_of_ble_eq_true rfl, Nat.le_of_ble_eq_true rfl⟩ (mKind_lt hy2 (by decide)) (mCell_k hy2) rfl rfl rfl rfl ⟨Nat.le_of_ble_eq_true rfl, Nat.le_of_ble_eq_true rfl⟩ (Nat.le_of_ble_eq_true rfl) dX3_reckonOne_38 (fun r1 S2 => ?_)
      refine mw_eq (st' := [.int r1]) rfl rfl ?_
      refine mw_if_eq (tgt := 53) dX3_reckonOne_41 (by decide) ?_ ?_
      · refine mw_aload_n 0 dX3_reckonOne_53 rfl rfl ?_
        refine mw_iload 4 dX3_reckonOne_54 rfl ?_
        refine mw_aload_n 2 dX3_reckonOne_56 rfl rfl ?_
        refine mw_iload_n 1 dX3_reckonOne_57 rfl rfl ?_
        refine mw_iload 4 dX3_reckonOne_58 rfl ?_
        refine mw_iload_n 3 dX3_reckonOne_60 rfl rfl ?_
        refine mw_callV (t_X3_reckoned X l y2 y1 y4 y3 S2 hy2) cd_X3_reckoned lk_RX3_58 im_X3_reckoned se_X3_reckoned in_RX3 de_X3_reckoned ⟨rfl, rfl⟩ ⟨Nat.le_of_ble_eq_true rfl, Nat.le_of_ble_eq_true rfl⟩ (mKind_lt hy2 (by decide)) (mCell_k hy2) rfl rfl rfl rfl ⟨Nat.le_of_ble_eq_true rfl, Nat.le_of_ble_eq_true rfl⟩ (Nat.le_of_ble_eq_true rfl) dX3_reckonOne_61 (fun r3 S4 => ?_)
        refine mw_eq (st' := [.long r3, .int y4, .ref (X.2.1 y0)]) rfl rfl ?_
        refine mw_callV (t_X3_put X l y0 y4 r3 S4 hy0) cd_X3_put lk_RX3_30 im_X3_put se_X3_put in_RX3 de_X3_put ⟨rfl, rfl⟩ ⟨Nat.le_of_ble_eq_true rfl, Nat.le_of_ble_eq_true rfl⟩ (mKind_lt hy0 (by decide)) (mCell_k hy0) rfl rfl rfl rfl ⟨Nat.le_of_ble_eq_true rfl, Nat.le_of_ble_eq_true rfl⟩ (Nat.le_of_ble_eq_true rfl) dX3_reckonOne_64 (fun r5 S6 => ?_)
        refine mw_eq (st' := []) rfl rfl ?_
        refine mw_iincB (lvf := fun x7 => [(4, .int x7), (0, .ref (X.2.1 y0)), (1, .int y1), (2, .ref (X.2.1 y2)), (3, .int y3)]) (k := 4) dX3_reckonOne_67 rfl (by decide) (by decide) (fun _ => rfl) (fun x7 => ?_)
        refine mw_goto (tgt := 28) dX3_reckonOne_70 (by decide) ?_
        exact mw_sub [1, 2, 3, 4, 0] rfl (ih y0 y1 y2 y3 x7 S6 hy0 hy2)
      · refine mw_aload_n 0 dX3_reckonOne_44 rfl rfl ?_
        refine mw_iload 4 dX3_reckonOne_45 rfl ?_
        refine mw_callV (t_X3_putGap X l y0 y4 S2 hy0) cd_X3_putGap lk_RX3_43 im_X3_putGap se_X3_putGap in_RX3 de_X3_putGap ⟨rfl, rfl⟩ ⟨Nat.le_of_ble_eq_true rfl, Nat.le_of_ble_eq_true rfl⟩ (mKind_lt hy0 (by decide)) (mCell_k hy0) rfl rfl rfl rfl ⟨Nat.le_of_ble_eq_true rfl, Nat.le_of_ble_eq_true rfl⟩ (Nat.le_of_ble_eq_true rfl) dX3_reckonOne_47 (fun r8 S9 => ?_)
        refine mw_eq (st' := []) rfl rfl ?_
        refine mw_goto (tgt := 67) dX3_reckonOne_50 (by decide) ?_
        refine mw_iincB (lvf := fun x10 => [(4, .int x10), (0, .ref (X.2.1 y0)), (1, .int y1), (2, .ref (X.2.1 y2)), (3, .int y3)]) (k := 4) dX3_reckonOne_67 rfl (by decide) (by decide) (fun _ => rfl) (fun x10 => ?_)
        refine mw_goto (tgt := 28) dX3_reckonOne_70 (by decide) ?_
        exact mw_sub [1, 2, 3, 4, 0] rfl (ih y0 y1 y2 y3 x10 S9 hy0 hy2)
def f_X3_reckonOne (t : Nat) (p1 : Int32) (p2 : Nat) (p3 : Int32) (S : mM) : Option (Unit × mM) :=
  if p1 = (6 : Int32) then
    mBind (f_X3_fillFrom t p2 S) fun r1 S2 =>
    some ((), S2)
  else
    bnd (setI S t 2 (S.1 p2 2)) fun S3 =>
    bnd ((S3.1 t 2) - (1 : Int32)) fun x4 =>
    f_X3_reckonOne_28 mFuel t p1 p2 p3 x4 S3
set_option maxRecDepth 100000 in
set_option maxHeartbeats 4000000 in
theorem w_X3_reckonOne (X : mX) (l : Launch) (t : Nat) (p1 : Int32) (p2 : Nat) (p3 : Int32) (S : mM) (ht : mKind t = 3) (hp2 : mKind p2 = 3) : MW X viV rm_X3_reckonOne cX3_reckonOne RX3 5 none l S [(0, .ref (X.2.1 t)), (1, .int p1), (2, .ref (X.2.1 p2)), (3, .int p3)] [] 0 (f_X3_reckonOne t p1 p2 p3 S) := by
  unfold f_X3_reckonOne
  refine mw_iload_n 1 dX3_reckonOne_0 rfl rfl ?_
  refine mw_bipush (v := (6 : Int32)) dX3_reckonOne_1 (by decide) ?_
  refine mw_icmp_ne (tgt := 12) dX3_reckonOne_3 (by decide) ?_ ?_
  · refine mw_aload_n 0 dX3_reckonOne_6 rfl rfl ?_
    refine mw_aload_n 2 dX3_reckonOne_7 rfl rfl ?_
    refine mw_callV (t_X3_fillFrom X l t p2 S ht hp2) cd_X3_fillFrom lk_RX3_51 im_X3_fillFrom se_X3_fillFrom in_RX3 de_X3_fillFrom ⟨rfl, rfl⟩ ⟨Nat.le_of_ble_eq_true rfl, Nat.le_of_ble_eq_true rfl⟩ (mKind_lt ht (by decide)) (mCell_k ht) rfl rfl rfl rfl ⟨Nat.le_of_ble_eq_true rfl, Nat.le_of_ble_eq_true rfl⟩ (Nat.le_of_ble_eq_true rfl) dX3_reckonOne_8 (fun r1 S2 => ?_)
    refine mw_eq (st' := []) rfl rfl ?_
    exact mw_return dX3_reckonOne_11
  · refine mw_aload_n 0 dX3_reckonOne_12 rfl rfl ?_
    refine mw_aload_n 2 dX3_reckonOne_13 rfl rfl ?_
    refine gf_RX3_25 hp2 dX3_reckonOne_14 ?_
    refine pf_RX3_25 ht dX3_reckonOne_17 ?_
    refine mw_bndS (fun S3 => ?_)
    refine mw_aload_n 0 dX3_reckonOne_20 rfl rfl ?_
    refine gf_RX3_25 ht dX3_reckonOne_21 ?_
    refine mw_iconst (v := (1 : Int32)) dX3_reckonOne_24 (by decide) ?_
    refine mw_isub dX3_reckonOne_25 ?_
    refine mw_bndI (fun x4 => ?_)
    refine mw_istore (lv' := [(4, .int x4), (0, .ref (X.2.1 t)), (1, .int p1), (2, .ref (X.2.1 p2)), (3, .int p3)]) dX3_reckonOne_26 (by decide) rfl ?_
    exact mw_sub [1, 2, 3, 4, 0] rfl (w_X3_reckonOne_28 X l mFuel t p1 p2 p3 x4 S3 ht hp2)
theorem t_X3_reckonOne (X : mX) (l : Launch) (t : Nat) (p1 : Int32) (p2 : Nat) (p3 : Int32) (S : mM) (ht : mKind t = 3) (hp2 : mKind p2 = 3) : mMet X viV yX3_reckonOne cX3_reckonOne 5 none rm_X3_reckonOne [.ref (X.2.1 t), .int p1, .ref (X.2.1 p2), .int p3] l S (f_X3_reckonOne t p1 p2 p3 S) :=
  mMet_of (by decide +kernel) rfl (Nat.le_of_ble_eq_true rfl) (w_X3_reckonOne X l t p1 p2 p3 S ht hp2)
/-! TraceBench$Row.joined(IJJ)J -/
def f_X3_joined (p0 : Int32) (p1 : Int64) (p3 : Int64) (S : mM) : Option (Int64 × mM) :=
  if p0 = (0 : Int32) then
    some ((p1 + p3), S)
  else
    if p0 = (1 : Int32) then
      some ((p1 - p3), S)
    else
      some ((p1 * p3), S)
set_option maxRecDepth 100000 in
set_option maxHeartbeats 4000000 in
theorem w_X3_joined (X : mX) (l : Launch) (p0 : Int32) (p1 : Int64) (p3 : Int64) (S : mM) : MW X viJ rm_X3_joined cX3_joined RX3 5 (some .long) l S [(0, .int p0), (1, .long p1), (3, .long p3)] [] 0 (f_X3_joined p0 p1 p3 S) := by
  unfold f_X3_joined
  refine mw_iload_n 0 dX3_joined_0 rfl rfl ?_
  refine mw_ite (fun h1 => ?_) (fun h1 => ?_)
  · refine mw_look (tgt := 28) dX3_joined_1 (by decide) (by rw [h1]) (by decide) ?_
    refine mw_lload_n 1 dX3_joined_28 rfl rfl ?_
    refine mw_lload_n 2 dX3_joined_29 rfl rfl ?_
    refine mw_ladd dX3_joined_30 ?_
    exact mw_lreturn dX3_joined_31
  · refine mw_ite (fun h2 => ?_) (fun h2 => ?_)
    · refine mw_look (tgt := 32) dX3_joined_1 (by decide) (by rw [h2]) (by decide) ?_
      refine mw_lload_n 1 dX3_joined_32 rfl rfl ?_
      refine mw_lload_n 2 dX3_joined_33 rfl rfl ?_
      refine mw_lsub dX3_joined_34 ?_
      exact mw_lreturn dX3_joined_35
    · refine mw_look (tgt := 36) dX3_joined_1 (by decide) (mLook2 h1 h2) (by decide) ?_
      refine mw_lload_n 1 dX3_joined_36 rfl rfl ?_
      refine mw_lload_n 2 dX3_joined_37 rfl rfl ?_
      refine mw_lmul dX3_joined_38 ?_
      exact mw_lreturn dX3_joined_39
theorem t_X3_joined (X : mX) (l : Launch) (p0 : Int32) (p1 : Int64) (p3 : Int64) (S : mM) : mMet X viJ yX3_joined cX3_joined 5 (some .long) rm_X3_joined [.int p0, .long p1, .long p3] l S (f_X3_joined p0 p1 p3 S) :=
  mMet_of (by decide +kernel) rfl (Nat.le_of_ble_eq_true rfl) (w_X3_joined X l p0 p1 p3 S )
/-! TraceBench$Row.reckonTwo(ILTraceBench$Row;LTraceBench$Row;)V -/
def f_X3_reckonTwo_16 (n : Nat) (y0 : Nat) (y1 : Int32) (y2 : Nat) (y3 : Nat) (y4 : Int32) (y5 : Int32) (S : mM) : Option (Unit × mM) := match n with
  | 0 => none
  | n + 1 =>
    if y4 ≤ y5 then
      bnd (setI S y0 2 y4) fun S1 =>
      some ((), S1)
    else
      if 0 ≤ y5 ∧ y5.toNatClampNeg < 201 then
      (if (S.1 (y2 + 2) y5.toNatClampNeg) = 0 then
        if 0 ≤ y5 ∧ y5.toNatClampNeg < 201 then
        (if (S.1 (y3 + 2) y5.toNatClampNeg) = 0 then
          if 0 ≤ y5 ∧ y5.toNatClampNeg < 201 then
          (if 0 ≤ y5 ∧ y5.toNatClampNeg < 201 then
          (mBind (f_X3_joined y1 (S.2.1 (y2 + 1) y5.toNatClampNeg) (S.2.1 (y3 + 1) y5.toNatClampNeg) S) fun r2 S3 =>
          mBind (f_X3_put y0 y5 r2 S3) fun r4 S5 =>
          bnd (y5 + (1 : Int32)) fun x6 =>
          f_X3_reckonTwo_16 n y0 y1 y2 y3 y4 x6 S5)
          else none)
          else none
        else
          mBind (f_X3_putGap y0 y5 S) fun r7 S8 =>
          bnd (y5 + (1 : Int32)) fun x9 =>
          f_X3_reckonTwo_16 n y0 y1 y2 y3 y4 x9 S8)
        else none
      else
        mBind (f_X3_putGap y0 y5 S) fun r10 S11 =>
        bnd (y5 + (1 : Int32)) fun x12 =>
        f_X3_reckonTwo_16 n y0 y1 y2 y3 y4 x12 S11)
      else none
set_option maxRecDepth 100000 in
set_option maxHeartbeats 4000000 in
theorem w_X3_reckonTwo_16 (X : mX) (l : Launch) (n : Nat) (y0 : Nat) (y1 : Int32) (y2 : Nat) (y3 : Nat) (y4 : Int32) (y5 : Int32) (S : mM) (hy0 : mKind y0 = 3) (hy2 : mKind y2 = 3) (hy3 : mKind y3 = 3) : MW X viV rm_X3_reckonTwo cX3_reckonTwo RX3 6 none l S [(0, .ref (X.2.1 y0)), (1, .int y1), (2, .ref (X.2.1 y2)), (3, .ref (X.2.1 y3)), (4, .int y4), (5, .int y5)] [] 16 (f_X3_reckonTwo_16 n y0 y1 y2 y3 y4 y5 S) := by
  induction n generalizing y0 y1 y2 y3 y4 y5 S with
  | zero => exact mw_none
  | succ n ih =>
    unfold f_X3_reckonTwo_16
    refine mw_iload 5 dX3_reckonTwo_16 rfl ?_
    refine mw_iload 4 dX3_reckonTwo_18 rfl ?_
    refine mw_icmp_ge (tgt := 82) dX3_reckonTwo_20 (by decide) ?_ ?_
    · refine mw_aload_n 0 dX3_reckonTwo_82 rfl rfl ?_
      refine mw_iload 4 dX3_reckonTwo_83 rfl ?_
      refine pf_RX3_25 hy0 dX3_reckonTwo_85 ?_
      refine mw_bndS (fun S1 => ?_)
      exact mw_return dX3_reckonTwo_88
    · refine mw_aload_n 2 dX3_reckonTwo_23 rfl rfl ?_
      refine gf_RX3_15 hy2 dX3_reckonTwo_24 ?_
      refine mw_iload 5 dX3_reckonTwo_27 rfl ?_
      refine mw_zaload (ko_3_1 hy2) (lo_3_1 hy2) dX3_reckonTwo_29 ?_
      refine mw_if_ne (tgt := 43) dX3_reckonTwo_30 (by decide) ?_ ?_
      · refine mw_aload_n 3 dX3_reckonTwo_33 rfl rfl ?_
        refine gf_RX3_15 hy3 dX3_reckonTwo_34 ?_
        refine mw_iload 5 dX3_reckonTwo_37 rfl ?_
        refine mw_zaload (ko_3_1 hy3) (lo_3_1 hy3) dX3_reckonTwo_39 ?_
        refine mw_if_eq (tgt := 52) dX3_reckonTwo_40 (by decide) ?_ ?_
        · refine mw_aload_n 0 dX3_reckonTwo_52 rfl rfl ?_
          refine mw_iload 5 dX3_reckonTwo_53 rfl ?_
          refine mw_iload_n 1 dX3_reckonTwo_55 rfl rfl ?_
          refine mw_aload_n 2 dX3_reckonTwo_56 rfl rfl ?_
          refine gf_RX3_9 hy2 dX3_reckonTwo_57 ?_
          refine mw_iload 5 dX3_reckonTwo_60 rfl ?_
          refine mw_laload (ko_3_0 hy2) (lo_3_0 hy2) dX3_reckonTwo_62 ?_
          refine mw_aload_n 3 dX3_reckonTwo_63 rfl rfl ?_
          refine gf_RX3_9 hy3 dX3_reckonTwo_64 ?_
          refine mw_iload 5 dX3_reckonTwo_67 rfl ?_
          refine mw_laload (ko_3_0 hy3) (lo_3_0 hy3) dX3_reckonTwo_69 ?_
          refine mw_callS (t_X3_joined X l y1 (S.2.1 (y2 + 1) y5.toNatClampNeg) (S.2.1 (y3 + 1) y5.toNatClampNeg) S) cd_X3_joined lk_RX3_47 sn_X3_joined in_RX3 de_X3_joined ⟨rfl, rfl⟩ ⟨Nat.le_of_ble_eq_true rfl, Nat.le_of_ble_eq_true rfl⟩ rfl rfl ⟨Nat.le_of_ble_eq_true rfl, Nat.le_of_ble_eq_true rfl⟩ (Nat.le_of_ble_eq_true rfl) dX3_reckonTwo_70 (fun r2 S3 => ?_)
          refine mw_eq (st' := [.long r2, .int y5, .ref (X.2.1 y0)]) rfl rfl ?_
          refine mw_callV (t_X3_put X l y0 y5 r2 S3 hy0) cd_X3_put lk_RX3_30 im_X3_put se_X3_put in_RX3 de_X3_put ⟨rfl, rfl⟩ ⟨Nat.le_of_ble_eq_true rfl, Nat.le_of_ble_eq_true rfl⟩ (mKind_lt hy0 (by decide)) (mCell_k hy0) rfl rfl rfl rfl ⟨Nat.le_of_ble_eq_true rfl, Nat.le_of_ble_eq_true rfl⟩ (Nat.le_of_ble_eq_true rfl) dX3_reckonTwo_73 (fun r4 S5 => ?_)
          refine mw_eq (st' := []) rfl rfl ?_
          refine mw_iincB (lvf := fun x6 => [(5, .int x6), (0, .ref (X.2.1 y0)), (1, .int y1), (2, .ref (X.2.1 y2)), (3, .ref (X.2.1 y3)), (4, .int y4)]) (k := 5) dX3_reckonTwo_76 rfl (by decide) (by decide) (fun _ => rfl) (fun x6 => ?_)
          refine mw_goto (tgt := 16) dX3_reckonTwo_79 (by decide) ?_
          exact mw_sub [1, 2, 3, 4, 5, 0] rfl (ih y0 y1 y2 y3 y4 x6 S5 hy0 hy2 hy3)
        · refine mw_aload_n 0 dX3_reckonTwo_43 rfl rfl ?_
          refine mw_iload 5 dX3_reckonTwo_44 rfl ?_
          refine mw_callV (t_X3_putGap X l y0 y5 S hy0) cd_X3_putGap lk_RX3_43 im_X3_putGap se_X3_putGap in_RX3 de_X3_putGap ⟨rfl, rfl⟩ ⟨Nat.le_of_ble_eq_true rfl, Nat.le_of_ble_eq_true rfl⟩ (mKind_lt hy0 (by decide)) (mCell_k hy0) rfl rfl rfl rfl ⟨Nat.le_of_ble_eq_true rfl, Nat.le_of_ble_eq_true rfl⟩ (Nat.le_of_ble_eq_true rfl) dX3_reckonTwo_46 (fun r7 S8 => ?_)
          refine mw_eq (st' := []) rfl rfl ?_
          refine mw_goto (tgt := 76) dX3_reckonTwo_49 (by decide) ?_
          refine mw_iincB (lvf := fun x9 => [(5, .int x9), (0, .ref (X.2.1 y0)), (1, .int y1), (2, .ref (X.2.1 y2)), (3, .ref (X.2.1 y3)), (4, .int y4)]) (k := 5) dX3_reckonTwo_76 rfl (by decide) (by decide) (fun _ => rfl) (fun x9 => ?_)
          refine mw_goto (tgt := 16) dX3_reckonTwo_79 (by decide) ?_
          exact mw_sub [1, 2, 3, 4, 5, 0] rfl (ih y0 y1 y2 y3 y4 x9 S8 hy0 hy2 hy3)
      · refine mw_aload_n 0 dX3_reckonTwo_43 rfl rfl ?_
        refine mw_iload 5 dX3_reckonTwo_44 rfl ?_
        refine mw_callV (t_X3_putGap X l y0 y5 S hy0) cd_X3_putGap lk_RX3_43 im_X3_putGap se_X3_putGap in_RX3 de_X3_putGap ⟨rfl, rfl⟩ ⟨Nat.le_of_ble_eq_true rfl, Nat.le_of_ble_eq_true rfl⟩ (mKind_lt hy0 (by decide)) (mCell_k hy0) rfl rfl rfl rfl ⟨Nat.le_of_ble_eq_true rfl, Nat.le_of_ble_eq_true rfl⟩ (Nat.le_of_ble_eq_true rfl) dX3_reckonTwo_46 (fun r10 S11 => ?_)
        refine mw_eq (st' := []) rfl rfl ?_
        refine mw_goto (tgt := 76) dX3_reckonTwo_49 (by decide) ?_
        refine mw_iincB (lvf := fun x12 => [(5, .int x12), (0, .ref (X.2.1 y0)), (1, .int y1), (2, .ref (X.2.1 y2)), (3, .ref (X.2.1 y3)), (4, .int y4)]) (k := 5) dX3_reckonTwo_76 rfl (by decide) (by decide) (fun _ => rfl) (fun x12 => ?_)
        refine mw_goto (tgt := 16) dX3_reckonTwo_79 (by decide) ?_
        exact mw_sub [1, 2, 3, 4, 5, 0] rfl (ih y0 y1 y2 y3 y4 x12 S11 hy0 hy2 hy3)
def f_X3_reckonTwo (t : Nat) (p1 : Int32) (p2 : Nat) (p3 : Nat) (S : mM) : Option (Unit × mM) :=
  mBind (f_J9_min_7cf53 (S.1 p2 2) (S.1 p3 2) S) fun r1 S2 =>
  f_X3_reckonTwo_16 mFuel t p1 p2 p3 r1 (0 : Int32) S2
set_option maxRecDepth 100000 in
set_option maxHeartbeats 4000000 in
theorem w_X3_reckonTwo (X : mX) (l : Launch) (t : Nat) (p1 : Int32) (p2 : Nat) (p3 : Nat) (S : mM) (ht : mKind t = 3) (hp2 : mKind p2 = 3) (hp3 : mKind p3 = 3) : MW X viV rm_X3_reckonTwo cX3_reckonTwo RX3 6 none l S [(0, .ref (X.2.1 t)), (1, .int p1), (2, .ref (X.2.1 p2)), (3, .ref (X.2.1 p3))] [] 0 (f_X3_reckonTwo t p1 p2 p3 S) := by
  unfold f_X3_reckonTwo
  refine mw_aload_n 2 dX3_reckonTwo_0 rfl rfl ?_
  refine gf_RX3_25 hp2 dX3_reckonTwo_1 ?_
  refine mw_aload_n 3 dX3_reckonTwo_4 rfl rfl ?_
  refine gf_RX3_25 hp3 dX3_reckonTwo_5 ?_
  refine mw_callS (t_J9_min_7cf53 X l (S.1 p2 2) (S.1 p3 2) S) cd_J9_min_7cf53 lk_RX3_38 sn_J9_min_7cf53 in_RJ9 de_J9_min_7cf53 ⟨rfl, rfl⟩ ⟨Nat.le_of_ble_eq_true rfl, Nat.le_of_ble_eq_true rfl⟩ rfl rfl ⟨Nat.le_of_ble_eq_true rfl, Nat.le_of_ble_eq_true rfl⟩ (Nat.le_of_ble_eq_true rfl) dX3_reckonTwo_8 (fun r1 S2 => ?_)
  refine mw_eq (st' := [.int r1]) rfl rfl ?_
  refine mw_istore (lv' := [(4, .int r1), (0, .ref (X.2.1 t)), (1, .int p1), (2, .ref (X.2.1 p2)), (3, .ref (X.2.1 p3))]) dX3_reckonTwo_11 (by decide) rfl ?_
  refine mw_iconst (v := (0 : Int32)) dX3_reckonTwo_13 (by decide) ?_
  refine mw_istore (lv' := [(5, .int (0 : Int32)), (4, .int r1), (0, .ref (X.2.1 t)), (1, .int p1), (2, .ref (X.2.1 p2)), (3, .ref (X.2.1 p3))]) dX3_reckonTwo_14 (by decide) rfl ?_
  exact mw_sub [2, 3, 4, 5, 1, 0] rfl (w_X3_reckonTwo_16 X l mFuel t p1 p2 p3 r1 (0 : Int32) S2 ht hp2 hp3)
theorem t_X3_reckonTwo (X : mX) (l : Launch) (t : Nat) (p1 : Int32) (p2 : Nat) (p3 : Nat) (S : mM) (ht : mKind t = 3) (hp2 : mKind p2 = 3) (hp3 : mKind p3 = 3) : mMet X viV yX3_reckonTwo cX3_reckonTwo 6 none rm_X3_reckonTwo [.ref (X.2.1 t), .int p1, .ref (X.2.1 p2), .ref (X.2.1 p3)] l S (f_X3_reckonTwo t p1 p2 p3 S) :=
  mMet_of (by decide +kernel) rfl (Nat.le_of_ble_eq_true rfl) (w_X3_reckonTwo X l t p1 p2 p3 S ht hp2 hp3)
/-! TraceBench$Row.copyOf(LTraceBench$Segment;I)V -/
def f_X3_copyOf_10 (n : Nat) (y0 : Nat) (y1 : Nat) (y2 : Int32) (y3 : Int32) (S : mM) : Option (Unit × mM) := match n with
  | 0 => none
  | n + 1 =>
    if (S.1 y0 2) ≤ y3 then
      some ((), S)
    else
      mBind (f_X5_numberAt y1 y2 y3 S) fun r1 S2 =>
      mBind (f_X3_put y0 y3 r1.toInt64 S2) fun r3 S4 =>
      bnd (y3 + (1 : Int32)) fun x5 =>
      f_X3_copyOf_10 n y0 y1 y2 x5 S4
set_option maxRecDepth 100000 in
set_option maxHeartbeats 4000000 in
theorem w_X3_copyOf_10 (X : mX) (l : Launch) (n : Nat) (y0 : Nat) (y1 : Nat) (y2 : Int32) (y3 : Int32) (S : mM) (hy0 : mKind y0 = 3) (hy1 : mKind y1 = 5) : MW X viV rm_X3_copyOf cX3_copyOf RX3 4 none l S [(0, .ref (X.2.1 y0)), (1, .ref (X.2.1 y1)), (2, .int y2), (3, .int y3)] [] 10 (f_X3_copyOf_10 n y0 y1 y2 y3 S) := by
  induction n generalizing y0 y1 y2 y3 S with
  | zero => exact mw_none
  | succ n ih =>
    unfold f_X3_copyOf_10
    refine mw_iload_n 3 dX3_copyOf_10 rfl rfl ?_
    refine mw_aload_n 0 dX3_copyOf_11 rfl rfl ?_
    refine gf_RX3_25 hy0 dX3_copyOf_12 ?_
    refine mw_icmp_ge (tgt := 36) dX3_copyOf_15 (by decide) ?_ ?_
    · exact mw_return dX3_copyOf_36
    · refine mw_aload_n 0 dX3_copyOf_18 rfl rfl ?_
      refine mw_iload_n 3 dX3_copyOf_19 rfl rfl ?_
      refine mw_aload_n 1 dX3_copyOf_20 rfl rfl ?_
      refine mw_iload_n 2 dX3_copyOf_21 rfl rfl ?_
      refine mw_iload_n 3 dX3_copyOf_22 rfl rfl ?_
      refine mw_callV (t_X5_numberAt X l y1 y2 y3 S hy1) cd_X5_numberAt lk_RX3_26 im_X5_numberAt se_X5_numberAt in_RX5 de_X5_numberAt ⟨rfl, rfl⟩ ⟨Nat.le_of_ble_eq_true rfl, Nat.le_of_ble_eq_true rfl⟩ (mKind_lt hy1 (by decide)) (mCell_k hy1) rfl rfl rfl rfl ⟨Nat.le_of_ble_eq_true rfl, Nat.le_of_ble_eq_true rfl⟩ (Nat.le_of_ble_eq_true rfl) dX3_copyOf_23 (fun r1 S2 => ?_)
      refine mw_eq (st' := [.int r1, .int y3, .ref (X.2.1 y0)]) rfl rfl ?_
      refine mw_i2l dX3_copyOf_26 ?_
      refine mw_callV (t_X3_put X l y0 y3 r1.toInt64 S2 hy0) cd_X3_put lk_RX3_30 im_X3_put se_X3_put in_RX3 de_X3_put ⟨rfl, rfl⟩ ⟨Nat.le_of_ble_eq_true rfl, Nat.le_of_ble_eq_true rfl⟩ (mKind_lt hy0 (by decide)) (mCell_k hy0) rfl rfl rfl rfl ⟨Nat.le_of_ble_eq_true rfl, Nat.le_of_ble_eq_true rfl⟩ (Nat.le_of_ble_eq_true rfl) dX3_copyOf_27 (fun r3 S4 => ?_)
      refine mw_eq (st' := []) rfl rfl ?_
      refine mw_iincB (lvf := fun x5 => [(3, .int x5), (0, .ref (X.2.1 y0)), (1, .ref (X.2.1 y1)), (2, .int y2)]) (k := 3) dX3_copyOf_30 rfl (by decide) (by decide) (fun _ => rfl) (fun x5 => ?_)
      refine mw_goto (tgt := 10) dX3_copyOf_33 (by decide) ?_
      exact mw_sub [1, 2, 3, 0] rfl (ih y0 y1 y2 x5 S4 hy0 hy1)
def f_X3_copyOf (t : Nat) (p1 : Nat) (p2 : Int32) (S : mM) : Option (Unit × mM) :=
  bnd (setI S t 2 (S.1 p1 2)) fun S1 =>
  f_X3_copyOf_10 mFuel t p1 p2 (0 : Int32) S1
set_option maxRecDepth 100000 in
set_option maxHeartbeats 4000000 in
theorem w_X3_copyOf (X : mX) (l : Launch) (t : Nat) (p1 : Nat) (p2 : Int32) (S : mM) (ht : mKind t = 3) (hp1 : mKind p1 = 5) : MW X viV rm_X3_copyOf cX3_copyOf RX3 4 none l S [(0, .ref (X.2.1 t)), (1, .ref (X.2.1 p1)), (2, .int p2)] [] 0 (f_X3_copyOf t p1 p2 S) := by
  unfold f_X3_copyOf
  refine mw_aload_n 0 dX3_copyOf_0 rfl rfl ?_
  refine mw_aload_n 1 dX3_copyOf_1 rfl rfl ?_
  refine gf_RX3_19 hp1 dX3_copyOf_2 ?_
  refine pf_RX3_25 ht dX3_copyOf_5 ?_
  refine mw_bndS (fun S1 => ?_)
  refine mw_iconst (v := (0 : Int32)) dX3_copyOf_8 (by decide) ?_
  refine mw_istore_n (lv' := [(3, .int (0 : Int32)), (0, .ref (X.2.1 t)), (1, .ref (X.2.1 p1)), (2, .int p2)]) dX3_copyOf_9 rfl (by decide) rfl ?_
  exact mw_sub [1, 2, 3, 0] rfl (w_X3_copyOf_10 X l mFuel t p1 p2 (0 : Int32) S1 ht hp1)
theorem t_X3_copyOf (X : mX) (l : Launch) (t : Nat) (p1 : Nat) (p2 : Int32) (S : mM) (ht : mKind t = 3) (hp1 : mKind p1 = 5) : mMet X viV yX3_copyOf cX3_copyOf 4 none rm_X3_copyOf [.ref (X.2.1 t), .ref (X.2.1 p1), .int p2] l S (f_X3_copyOf t p1 p2 S) :=
  mMet_of (by decide +kernel) rfl (Nat.le_of_ble_eq_true rfl) (w_X3_copyOf X l t p1 p2 S ht hp1)
/-! TraceBench$Row.comesTo(JI)Z -/
def f_X3_comesTo (t : Nat) (p1 : Int64) (p3 : Int32) (S : mM) : Option (Int32 × mM) :=
  if p3 ≤ 0 then
    some ((0 : Int32), S)
  else
    if 0 ≤ (p3 - (1 : Int32)) ∧ (p3 - (1 : Int32)).toNatClampNeg < 201 then
    (if (S.1 (t + 2) (p3 - (1 : Int32)).toNatClampNeg) = 0 then
      if 0 ≤ p3 ∧ p3.toNatClampNeg < 201 then
      (if (S.1 (t + 2) p3.toNatClampNeg) = 0 then
        if 0 ≤ (p3 - (1 : Int32)) ∧ (p3 - (1 : Int32)).toNatClampNeg < 201 then
        (if 0 ≤ (lg_cmp (S.2.1 (t + 1) (p3 - (1 : Int32)).toNatClampNeg) p1) then
          some ((0 : Int32), S)
        else
          if 0 ≤ p3 ∧ p3.toNatClampNeg < 201 then
          (if (lg_cmp (S.2.1 (t + 1) p3.toNatClampNeg) p1) < 0 then
            some ((0 : Int32), S)
          else
            some ((1 : Int32), S))
          else none)
        else none
      else
        some ((0 : Int32), S))
      else none
    else
      some ((0 : Int32), S))
    else none
set_option maxRecDepth 100000 in
set_option maxHeartbeats 4000000 in
theorem w_X3_comesTo (X : mX) (l : Launch) (t : Nat) (p1 : Int64) (p3 : Int32) (S : mM) (ht : mKind t = 3) : MW X viI rm_X3_comesTo cX3_comesTo RX3 4 (some .boolean) l S [(0, .ref (X.2.1 t)), (1, .long p1), (3, .int p3)] [] 0 (f_X3_comesTo t p1 p3 S) := by
  unfold f_X3_comesTo
  refine mw_iload_n 2 dX3_comesTo_0 rfl rfl ?_
  refine mw_if_le (tgt := 52) dX3_comesTo_1 (by decide) ?_ ?_
  · refine mw_iconst (v := (0 : Int32)) dX3_comesTo_52 (by decide) ?_
    exact mw_zret (by decide) dX3_comesTo_53
  · refine mw_aload_n 0 dX3_comesTo_4 rfl rfl ?_
    refine gf_RX3_15 ht dX3_comesTo_5 ?_
    refine mw_iload_n 2 dX3_comesTo_8 rfl rfl ?_
    refine mw_iconst (v := (1 : Int32)) dX3_comesTo_9 (by decide) ?_
    refine mw_isub dX3_comesTo_10 ?_
    refine mw_zaload (ko_3_1 ht) (lo_3_1 ht) dX3_comesTo_11 ?_
    refine mw_if_ne (tgt := 52) dX3_comesTo_12 (by decide) ?_ ?_
    · refine mw_aload_n 0 dX3_comesTo_15 rfl rfl ?_
      refine gf_RX3_15 ht dX3_comesTo_16 ?_
      refine mw_iload_n 2 dX3_comesTo_19 rfl rfl ?_
      refine mw_zaload (ko_3_1 ht) (lo_3_1 ht) dX3_comesTo_20 ?_
      refine mw_if_ne (tgt := 52) dX3_comesTo_21 (by decide) ?_ ?_
      · refine mw_aload_n 0 dX3_comesTo_24 rfl rfl ?_
        refine gf_RX3_9 ht dX3_comesTo_25 ?_
        refine mw_iload_n 2 dX3_comesTo_28 rfl rfl ?_
        refine mw_iconst (v := (1 : Int32)) dX3_comesTo_29 (by decide) ?_
        refine mw_isub dX3_comesTo_30 ?_
        refine mw_laload (ko_3_0 ht) (lo_3_0 ht) dX3_comesTo_31 ?_
        refine mw_lload_n 1 dX3_comesTo_32 rfl rfl ?_
        refine mw_lcmp dX3_comesTo_33 ?_
        refine mw_if_ge (tgt := 52) dX3_comesTo_34 (by decide) ?_ ?_
        · refine mw_iconst (v := (0 : Int32)) dX3_comesTo_52 (by decide) ?_
          exact mw_zret (by decide) dX3_comesTo_53
        · refine mw_aload_n 0 dX3_comesTo_37 rfl rfl ?_
          refine gf_RX3_9 ht dX3_comesTo_38 ?_
          refine mw_iload_n 2 dX3_comesTo_41 rfl rfl ?_
          refine mw_laload (ko_3_0 ht) (lo_3_0 ht) dX3_comesTo_42 ?_
          refine mw_lload_n 1 dX3_comesTo_43 rfl rfl ?_
          refine mw_lcmp dX3_comesTo_44 ?_
          refine mw_if_lt (tgt := 52) dX3_comesTo_45 (by decide) ?_ ?_
          · refine mw_iconst (v := (0 : Int32)) dX3_comesTo_52 (by decide) ?_
            exact mw_zret (by decide) dX3_comesTo_53
          · refine mw_iconst (v := (1 : Int32)) dX3_comesTo_48 (by decide) ?_
            refine mw_goto (tgt := 53) dX3_comesTo_49 (by decide) ?_
            exact mw_zret (by decide) dX3_comesTo_53
      · refine mw_iconst (v := (0 : Int32)) dX3_comesTo_52 (by decide) ?_
        exact mw_zret (by decide) dX3_comesTo_53
    · refine mw_iconst (v := (0 : Int32)) dX3_comesTo_52 (by decide) ?_
      exact mw_zret (by decide) dX3_comesTo_53
theorem t_X3_comesTo (X : mX) (l : Launch) (t : Nat) (p1 : Int64) (p3 : Int32) (S : mM) (ht : mKind t = 3) : mMet X viI yX3_comesTo cX3_comesTo 4 (some .boolean) rm_X3_comesTo [.ref (X.2.1 t), .long p1, .int p3] l S (f_X3_comesTo t p1 p3 S) :=
  mMet_of (by decide +kernel) rfl (Nat.le_of_ble_eq_true rfl) (w_X3_comesTo X l t p1 p3 S ht)
/-! TraceBench$Row.measureTurns(JI)I -/
def f_X3_measureTurns_127 (k25 : Nat → Int64 → Int32 → Int32 → Int32 → Int32 → Int32 → Int32 → Int32 → Int32 → Int32 → mM → Option (Int32 × mM)) (y0 : Nat) (y1 : Int64) (y3 : Int32) (y4 : Int32) (y5 : Int32) (y6 : Int32) (y7 : Int32) (y8 : Int32) (y9 : Int32) (y10 : Int32) (y11 : Int32) (S : mM) : Option (Int32 × mM) :=
  if 0 ≤ y11 ∧ y11.toNatClampNeg < 201 then
  (if (S.1 (y0 + 2) y11.toNatClampNeg) = 0 then
    if 0 ≤ y11 ∧ y11.toNatClampNeg < 201 then
    (if (lg_cmp (S.2.1 (y0 + 1) y11.toNatClampNeg) y1) < 0 then
      bnd (y11 + (1 : Int32)) fun x1 =>
      k25 y0 y1 y3 y4 y5 y6 y7 y8 y9 y10 x1 S
    else
      bnd (y10 + (1 : Int32)) fun x2 =>
      bnd (y11 + (1 : Int32)) fun x3 =>
      k25 y0 y1 y3 y4 y5 y6 y7 y8 y9 x2 x3 S)
    else none
  else
    bnd (y11 + (1 : Int32)) fun x4 =>
    k25 y0 y1 y3 y4 y5 y6 y7 y8 y9 y10 x4 S)
  else none
set_option maxRecDepth 100000 in
set_option maxHeartbeats 4000000 in
theorem w_X3_measureTurns_127 (X : mX) (l : Launch) (k25 : Nat → Int64 → Int32 → Int32 → Int32 → Int32 → Int32 → Int32 → Int32 → Int32 → Int32 → mM → Option (Int32 × mM)) (hk25 : ∀ (y0 : Nat) (y1 : Int64) (y3 : Int32) (y4 : Int32) (y5 : Int32) (y6 : Int32) (y7 : Int32) (y8 : Int32) (y9 : Int32) (y10 : Int32) (y11 : Int32) (S : mM) (_ : mKind y0 = 3), MW X viI rm_X3_measureTurns cX3_measureTurns RX3 13 (some .int) l S [(0, .ref (X.2.1 y0)), (1, .long y1), (3, .int y3), (4, .int y4), (5, .int y5), (6, .int y6), (7, .int y7), (8, .int y8), (9, .int y9), (10, .int y10), (11, .int y11)] [] 25 (k25 y0 y1 y3 y4 y5 y6 y7 y8 y9 y10 y11 S)) (y0 : Nat) (y1 : Int64) (y3 : Int32) (y4 : Int32) (y5 : Int32) (y6 : Int32) (y7 : Int32) (y8 : Int32) (y9 : Int32) (y10 : Int32) (y11 : Int32) (S : mM) (hy0 : mKind y0 = 3) : MW X viI rm_X3_measureTurns cX3_measureTurns RX3 13 (some .int) l S [(0, .ref (X.2.1 y0)), (1, .long y1), (3, .int y3), (4, .int y4), (5, .int y5), (6, .int y6), (7, .int y7), (8, .int y8), (9, .int y9), (10, .int y10), (11, .int y11)] [] 127 (f_X3_measureTurns_127 k25 y0 y1 y3 y4 y5 y6 y7 y8 y9 y10 y11 S) := by
  unfold f_X3_measureTurns_127
  refine mw_aload_n 0 dX3_measureTurns_127 rfl rfl ?_
  refine gf_RX3_15 hy0 dX3_measureTurns_128 ?_
  refine mw_iload 10 dX3_measureTurns_131 rfl ?_
  refine mw_zaload (ko_3_1 hy0) (lo_3_1 hy0) dX3_measureTurns_133 ?_
  refine mw_if_ne (tgt := 152) dX3_measureTurns_134 (by decide) ?_ ?_
  · refine mw_aload_n 0 dX3_measureTurns_137 rfl rfl ?_
    refine gf_RX3_9 hy0 dX3_measureTurns_138 ?_
    refine mw_iload 10 dX3_measureTurns_141 rfl ?_
    refine mw_laload (ko_3_0 hy0) (lo_3_0 hy0) dX3_measureTurns_143 ?_
    refine mw_lload_n 1 dX3_measureTurns_144 rfl rfl ?_
    refine mw_lcmp dX3_measureTurns_145 ?_
    refine mw_if_lt (tgt := 152) dX3_measureTurns_146 (by decide) ?_ ?_
    · refine mw_iincB (lvf := fun x1 => [(11, .int x1), (0, .ref (X.2.1 y0)), (1, .long y1), (3, .int y3), (4, .int y4), (5, .int y5), (6, .int y6), (7, .int y7), (8, .int y8), (9, .int y9), (10, .int y10)]) (k := 10) dX3_measureTurns_152 rfl (by decide) (by decide) (fun _ => rfl) (fun x1 => ?_)
      refine mw_goto (tgt := 25) dX3_measureTurns_155 (by decide) ?_
      exact mw_sub [1, 2, 3, 4, 5, 6, 7, 8, 9, 10, 0] rfl (hk25 y0 y1 y3 y4 y5 y6 y7 y8 y9 y10 x1 S hy0)
    · refine mw_iincB (lvf := fun x2 => [(10, .int x2), (0, .ref (X.2.1 y0)), (1, .long y1), (3, .int y3), (4, .int y4), (5, .int y5), (6, .int y6), (7, .int y7), (8, .int y8), (9, .int y9), (11, .int y11)]) (k := 9) dX3_measureTurns_149 rfl (by decide) (by decide) (fun _ => rfl) (fun x2 => ?_)
      refine mw_iincB (lvf := fun x3 => [(11, .int x3), (10, .int x2), (0, .ref (X.2.1 y0)), (1, .long y1), (3, .int y3), (4, .int y4), (5, .int y5), (6, .int y6), (7, .int y7), (8, .int y8), (9, .int y9)]) (k := 10) dX3_measureTurns_152 rfl (by decide) (by decide) (fun _ => rfl) (fun x3 => ?_)
      refine mw_goto (tgt := 25) dX3_measureTurns_155 (by decide) ?_
      exact mw_sub [2, 3, 4, 5, 6, 7, 8, 9, 10, 1, 0] rfl (hk25 y0 y1 y3 y4 y5 y6 y7 y8 y9 x2 x3 S hy0)
  · refine mw_iincB (lvf := fun x4 => [(11, .int x4), (0, .ref (X.2.1 y0)), (1, .long y1), (3, .int y3), (4, .int y4), (5, .int y5), (6, .int y6), (7, .int y7), (8, .int y8), (9, .int y9), (10, .int y10)]) (k := 10) dX3_measureTurns_152 rfl (by decide) (by decide) (fun _ => rfl) (fun x4 => ?_)
    refine mw_goto (tgt := 25) dX3_measureTurns_155 (by decide) ?_
    exact mw_sub [1, 2, 3, 4, 5, 6, 7, 8, 9, 10, 0] rfl (hk25 y0 y1 y3 y4 y5 y6 y7 y8 y9 y10 x4 S hy0)
def f_X3_measureTurns_120 (k25 : Nat → Int64 → Int32 → Int32 → Int32 → Int32 → Int32 → Int32 → Int32 → Int32 → Int32 → mM → Option (Int32 × mM)) (y0 : Nat) (y1 : Int64) (y3 : Int32) (y4 : Int32) (y5 : Int32) (y6 : Int32) (y7 : Int32) (y8 : Int32) (y11 : Int32) (S : mM) : Option (Int32 × mM) :=
  f_X3_measureTurns_127 k25 y0 y1 y3 y4 y5 y6 y7 y8 y11 (0 : Int32) y11 S
set_option maxRecDepth 100000 in
set_option maxHeartbeats 4000000 in
theorem w_X3_measureTurns_120 (X : mX) (l : Launch) (k25 : Nat → Int64 → Int32 → Int32 → Int32 → Int32 → Int32 → Int32 → Int32 → Int32 → Int32 → mM → Option (Int32 × mM)) (hk25 : ∀ (y0 : Nat) (y1 : Int64) (y3 : Int32) (y4 : Int32) (y5 : Int32) (y6 : Int32) (y7 : Int32) (y8 : Int32) (y9 : Int32) (y10 : Int32) (y11 : Int32) (S : mM) (_ : mKind y0 = 3), MW X viI rm_X3_measureTurns cX3_measureTurns RX3 13 (some .int) l S [(0, .ref (X.2.1 y0)), (1, .long y1), (3, .int y3), (4, .int y4), (5, .int y5), (6, .int y6), (7, .int y7), (8, .int y8), (9, .int y9), (10, .int y10), (11, .int y11)] [] 25 (k25 y0 y1 y3 y4 y5 y6 y7 y8 y9 y10 y11 S)) (y0 : Nat) (y1 : Int64) (y3 : Int32) (y4 : Int32) (y5 : Int32) (y6 : Int32) (y7 : Int32) (y8 : Int32) (y11 : Int32) (S : mM) (hy0 : mKind y0 = 3) : MW X viI rm_X3_measureTurns cX3_measureTurns RX3 13 (some .int) l S [(0, .ref (X.2.1 y0)), (1, .long y1), (3, .int y3), (4, .int y4), (5, .int y5), (6, .int y6), (7, .int y7), (8, .int y8), (11, .int y11)] [] 120 (f_X3_measureTurns_120 k25 y0 y1 y3 y4 y5 y6 y7 y8 y11 S) := by
  unfold f_X3_measureTurns_120
  refine mw_iload 8 dX3_measureTurns_120 rfl ?_
  refine mw_istore (lv' := [(9, .int y11), (0, .ref (X.2.1 y0)), (1, .long y1), (3, .int y3), (4, .int y4), (5, .int y5), (6, .int y6), (7, .int y7), (8, .int y8), (11, .int y11)]) dX3_measureTurns_122 (by decide) rfl ?_
  refine mw_iconst (v := (0 : Int32)) dX3_measureTurns_124 (by decide) ?_
  refine mw_istore (lv' := [(10, .int (0 : Int32)), (9, .int y11), (0, .ref (X.2.1 y0)), (1, .long y1), (3, .int y3), (4, .int y4), (5, .int y5), (6, .int y6), (7, .int y7), (8, .int y8), (11, .int y11)]) dX3_measureTurns_125 (by decide) rfl ?_
  exact mw_sub [2, 3, 4, 5, 6, 7, 8, 9, 1, 0, 10] rfl (w_X3_measureTurns_127 X l k25 hk25 y0 y1 y3 y4 y5 y6 y7 y8 y11 (0 : Int32) y11 S hy0)
def f_X3_measureTurns_92 (k25 : Nat → Int64 → Int32 → Int32 → Int32 → Int32 → Int32 → Int32 → Int32 → Int32 → Int32 → mM → Option (Int32 × mM)) (y0 : Nat) (y1 : Int64) (y3 : Int32) (y4 : Int32) (y6 : Int32) (y7 : Int32) (y8 : Int32) (y10 : Int32) (y11 : Int32) (y12 : Int32) (z0 : Int32) (S : mM) : Option (Int32 × mM) :=
  mBind (f_J9_max_7cf53 y6 y12 S) fun r1 S2 =>
  bnd (y7 + y12) fun x3 =>
  bnd (y8 + y10) fun x4 =>
  bnd (y4 + (1 : Int32)) fun x5 =>
  f_X3_measureTurns_120 k25 y0 y1 y3 x5 z0 r1 x3 x4 y11 S2
set_option maxRecDepth 100000 in
set_option maxHeartbeats 4000000 in
theorem w_X3_measureTurns_92 (X : mX) (l : Launch) (k25 : Nat → Int64 → Int32 → Int32 → Int32 → Int32 → Int32 → Int32 → Int32 → Int32 → Int32 → mM → Option (Int32 × mM)) (hk25 : ∀ (y0 : Nat) (y1 : Int64) (y3 : Int32) (y4 : Int32) (y5 : Int32) (y6 : Int32) (y7 : Int32) (y8 : Int32) (y9 : Int32) (y10 : Int32) (y11 : Int32) (S : mM) (_ : mKind y0 = 3), MW X viI rm_X3_measureTurns cX3_measureTurns RX3 13 (some .int) l S [(0, .ref (X.2.1 y0)), (1, .long y1), (3, .int y3), (4, .int y4), (5, .int y5), (6, .int y6), (7, .int y7), (8, .int y8), (9, .int y9), (10, .int y10), (11, .int y11)] [] 25 (k25 y0 y1 y3 y4 y5 y6 y7 y8 y9 y10 y11 S)) (y0 : Nat) (y1 : Int64) (y3 : Int32) (y4 : Int32) (y6 : Int32) (y7 : Int32) (y8 : Int32) (y10 : Int32) (y11 : Int32) (y12 : Int32) (z0 : Int32) (S : mM) (hy0 : mKind y0 = 3) : MW X viI rm_X3_measureTurns cX3_measureTurns RX3 13 (some .int) l S [(0, .ref (X.2.1 y0)), (1, .long y1), (3, .int y3), (4, .int y4), (6, .int y6), (7, .int y7), (8, .int y8), (10, .int y10), (11, .int y11), (12, .int y12)] [.int z0] 92 (f_X3_measureTurns_92 k25 y0 y1 y3 y4 y6 y7 y8 y10 y11 y12 z0 S) := by
  unfold f_X3_measureTurns_92
  refine mw_istore (lv' := [(5, .int z0), (0, .ref (X.2.1 y0)), (1, .long y1), (3, .int y3), (4, .int y4), (6, .int y6), (7, .int y7), (8, .int y8), (10, .int y10), (11, .int y11), (12, .int y12)]) dX3_measureTurns_92 (by decide) rfl ?_
  refine mw_iload 5 dX3_measureTurns_94 rfl ?_
  refine mw_iload 10 dX3_measureTurns_96 rfl ?_
  refine mw_callS (t_J9_max_7cf53 X l y6 y12 S) cd_J9_max_7cf53 lk_RX3_74 sn_J9_max_7cf53 in_RJ9 de_J9_max_7cf53 ⟨rfl, rfl⟩ ⟨Nat.le_of_ble_eq_true rfl, Nat.le_of_ble_eq_true rfl⟩ rfl rfl ⟨Nat.le_of_ble_eq_true rfl, Nat.le_of_ble_eq_true rfl⟩ (Nat.le_of_ble_eq_true rfl) dX3_measureTurns_98 (fun r1 S2 => ?_)
  refine mw_eq (st' := [.int r1]) rfl rfl ?_
  refine mw_istore (lv' := [(6, .int r1), (5, .int z0), (0, .ref (X.2.1 y0)), (1, .long y1), (3, .int y3), (4, .int y4), (7, .int y7), (8, .int y8), (10, .int y10), (11, .int y11), (12, .int y12)]) dX3_measureTurns_101 (by decide) rfl ?_
  refine mw_iload 6 dX3_measureTurns_103 rfl ?_
  refine mw_iload 10 dX3_measureTurns_105 rfl ?_
  refine mw_iadd dX3_measureTurns_107 ?_
  refine mw_bndI (fun x3 => ?_)
  refine mw_istore (lv' := [(7, .int x3), (6, .int r1), (5, .int z0), (0, .ref (X.2.1 y0)), (1, .long y1), (3, .int y3), (4, .int y4), (8, .int y8), (10, .int y10), (11, .int y11), (12, .int y12)]) dX3_measureTurns_108 (by decide) rfl ?_
  refine mw_iload 7 dX3_measureTurns_110 rfl ?_
  refine mw_iload 8 dX3_measureTurns_112 rfl ?_
  refine mw_iadd dX3_measureTurns_114 ?_
  refine mw_bndI (fun x4 => ?_)
  refine mw_istore (lv' := [(8, .int x4), (7, .int x3), (6, .int r1), (5, .int z0), (0, .ref (X.2.1 y0)), (1, .long y1), (3, .int y3), (4, .int y4), (10, .int y10), (11, .int y11), (12, .int y12)]) dX3_measureTurns_115 (by decide) rfl ?_
  refine mw_iincB (lvf := fun x5 => [(4, .int x5), (8, .int x4), (7, .int x3), (6, .int r1), (5, .int z0), (0, .ref (X.2.1 y0)), (1, .long y1), (3, .int y3), (10, .int y10), (11, .int y11), (12, .int y12)]) (k := 7) dX3_measureTurns_117 rfl (by decide) (by decide) (fun _ => rfl) (fun x5 => ?_)
  exact mw_sub [5, 6, 7, 0, 4, 3, 2, 1, 9] rfl (w_X3_measureTurns_120 X l k25 hk25 y0 y1 y3 x5 z0 r1 x3 x4 y11 S2 hy0)
def f_X3_measureTurns_25 (n : Nat) (y0 : Nat) (y1 : Int64) (y3 : Int32) (y4 : Int32) (y5 : Int32) (y6 : Int32) (y7 : Int32) (y8 : Int32) (y9 : Int32) (y10 : Int32) (y11 : Int32) (S : mM) : Option (Int32 × mM) := match n with
  | 0 => none
  | n + 1 =>
    if (S.1 y0 2) ≤ y11 then
      if y3 = (0 : Int32) then
        some (y4, S)
      else
        if y3 = (1 : Int32) then
          some (y5, S)
        else
          if y3 = (2 : Int32) then
            some (y6, S)
          else
            if y3 = (3 : Int32) then
              some (y7, S)
            else
              some (y8, S)
    else
      if 0 ≤ y11 ∧ y11.toNatClampNeg < 201 then
      (if (S.1 (y0 + 2) y11.toNatClampNeg) = 0 then
        mBind (f_X3_comesTo y0 y1 y11 S) fun r5 S6 =>
        if r5 = 0 then
          f_X3_measureTurns_127 (f_X3_measureTurns_25 n) y0 y1 y3 y4 y5 y6 y7 y8 y9 y10 y11 S6
        else
          if y9 = (-4 : Int32) then
            f_X3_measureTurns_120 (f_X3_measureTurns_25 n) y0 y1 y3 y4 y5 y6 y7 y8 y11 S6
          else
            bnd (y11 - y9) fun x7 =>
            if y4 = 0 then
              f_X3_measureTurns_92 (f_X3_measureTurns_25 n) y0 y1 y3 y4 y6 y7 y8 y10 y11 x7 x7 S6
            else
              mBind (f_J9_min_7cf53 y5 x7 S6) fun r8 S9 =>
              f_X3_measureTurns_92 (f_X3_measureTurns_25 n) y0 y1 y3 y4 y6 y7 y8 y10 y11 x7 r8 S9
      else
        f_X3_measureTurns_127 (f_X3_measureTurns_25 n) y0 y1 y3 y4 y5 y6 y7 y8 (-4 : Int32) y10 y11 S)
      else none
set_option maxRecDepth 100000 in
set_option maxHeartbeats 4000000 in
theorem w_X3_measureTurns_25 (X : mX) (l : Launch) (n : Nat) (y0 : Nat) (y1 : Int64) (y3 : Int32) (y4 : Int32) (y5 : Int32) (y6 : Int32) (y7 : Int32) (y8 : Int32) (y9 : Int32) (y10 : Int32) (y11 : Int32) (S : mM) (hy0 : mKind y0 = 3) : MW X viI rm_X3_measureTurns cX3_measureTurns RX3 13 (some .int) l S [(0, .ref (X.2.1 y0)), (1, .long y1), (3, .int y3), (4, .int y4), (5, .int y5), (6, .int y6), (7, .int y7), (8, .int y8), (9, .int y9), (10, .int y10), (11, .int y11)] [] 25 (f_X3_measureTurns_25 n y0 y1 y3 y4 y5 y6 y7 y8 y9 y10 y11 S) := by
  induction n generalizing y0 y1 y3 y4 y5 y6 y7 y8 y9 y10 y11 S with
  | zero => exact mw_none
  | succ n ih =>
    unfold f_X3_measureTurns_25
    refine mw_iload 10 dX3_measureTurns_25 rfl ?_
    refine mw_aload_n 0 dX3_measureTurns_27 rfl rfl ?_
    refine gf_RX3_25 hy0 dX3_measureTurns_28 ?_
    refine mw_icmp_ge (tgt := 158) dX3_measureTurns_31 (by decide) ?_ ?_
    · refine mw_iload_n 2 dX3_measureTurns_158 rfl rfl ?_
      refine mw_ite (fun h1 => ?_) (fun h1 => ?_)
      · refine mw_tab (tgt := 188) h1 dX3_measureTurns_159 (by decide) (by decide) rfl (by decide) ?_
        refine mw_iload 3 dX3_measureTurns_188 rfl ?_
        exact mw_ireturn dX3_measureTurns_190
      · refine mw_ite (fun h2 => ?_) (fun h2 => ?_)
        · refine mw_tab (tgt := 191) h2 dX3_measureTurns_159 (by decide) (by decide) rfl (by decide) ?_
          refine mw_iload 4 dX3_measureTurns_191 rfl ?_
          exact mw_ireturn dX3_measureTurns_193
        · refine mw_ite (fun h3 => ?_) (fun h3 => ?_)
          · refine mw_tab (tgt := 194) h3 dX3_measureTurns_159 (by decide) (by decide) rfl (by decide) ?_
            refine mw_iload 5 dX3_measureTurns_194 rfl ?_
            exact mw_ireturn dX3_measureTurns_196
          · refine mw_ite (fun h4 => ?_) (fun h4 => ?_)
            · refine mw_tab (tgt := 197) h4 dX3_measureTurns_159 (by decide) (by decide) rfl (by decide) ?_
              refine mw_iload 6 dX3_measureTurns_197 rfl ?_
              exact mw_ireturn dX3_measureTurns_199
            · refine mw_tabD (tgt := 200) dX3_measureTurns_159 (by have eh1 : ¬ y3.toInt = 0 := fun q => h1 (Int32.toInt_inj.mp (q.trans (by decide))); have eh2 : ¬ y3.toInt = 1 := fun q => h2 (Int32.toInt_inj.mp (q.trans (by decide))); have eh3 : ¬ y3.toInt = 2 := fun q => h3 (Int32.toInt_inj.mp (q.trans (by decide))); have eh4 : ¬ y3.toInt = 3 := fun q => h4 (Int32.toInt_inj.mp (q.trans (by decide))); omega) (by decide) ?_
              refine mw_iload 7 dX3_measureTurns_200 rfl ?_
              exact mw_ireturn dX3_measureTurns_202
    · refine mw_aload_n 0 dX3_measureTurns_34 rfl rfl ?_
      refine gf_RX3_15 hy0 dX3_measureTurns_35 ?_
      refine mw_iload 10 dX3_measureTurns_38 rfl ?_
      refine mw_zaload (ko_3_1 hy0) (lo_3_1 hy0) dX3_measureTurns_40 ?_
      refine mw_if_eq (tgt := 51) dX3_measureTurns_41 (by decide) ?_ ?_
      · refine mw_aload_n 0 dX3_measureTurns_51 rfl rfl ?_
        refine mw_lload_n 1 dX3_measureTurns_52 rfl rfl ?_
        refine mw_iload 10 dX3_measureTurns_53 rfl ?_
        refine mw_callV (t_X3_comesTo X l y0 y1 y11 S hy0) cd_X3_comesTo lk_RX3_77 im_X3_comesTo se_X3_comesTo in_RX3 de_X3_comesTo ⟨rfl, rfl⟩ ⟨Nat.le_of_ble_eq_true rfl, Nat.le_of_ble_eq_true rfl⟩ (mKind_lt hy0 (by decide)) (mCell_k hy0) rfl rfl rfl rfl ⟨Nat.le_of_ble_eq_true rfl, Nat.le_of_ble_eq_true rfl⟩ (Nat.le_of_ble_eq_true rfl) dX3_measureTurns_55 (fun r5 S6 => ?_)
        refine mw_eq (st' := [.int r5]) rfl rfl ?_
        refine mw_if_eq (tgt := 127) dX3_measureTurns_58 (by decide) ?_ ?_
        · exact mw_sub [0, 1, 2, 3, 4, 5, 6, 7, 8, 9, 10] rfl (w_X3_measureTurns_127 X l (f_X3_measureTurns_25 n) ih y0 y1 y3 y4 y5 y6 y7 y8 y9 y10 y11 S6 hy0)
        · refine mw_iload 8 dX3_measureTurns_61 rfl ?_
          refine mw_bipush (v := (-4 : Int32)) dX3_measureTurns_63 (by decide) ?_
          refine mw_icmp_eq (tgt := 120) dX3_measureTurns_65 (by decide) ?_ ?_
          · exact mw_sub [0, 1, 2, 3, 4, 5, 6, 7, 10] rfl (w_X3_measureTurns_120 X l (f_X3_measureTurns_25 n) ih y0 y1 y3 y4 y5 y6 y7 y8 y11 S6 hy0)
          · refine mw_iload 10 dX3_measureTurns_68 rfl ?_
            refine mw_iload 8 dX3_measureTurns_70 rfl ?_
            refine mw_isub dX3_measureTurns_72 ?_
            refine mw_bndI (fun x7 => ?_)
            refine mw_istore (lv' := [(12, .int x7), (0, .ref (X.2.1 y0)), (1, .long y1), (3, .int y3), (4, .int y4), (5, .int y5), (6, .int y6), (7, .int y7), (8, .int y8), (9, .int y9), (10, .int y10), (11, .int y11)]) dX3_measureTurns_73 (by decide) rfl ?_
            refine mw_iload 4 dX3_measureTurns_75 rfl ?_
            refine mw_if_ne (tgt := 85) dX3_measureTurns_77 (by decide) ?_ ?_
            · refine mw_iload 0 dX3_measureTurns_80 rfl ?_
              refine mw_goto (tgt := 92) dX3_measureTurns_82 (by decide) ?_
              exact mw_sub [1, 2, 3, 4, 6, 7, 8, 10, 11, 0] rfl (w_X3_measureTurns_92 X l (f_X3_measureTurns_25 n) ih y0 y1 y3 y4 y6 y7 y8 y10 y11 x7 x7 S6 hy0)
            · refine mw_iload 5 dX3_measureTurns_85 rfl ?_
              refine mw_iload 0 dX3_measureTurns_87 rfl ?_
              refine mw_callS (t_J9_min_7cf53 X l y5 x7 S6) cd_J9_min_7cf53 lk_RX3_38 sn_J9_min_7cf53 in_RJ9 de_J9_min_7cf53 ⟨rfl, rfl⟩ ⟨Nat.le_of_ble_eq_true rfl, Nat.le_of_ble_eq_true rfl⟩ rfl rfl ⟨Nat.le_of_ble_eq_true rfl, Nat.le_of_ble_eq_true rfl⟩ (Nat.le_of_ble_eq_true rfl) dX3_measureTurns_89 (fun r8 S9 => ?_)
              refine mw_eq (st' := [.int r8]) rfl rfl ?_
              exact mw_sub [1, 2, 3, 4, 6, 7, 8, 10, 11, 0] rfl (w_X3_measureTurns_92 X l (f_X3_measureTurns_25 n) ih y0 y1 y3 y4 y6 y7 y8 y10 y11 x7 r8 S9 hy0)
      · refine mw_bipush (v := (-4 : Int32)) dX3_measureTurns_44 (by decide) ?_
        refine mw_istore (lv' := [(9, .int (-4 : Int32)), (0, .ref (X.2.1 y0)), (1, .long y1), (3, .int y3), (4, .int y4), (5, .int y5), (6, .int y6), (7, .int y7), (8, .int y8), (10, .int y10), (11, .int y11)]) dX3_measureTurns_46 (by decide) rfl ?_
        refine mw_goto (tgt := 127) dX3_measureTurns_48 (by decide) ?_
        exact mw_sub [1, 2, 3, 4, 5, 6, 7, 8, 0, 9, 10] rfl (w_X3_measureTurns_127 X l (f_X3_measureTurns_25 n) ih y0 y1 y3 y4 y5 y6 y7 y8 (-4 : Int32) y10 y11 S hy0)
def f_X3_measureTurns (t : Nat) (p1 : Int64) (p3 : Int32) (S : mM) : Option (Int32 × mM) :=
  f_X3_measureTurns_25 mFuel t p1 p3 (0 : Int32) (0 : Int32) (0 : Int32) (0 : Int32) (0 : Int32) (-4 : Int32) (0 : Int32) (0 : Int32) S
set_option maxRecDepth 100000 in
set_option maxHeartbeats 4000000 in
theorem w_X3_measureTurns (X : mX) (l : Launch) (t : Nat) (p1 : Int64) (p3 : Int32) (S : mM) (ht : mKind t = 3) : MW X viI rm_X3_measureTurns cX3_measureTurns RX3 13 (some .int) l S [(0, .ref (X.2.1 t)), (1, .long p1), (3, .int p3)] [] 0 (f_X3_measureTurns t p1 p3 S) := by
  unfold f_X3_measureTurns
  refine mw_iconst (v := (0 : Int32)) dX3_measureTurns_0 (by decide) ?_
  refine mw_istore (lv' := [(4, .int (0 : Int32)), (0, .ref (X.2.1 t)), (1, .long p1), (3, .int p3)]) dX3_measureTurns_1 (by decide) rfl ?_
  refine mw_iconst (v := (0 : Int32)) dX3_measureTurns_3 (by decide) ?_
  refine mw_istore (lv' := [(5, .int (0 : Int32)), (4, .int (0 : Int32)), (0, .ref (X.2.1 t)), (1, .long p1), (3, .int p3)]) dX3_measureTurns_4 (by decide) rfl ?_
  refine mw_iconst (v := (0 : Int32)) dX3_measureTurns_6 (by decide) ?_
  refine mw_istore (lv' := [(6, .int (0 : Int32)), (5, .int (0 : Int32)), (4, .int (0 : Int32)), (0, .ref (X.2.1 t)), (1, .long p1), (3, .int p3)]) dX3_measureTurns_7 (by decide) rfl ?_
  refine mw_iconst (v := (0 : Int32)) dX3_measureTurns_9 (by decide) ?_
  refine mw_istore (lv' := [(7, .int (0 : Int32)), (6, .int (0 : Int32)), (5, .int (0 : Int32)), (4, .int (0 : Int32)), (0, .ref (X.2.1 t)), (1, .long p1), (3, .int p3)]) dX3_measureTurns_10 (by decide) rfl ?_
  refine mw_iconst (v := (0 : Int32)) dX3_measureTurns_12 (by decide) ?_
  refine mw_istore (lv' := [(8, .int (0 : Int32)), (7, .int (0 : Int32)), (6, .int (0 : Int32)), (5, .int (0 : Int32)), (4, .int (0 : Int32)), (0, .ref (X.2.1 t)), (1, .long p1), (3, .int p3)]) dX3_measureTurns_13 (by decide) rfl ?_
  refine mw_bipush (v := (-4 : Int32)) dX3_measureTurns_15 (by decide) ?_
  refine mw_istore (lv' := [(9, .int (-4 : Int32)), (8, .int (0 : Int32)), (7, .int (0 : Int32)), (6, .int (0 : Int32)), (5, .int (0 : Int32)), (4, .int (0 : Int32)), (0, .ref (X.2.1 t)), (1, .long p1), (3, .int p3)]) dX3_measureTurns_17 (by decide) rfl ?_
  refine mw_iconst (v := (0 : Int32)) dX3_measureTurns_19 (by decide) ?_
  refine mw_istore (lv' := [(10, .int (0 : Int32)), (9, .int (-4 : Int32)), (8, .int (0 : Int32)), (7, .int (0 : Int32)), (6, .int (0 : Int32)), (5, .int (0 : Int32)), (4, .int (0 : Int32)), (0, .ref (X.2.1 t)), (1, .long p1), (3, .int p3)]) dX3_measureTurns_20 (by decide) rfl ?_
  refine mw_iconst (v := (0 : Int32)) dX3_measureTurns_22 (by decide) ?_
  refine mw_istore (lv' := [(11, .int (0 : Int32)), (10, .int (0 : Int32)), (9, .int (-4 : Int32)), (8, .int (0 : Int32)), (7, .int (0 : Int32)), (6, .int (0 : Int32)), (5, .int (0 : Int32)), (4, .int (0 : Int32)), (0, .ref (X.2.1 t)), (1, .long p1), (3, .int p3)]) dX3_measureTurns_23 (by decide) rfl ?_
  exact mw_sub [8, 9, 10, 7, 6, 5, 4, 3, 2, 1, 0] rfl (w_X3_measureTurns_25 X l mFuel t p1 p3 (0 : Int32) (0 : Int32) (0 : Int32) (0 : Int32) (0 : Int32) (-4 : Int32) (0 : Int32) (0 : Int32) S ht)
theorem t_X3_measureTurns (X : mX) (l : Launch) (t : Nat) (p1 : Int64) (p3 : Int32) (S : mM) (ht : mKind t = 3) : mMet X viI yX3_measureTurns cX3_measureTurns 13 (some .int) rm_X3_measureTurns [.ref (X.2.1 t), .long p1, .int p3] l S (f_X3_measureTurns t p1 p3 S) :=
  mMet_of (by decide +kernel) rfl (Nat.le_of_ble_eq_true rfl) (w_X3_measureTurns X l t p1 p3 S ht)
