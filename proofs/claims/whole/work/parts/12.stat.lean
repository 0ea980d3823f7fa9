/-! TraceBench.isIn(III)Z -/
def f_X11_isIn (p0 : Int32) (p1 : Int32) (p2 : Int32) (S : mM) : Option (Int32 × mM) :=
  if p0 < p1 then
    some ((0 : Int32), S)
  else
    if p2 < p0 then
      some ((0 : Int32), S)
    else
      some ((1 : Int32), S)
set_option maxRecDepth 100000 in
set_option maxHeartbeats 4000000 in
theorem w_X11_isIn (X : mX) (l : Launch) (p0 : Int32) (p1 : Int32) (p2 : Int32) (S : mM) : MW X viI rm_X11_isIn cX11_isIn RX11 3 (some .boolean) l S [(0, .int p0), (1, .int p1), (2, .int p2)] [] 0 (f_X11_isIn p0 p1 p2 S) := by
  unfold f_X11_isIn
  refine mw_iload_n 0 dX11_isIn_0 rfl rfl ?_
  refine mw_iload_n 1 dX11_isIn_1 rfl rfl ?_
  refine mw_icmp_lt (tgt := 14) dX11_isIn_2 (by decide) ?_ ?_
  · refine mw_iconst (v := (0 : Int32)) dX11_isIn_14 (by decide) ?_
    exact mw_zret (by decide) dX11_isIn_15
  · refine mw_iload_n 0 dX11_isIn_5 rfl rfl ?_
    refine mw_iload_n 2 dX11_isIn_6 rfl rfl ?_
    refine mw_icmp_gt (tgt := 14) dX11_isIn_7 (by decide) ?_ ?_
    · refine mw_iconst (v := (0 : Int32)) dX11_isIn_14 (by decide) ?_
      exact mw_zret (by decide) dX11_isIn_15
    · refine mw_iconst (v := (1 : Int32)) dX11_isIn_10 (by decide) ?_
      refine mw_goto (tgt := 15) dX11_isIn_11 (by decide) ?_
      exact mw_zret (by decide) dX11_isIn_15
theorem t_X11_isIn (X : mX) (l : Launch) (p0 : Int32) (p1 : Int32) (p2 : Int32) (S : mM) : mMet X viI yX11_isIn cX11_isIn 3 (some .boolean) rm_X11_isIn [.int p0, .int p1, .int p2] l S (f_X11_isIn p0 p1 p2 S) :=
  mMet_of (by decide +kernel) rfl (Nat.le_of_ble_eq_true rfl) (w_X11_isIn X l p0 p1 p2 S )
/-! TraceBench.isTrace(I)Z -/
def f_X11_isTrace (p0 : Int32) (S : mM) : Option (Int32 × mM) :=
  mBind (f_X11_isIn p0 (0 : Int32) (3 : Int32) S) fun r1 S2 =>
  if r1 = 0 ∨ r1 = 1 then some (r1, S2) else none
set_option maxRecDepth 100000 in
set_option maxHeartbeats 4000000 in
theorem w_X11_isTrace (X : mX) (l : Launch) (p0 : Int32) (S : mM) : MW X viI rm_X11_isTrace cX11_isTrace RX11 1 (some .boolean) l S [(0, .int p0)] [] 0 (f_X11_isTrace p0 S) := by
  unfold f_X11_isTrace
  refine mw_iload_n 0 dX11_isTrace_0 rfl rfl ?_
  refine mw_iconst (v := (0 : Int32)) dX11_isTrace_1 (by decide) ?_
  refine mw_iconst (v := (3 : Int32)) dX11_isTrace_2 (by decide) ?_
  refine mw_callS (t_X11_isIn X l p0 (0 : Int32) (3 : Int32) S) cd_X11_isIn lk_RX11_96 sn_X11_isIn in_RX11 de_X11_isIn ⟨rfl, rfl⟩ ⟨Nat.le_of_ble_eq_true rfl, Nat.le_of_ble_eq_true rfl⟩ rfl rfl ⟨Nat.le_of_ble_eq_true rfl, Nat.le_of_ble_eq_true rfl⟩ (Nat.le_of_ble_eq_true rfl) dX11_isTrace_3 (fun r1 S2 => ?_)
  refine mw_eq (st' := [.int r1]) rfl rfl ?_
  exact mw_zreturn dX11_isTrace_6
theorem t_X11_isTrace (X : mX) (l : Launch) (p0 : Int32) (S : mM) : mMet X viI yX11_isTrace cX11_isTrace 1 (some .boolean) rm_X11_isTrace [.int p0] l S (f_X11_isTrace p0 S) :=
  mMet_of (by decide +kernel) rfl (Nat.le_of_ble_eq_true rfl) (w_X11_isTrace X l p0 S )
/-! TraceBench.numberOn(II)I -/
def f_X11_numberOn (p0 : Int32) (p1 : Int32) (S : mM) : Option (Int32 × mM) :=
  some ((p1 >>> (((24 : Int32) - ((8 : Int32) * p0)) &&& 31)).toInt8.toInt32, S)
set_option maxRecDepth 100000 in
set_option maxHeartbeats 4000000 in
theorem w_X11_numberOn (X : mX) (l : Launch) (p0 : Int32) (p1 : Int32) (S : mM) : MW X viI rm_X11_numberOn cX11_numberOn RX11 2 (some .int) l S [(0, .int p0), (1, .int p1)] [] 0 (f_X11_numberOn p0 p1 S) := by
  unfold f_X11_numberOn
  refine mw_iload_n 1 dX11_numberOn_0 rfl rfl ?_
  refine mw_bipush (v := (24 : Int32)) dX11_numberOn_1 (by decide) ?_
  refine mw_bipush (v := (8 : Int32)) dX11_numberOn_3 (by decide) ?_
  refine mw_iload_n 0 dX11_numberOn_5 rfl rfl ?_
  refine mw_imul dX11_numberOn_6 ?_
  refine mw_isub dX11_numberOn_7 ?_
  refine mw_ishr dX11_numberOn_8 ?_
  refine mw_i2b dX11_numberOn_9 ?_
  exact mw_ireturn dX11_numberOn_10
theorem t_X11_numberOn (X : mX) (l : Launch) (p0 : Int32) (p1 : Int32) (S : mM) : mMet X viI yX11_numberOn cX11_numberOn 2 (some .int) rm_X11_numberOn [.int p0, .int p1] l S (f_X11_numberOn p0 p1 S) :=
  mMet_of (by decide +kernel) rfl (Nat.le_of_ble_eq_true rfl) (w_X11_numberOn X l p0 p1 S )
/-! TraceBench.sampleOn(II)I -/
def f_X11_sampleOn (p0 : Int32) (p1 : Int32) (S : mM) : Option (Int32 × mM) :=
  some (((p1 &&& (255 : Int32)) <<< (((24 : Int32) - ((8 : Int32) * p0)) &&& 31)), S)
set_option maxRecDepth 100000 in
set_option maxHeartbeats 4000000 in
theorem w_X11_sampleOn (X : mX) (l : Launch) (p0 : Int32) (p1 : Int32) (S : mM) : MW X viI rm_X11_sampleOn cX11_sampleOn RX11 2 (some .int) l S [(0, .int p0), (1, .int p1)] [] 0 (f_X11_sampleOn p0 p1 S) := by
  unfold f_X11_sampleOn
  refine mw_iload_n 1 dX11_sampleOn_0 rfl rfl ?_
  refine mw_sipush (v := (255 : Int32)) dX11_sampleOn_1 (by decide) ?_
  refine mw_iand dX11_sampleOn_4 ?_
  refine mw_bipush (v := (24 : Int32)) dX11_sampleOn_5 (by decide) ?_
  refine mw_bipush (v := (8 : Int32)) dX11_sampleOn_7 (by decide) ?_
  refine mw_iload_n 0 dX11_sampleOn_9 rfl rfl ?_
  refine mw_imul dX11_sampleOn_10 ?_
  refine mw_isub dX11_sampleOn_11 ?_
  refine mw_ishl dX11_sampleOn_12 ?_
  exact mw_ireturn dX11_sampleOn_13
theorem t_X11_sampleOn (X : mX) (l : Launch) (p0 : Int32) (p1 : Int32) (S : mM) : mMet X viI yX11_sampleOn cX11_sampleOn 2 (some .int) rm_X11_sampleOn [.int p0, .int p1] l S (f_X11_sampleOn p0 p1 S) :=
  mMet_of (by decide +kernel) rfl (Nat.le_of_ble_eq_true rfl) (w_X11_sampleOn X l p0 p1 S )
