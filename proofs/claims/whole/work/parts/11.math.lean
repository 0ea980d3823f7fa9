/-! java/lang/Math.floorMod(II)I -/
def f_J9_floorMod_7cf53 (p0 : Int32) (p1 : Int32) (S : mM) : Option (Int32 × mM) :=
  if ¬ p1 = 0 then
  bnd (p0 - p0 / p1 * p1) fun x2 =>
  if 0 ≤ (p0 ^^^ p1) then
    some (x2, S)
  else
    if x2 = 0 then
      some (x2, S)
    else
      some ((x2 + p1), S) else none
set_option maxRecDepth 100000 in
set_option maxHeartbeats 4000000 in
theorem w_J9_floorMod_7cf53 (X : mX) (l : Launch) (p0 : Int32) (p1 : Int32) (S : mM) : MW X viI rm_J9_floorMod_7cf53 cJ9_floorMod_7cf53 RJ9 3 (some .int) l S [(0, .int p0), (1, .int p1)] [] 0 (f_J9_floorMod_7cf53 p0 p1 S) := by
  unfold f_J9_floorMod_7cf53
  refine mw_iload_n 0 dJ9_floorMod_7cf53_0 rfl rfl ?_
  refine mw_iload_n 1 dJ9_floorMod_7cf53_1 rfl rfl ?_
  refine mw_chk (fun h1 => ?_)
  refine mw_irem dJ9_floorMod_7cf53_2 h1 ?_
  refine mw_bndI (fun x2 => ?_)
  refine mw_istore_n (lv' := [(2, .int x2), (0, .int p0), (1, .int p1)]) dJ9_floorMod_7cf53_3 rfl (by decide) rfl ?_
  refine mw_iload_n 1 dJ9_floorMod_7cf53_4 rfl rfl ?_
  refine mw_iload_n 2 dJ9_floorMod_7cf53_5 rfl rfl ?_
  refine mw_ixor dJ9_floorMod_7cf53_6 ?_
  refine mw_if_ge (tgt := 18) dJ9_floorMod_7cf53_7 (by decide) ?_ ?_
  · refine mw_iload_n 0 dJ9_floorMod_7cf53_18 rfl rfl ?_
    exact mw_ireturn dJ9_floorMod_7cf53_19
  · refine mw_iload_n 0 dJ9_floorMod_7cf53_10 rfl rfl ?_
    refine mw_if_eq (tgt := 18) dJ9_floorMod_7cf53_11 (by decide) ?_ ?_
    · refine mw_iload_n 0 dJ9_floorMod_7cf53_18 rfl rfl ?_
      exact mw_ireturn dJ9_floorMod_7cf53_19
    · refine mw_iload_n 0 dJ9_floorMod_7cf53_14 rfl rfl ?_
      refine mw_iload_n 2 dJ9_floorMod_7cf53_15 rfl rfl ?_
      refine mw_iadd dJ9_floorMod_7cf53_16 ?_
      exact mw_ireturn dJ9_floorMod_7cf53_17
theorem t_J9_floorMod_7cf53 (X : mX) (l : Launch) (p0 : Int32) (p1 : Int32) (S : mM) : mMet X viI yJ9_floorMod_7cf53 cJ9_floorMod_7cf53 3 (some .int) rm_J9_floorMod_7cf53 [.int p0, .int p1] l S (f_J9_floorMod_7cf53 p0 p1 S) :=
  mMet_of (by decide +kernel) rfl (Nat.le_of_ble_eq_true rfl) (w_J9_floorMod_7cf53 X l p0 p1 S )
/-! java/lang/Math.max(II)I -/
def f_J9_max_7cf53 (p0 : Int32) (p1 : Int32) (S : mM) : Option (Int32 × mM) :=
  if p0 < p1 then
    some (p1, S)
  else
    some (p0, S)
set_option maxRecDepth 100000 in
set_option maxHeartbeats 4000000 in
theorem w_J9_max_7cf53 (X : mX) (l : Launch) (p0 : Int32) (p1 : Int32) (S : mM) : MW X viI rm_J9_max_7cf53 cJ9_max_7cf53 RJ9 2 (some .int) l S [(0, .int p0), (1, .int p1)] [] 0 (f_J9_max_7cf53 p0 p1 S) := by
  unfold f_J9_max_7cf53
  refine mw_iload_n 0 dJ9_max_7cf53_0 rfl rfl ?_
  refine mw_iload_n 1 dJ9_max_7cf53_1 rfl rfl ?_
  refine mw_icmp_lt (tgt := 9) dJ9_max_7cf53_2 (by decide) ?_ ?_
  · refine mw_iload_n 1 dJ9_max_7cf53_9 rfl rfl ?_
    exact mw_ireturn dJ9_max_7cf53_10
  · refine mw_iload_n 0 dJ9_max_7cf53_5 rfl rfl ?_
    refine mw_goto (tgt := 10) dJ9_max_7cf53_6 (by decide) ?_
    exact mw_ireturn dJ9_max_7cf53_10
theorem t_J9_max_7cf53 (X : mX) (l : Launch) (p0 : Int32) (p1 : Int32) (S : mM) : mMet X viI yJ9_max_7cf53 cJ9_max_7cf53 2 (some .int) rm_J9_max_7cf53 [.int p0, .int p1] l S (f_J9_max_7cf53 p0 p1 S) :=
  mMet_of (by decide +kernel) rfl (Nat.le_of_ble_eq_true rfl) (w_J9_max_7cf53 X l p0 p1 S )
/-! java/lang/Math.min(II)I -/
def f_J9_min_7cf53 (p0 : Int32) (p1 : Int32) (S : mM) : Option (Int32 × mM) :=
  if p1 < p0 then
    some (p1, S)
  else
    some (p0, S)
set_option maxRecDepth 100000 in
set_option maxHeartbeats 4000000 in
theorem w_J9_min_7cf53 (X : mX) (l : Launch) (p0 : Int32) (p1 : Int32) (S : mM) : MW X viI rm_J9_min_7cf53 cJ9_min_7cf53 RJ9 2 (some .int) l S [(0, .int p0), (1, .int p1)] [] 0 (f_J9_min_7cf53 p0 p1 S) := by
  unfold f_J9_min_7cf53
  refine mw_iload_n 0 dJ9_min_7cf53_0 rfl rfl ?_
  refine mw_iload_n 1 dJ9_min_7cf53_1 rfl rfl ?_
  refine mw_icmp_gt (tgt := 9) dJ9_min_7cf53_2 (by decide) ?_ ?_
  · refine mw_iload_n 1 dJ9_min_7cf53_9 rfl rfl ?_
    exact mw_ireturn dJ9_min_7cf53_10
  · refine mw_iload_n 0 dJ9_min_7cf53_5 rfl rfl ?_
    refine mw_goto (tgt := 10) dJ9_min_7cf53_6 (by decide) ?_
    exact mw_ireturn dJ9_min_7cf53_10
theorem t_J9_min_7cf53 (X : mX) (l : Launch) (p0 : Int32) (p1 : Int32) (S : mM) : mMet X viI yJ9_min_7cf53 cJ9_min_7cf53 2 (some .int) rm_J9_min_7cf53 [.int p0, .int p1] l S (f_J9_min_7cf53 p0 p1 S) :=
  mMet_of (by decide +kernel) rfl (Nat.le_of_ble_eq_true rfl) (w_J9_min_7cf53 X l p0 p1 S )
/-! java/lang/Math.floorDiv(JJ)J -/
def f_J9_floorDiv_f86c9 (p0 : Int64) (p2 : Int64) (S : mM) : Option (Int64 × mM) :=
  if ¬ p2 = 0 then
  bnd (p0 / p2) fun x2 =>
  if 0 ≤ (lg_cmp (p0 ^^^ p2) (0 : Int64)) then
    some (x2, S)
  else
    if (lg_cmp (x2 * p2) p0) = 0 then
      some (x2, S)
    else
      some ((x2 - (1 : Int64)), S) else none
set_option maxRecDepth 100000 in
set_option maxHeartbeats 4000000 in
theorem w_J9_floorDiv_f86c9 (X : mX) (l : Launch) (p0 : Int64) (p2 : Int64) (S : mM) : MW X viJ rm_J9_floorDiv_f86c9 cJ9_floorDiv_f86c9 RJ9 6 (some .long) l S [(0, .long p0), (2, .long p2)] [] 0 (f_J9_floorDiv_f86c9 p0 p2 S) := by
  unfold f_J9_floorDiv_f86c9
  refine mw_lload_n 0 dJ9_floorDiv_f86c9_0 rfl rfl ?_
  refine mw_lload_n 1 dJ9_floorDiv_f86c9_1 rfl rfl ?_
  refine mw_chk (fun h1 => ?_)
  refine mw_ldiv dJ9_floorDiv_f86c9_2 h1 ?_
  refine mw_bndJ (fun x2 => ?_)
  refine mw_lstore (lv' := [(4, .long x2), (0, .long p0), (2, .long p2)]) dJ9_floorDiv_f86c9_3 (by decide) rfl ?_
  refine mw_lload_n 1 dJ9_floorDiv_f86c9_5 rfl rfl ?_
  refine mw_lload_n 2 dJ9_floorDiv_f86c9_6 rfl rfl ?_
  refine mw_lxor dJ9_floorDiv_f86c9_7 ?_
  refine mw_lconst (v := (0 : Int64)) dJ9_floorDiv_f86c9_8 (by decide) ?_
  refine mw_lcmp dJ9_floorDiv_f86c9_9 ?_
  refine mw_if_ge (tgt := 27) dJ9_floorDiv_f86c9_10 (by decide) ?_ ?_
  · refine mw_lload 0 dJ9_floorDiv_f86c9_27 rfl ?_
    exact mw_lreturn dJ9_floorDiv_f86c9_29
  · refine mw_lload 0 dJ9_floorDiv_f86c9_13 rfl ?_
    refine mw_lload_n 2 dJ9_floorDiv_f86c9_15 rfl rfl ?_
    refine mw_lmul dJ9_floorDiv_f86c9_16 ?_
    refine mw_lload_n 1 dJ9_floorDiv_f86c9_17 rfl rfl ?_
    refine mw_lcmp dJ9_floorDiv_f86c9_18 ?_
    refine mw_if_eq (tgt := 27) dJ9_floorDiv_f86c9_19 (by decide) ?_ ?_
    · refine mw_lload 0 dJ9_floorDiv_f86c9_27 rfl ?_
      exact mw_lreturn dJ9_floorDiv_f86c9_29
    · refine mw_lload 0 dJ9_floorDiv_f86c9_22 rfl ?_
      refine mw_lconst (v := (1 : Int64)) dJ9_floorDiv_f86c9_24 (by decide) ?_
      refine mw_lsub dJ9_floorDiv_f86c9_25 ?_
      exact mw_lreturn dJ9_floorDiv_f86c9_26
theorem t_J9_floorDiv_f86c9 (X : mX) (l : Launch) (p0 : Int64) (p2 : Int64) (S : mM) : mMet X viJ yJ9_floorDiv_f86c9 cJ9_floorDiv_f86c9 6 (some .long) rm_J9_floorDiv_f86c9 [.long p0, .long p2] l S (f_J9_floorDiv_f86c9 p0 p2 S) :=
  mMet_of (by decide +kernel) rfl (Nat.le_of_ble_eq_true rfl) (w_J9_floorDiv_f86c9 X l p0 p2 S )
