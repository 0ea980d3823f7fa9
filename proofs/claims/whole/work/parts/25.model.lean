/-! TraceBenchModel.in(JJJ)Z -/
def f_X12_in (p0 : Int64) (p2 : Int64) (p4 : Int64) (S : mM) : Option (Int32 × mM) :=
  if (lg_cmp p0 p2) < 0 then
    some ((0 : Int32), S)
  else
    if 0 < (lg_cmp p0 p4) then
      some ((0 : Int32), S)
    else
      some ((1 : Int32), S)
set_option maxRecDepth 100000 in
set_option maxHeartbeats 4000000 in
theorem w_X12_in (X : mX) (l : Launch) (p0 : Int64) (p2 : Int64) (p4 : Int64) (S : mM) : MW X viI rm_X12_in cX12_in RX12 6 (some .boolean) l S [(0, .long p0), (2, .long p2), (4, .long p4)] [] 0 (f_X12_in p0 p2 p4 S) := by
  unfold f_X12_in
  refine mw_lload_n 0 dX12_in_0 rfl rfl ?_
  refine mw_lload_n 1 dX12_in_1 rfl rfl ?_
  refine mw_lcmp dX12_in_2 ?_
  refine mw_if_lt (tgt := 17) dX12_in_3 (by decide) ?_ ?_
  · refine mw_iconst (v := (0 : Int32)) dX12_in_17 (by decide) ?_
    exact mw_zret (by decide) dX12_in_18
  · refine mw_lload_n 0 dX12_in_6 rfl rfl ?_
    refine mw_lload 2 dX12_in_7 rfl ?_
    refine mw_lcmp dX12_in_9 ?_
    refine mw_if_gt (tgt := 17) dX12_in_10 (by decide) ?_ ?_
    · refine mw_iconst (v := (0 : Int32)) dX12_in_17 (by decide) ?_
      exact mw_zret (by decide) dX12_in_18
    · refine mw_iconst (v := (1 : Int32)) dX12_in_13 (by decide) ?_
      refine mw_goto (tgt := 18) dX12_in_14 (by decide) ?_
      exact mw_zret (by decide) dX12_in_18
theorem t_X12_in (X : mX) (l : Launch) (p0 : Int64) (p2 : Int64) (p4 : Int64) (S : mM) : mMet X viI yX12_in cX12_in 6 (some .boolean) rm_X12_in [.long p0, .long p2, .long p4] l S (f_X12_in p0 p2 p4 S) :=
  mMet_of (by decide +kernel) rfl (Nat.le_of_ble_eq_true rfl) (w_X12_in X l p0 p2 p4 S )
/-! TraceBenchModel.isRow(I)Z -/
def f_X12_isRow (p1 : Int32) (S : mM) : Option (Int32 × mM) :=
  mBind (f_X12_in p1.toInt64 (0 : Int64) (3 : Int64) S) fun r1 S2 =>
  if r1 = 0 then
    some ((0 : Int32), S2)
  else
    if 0 ≤ p1 ∧ p1.toNatClampNeg < 4 then
    (if (S2.1 91 p1.toNatClampNeg) = (-4 : Int32) then
      some ((0 : Int32), S2)
    else
      some ((1 : Int32), S2))
    else none
set_option maxRecDepth 100000 in
set_option maxHeartbeats 4000000 in
theorem w_X12_isRow (X : mX) (l : Launch) (p1 : Int32) (S : mM) : MW X viI rm_X12_isRow cX12_isRow RX12 2 (some .boolean) l S [(0, .ref (X.2.1 69)), (1, .int p1)] [] 0 (f_X12_isRow p1 S) := by
  unfold f_X12_isRow
  refine mw_iload_n 1 dX12_isRow_0 rfl rfl ?_
  refine mw_i2l dX12_isRow_1 ?_
  refine mw_lconst (v := (0 : Int64)) dX12_isRow_2 (by decide) ?_
  refine mw_ldc2 cl_RX12_257 dX12_isRow_3 ?_
  refine mw_callS (t_X12_in X l p1.toInt64 (0 : Int64) (3 : Int64) S) cd_X12_in lk_RX12_115 sn_X12_in in_RX12 de_X12_in ⟨rfl, rfl⟩ ⟨Nat.le_of_ble_eq_true rfl, Nat.le_of_ble_eq_true rfl⟩ rfl rfl ⟨Nat.le_of_ble_eq_true rfl, Nat.le_of_ble_eq_true rfl⟩ (Nat.le_of_ble_eq_true rfl) dX12_isRow_6 (fun r1 S2 => ?_)
  refine mw_eq (st' := [.int r1]) rfl rfl ?_
  refine mw_if_eq (tgt := 27) dX12_isRow_9 (by decide) ?_ ?_
  · refine mw_iconst (v := (0 : Int32)) dX12_isRow_27 (by decide) ?_
    exact mw_zret (by decide) dX12_isRow_28
  · refine mw_aload_n 0 dX12_isRow_12 rfl rfl ?_
    refine gf_RX12_84 mk_69 dX12_isRow_13 ?_
    refine mw_iload_n 1 dX12_isRow_16 rfl rfl ?_
    refine mw_iaload mk_91 ml_91 dX12_isRow_17 ?_
    refine mw_bipush (v := (-4 : Int32)) dX12_isRow_18 (by decide) ?_
    refine mw_icmp_eq (tgt := 27) dX12_isRow_20 (by decide) ?_ ?_
    · refine mw_iconst (v := (0 : Int32)) dX12_isRow_27 (by decide) ?_
      exact mw_zret (by decide) dX12_isRow_28
    · refine mw_iconst (v := (1 : Int32)) dX12_isRow_23 (by decide) ?_
      refine mw_goto (tgt := 28) dX12_isRow_24 (by decide) ?_
      exact mw_zret (by decide) dX12_isRow_28
theorem t_X12_isRow (X : mX) (l : Launch) (p1 : Int32) (S : mM) : mMet X viI yX12_isRow cX12_isRow 2 (some .boolean) rm_X12_isRow [.ref (X.2.1 69), .int p1] l S (f_X12_isRow p1 S) :=
  mMet_of (by decide +kernel) rfl (Nat.le_of_ble_eq_true rfl) (w_X12_isRow X l p1 S )
/-! TraceBenchModel.about(II)I -/
def f_X12_about_130 (k39 : Int32 → Int32 → Int32 → Int32 → Int32 → Int32 → Int32 → mM → Option (Int32 × mM)) (y1 : Int32) (y2 : Int32) (y3 : Int32) (y5 : Int32) (y6 : Int32) (y7 : Int32) (y8 : Int32) (z0 : Int32) (S : mM) : Option (Int32 × mM) :=
  if y5 = (-4 : Int32) then
    bnd (y7 + (1 : Int32)) fun x1 =>
    k39 y1 y2 y3 z0 y7 y6 x1 S
  else
    if 0 ≤ y8 ∧ y8.toNatClampNeg < 804 then
    (if 0 ≤ (((201 : Int32) * y1) + y5) ∧ (((201 : Int32) * y1) + y5).toNatClampNeg < 804 then
    (if (lg_cmp (S.2.1 92 y8.toNatClampNeg) (S.2.1 92 (((201 : Int32) * y1) + y5).toNatClampNeg)) ≤ 0 then
      bnd (y7 + (1 : Int32)) fun x2 =>
      k39 y1 y2 y3 z0 y5 y6 x2 S
    else
      bnd (y7 + (1 : Int32)) fun x3 =>
      k39 y1 y2 y3 z0 y7 y6 x3 S)
    else none)
    else none
set_option maxRecDepth 100000 in
set_option maxHeartbeats 4000000 in
theorem w_X12_about_130 (X : mX) (l : Launch) (k39 : Int32 → Int32 → Int32 → Int32 → Int32 → Int32 → Int32 → mM → Option (Int32 × mM)) (hk39 : ∀ (y1 : Int32) (y2 : Int32) (y3 : Int32) (y4 : Int32) (y5 : Int32) (y6 : Int32) (y7 : Int32) (S : mM), MW X viI rm_X12_about cX12_about RX12 9 (some .int) l S [(0, .ref (X.2.1 69)), (1, .int y1), (2, .int y2), (3, .int y3), (4, .int y4), (5, .int y5), (6, .int y6), (7, .int y7)] [] 39 (k39 y1 y2 y3 y4 y5 y6 y7 S)) (y1 : Int32) (y2 : Int32) (y3 : Int32) (y5 : Int32) (y6 : Int32) (y7 : Int32) (y8 : Int32) (z0 : Int32) (S : mM) : MW X viI rm_X12_about cX12_about RX12 9 (some .int) l S [(0, .ref (X.2.1 69)), (1, .int y1), (2, .int y2), (3, .int y3), (5, .int y5), (6, .int y6), (7, .int y7), (8, .int y8)] [.int z0] 130 (f_X12_about_130 k39 y1 y2 y3 y5 y6 y7 y8 z0 S) := by
  unfold f_X12_about_130
  refine mw_istore (lv' := [(4, .int z0), (0, .ref (X.2.1 69)), (1, .int y1), (2, .int y2), (3, .int y3), (5, .int y5), (6, .int y6), (7, .int y7), (8, .int y8)]) dX12_about_130 (by decide) rfl ?_
  refine mw_iload 5 dX12_about_132 rfl ?_
  refine mw_bipush (v := (-4 : Int32)) dX12_about_134 (by decide) ?_
  refine mw_icmp_eq (tgt := 163) dX12_about_136 (by decide) ?_ ?_
  · refine mw_iload 7 dX12_about_163 rfl ?_
    refine mw_goto (tgt := 170) dX12_about_165 (by decide) ?_
    refine mw_istore (lv' := [(5, .int y7), (4, .int z0), (0, .ref (X.2.1 69)), (1, .int y1), (2, .int y2), (3, .int y3), (6, .int y6), (7, .int y7), (8, .int y8)]) dX12_about_170 (by decide) rfl ?_
    refine mw_iincB (lvf := fun x1 => [(7, .int x1), (5, .int y7), (4, .int z0), (0, .ref (X.2.1 69)), (1, .int y1), (2, .int y2), (3, .int y3), (6, .int y6), (8, .int y8)]) (k := 7) dX12_about_172 rfl (by decide) (by decide) (fun _ => rfl) (fun x1 => ?_)
    refine mw_goto (tgt := 39) dX12_about_175 (by decide) ?_
    exact mw_sub [3, 4, 5, 6, 2, 1, 7, 0] rfl (hk39 y1 y2 y3 z0 y7 y6 x1 S)
  · refine mw_aload_n 1 dX12_about_139 rfl rfl ?_
    refine gf_RX12_87 mk_69 dX12_about_140 ?_
    refine mw_iload 8 dX12_about_143 rfl ?_
    refine mw_laload mk_92 ml_92 dX12_about_145 ?_
    refine mw_aload_n 1 dX12_about_146 rfl rfl ?_
    refine gf_RX12_87 mk_69 dX12_about_147 ?_
    refine mw_sipush (v := (201 : Int32)) dX12_about_150 (by decide) ?_
    refine mw_iload_n 2 dX12_about_153 rfl rfl ?_
    refine mw_imul dX12_about_154 ?_
    refine mw_iload 5 dX12_about_155 rfl ?_
    refine mw_iadd dX12_about_157 ?_
    refine mw_laload mk_92 ml_92 dX12_about_158 ?_
    refine mw_lcmp dX12_about_159 ?_
    refine mw_if_le (tgt := 168) dX12_about_160 (by decide) ?_ ?_
    · refine mw_iload 5 dX12_about_168 rfl ?_
      refine mw_istore (lv' := [(5, .int y5), (4, .int z0), (0, .ref (X.2.1 69)), (1, .int y1), (2, .int y2), (3, .int y3), (6, .int y6), (7, .int y7), (8, .int y8)]) dX12_about_170 (by decide) rfl ?_
      refine mw_iincB (lvf := fun x2 => [(7, .int x2), (5, .int y5), (4, .int z0), (0, .ref (X.2.1 69)), (1, .int y1), (2, .int y2), (3, .int y3), (6, .int y6), (8, .int y8)]) (k := 7) dX12_about_172 rfl (by decide) (by decide) (fun _ => rfl) (fun x2 => ?_)
      refine mw_goto (tgt := 39) dX12_about_175 (by decide) ?_
      exact mw_sub [3, 4, 5, 6, 2, 1, 7, 0] rfl (hk39 y1 y2 y3 z0 y5 y6 x2 S)
    · refine mw_iload 7 dX12_about_163 rfl ?_
      refine mw_goto (tgt := 170) dX12_about_165 (by decide) ?_
      refine mw_istore (lv' := [(5, .int y7), (4, .int z0), (0, .ref (X.2.1 69)), (1, .int y1), (2, .int y2), (3, .int y3), (6, .int y6), (7, .int y7), (8, .int y8)]) dX12_about_170 (by decide) rfl ?_
      refine mw_iincB (lvf := fun x3 => [(7, .int x3), (5, .int y7), (4, .int z0), (0, .ref (X.2.1 69)), (1, .int y1), (2, .int y2), (3, .int y3), (6, .int y6), (8, .int y8)]) (k := 7) dX12_about_172 rfl (by decide) (by decide) (fun _ => rfl) (fun x3 => ?_)
      refine mw_goto (tgt := 39) dX12_about_175 (by decide) ?_
      exact mw_sub [3, 4, 5, 6, 2, 1, 7, 0] rfl (hk39 y1 y2 y3 z0 y7 y6 x3 S)
def f_X12_about_123 (k39 : Int32 → Int32 → Int32 → Int32 → Int32 → Int32 → Int32 → mM → Option (Int32 × mM)) (y1 : Int32) (y2 : Int32) (y3 : Int32) (y5 : Int32) (y6 : Int32) (y7 : Int32) (y8 : Int32) (S : mM) : Option (Int32 × mM) :=
  f_X12_about_130 k39 y1 y2 y3 y5 y6 y7 y8 y7 S
set_option maxRecDepth 100000 in
set_option maxHeartbeats 4000000 in
theorem w_X12_about_123 (X : mX) (l : Launch) (k39 : Int32 → Int32 → Int32 → Int32 → Int32 → Int32 → Int32 → mM → Option (Int32 × mM)) (hk39 : ∀ (y1 : Int32) (y2 : Int32) (y3 : Int32) (y4 : Int32) (y5 : Int32) (y6 : Int32) (y7 : Int32) (S : mM), MW X viI rm_X12_about cX12_about RX12 9 (some .int) l S [(0, .ref (X.2.1 69)), (1, .int y1), (2, .int y2), (3, .int y3), (4, .int y4), (5, .int y5), (6, .int y6), (7, .int y7)] [] 39 (k39 y1 y2 y3 y4 y5 y6 y7 S)) (y1 : Int32) (y2 : Int32) (y3 : Int32) (y5 : Int32) (y6 : Int32) (y7 : Int32) (y8 : Int32) (S : mM) : MW X viI rm_X12_about cX12_about RX12 9 (some .int) l S [(0, .ref (X.2.1 69)), (1, .int y1), (2, .int y2), (3, .int y3), (5, .int y5), (6, .int y6), (7, .int y7), (8, .int y8)] [] 123 (f_X12_about_123 k39 y1 y2 y3 y5 y6 y7 y8 S) := by
  unfold f_X12_about_123
  refine mw_iload 6 dX12_about_123 rfl ?_
  refine mw_goto (tgt := 130) dX12_about_125 (by decide) ?_
  exact mw_sub [0, 1, 2, 3, 4, 5, 6, 7] rfl (w_X12_about_130 X l k39 hk39 y1 y2 y3 y5 y6 y7 y8 y7 S)
def f_X12_about_39 (n : Nat) (y1 : Int32) (y2 : Int32) (y3 : Int32) (y4 : Int32) (y5 : Int32) (y6 : Int32) (y7 : Int32) (S : mM) : Option (Int32 × mM) := match n with
  | 0 => none
  | n + 1 =>
    if 0 ≤ y1 ∧ y1.toNatClampNeg < 4 then
    (if (S.1 91 y1.toNatClampNeg) ≤ y7 then
      if y2 = 0 then
        if 0 ≤ y1 ∧ y1.toNatClampNeg < 4 then
        (some ((S.1 91 y1.toNatClampNeg), S))
        else none
      else
        if y2 = (1 : Int32) then
          some (y3, S)
        else
          if y2 = (2 : Int32) then
            some (y4, S)
          else
            if y2 = (3 : Int32) then
              some (y5, S)
            else
              some (y6, S)
    else
      bnd (((201 : Int32) * y1) + y7) fun x1 =>
      if 0 ≤ x1 ∧ x1.toNatClampNeg < 804 then
      (if (S.1 93 x1.toNatClampNeg) = 0 then
        if y4 = (-4 : Int32) then
          f_X12_about_123 (f_X12_about_39 n) y1 y2 y3 y5 y6 y7 x1 S
        else
          if 0 ≤ x1 ∧ x1.toNatClampNeg < 804 then
          (if 0 ≤ (((201 : Int32) * y1) + y4) ∧ (((201 : Int32) * y1) + y4).toNatClampNeg < 804 then
          (if 0 ≤ (lg_cmp (S.2.1 92 x1.toNatClampNeg) (S.2.1 92 (((201 : Int32) * y1) + y4).toNatClampNeg)) then
            f_X12_about_130 (f_X12_about_39 n) y1 y2 y3 y5 y6 y7 x1 y4 S
          else
            f_X12_about_123 (f_X12_about_39 n) y1 y2 y3 y5 y6 y7 x1 S)
          else none)
          else none
      else
        bnd (y3 + (1 : Int32)) fun x2 =>
        if y6 = (-4 : Int32) then
          bnd (y7 + (1 : Int32)) fun x3 =>
          f_X12_about_39 n y1 y2 x2 y4 y5 y7 x3 S
        else
          bnd (y7 + (1 : Int32)) fun x4 =>
          f_X12_about_39 n y1 y2 x2 y4 y5 y6 x4 S)
      else none)
    else none
set_option maxRecDepth 100000 in
set_option maxHeartbeats 4000000 in
theorem w_X12_about_39 (X : mX) (l : Launch) (n : Nat) (y1 : Int32) (y2 : Int32) (y3 : Int32) (y4 : Int32) (y5 : Int32) (y6 : Int32) (y7 : Int32) (S : mM) : MW X viI rm_X12_about cX12_about RX12 9 (some .int) l S [(0, .ref (X.2.1 69)), (1, .int y1), (2, .int y2), (3, .int y3), (4, .int y4), (5, .int y5), (6, .int y6), (7, .int y7)] [] 39 (f_X12_about_39 n y1 y2 y3 y4 y5 y6 y7 S) := by
  induction n generalizing y1 y2 y3 y4 y5 y6 y7 S with
  | zero => exact mw_none
  | succ n ih =>
    unfold f_X12_about_39
    refine mw_iload 7 dX12_about_39 rfl ?_
    refine mw_aload_n 0 dX12_about_41 rfl rfl ?_
    refine gf_RX12_84 mk_69 dX12_about_42 ?_
    refine mw_iload_n 1 dX12_about_45 rfl rfl ?_
    refine mw_iaload mk_91 ml_91 dX12_about_46 ?_
    refine mw_icmp_ge (tgt := 178) dX12_about_47 (by decide) ?_ ?_
    · refine mw_iload_n 2 dX12_about_178 rfl rfl ?_
      refine mw_if_ne (tgt := 191) dX12_about_179 (by decide) ?_ ?_
      · refine mw_aload_n 0 dX12_about_182 rfl rfl ?_
        refine gf_RX12_84 mk_69 dX12_about_183 ?_
        refine mw_iload_n 1 dX12_about_186 rfl rfl ?_
        refine mw_iaload mk_91 ml_91 dX12_about_187 ?_
        refine mw_goto (tgt := 222) dX12_about_188 (by decide) ?_
        exact mw_ireturn dX12_about_222
      · refine mw_iload_n 2 dX12_about_191 rfl rfl ?_
        refine mw_iconst (v := (1 : Int32)) dX12_about_192 (by decide) ?_
        refine mw_icmp_ne (tgt := 200) dX12_about_193 (by decide) ?_ ?_
        · refine mw_iload_n 3 dX12_about_196 rfl rfl ?_
          refine mw_goto (tgt := 222) dX12_about_197 (by decide) ?_
          exact mw_ireturn dX12_about_222
        · refine mw_iload_n 2 dX12_about_200 rfl rfl ?_
          refine mw_iconst (v := (2 : Int32)) dX12_about_201 (by decide) ?_
          refine mw_icmp_ne (tgt := 210) dX12_about_202 (by decide) ?_ ?_
          · refine mw_iload 4 dX12_about_205 rfl ?_
            refine mw_goto (tgt := 222) dX12_about_207 (by decide) ?_
            exact mw_ireturn dX12_about_222
          · refine mw_iload_n 2 dX12_about_210 rfl rfl ?_
            refine mw_iconst (v := (3 : Int32)) dX12_about_211 (by decide) ?_
            refine mw_icmp_ne (tgt := 220) dX12_about_212 (by decide) ?_ ?_
            · refine mw_iload 5 dX12_about_215 rfl ?_
              refine mw_goto (tgt := 222) dX12_about_217 (by decide) ?_
              exact mw_ireturn dX12_about_222
            · refine mw_iload 6 dX12_about_220 rfl ?_
              exact mw_ireturn dX12_about_222
    · refine mw_sipush (v := (201 : Int32)) dX12_about_50 (by decide) ?_
      refine mw_iload_n 1 dX12_about_53 rfl rfl ?_
      refine mw_imul dX12_about_54 ?_
      refine mw_iload 7 dX12_about_55 rfl ?_
      refine mw_iadd dX12_about_57 ?_
      refine mw_bndI (fun x1 => ?_)
      refine mw_istore (lv' := [(8, .int x1), (0, .ref (X.2.1 69)), (1, .int y1), (2, .int y2), (3, .int y3), (4, .int y4), (5, .int y5), (6, .int y6), (7, .int y7)]) dX12_about_58 (by decide) rfl ?_
      refine mw_aload_n 1 dX12_about_60 rfl rfl ?_
      refine gf_RX12_91 mk_69 dX12_about_61 ?_
      refine mw_iload 0 dX12_about_64 rfl ?_
      refine mw_zaload mk_93 ml_93 dX12_about_66 ?_
      refine mw_if_eq (tgt := 92) dX12_about_67 (by decide) ?_ ?_
      · refine mw_iload 5 dX12_about_92 rfl ?_
        refine mw_bipush (v := (-4 : Int32)) dX12_about_94 (by decide) ?_
        refine mw_icmp_eq (tgt := 123) dX12_about_96 (by decide) ?_ ?_
        · exact mw_sub [1, 2, 3, 4, 6, 7, 8, 0] rfl (w_X12_about_123 X l (f_X12_about_39 n) ih y1 y2 y3 y5 y6 y7 x1 S)
        · refine mw_aload_n 1 dX12_about_99 rfl rfl ?_
          refine gf_RX12_87 mk_69 dX12_about_100 ?_
          refine mw_iload 0 dX12_about_103 rfl ?_
          refine mw_laload mk_92 ml_92 dX12_about_105 ?_
          refine mw_aload_n 1 dX12_about_106 rfl rfl ?_
          refine gf_RX12_87 mk_69 dX12_about_107 ?_
          refine mw_sipush (v := (201 : Int32)) dX12_about_110 (by decide) ?_
          refine mw_iload_n 2 dX12_about_113 rfl rfl ?_
          refine mw_imul dX12_about_114 ?_
          refine mw_iload 5 dX12_about_115 rfl ?_
          refine mw_iadd dX12_about_117 ?_
          refine mw_laload mk_92 ml_92 dX12_about_118 ?_
          refine mw_lcmp dX12_about_119 ?_
          refine mw_if_ge (tgt := 128) dX12_about_120 (by decide) ?_ ?_
          · refine mw_iload 5 dX12_about_128 rfl ?_
            exact mw_sub [1, 2, 3, 4, 6, 7, 8, 0] rfl (w_X12_about_130 X l (f_X12_about_39 n) ih y1 y2 y3 y5 y6 y7 x1 y4 S)
          · exact mw_sub [1, 2, 3, 4, 6, 7, 8, 0] rfl (w_X12_about_123 X l (f_X12_about_39 n) ih y1 y2 y3 y5 y6 y7 x1 S)
      · refine mw_iincB (lvf := fun x2 => [(3, .int x2), (8, .int x1), (0, .ref (X.2.1 69)), (1, .int y1), (2, .int y2), (4, .int y4), (5, .int y5), (6, .int y6), (7, .int y7)]) (k := 4) dX12_about_70 rfl (by decide) (by decide) (fun _ => rfl) (fun x2 => ?_)
        refine mw_iload 7 dX12_about_73 rfl ?_
        refine mw_bipush (v := (-4 : Int32)) dX12_about_75 (by decide) ?_
        refine mw_icmp_ne (tgt := 85) dX12_about_77 (by decide) ?_ ?_
        · refine mw_iload 8 dX12_about_80 rfl ?_
          refine mw_goto (tgt := 87) dX12_about_82 (by decide) ?_
          refine mw_istore (lv' := [(6, .int y7), (3, .int x2), (8, .int x1), (0, .ref (X.2.1 69)), (1, .int y1), (2, .int y2), (4, .int y4), (5, .int y5), (7, .int y7)]) dX12_about_87 (by decide) rfl ?_
          refine mw_goto (tgt := 172) dX12_about_89 (by decide) ?_
          refine mw_iincB (lvf := fun x3 => [(7, .int x3), (6, .int y7), (3, .int x2), (8, .int x1), (0, .ref (X.2.1 69)), (1, .int y1), (2, .int y2), (4, .int y4), (5, .int y5)]) (k := 8) dX12_about_172 rfl (by decide) (by decide) (fun _ => rfl) (fun x3 => ?_)
          refine mw_goto (tgt := 39) dX12_about_175 (by decide) ?_
          exact mw_sub [4, 5, 6, 2, 7, 8, 1, 0] rfl (ih y1 y2 x2 y4 y5 y7 x3 S)
        · refine mw_iload 7 dX12_about_85 rfl ?_
          refine mw_istore (lv' := [(6, .int y6), (3, .int x2), (8, .int x1), (0, .ref (X.2.1 69)), (1, .int y1), (2, .int y2), (4, .int y4), (5, .int y5), (7, .int y7)]) dX12_about_87 (by decide) rfl ?_
          refine mw_goto (tgt := 172) dX12_about_89 (by decide) ?_
          refine mw_iincB (lvf := fun x4 => [(7, .int x4), (6, .int y6), (3, .int x2), (8, .int x1), (0, .ref (X.2.1 69)), (1, .int y1), (2, .int y2), (4, .int y4), (5, .int y5)]) (k := 8) dX12_about_172 rfl (by decide) (by decide) (fun _ => rfl) (fun x4 => ?_)
          refine mw_goto (tgt := 39) dX12_about_175 (by decide) ?_
          exact mw_sub [4, 5, 6, 2, 7, 8, 1, 0] rfl (ih y1 y2 x2 y4 y5 y6 x4 S)
def f_X12_about (p1 : Int32) (p2 : Int32) (S : mM) : Option (Int32 × mM) :=
  mBind (f_X12_isRow p1 S) fun r1 S2 =>
  if r1 = 0 then
    some ((-1 : Int32), S2)
  else
    mBind (f_X12_in p2.toInt64 (0 : Int64) (4 : Int64) S2) fun r3 S4 =>
    if r3 = 0 then
      some ((-1 : Int32), S4)
    else
      f_X12_about_39 mFuel p1 p2 (0 : Int32) (-4 : Int32) (-4 : Int32) (-4 : Int32) (0 : Int32) S4
set_option maxRecDepth 100000 in
set_option maxHeartbeats 4000000 in
theorem w_X12_about (X : mX) (l : Launch) (p1 : Int32) (p2 : Int32) (S : mM) : MW X viI rm_X12_about cX12_about RX12 9 (some .int) l S [(0, .ref (X.2.1 69)), (1, .int p1), (2, .int p2)] [] 0 (f_X12_about p1 p2 S) := by
  unfold f_X12_about
  refine mw_aload_n 0 dX12_about_0 rfl rfl ?_
  refine mw_iload_n 1 dX12_about_1 rfl rfl ?_
  refine mw_callV (t_X12_isRow X l p1 S) cd_X12_isRow lk_RX12_254 im_X12_isRow se_X12_isRow in_RX12 de_X12_isRow ⟨rfl, rfl⟩ ⟨Nat.le_of_ble_eq_true rfl, Nat.le_of_ble_eq_true rfl⟩ (mKind_lt mk_69 (by decide)) (mCell_k mk_69) rfl rfl rfl rfl ⟨Nat.le_of_ble_eq_true rfl, Nat.le_of_ble_eq_true rfl⟩ (Nat.le_of_ble_eq_true rfl) dX12_about_2 (fun r1 S2 => ?_)
  refine mw_eq (st' := [.int r1]) rfl rfl ?_
  refine mw_if_eq (tgt := 20) dX12_about_5 (by decide) ?_ ?_
  · refine mw_iconst (v := (-1 : Int32)) dX12_about_20 (by decide) ?_
    exact mw_ireturn dX12_about_21
  · refine mw_iload_n 2 dX12_about_8 rfl rfl ?_
    refine mw_i2l dX12_about_9 ?_
    refine mw_lconst (v := (0 : Int64)) dX12_about_10 (by decide) ?_
    refine mw_ldc2 cl_RX12_279 dX12_about_11 ?_
    refine mw_callS (t_X12_in X l p2.toInt64 (0 : Int64) (4 : Int64) S2) cd_X12_in lk_RX12_115 sn_X12_in in_RX12 de_X12_in ⟨rfl, rfl⟩ ⟨Nat.le_of_ble_eq_true rfl, Nat.le_of_ble_eq_true rfl⟩ rfl rfl ⟨Nat.le_of_ble_eq_true rfl, Nat.le_of_ble_eq_true rfl⟩ (Nat.le_of_ble_eq_true rfl) dX12_about_14 (fun r3 S4 => ?_)
    refine mw_eq (st' := [.int r3]) rfl rfl ?_
    refine mw_if_ne (tgt := 22) dX12_about_17 (by decide) ?_ ?_
    · refine mw_iconst (v := (-1 : Int32)) dX12_about_20 (by decide) ?_
      exact mw_ireturn dX12_about_21
    · refine mw_iconst (v := (0 : Int32)) dX12_about_22 (by decide) ?_
      refine mw_istore_n (lv' := [(3, .int (0 : Int32)), (0, .ref (X.2.1 69)), (1, .int p1), (2, .int p2)]) dX12_about_23 rfl (by decide) rfl ?_
      refine mw_bipush (v := (-4 : Int32)) dX12_about_24 (by decide) ?_
      refine mw_istore (lv' := [(4, .int (-4 : Int32)), (3, .int (0 : Int32)), (0, .ref (X.2.1 69)), (1, .int p1), (2, .int p2)]) dX12_about_26 (by decide) rfl ?_
      refine mw_bipush (v := (-4 : Int32)) dX12_about_28 (by decide) ?_
      refine mw_istore (lv' := [(5, .int (-4 : Int32)), (4, .int (-4 : Int32)), (3, .int (0 : Int32)), (0, .ref (X.2.1 69)), (1, .int p1), (2, .int p2)]) dX12_about_30 (by decide) rfl ?_
      refine mw_bipush (v := (-4 : Int32)) dX12_about_32 (by decide) ?_
      refine mw_istore (lv' := [(6, .int (-4 : Int32)), (5, .int (-4 : Int32)), (4, .int (-4 : Int32)), (3, .int (0 : Int32)), (0, .ref (X.2.1 69)), (1, .int p1), (2, .int p2)]) dX12_about_34 (by decide) rfl ?_
      refine mw_iconst (v := (0 : Int32)) dX12_about_36 (by decide) ?_
      refine mw_istore (lv' := [(7, .int (0 : Int32)), (6, .int (-4 : Int32)), (5, .int (-4 : Int32)), (4, .int (-4 : Int32)), (3, .int (0 : Int32)), (0, .ref (X.2.1 69)), (1, .int p1), (2, .int p2)]) dX12_about_37 (by decide) rfl ?_
      exact mw_sub [5, 6, 7, 4, 3, 2, 1, 0] rfl (w_X12_about_39 X l mFuel p1 p2 (0 : Int32) (-4 : Int32) (-4 : Int32) (-4 : Int32) (0 : Int32) S4)
theorem t_X12_about (X : mX) (l : Launch) (p1 : Int32) (p2 : Int32) (S : mM) : mMet X viI yX12_about cX12_about 9 (some .int) rm_X12_about [.ref (X.2.1 69), .int p1, .int p2] l S (f_X12_about p1 p2 S) :=
  mMet_of (by decide +kernel) rfl (Nat.le_of_ble_eq_true rfl) (w_X12_about X l p1 p2 S )
/-! TraceBenchModel.arms()V -/
def f_X12_arms (S : mM) : Option (Unit × mM) :=
  bnd (setI S 69 25 (1 : Int32)) fun S1 =>
  bnd (setI S1 69 28 (S1.1 69 3)) fun S2 =>
  bnd (setI S2 69 29 (0 : Int32)) fun S3 =>
  bnd (setI S3 69 30 (0 : Int32)) fun S4 =>
  bnd (setI S4 69 31 (S4.1 69 3)) fun S5 =>
  bnd (setI S5 69 32 (0 : Int32)) fun S6 =>
  some ((), S6)
set_option maxRecDepth 100000 in
set_option maxHeartbeats 4000000 in
theorem w_X12_arms (X : mX) (l : Launch) (S : mM) : MW X viV rm_X12_arms cX12_arms RX12 1 none l S [(0, .ref (X.2.1 69))] [] 0 (f_X12_arms  S) := by
  unfold f_X12_arms
  refine mw_aload_n 0 dX12_arms_0 rfl rfl ?_
  refine mw_iconst (v := (1 : Int32)) dX12_arms_1 (by decide) ?_
  refine pf_RX12_198 mk_69 dX12_arms_2 ?_
  refine mw_bndS (fun S1 => ?_)
  refine mw_aload_n 0 dX12_arms_5 rfl rfl ?_
  refine mw_aload_n 0 dX12_arms_6 rfl rfl ?_
  refine gf_RX12_203 mk_69 dX12_arms_7 ?_
  refine pf_RX12_206 mk_69 dX12_arms_10 ?_
  refine mw_bndS (fun S2 => ?_)
  refine mw_aload_n 0 dX12_arms_13 rfl rfl ?_
  refine mw_iconst (v := (0 : Int32)) dX12_arms_14 (by decide) ?_
  refine pf_RX12_209 mk_69 dX12_arms_15 ?_
  refine mw_bndS (fun S3 => ?_)
  refine mw_aload_n 0 dX12_arms_18 rfl rfl ?_
  refine mw_iconst (v := (0 : Int32)) dX12_arms_19 (by decide) ?_
  refine pf_RX12_212 mk_69 dX12_arms_20 ?_
  refine mw_bndS (fun S4 => ?_)
  refine mw_aload_n 0 dX12_arms_23 rfl rfl ?_
  refine mw_aload_n 0 dX12_arms_24 rfl rfl ?_
  refine gf_RX12_203 mk_69 dX12_arms_25 ?_
  refine pf_RX12_215 mk_69 dX12_arms_28 ?_
  refine mw_bndS (fun S5 => ?_)
  refine mw_aload_n 0 dX12_arms_31 rfl rfl ?_
  refine mw_iconst (v := (0 : Int32)) dX12_arms_32 (by decide) ?_
  refine pf_RX12_218 mk_69 dX12_arms_33 ?_
  refine mw_bndS (fun S6 => ?_)
  exact mw_return dX12_arms_36
theorem t_X12_arms (X : mX) (l : Launch) (S : mM) : mMet X viV yX12_arms cX12_arms 1 none rm_X12_arms [.ref (X.2.1 69)] l S (f_X12_arms  S) :=
  mMet_of (by decide +kernel) rfl (Nat.le_of_ble_eq_true rfl) (w_X12_arms X l  S )
/-! TraceBenchModel.arm()I -/
def f_X12_arm (S : mM) : Option (Int32 × mM) :=
  if (S.1 69 4) = 0 then
    some ((-2 : Int32), S)
  else
    if (S.1 69 34) = (8 : Int32) then
      some ((-3 : Int32), S)
    else
      mBind (f_X12_arms S) fun r1 S2 =>
      some ((1 : Int32), S2)
set_option maxRecDepth 100000 in
set_option maxHeartbeats 4000000 in
theorem w_X12_arm (X : mX) (l : Launch) (S : mM) : MW X viI rm_X12_arm cX12_arm RX12 1 (some .int) l S [(0, .ref (X.2.1 69))] [] 0 (f_X12_arm  S) := by
  unfold f_X12_arm
  refine mw_aload_n 0 dX12_arm_0 rfl rfl ?_
  refine gf_RX12_195 mk_69 dX12_arm_1 ?_
  refine mw_if_ne (tgt := 10) dX12_arm_4 (by decide) ?_ ?_
  · refine mw_bipush (v := (-2 : Int32)) dX12_arm_7 (by decide) ?_
    exact mw_ireturn dX12_arm_9
  · refine mw_aload_n 0 dX12_arm_10 rfl rfl ?_
    refine gf_RX12_221 mk_69 dX12_arm_11 ?_
    refine mw_bipush (v := (8 : Int32)) dX12_arm_14 (by decide) ?_
    refine mw_icmp_ne (tgt := 22) dX12_arm_16 (by decide) ?_ ?_
    · refine mw_bipush (v := (-3 : Int32)) dX12_arm_19 (by decide) ?_
      exact mw_ireturn dX12_arm_21
    · refine mw_aload_n 0 dX12_arm_22 rfl rfl ?_
      refine mw_callV (t_X12_arms X l S) cd_X12_arms lk_RX12_224 im_X12_arms se_X12_arms in_RX12 de_X12_arms ⟨rfl, rfl⟩ ⟨Nat.le_of_ble_eq_true rfl, Nat.le_of_ble_eq_true rfl⟩ (mKind_lt mk_69 (by decide)) (mCell_k mk_69) rfl rfl rfl rfl ⟨Nat.le_of_ble_eq_true rfl, Nat.le_of_ble_eq_true rfl⟩ (Nat.le_of_ble_eq_true rfl) dX12_arm_23 (fun r1 S2 => ?_)
      refine mw_eq (st' := []) rfl rfl ?_
      refine mw_iconst (v := (1 : Int32)) dX12_arm_26 (by decide) ?_
      exact mw_ireturn dX12_arm_27
theorem t_X12_arm (X : mX) (l : Launch) (S : mM) : mMet X viI yX12_arm cX12_arm 1 (some .int) rm_X12_arm [.ref (X.2.1 69)] l S (f_X12_arm  S) :=
  mMet_of (by decide +kernel) rfl (Nat.le_of_ble_eq_true rfl) (w_X12_arm X l  S )
/-! TraceBenchModel.isSegment(I)Z -/
def f_X12_isSegment (p1 : Int32) (S : mM) : Option (Int32 × mM) :=
  mBind (f_X12_in p1.toInt64 (0 : Int64) (((S.1 69 34) - (1 : Int32)).toInt64) S) fun r1 S2 =>
  if r1 = 0 ∨ r1 = 1 then some (r1, S2) else none
set_option maxRecDepth 100000 in
set_option maxHeartbeats 4000000 in
theorem w_X12_isSegment (X : mX) (l : Launch) (p1 : Int32) (S : mM) : MW X viI rm_X12_isSegment cX12_isSegment RX12 2 (some .boolean) l S [(0, .ref (X.2.1 69)), (1, .int p1)] [] 0 (f_X12_isSegment p1 S) := by
  unfold f_X12_isSegment
  refine mw_iload_n 1 dX12_isSegment_0 rfl rfl ?_
  refine mw_i2l dX12_isSegment_1 ?_
  refine mw_lconst (v := (0 : Int64)) dX12_isSegment_2 (by decide) ?_
  refine mw_aload_n 0 dX12_isSegment_3 rfl rfl ?_
  refine gf_RX12_221 mk_69 dX12_isSegment_4 ?_
  refine mw_iconst (v := (1 : Int32)) dX12_isSegment_7 (by decide) ?_
  refine mw_isub dX12_isSegment_8 ?_
  refine mw_i2l dX12_isSegment_9 ?_
  refine mw_callS (t_X12_in X l p1.toInt64 (0 : Int64) (((S.1 69 34) - (1 : Int32)).toInt64) S) cd_X12_in lk_RX12_115 sn_X12_in in_RX12 de_X12_in ⟨rfl, rfl⟩ ⟨Nat.le_of_ble_eq_true rfl, Nat.le_of_ble_eq_true rfl⟩ rfl rfl ⟨Nat.le_of_ble_eq_true rfl, Nat.le_of_ble_eq_true rfl⟩ (Nat.le_of_ble_eq_true rfl) dX12_isSegment_10 (fun r1 S2 => ?_)
  refine mw_eq (st' := [.int r1]) rfl rfl ?_
  exact mw_zreturn dX12_isSegment_13
theorem t_X12_isSegment (X : mX) (l : Launch) (p1 : Int32) (S : mM) : mMet X viI yX12_isSegment cX12_isSegment 2 (some .boolean) rm_X12_isSegment [.ref (X.2.1 69), .int p1] l S (f_X12_isSegment p1 S) :=
  mMet_of (by decide +kernel) rfl (Nat.le_of_ble_eq_true rfl) (w_X12_isSegment X l p1 S )
/-! TraceBenchModel.valueAt(III)I -/
def f_X12_valueAt (p1 : Int32) (p2 : Int32) (p3 : Int32) (S : mM) : Option (Int32 × mM) :=
  if 0 ≤ (((201 : Int32) * p1) + p3) ∧ (((201 : Int32) * p1) + p3).toNatClampNeg < 1608 then
  (some (((S.1 87 (((201 : Int32) * p1) + p3).toNatClampNeg) >>> (((24 : Int32) - ((8 : Int32) * p2)) &&& 31)).toInt8.toInt32, S))
  else none
set_option maxRecDepth 100000 in
set_option maxHeartbeats 4000000 in
theorem w_X12_valueAt (X : mX) (l : Launch) (p1 : Int32) (p2 : Int32) (p3 : Int32) (S : mM) : MW X viI rm_X12_valueAt cX12_valueAt RX12 4 (some .int) l S [(0, .ref (X.2.1 69)), (1, .int p1), (2, .int p2), (3, .int p3)] [] 0 (f_X12_valueAt p1 p2 p3 S) := by
  unfold f_X12_valueAt
  refine mw_aload_n 0 dX12_valueAt_0 rfl rfl ?_
  refine gf_RX12_69 mk_69 dX12_valueAt_1 ?_
  refine mw_sipush (v := (201 : Int32)) dX12_valueAt_4 (by decide) ?_
  refine mw_iload_n 1 dX12_valueAt_7 rfl rfl ?_
  refine mw_imul dX12_valueAt_8 ?_
  refine mw_iload_n 3 dX12_valueAt_9 rfl rfl ?_
  refine mw_iadd dX12_valueAt_10 ?_
  refine mw_iaload mk_87 ml_87 dX12_valueAt_11 ?_
  refine mw_bipush (v := (24 : Int32)) dX12_valueAt_12 (by decide) ?_
  refine mw_bipush (v := (8 : Int32)) dX12_valueAt_14 (by decide) ?_
  refine mw_iload_n 2 dX12_valueAt_16 rfl rfl ?_
  refine mw_imul dX12_valueAt_17 ?_
  refine mw_isub dX12_valueAt_18 ?_
  refine mw_ishr dX12_valueAt_19 ?_
  refine mw_i2b dX12_valueAt_20 ?_
  exact mw_ireturn dX12_valueAt_21
theorem t_X12_valueAt (X : mX) (l : Launch) (p1 : Int32) (p2 : Int32) (p3 : Int32) (S : mM) : mMet X viI yX12_valueAt cX12_valueAt 4 (some .int) rm_X12_valueAt [.ref (X.2.1 69), .int p1, .int p2, .int p3] l S (f_X12_valueAt p1 p2 p3 S) :=
  mMet_of (by decide +kernel) rfl (Nat.le_of_ble_eq_true rfl) (w_X12_valueAt X l p1 p2 p3 S )
/-! TraceBenchModel.at(III)I -/
def f_X12_at (p1 : Int32) (p2 : Int32) (p3 : Int32) (S : mM) : Option (Int32 × mM) :=
  mBind (f_X12_isSegment p1 S) fun r1 S2 =>
  if r1 = 0 then
    some ((1000 : Int32), S2)
  else
    mBind (f_X12_in p2.toInt64 (0 : Int64) (3 : Int64) S2) fun r3 S4 =>
    if r3 = 0 then
      some ((1000 : Int32), S4)
    else
      if 0 ≤ p1 ∧ p1.toNatClampNeg < 8 then
      (mBind (f_X12_in p3.toInt64 (0 : Int64) (((S4.1 85 p1.toNatClampNeg) - (1 : Int32)).toInt64) S4) fun r5 S6 =>
      if r5 = 0 then
        some ((1000 : Int32), S6)
      else
        mBind (f_X12_valueAt p1 p2 p3 S6) fun r7 S8 =>
        some (r7, S8))
      else none
set_option maxRecDepth 100000 in
set_option maxHeartbeats 4000000 in
theorem w_X12_at (X : mX) (l : Launch) (p1 : Int32) (p2 : Int32) (p3 : Int32) (S : mM) : MW X viI rm_X12_at cX12_at RX12 4 (some .int) l S [(0, .ref (X.2.1 69)), (1, .int p1), (2, .int p2), (3, .int p3)] [] 0 (f_X12_at p1 p2 p3 S) := by
  unfold f_X12_at
  refine mw_aload_n 0 dX12_at_0 rfl rfl ?_
  refine mw_iload_n 1 dX12_at_1 rfl rfl ?_
  refine mw_callV (t_X12_isSegment X l p1 S) cd_X12_isSegment lk_RX12_261 im_X12_isSegment se_X12_isSegment in_RX12 de_X12_isSegment ⟨rfl, rfl⟩ ⟨Nat.le_of_ble_eq_true rfl, Nat.le_of_ble_eq_true rfl⟩ (mKind_lt mk_69 (by decide)) (mCell_k mk_69) rfl rfl rfl rfl ⟨Nat.le_of_ble_eq_true rfl, Nat.le_of_ble_eq_true rfl⟩ (Nat.le_of_ble_eq_true rfl) dX12_at_2 (fun r1 S2 => ?_)
  refine mw_eq (st' := [.int r1]) rfl rfl ?_
  refine mw_if_eq (tgt := 48) dX12_at_5 (by decide) ?_ ?_
  · refine mw_sipush (v := (1000 : Int32)) dX12_at_48 (by decide) ?_
    exact mw_ireturn dX12_at_51
  · refine mw_iload_n 2 dX12_at_8 rfl rfl ?_
    refine mw_i2l dX12_at_9 ?_
    refine mw_lconst (v := (0 : Int64)) dX12_at_10 (by decide) ?_
    refine mw_ldc2 cl_RX12_257 dX12_at_11 ?_
    refine mw_callS (t_X12_in X l p2.toInt64 (0 : Int64) (3 : Int64) S2) cd_X12_in lk_RX12_115 sn_X12_in in_RX12 de_X12_in ⟨rfl, rfl⟩ ⟨Nat.le_of_ble_eq_true rfl, Nat.le_of_ble_eq_true rfl⟩ rfl rfl ⟨Nat.le_of_ble_eq_true rfl, Nat.le_of_ble_eq_true rfl⟩ (Nat.le_of_ble_eq_true rfl) dX12_at_14 (fun r3 S4 => ?_)
    refine mw_eq (st' := [.int r3]) rfl rfl ?_
    refine mw_if_eq (tgt := 48) dX12_at_17 (by decide) ?_ ?_
    · refine mw_sipush (v := (1000 : Int32)) dX12_at_48 (by decide) ?_
      exact mw_ireturn dX12_at_51
    · refine mw_iload_n 3 dX12_at_20 rfl rfl ?_
      refine mw_i2l dX12_at_21 ?_
      refine mw_lconst (v := (0 : Int64)) dX12_at_22 (by decide) ?_
      refine mw_aload_n 0 dX12_at_23 rfl rfl ?_
      refine gf_RX12_63 mk_69 dX12_at_24 ?_
      refine mw_iload_n 1 dX12_at_27 rfl rfl ?_
      refine mw_iaload mk_85 ml_85 dX12_at_28 ?_
      refine mw_iconst (v := (1 : Int32)) dX12_at_29 (by decide) ?_
      refine mw_isub dX12_at_30 ?_
      refine mw_i2l dX12_at_31 ?_
      refine mw_callS (t_X12_in X l p3.toInt64 (0 : Int64) (((S4.1 85 p1.toNatClampNeg) - (1 : Int32)).toInt64) S4) cd_X12_in lk_RX12_115 sn_X12_in in_RX12 de_X12_in ⟨rfl, rfl⟩ ⟨Nat.le_of_ble_eq_true rfl, Nat.le_of_ble_eq_true rfl⟩ rfl rfl ⟨Nat.le_of_ble_eq_true rfl, Nat.le_of_ble_eq_true rfl⟩ (Nat.le_of_ble_eq_true rfl) dX12_at_32 (fun r5 S6 => ?_)
      refine mw_eq (st' := [.int r5]) rfl rfl ?_
      refine mw_if_eq (tgt := 48) dX12_at_35 (by decide) ?_ ?_
      · refine mw_sipush (v := (1000 : Int32)) dX12_at_48 (by decide) ?_
        exact mw_ireturn dX12_at_51
      · refine mw_aload_n 0 dX12_at_38 rfl rfl ?_
        refine mw_iload_n 1 dX12_at_39 rfl rfl ?_
        refine mw_iload_n 2 dX12_at_40 rfl rfl ?_
        refine mw_iload_n 3 dX12_at_41 rfl rfl ?_
        refine mw_callV (t_X12_valueAt X l p1 p2 p3 S6) cd_X12_valueAt lk_RX12_266 im_X12_valueAt se_X12_valueAt in_RX12 de_X12_valueAt ⟨rfl, rfl⟩ ⟨Nat.le_of_ble_eq_true rfl, Nat.le_of_ble_eq_true rfl⟩ (mKind_lt mk_69 (by decide)) (mCell_k mk_69) rfl rfl rfl rfl ⟨Nat.le_of_ble_eq_true rfl, Nat.le_of_ble_eq_true rfl⟩ (Nat.le_of_ble_eq_true rfl) dX12_at_42 (fun r7 S8 => ?_)
        refine mw_eq (st' := [.int r7]) rfl rfl ?_
        refine mw_goto (tgt := 51) dX12_at_45 (by decide) ?_
        exact mw_ireturn dX12_at_51
theorem t_X12_at (X : mX) (l : Launch) (p1 : Int32) (p2 : Int32) (p3 : Int32) (S : mM) : mMet X viI yX12_at cX12_at 4 (some .int) rm_X12_at [.ref (X.2.1 69), .int p1, .int p2, .int p3] l S (f_X12_at p1 p2 p3 S) :=
  mMet_of (by decide +kernel) rfl (Nat.le_of_ble_eq_true rfl) (w_X12_at X l p1 p2 p3 S )
/-! TraceBenchModel.bit(III)I -/
def f_X12_bit (p1 : Int32) (p2 : Int32) (p3 : Int32) (S : mM) : Option (Int32 × mM) :=
  mBind (f_X12_valueAt p1 p2 p3 S) fun r1 S2 =>
  if 0 ≤ r1 then
    some ((1 : Int32), S2)
  else
    some ((0 : Int32), S2)
set_option maxRecDepth 100000 in
set_option maxHeartbeats 4000000 in
theorem w_X12_bit (X : mX) (l : Launch) (p1 : Int32) (p2 : Int32) (p3 : Int32) (S : mM) : MW X viI rm_X12_bit cX12_bit RX12 4 (some .int) l S [(0, .ref (X.2.1 69)), (1, .int p1), (2, .int p2), (3, .int p3)] [] 0 (f_X12_bit p1 p2 p3 S) := by
  unfold f_X12_bit
  refine mw_aload_n 0 dX12_bit_0 rfl rfl ?_
  refine mw_iload_n 1 dX12_bit_1 rfl rfl ?_
  refine mw_iload_n 2 dX12_bit_2 rfl rfl ?_
  refine mw_iload_n 3 dX12_bit_3 rfl rfl ?_
  refine mw_callV (t_X12_valueAt X l p1 p2 p3 S) cd_X12_valueAt lk_RX12_266 im_X12_valueAt se_X12_valueAt in_RX12 de_X12_valueAt ⟨rfl, rfl⟩ ⟨Nat.le_of_ble_eq_true rfl, Nat.le_of_ble_eq_true rfl⟩ (mKind_lt mk_69 (by decide)) (mCell_k mk_69) rfl rfl rfl rfl ⟨Nat.le_of_ble_eq_true rfl, Nat.le_of_ble_eq_true rfl⟩ (Nat.le_of_ble_eq_true rfl) dX12_bit_4 (fun r1 S2 => ?_)
  refine mw_eq (st' := [.int r1]) rfl rfl ?_
  refine mw_if_ge (tgt := 14) dX12_bit_7 (by decide) ?_ ?_
  · refine mw_iconst (v := (1 : Int32)) dX12_bit_14 (by decide) ?_
    exact mw_ireturn dX12_bit_15
  · refine mw_iconst (v := (0 : Int32)) dX12_bit_10 (by decide) ?_
    refine mw_goto (tgt := 15) dX12_bit_11 (by decide) ?_
    exact mw_ireturn dX12_bit_15
theorem t_X12_bit (X : mX) (l : Launch) (p1 : Int32) (p2 : Int32) (p3 : Int32) (S : mM) : mMet X viI yX12_bit cX12_bit 4 (some .int) rm_X12_bit [.ref (X.2.1 69), .int p1, .int p2, .int p3] l S (f_X12_bit p1 p2 p3 S) :=
  mMet_of (by decide +kernel) rfl (Nat.le_of_ble_eq_true rfl) (w_X12_bit X l p1 p2 p3 S )
/-! TraceBenchModel.gets(II)V -/
def f_X12_gets (p1 : Int32) (p2 : Int32) (S : mM) : Option (Unit × mM) :=
  if 0 ≤ (S.1 69 48) ∧ (S.1 69 48).toNatClampNeg < 20 then
  (bnd (setI S 96 (S.1 69 48).toNatClampNeg p1) fun S1 =>
  if 0 ≤ (S1.1 69 48) ∧ (S1.1 69 48).toNatClampNeg < 20 then
  (bnd (setI S1 97 (S1.1 69 48).toNatClampNeg p2) fun S2 =>
  bnd (setI S2 69 48 ((S2.1 69 48) + (1 : Int32))) fun S3 =>
  some ((), S3))
  else none)
  else none
set_option maxRecDepth 100000 in
set_option maxHeartbeats 4000000 in
theorem w_X12_gets (X : mX) (l : Launch) (p1 : Int32) (p2 : Int32) (S : mM) : MW X viV rm_X12_gets cX12_gets RX12 3 none l S [(0, .ref (X.2.1 69)), (1, .int p1), (2, .int p2)] [] 0 (f_X12_gets p1 p2 S) := by
  unfold f_X12_gets
  refine mw_aload_n 0 dX12_gets_0 rfl rfl ?_
  refine gf_RX12_101 mk_69 dX12_gets_1 ?_
  refine mw_aload_n 0 dX12_gets_4 rfl rfl ?_
  refine gf_RX12_289 mk_69 dX12_gets_5 ?_
  refine mw_iload_n 1 dX12_gets_8 rfl rfl ?_
  refine mw_iastore mk_96 ml_96 dX12_gets_9 ?_
  refine mw_bndS (fun S1 => ?_)
  refine mw_aload_n 0 dX12_gets_10 rfl rfl ?_
  refine gf_RX12_104 mk_69 dX12_gets_11 ?_
  refine mw_aload_n 0 dX12_gets_14 rfl rfl ?_
  refine gf_RX12_289 mk_69 dX12_gets_15 ?_
  refine mw_iload_n 2 dX12_gets_18 rfl rfl ?_
  refine mw_iastore mk_97 ml_97 dX12_gets_19 ?_
  refine mw_bndS (fun S2 => ?_)
  refine mw_aload_n 0 dX12_gets_20 rfl rfl ?_
  refine mw_dup dX12_gets_21 rfl ?_
  refine gf_RX12_289 mk_69 dX12_gets_22 ?_
  refine mw_iconst (v := (1 : Int32)) dX12_gets_25 (by decide) ?_
  refine mw_iadd dX12_gets_26 ?_
  refine pf_RX12_289 mk_69 dX12_gets_27 ?_
  refine mw_bndS (fun S3 => ?_)
  exact mw_return dX12_gets_30
theorem t_X12_gets (X : mX) (l : Launch) (p1 : Int32) (p2 : Int32) (S : mM) : mMet X viV yX12_gets cX12_gets 3 none rm_X12_gets [.ref (X.2.1 69), .int p1, .int p2] l S (f_X12_gets p1 p2 S) :=
  mMet_of (by decide +kernel) rfl (Nat.le_of_ble_eq_true rfl) (w_X12_gets X l p1 p2 S )
/-! TraceBenchModel.bytes(III)I -/
def f_X12_bytes_151 (n : Nat) (k50 : Int32 → Int32 → Int32 → Int32 → mM → Option (Int32 × mM)) (y1 : Int32) (y2 : Int32) (y3 : Int32) (y4 : Int32) (y6 : Int32) (y7 : Int32) (S : mM) : Option (Int32 × mM) := match n with
  | 0 => none
  | n + 1 =>
    if (9 : Int32) ≤ y7 then
      bnd ((y4 + (y3 / (2 : Int32))) + ((9 : Int32) * y3)) fun x1 =>
      mBind (f_X12_bit y1 y2 x1 S) fun r2 S3 =>
      if r2 = (1 : Int32) then
        mBind (f_X12_gets y6 y4 S3) fun r4 S5 =>
        bnd (x1 + (1 : Int32)) fun x6 =>
        k50 y1 y2 y3 x6 S5
      else
        bnd (setI S3 69 51 x1) fun S7 =>
        bnd (x1 + (1 : Int32)) fun x8 =>
        k50 y1 y2 y3 x8 S7
    else
      mBind (f_X12_bit y1 y2 ((y4 + (y3 / (2 : Int32))) + (y3 * y7)) S) fun r9 S10 =>
      bnd (y6 ||| (r9 <<< ((y7 - (1 : Int32)) &&& 31))) fun x11 =>
      bnd (y7 + (1 : Int32)) fun x12 =>
      f_X12_bytes_151 n k50 y1 y2 y3 y4 x11 x12 S10
set_option maxRecDepth 100000 in
set_option maxHeartbeats 4000000 in
theorem w_X12_bytes_151 (X : mX) (l : Launch) (n : Nat) (k50 : Int32 → Int32 → Int32 → Int32 → mM → Option (Int32 × mM)) (hk50 : ∀ (y1 : Int32) (y2 : Int32) (y3 : Int32) (y4 : Int32) (S : mM), MW X viI rm_X12_bytes cX12_bytes RX12 8 (some .int) l S [(0, .ref (X.2.1 69)), (1, .int y1), (2, .int y2), (3, .int y3), (4, .int y4)] [] 50 (k50 y1 y2 y3 y4 S)) (y1 : Int32) (y2 : Int32) (y3 : Int32) (y4 : Int32) (y6 : Int32) (y7 : Int32) (S : mM) : MW X viI rm_X12_bytes cX12_bytes RX12 8 (some .int) l S [(0, .ref (X.2.1 69)), (1, .int y1), (2, .int y2), (3, .int y3), (4, .int y4), (6, .int y6), (7, .int y7)] [] 151 (f_X12_bytes_151 n k50 y1 y2 y3 y4 y6 y7 S) := by
  induction n generalizing y1 y2 y3 y4 y6 y7 S with
  | zero => exact mw_none
  | succ n ih =>
    unfold f_X12_bytes_151
    refine mw_iload 6 dX12_bytes_151 rfl ?_
    refine mw_bipush (v := (9 : Int32)) dX12_bytes_153 (by decide) ?_
    refine mw_icmp_ge (tgt := 191) dX12_bytes_155 (by decide) ?_ ?_
    · refine mw_iload 4 dX12_bytes_191 rfl ?_
      refine mw_iload_n 3 dX12_bytes_193 rfl rfl ?_
      refine mw_iconst (v := (2 : Int32)) dX12_bytes_194 (by decide) ?_
      refine mw_idiv dX12_bytes_195 (by decide) ?_
      refine mw_iadd dX12_bytes_196 ?_
      refine mw_bipush (v := (9 : Int32)) dX12_bytes_197 (by decide) ?_
      refine mw_iload_n 3 dX12_bytes_199 rfl rfl ?_
      refine mw_imul dX12_bytes_200 ?_
      refine mw_iadd dX12_bytes_201 ?_
      refine mw_bndI (fun x1 => ?_)
      refine mw_istore (lv' := [(7, .int x1), (0, .ref (X.2.1 69)), (1, .int y1), (2, .int y2), (3, .int y3), (4, .int y4), (6, .int y6)]) dX12_bytes_202 (by decide) rfl ?_
      refine mw_aload_n 1 dX12_bytes_204 rfl rfl ?_
      refine mw_iload_n 2 dX12_bytes_205 rfl rfl ?_
      refine mw_iload_n 3 dX12_bytes_206 rfl rfl ?_
      refine mw_iload 0 dX12_bytes_207 rfl ?_
      refine mw_callV (t_X12_bit X l y1 y2 x1 S) cd_X12_bit lk_RX12_294 im_X12_bit se_X12_bit in_RX12 de_X12_bit ⟨rfl, rfl⟩ ⟨Nat.le_of_ble_eq_true rfl, Nat.le_of_ble_eq_true rfl⟩ (mKind_lt mk_69 (by decide)) (mCell_k mk_69) rfl rfl rfl rfl ⟨Nat.le_of_ble_eq_true rfl, Nat.le_of_ble_eq_true rfl⟩ (Nat.le_of_ble_eq_true rfl) dX12_bytes_209 (fun r2 S3 => ?_)
      refine mw_eq (st' := [.int r2]) rfl rfl ?_
      refine mw_iconst (v := (1 : Int32)) dX12_bytes_212 (by decide) ?_
      refine mw_icmp_ne (tgt := 227) dX12_bytes_213 (by decide) ?_ ?_
      · refine mw_aload_n 1 dX12_bytes_216 rfl rfl ?_
        refine mw_iload 6 dX12_bytes_217 rfl ?_
        refine mw_iload 5 dX12_bytes_219 rfl ?_
        refine mw_callV (t_X12_gets X l y6 y4 S3) cd_X12_gets lk_RX12_297 im_X12_gets se_X12_gets in_RX12 de_X12_gets ⟨rfl, rfl⟩ ⟨Nat.le_of_ble_eq_true rfl, Nat.le_of_ble_eq_true rfl⟩ (mKind_lt mk_69 (by decide)) (mCell_k mk_69) rfl rfl rfl rfl ⟨Nat.le_of_ble_eq_true rfl, Nat.le_of_ble_eq_true rfl⟩ (Nat.le_of_ble_eq_true rfl) dX12_bytes_221 (fun r4 S5 => ?_)
        refine mw_eq (st' := []) rfl rfl ?_
        refine mw_goto (tgt := 233) dX12_bytes_224 (by decide) ?_
        refine mw_iload 0 dX12_bytes_233 rfl ?_
        refine mw_iconst (v := (1 : Int32)) dX12_bytes_235 (by decide) ?_
        refine mw_iadd dX12_bytes_236 ?_
        refine mw_bndI (fun x6 => ?_)
        refine mw_istore (lv' := [(4, .int x6), (7, .int x1), (0, .ref (X.2.1 69)), (1, .int y1), (2, .int y2), (3, .int y3), (6, .int y6)]) dX12_bytes_237 (by decide) rfl ?_
        refine mw_goto (tgt := 245) dX12_bytes_239 (by decide) ?_
        refine mw_goto (tgt := 50) dX12_bytes_245 (by decide) ?_
        exact mw_sub [2, 3, 4, 5, 0] rfl (hk50 y1 y2 y3 x6 S5)
      · refine mw_aload_n 1 dX12_bytes_227 rfl rfl ?_
        refine mw_iload 0 dX12_bytes_228 rfl ?_
        refine pf_RX12_107 mk_69 dX12_bytes_230 ?_
        refine mw_bndS (fun S7 => ?_)
        refine mw_iload 0 dX12_bytes_233 rfl ?_
        refine mw_iconst (v := (1 : Int32)) dX12_bytes_235 (by decide) ?_
        refine mw_iadd dX12_bytes_236 ?_
        refine mw_bndI (fun x8 => ?_)
        refine mw_istore (lv' := [(4, .int x8), (7, .int x1), (0, .ref (X.2.1 69)), (1, .int y1), (2, .int y2), (3, .int y3), (6, .int y6)]) dX12_bytes_237 (by decide) rfl ?_
        refine mw_goto (tgt := 245) dX12_bytes_239 (by decide) ?_
        refine mw_goto (tgt := 50) dX12_bytes_245 (by decide) ?_
        exact mw_sub [2, 3, 4, 5, 0] rfl (hk50 y1 y2 y3 x8 S7)
    · refine mw_iload 5 dX12_bytes_158 rfl ?_
      refine mw_aload_n 0 dX12_bytes_160 rfl rfl ?_
      refine mw_iload_n 1 dX12_bytes_161 rfl rfl ?_
      refine mw_iload_n 2 dX12_bytes_162 rfl rfl ?_
      refine mw_iload 4 dX12_bytes_163 rfl ?_
      refine mw_iload_n 3 dX12_bytes_165 rfl rfl ?_
      refine mw_iconst (v := (2 : Int32)) dX12_bytes_166 (by decide) ?_
      refine mw_idiv dX12_bytes_167 (by decide) ?_
      refine mw_iadd dX12_bytes_168 ?_
      refine mw_iload_n 3 dX12_bytes_169 rfl rfl ?_
      refine mw_iload 6 dX12_bytes_170 rfl ?_
      refine mw_imul dX12_bytes_172 ?_
      refine mw_iadd dX12_bytes_173 ?_
      refine mw_callV (t_X12_bit X l y1 y2 ((y4 + (y3 / (2 : Int32))) + (y3 * y7)) S) cd_X12_bit lk_RX12_294 im_X12_bit se_X12_bit in_RX12 de_X12_bit ⟨rfl, rfl⟩ ⟨Nat.le_of_ble_eq_true rfl, Nat.le_of_ble_eq_true rfl⟩ (mKind_lt mk_69 (by decide)) (mCell_k mk_69) rfl rfl rfl rfl ⟨Nat.le_of_ble_eq_true rfl, Nat.le_of_ble_eq_true rfl⟩ (Nat.le_of_ble_eq_true rfl) dX12_bytes_174 (fun r9 S10 => ?_)
      refine mw_eq (st' := [.int r9, .int y6]) rfl rfl ?_
      refine mw_iload 6 dX12_bytes_177 rfl ?_
      refine mw_iconst (v := (1 : Int32)) dX12_bytes_179 (by decide) ?_
      refine mw_isub dX12_bytes_180 ?_
      refine mw_ishl dX12_bytes_181 ?_
      refine mw_ior dX12_bytes_182 ?_
      refine mw_bndI (fun x11 => ?_)
      refine mw_istore (lv' := [(6, .int x11), (0, .ref (X.2.1 69)), (1, .int y1), (2, .int y2), (3, .int y3), (4, .int y4), (7, .int y7)]) dX12_bytes_183 (by decide) rfl ?_
      refine mw_iincB (lvf := fun x12 => [(7, .int x12), (6, .int x11), (0, .ref (X.2.1 69)), (1, .int y1), (2, .int y2), (3, .int y3), (4, .int y4)]) (k := 6) dX12_bytes_185 rfl (by decide) (by decide) (fun _ => rfl) (fun x12 => ?_)
      refine mw_goto (tgt := 151) dX12_bytes_188 (by decide) ?_
      exact mw_sub [2, 3, 4, 5, 6, 1, 0] rfl (ih y1 y2 y3 y4 x11 x12 S10)
def f_X12_bytes_138 (k50 : Int32 → Int32 → Int32 → Int32 → mM → Option (Int32 × mM)) (y1 : Int32) (y2 : Int32) (y3 : Int32) (y4 : Int32) (z0 : Int32) (S : mM) : Option (Int32 × mM) :=
  if z0 = 0 then
    bnd (y4 + (1 : Int32)) fun x1 =>
    k50 y1 y2 y3 x1 S
  else
    f_X12_bytes_151 mFuel k50 y1 y2 y3 y4 (0 : Int32) (1 : Int32) S
set_option maxRecDepth 100000 in
set_option maxHeartbeats 4000000 in
theorem w_X12_bytes_138 (X : mX) (l : Launch) (k50 : Int32 → Int32 → Int32 → Int32 → mM → Option (Int32 × mM)) (hk50 : ∀ (y1 : Int32) (y2 : Int32) (y3 : Int32) (y4 : Int32) (S : mM), MW X viI rm_X12_bytes cX12_bytes RX12 8 (some .int) l S [(0, .ref (X.2.1 69)), (1, .int y1), (2, .int y2), (3, .int y3), (4, .int y4)] [] 50 (k50 y1 y2 y3 y4 S)) (y1 : Int32) (y2 : Int32) (y3 : Int32) (y4 : Int32) (z0 : Int32) (S : mM) : MW X viI rm_X12_bytes cX12_bytes RX12 8 (some .int) l S [(0, .ref (X.2.1 69)), (1, .int y1), (2, .int y2), (3, .int y3), (4, .int y4)] [.int z0] 138 (f_X12_bytes_138 k50 y1 y2 y3 y4 z0 S) := by
  unfold f_X12_bytes_138
  refine mw_istore (lv' := [(5, .int z0), (0, .ref (X.2.1 69)), (1, .int y1), (2, .int y2), (3, .int y3), (4, .int y4)]) dX12_bytes_138 (by decide) rfl ?_
  refine mw_iload 0 dX12_bytes_140 rfl ?_
  refine mw_if_eq (tgt := 242) dX12_bytes_142 (by decide) ?_ ?_
  · refine mw_iincB (lvf := fun x1 => [(4, .int x1), (5, .int z0), (0, .ref (X.2.1 69)), (1, .int y1), (2, .int y2), (3, .int y3)]) (k := 5) dX12_bytes_242 rfl (by decide) (by decide) (fun _ => rfl) (fun x1 => ?_)
    refine mw_goto (tgt := 50) dX12_bytes_245 (by decide) ?_
    exact mw_sub [2, 3, 4, 5, 0] rfl (hk50 y1 y2 y3 x1 S)
  · refine mw_iconst (v := (0 : Int32)) dX12_bytes_145 (by decide) ?_
    refine mw_istore (lv' := [(6, .int (0 : Int32)), (5, .int z0), (0, .ref (X.2.1 69)), (1, .int y1), (2, .int y2), (3, .int y3), (4, .int y4)]) dX12_bytes_146 (by decide) rfl ?_
    refine mw_iconst (v := (1 : Int32)) dX12_bytes_148 (by decide) ?_
    refine mw_istore (lv' := [(7, .int (1 : Int32)), (6, .int (0 : Int32)), (5, .int z0), (0, .ref (X.2.1 69)), (1, .int y1), (2, .int y2), (3, .int y3), (4, .int y4)]) dX12_bytes_149 (by decide) rfl ?_
    exact mw_sub [3, 4, 5, 6, 7, 1, 0] rfl (w_X12_bytes_151 X l mFuel k50 hk50 y1 y2 y3 y4 (0 : Int32) (1 : Int32) S)
def f_X12_bytes_137 (k50 : Int32 → Int32 → Int32 → Int32 → mM → Option (Int32 × mM)) (y1 : Int32) (y2 : Int32) (y3 : Int32) (y4 : Int32) (S : mM) : Option (Int32 × mM) :=
  f_X12_bytes_138 k50 y1 y2 y3 y4 (0 : Int32) S
set_option maxRecDepth 100000 in
set_option maxHeartbeats 4000000 in
theorem w_X12_bytes_137 (X : mX) (l : Launch) (k50 : Int32 → Int32 → Int32 → Int32 → mM → Option (Int32 × mM)) (hk50 : ∀ (y1 : Int32) (y2 : Int32) (y3 : Int32) (y4 : Int32) (S : mM), MW X viI rm_X12_bytes cX12_bytes RX12 8 (some .int) l S [(0, .ref (X.2.1 69)), (1, .int y1), (2, .int y2), (3, .int y3), (4, .int y4)] [] 50 (k50 y1 y2 y3 y4 S)) (y1 : Int32) (y2 : Int32) (y3 : Int32) (y4 : Int32) (S : mM) : MW X viI rm_X12_bytes cX12_bytes RX12 8 (some .int) l S [(0, .ref (X.2.1 69)), (1, .int y1), (2, .int y2), (3, .int y3), (4, .int y4)] [] 137 (f_X12_bytes_137 k50 y1 y2 y3 y4 S) := by
  unfold f_X12_bytes_137
  refine mw_iconst (v := (0 : Int32)) dX12_bytes_137 (by decide) ?_
  exact mw_sub [0, 1, 2, 3, 4] rfl (w_X12_bytes_138 X l k50 hk50 y1 y2 y3 y4 (0 : Int32) S)
def f_X12_bytes_118 (k50 : Int32 → Int32 → Int32 → Int32 → mM → Option (Int32 × mM)) (y1 : Int32) (y2 : Int32) (y3 : Int32) (y4 : Int32) (S : mM) : Option (Int32 × mM) :=
  mBind (f_X12_bit y1 y2 (y4 + (y3 / (2 : Int32))) S) fun r1 S2 =>
  if r1 = 0 then
    f_X12_bytes_138 k50 y1 y2 y3 y4 (1 : Int32) S2
  else
    f_X12_bytes_137 k50 y1 y2 y3 y4 S2
set_option maxRecDepth 100000 in
set_option maxHeartbeats 4000000 in
theorem w_X12_bytes_118 (X : mX) (l : Launch) (k50 : Int32 → Int32 → Int32 → Int32 → mM → Option (Int32 × mM)) (hk50 : ∀ (y1 : Int32) (y2 : Int32) (y3 : Int32) (y4 : Int32) (S : mM), MW X viI rm_X12_bytes cX12_bytes RX12 8 (some .int) l S [(0, .ref (X.2.1 69)), (1, .int y1), (2, .int y2), (3, .int y3), (4, .int y4)] [] 50 (k50 y1 y2 y3 y4 S)) (y1 : Int32) (y2 : Int32) (y3 : Int32) (y4 : Int32) (S : mM) : MW X viI rm_X12_bytes cX12_bytes RX12 8 (some .int) l S [(0, .ref (X.2.1 69)), (1, .int y1), (2, .int y2), (3, .int y3), (4, .int y4)] [] 118 (f_X12_bytes_118 k50 y1 y2 y3 y4 S) := by
  unfold f_X12_bytes_118
  refine mw_aload_n 0 dX12_bytes_118 rfl rfl ?_
  refine mw_iload_n 1 dX12_bytes_119 rfl rfl ?_
  refine mw_iload_n 2 dX12_bytes_120 rfl rfl ?_
  refine mw_iload 4 dX12_bytes_121 rfl ?_
  refine mw_iload_n 3 dX12_bytes_123 rfl rfl ?_
  refine mw_iconst (v := (2 : Int32)) dX12_bytes_124 (by decide) ?_
  refine mw_idiv dX12_bytes_125 (by decide) ?_
  refine mw_iadd dX12_bytes_126 ?_
  refine mw_callV (t_X12_bit X l y1 y2 (y4 + (y3 / (2 : Int32))) S) cd_X12_bit lk_RX12_294 im_X12_bit se_X12_bit in_RX12 de_X12_bit ⟨rfl, rfl⟩ ⟨Nat.le_of_ble_eq_true rfl, Nat.le_of_ble_eq_true rfl⟩ (mKind_lt mk_69 (by decide)) (mCell_k mk_69) rfl rfl rfl rfl ⟨Nat.le_of_ble_eq_true rfl, Nat.le_of_ble_eq_true rfl⟩ (Nat.le_of_ble_eq_true rfl) dX12_bytes_127 (fun r1 S2 => ?_)
  refine mw_eq (st' := [.int r1]) rfl rfl ?_
  refine mw_if_ne (tgt := 137) dX12_bytes_130 (by decide) ?_ ?_
  · refine mw_iconst (v := (1 : Int32)) dX12_bytes_133 (by decide) ?_
    refine mw_goto (tgt := 138) dX12_bytes_134 (by decide) ?_
    exact mw_sub [0, 1, 2, 3, 4] rfl (w_X12_bytes_138 X l k50 hk50 y1 y2 y3 y4 (1 : Int32) S2)
  · exact mw_sub [0, 1, 2, 3, 4] rfl (w_X12_bytes_137 X l k50 hk50 y1 y2 y3 y4 S2)
def f_X12_bytes_50 (n : Nat) (y1 : Int32) (y2 : Int32) (y3 : Int32) (y4 : Int32) (S : mM) : Option (Int32 × mM) := match n with
  | 0 => none
  | n + 1 =>
    if (20 : Int32) ≤ (S.1 69 48) then
      some ((S.1 69 48), S)
    else
      if (S.1 69 51) = (-4 : Int32) then
        if 0 ≤ y1 ∧ y1.toNatClampNeg < 8 then
        (if (S.1 85 y1.toNatClampNeg) ≤ ((y4 + (y3 / (2 : Int32))) + ((9 : Int32) * y3)) then
          some ((S.1 69 48), S)
        else
          mBind (f_X12_bit y1 y2 y4 S) fun r1 S2 =>
          if r1 = 0 then
            if y4 = 0 then
              f_X12_bytes_118 (f_X12_bytes_50 n) y1 y2 y3 y4 S2
            else
              mBind (f_X12_bit y1 y2 (y4 - (1 : Int32)) S2) fun r3 S4 =>
              if r3 = (1 : Int32) then
                f_X12_bytes_118 (f_X12_bytes_50 n) y1 y2 y3 y4 S4
              else
                f_X12_bytes_137 (f_X12_bytes_50 n) y1 y2 y3 y4 S4
          else
            f_X12_bytes_137 (f_X12_bytes_50 n) y1 y2 y3 y4 S2)
        else none
      else
        some ((S.1 69 48), S)
set_option maxRecDepth 100000 in
set_option maxHeartbeats 4000000 in
theorem w_X12_bytes_50 (X : mX) (l : Launch) (n : Nat) (y1 : Int32) (y2 : Int32) (y3 : Int32) (y4 : Int32) (S : mM) : MW X viI rm_X12_bytes cX12_bytes RX12 8 (some .int) l S [(0, .ref (X.2.1 69)), (1, .int y1), (2, .int y2), (3, .int y3), (4, .int y4)] [] 50 (f_X12_bytes_50 n y1 y2 y3 y4 S) := by
  induction n generalizing y1 y2 y3 y4 S with
  | zero => exact mw_none
  | succ n ih =>
    unfold f_X12_bytes_50
    refine mw_aload_n 0 dX12_bytes_50 rfl rfl ?_
    refine gf_RX12_289 mk_69 dX12_bytes_51 ?_
    refine mw_bipush (v := (20 : Int32)) dX12_bytes_54 (by decide) ?_
    refine mw_icmp_ge (tgt := 248) dX12_bytes_56 (by decide) ?_ ?_
    · refine mw_aload_n 0 dX12_bytes_248 rfl rfl ?_
      refine gf_RX12_289 mk_69 dX12_bytes_249 ?_
      exact mw_ireturn dX12_bytes_252
    · refine mw_aload_n 0 dX12_bytes_59 rfl rfl ?_
      refine gf_RX12_107 mk_69 dX12_bytes_60 ?_
      refine mw_bipush (v := (-4 : Int32)) dX12_bytes_63 (by decide) ?_
      refine mw_icmp_ne (tgt := 248) dX12_bytes_65 (by decide) ?_ ?_
      · refine mw_iload 4 dX12_bytes_68 rfl ?_
        refine mw_iload_n 3 dX12_bytes_70 rfl rfl ?_
        refine mw_iconst (v := (2 : Int32)) dX12_bytes_71 (by decide) ?_
        refine mw_idiv dX12_bytes_72 (by decide) ?_
        refine mw_iadd dX12_bytes_73 ?_
        refine mw_bipush (v := (9 : Int32)) dX12_bytes_74 (by decide) ?_
        refine mw_iload_n 3 dX12_bytes_76 rfl rfl ?_
        refine mw_imul dX12_bytes_77 ?_
        refine mw_iadd dX12_bytes_78 ?_
        refine mw_aload_n 0 dX12_bytes_79 rfl rfl ?_
        refine gf_RX12_63 mk_69 dX12_bytes_80 ?_
        refine mw_iload_n 1 dX12_bytes_83 rfl rfl ?_
        refine mw_iaload mk_85 ml_85 dX12_bytes_84 ?_
        refine mw_icmp_ge (tgt := 248) dX12_bytes_85 (by decide) ?_ ?_
        · refine mw_aload_n 0 dX12_bytes_248 rfl rfl ?_
          refine gf_RX12_289 mk_69 dX12_bytes_249 ?_
          exact mw_ireturn dX12_bytes_252
        · refine mw_aload_n 0 dX12_bytes_88 rfl rfl ?_
          refine mw_iload_n 1 dX12_bytes_89 rfl rfl ?_
          refine mw_iload_n 2 dX12_bytes_90 rfl rfl ?_
          refine mw_iload 4 dX12_bytes_91 rfl ?_
          refine mw_callV (t_X12_bit X l y1 y2 y4 S) cd_X12_bit lk_RX12_294 im_X12_bit se_X12_bit in_RX12 de_X12_bit ⟨rfl, rfl⟩ ⟨Nat.le_of_ble_eq_true rfl, Nat.le_of_ble_eq_true rfl⟩ (mKind_lt mk_69 (by decide)) (mCell_k mk_69) rfl rfl rfl rfl ⟨Nat.le_of_ble_eq_true rfl, Nat.le_of_ble_eq_true rfl⟩ (Nat.le_of_ble_eq_true rfl) dX12_bytes_93 (fun r1 S2 => ?_)
          refine mw_eq (st' := [.int r1]) rfl rfl ?_
          refine mw_if_ne (tgt := 137) dX12_bytes_96 (by decide) ?_ ?_
          · refine mw_iload 4 dX12_bytes_99 rfl ?_
            refine mw_if_eq (tgt := 118) dX12_bytes_101 (by decide) ?_ ?_
            · exact mw_sub [0, 1, 2, 3, 4] rfl (w_X12_bytes_118 X l (f_X12_bytes_50 n) ih y1 y2 y3 y4 S2)
            · refine mw_aload_n 0 dX12_bytes_104 rfl rfl ?_
              refine mw_iload_n 1 dX12_bytes_105 rfl rfl ?_
              refine mw_iload_n 2 dX12_bytes_106 rfl rfl ?_
              refine mw_iload 4 dX12_bytes_107 rfl ?_
              refine mw_iconst (v := (1 : Int32)) dX12_bytes_109 (by decide) ?_
              refine mw_isub dX12_bytes_110 ?_
              refine mw_callV (t_X12_bit X l y1 y2 (y4 - (1 : Int32)) S2) cd_X12_bit lk_RX12_294 im_X12_bit se_X12_bit in_RX12 de_X12_bit ⟨rfl, rfl⟩ ⟨Nat.le_of_ble_eq_true rfl, Nat.le_of_ble_eq_true rfl⟩ (mKind_lt mk_69 (by decide)) (mCell_k mk_69) rfl rfl rfl rfl ⟨Nat.le_of_ble_eq_true rfl, Nat.le_of_ble_eq_true rfl⟩ (Nat.le_of_ble_eq_true rfl) dX12_bytes_111 (fun r3 S4 => ?_)
              refine mw_eq (st' := [.int r3]) rfl rfl ?_
              refine mw_iconst (v := (1 : Int32)) dX12_bytes_114 (by decide) ?_
              refine mw_icmp_ne (tgt := 137) dX12_bytes_115 (by decide) ?_ ?_
              · exact mw_sub [0, 1, 2, 3, 4] rfl (w_X12_bytes_118 X l (f_X12_bytes_50 n) ih y1 y2 y3 y4 S4)
              · exact mw_sub [0, 1, 2, 3, 4] rfl (w_X12_bytes_137 X l (f_X12_bytes_50 n) ih y1 y2 y3 y4 S4)
          · exact mw_sub [0, 1, 2, 3, 4] rfl (w_X12_bytes_137 X l (f_X12_bytes_50 n) ih y1 y2 y3 y4 S2)
      · refine mw_aload_n 0 dX12_bytes_248 rfl rfl ?_
        refine gf_RX12_289 mk_69 dX12_bytes_249 ?_
        exact mw_ireturn dX12_bytes_252
def f_X12_bytes (p1 : Int32) (p2 : Int32) (p3 : Int32) (S : mM) : Option (Int32 × mM) :=
  mBind (f_X12_isSegment p1 S) fun r1 S2 =>
  if r1 = 0 then
    some ((-1 : Int32), S2)
  else
    mBind (f_X12_in p2.toInt64 (0 : Int64) (3 : Int64) S2) fun r3 S4 =>
    if r3 = 0 then
      some ((-1 : Int32), S4)
    else
      mBind (f_X12_in p3.toInt64 (2 : Int64) (16 : Int64) S4) fun r5 S6 =>
      if r5 = 0 then
        some ((-1 : Int32), S6)
      else
        bnd (setI S6 69 48 (0 : Int32)) fun S7 =>
        bnd (setI S7 69 51 (-4 : Int32)) fun S8 =>
        f_X12_bytes_50 mFuel p1 p2 p3 (0 : Int32) S8
set_option maxRecDepth 100000 in
set_option maxHeartbeats 4000000 in
theorem w_X12_bytes (X : mX) (l : Launch) (p1 : Int32) (p2 : Int32) (p3 : Int32) (S : mM) : MW X viI rm_X12_bytes cX12_bytes RX12 8 (some .int) l S [(0, .ref (X.2.1 69)), (1, .int p1), (2, .int p2), (3, .int p3)] [] 0 (f_X12_bytes p1 p2 p3 S) := by
  unfold f_X12_bytes
  refine mw_aload_n 0 dX12_bytes_0 rfl rfl ?_
  refine mw_iload_n 1 dX12_bytes_1 rfl rfl ?_
  refine mw_callV (t_X12_isSegment X l p1 S) cd_X12_isSegment lk_RX12_261 im_X12_isSegment se_X12_isSegment in_RX12 de_X12_isSegment ⟨rfl, rfl⟩ ⟨Nat.le_of_ble_eq_true rfl, Nat.le_of_ble_eq_true rfl⟩ (mKind_lt mk_69 (by decide)) (mCell_k mk_69) rfl rfl rfl rfl ⟨Nat.le_of_ble_eq_true rfl, Nat.le_of_ble_eq_true rfl⟩ (Nat.le_of_ble_eq_true rfl) dX12_bytes_2 (fun r1 S2 => ?_)
  refine mw_eq (st' := [.int r1]) rfl rfl ?_
  refine mw_if_eq (tgt := 34) dX12_bytes_5 (by decide) ?_ ?_
  · refine mw_iconst (v := (-1 : Int32)) dX12_bytes_34 (by decide) ?_
    exact mw_ireturn dX12_bytes_35
  · refine mw_iload_n 2 dX12_bytes_8 rfl rfl ?_
    refine mw_i2l dX12_bytes_9 ?_
    refine mw_lconst (v := (0 : Int64)) dX12_bytes_10 (by decide) ?_
    refine mw_ldc2 cl_RX12_257 dX12_bytes_11 ?_
    refine mw_callS (t_X12_in X l p2.toInt64 (0 : Int64) (3 : Int64) S2) cd_X12_in lk_RX12_115 sn_X12_in in_RX12 de_X12_in ⟨rfl, rfl⟩ ⟨Nat.le_of_ble_eq_true rfl, Nat.le_of_ble_eq_true rfl⟩ rfl rfl ⟨Nat.le_of_ble_eq_true rfl, Nat.le_of_ble_eq_true rfl⟩ (Nat.le_of_ble_eq_true rfl) dX12_bytes_14 (fun r3 S4 => ?_)
    refine mw_eq (st' := [.int r3]) rfl rfl ?_
    refine mw_if_eq (tgt := 34) dX12_bytes_17 (by decide) ?_ ?_
    · refine mw_iconst (v := (-1 : Int32)) dX12_bytes_34 (by decide) ?_
      exact mw_ireturn dX12_bytes_35
    · refine mw_iload_n 3 dX12_bytes_20 rfl rfl ?_
      refine mw_i2l dX12_bytes_21 ?_
      refine mw_ldc2 cl_RX12_264 dX12_bytes_22 ?_
      refine mw_ldc2 cl_RX12_292 dX12_bytes_25 ?_
      refine mw_callS (t_X12_in X l p3.toInt64 (2 : Int64) (16 : Int64) S4) cd_X12_in lk_RX12_115 sn_X12_in in_RX12 de_X12_in ⟨rfl, rfl⟩ ⟨Nat.le_of_ble_eq_true rfl, Nat.le_of_ble_eq_true rfl⟩ rfl rfl ⟨Nat.le_of_ble_eq_true rfl, Nat.le_of_ble_eq_true rfl⟩ (Nat.le_of_ble_eq_true rfl) dX12_bytes_28 (fun r5 S6 => ?_)
      refine mw_eq (st' := [.int r5]) rfl rfl ?_
      refine mw_if_ne (tgt := 36) dX12_bytes_31 (by decide) ?_ ?_
      · refine mw_iconst (v := (-1 : Int32)) dX12_bytes_34 (by decide) ?_
        exact mw_ireturn dX12_bytes_35
      · refine mw_aload_n 0 dX12_bytes_36 rfl rfl ?_
        refine mw_iconst (v := (0 : Int32)) dX12_bytes_37 (by decide) ?_
        refine pf_RX12_289 mk_69 dX12_bytes_38 ?_
        refine mw_bndS (fun S7 => ?_)
        refine mw_aload_n 0 dX12_bytes_41 rfl rfl ?_
        refine mw_bipush (v := (-4 : Int32)) dX12_bytes_42 (by decide) ?_
        refine pf_RX12_107 mk_69 dX12_bytes_44 ?_
        refine mw_bndS (fun S8 => ?_)
        refine mw_iconst (v := (0 : Int32)) dX12_bytes_47 (by decide) ?_
        refine mw_istore (lv' := [(4, .int (0 : Int32)), (0, .ref (X.2.1 69)), (1, .int p1), (2, .int p2), (3, .int p3)]) dX12_bytes_48 (by decide) rfl ?_
        exact mw_sub [1, 2, 3, 4, 0] rfl (w_X12_bytes_50 X l mFuel p1 p2 p3 (0 : Int32) S8)
theorem t_X12_bytes (X : mX) (l : Launch) (p1 : Int32) (p2 : Int32) (p3 : Int32) (S : mM) : mMet X viI yX12_bytes cX12_bytes 8 (some .int) rm_X12_bytes [.ref (X.2.1 69), .int p1, .int p2, .int p3] l S (f_X12_bytes p1 p2 p3 S) :=
  mMet_of (by decide +kernel) rfl (Nat.le_of_ble_eq_true rfl) (w_X12_bytes X l p1 p2 p3 S )
/-! TraceBenchModel.of(II)I -/
def f_X12_of (p1 : Int32) (p2 : Int32) (S : mM) : Option (Int32 × mM) :=
  if 0 ≤ p1 ∧ p1.toNatClampNeg < 33000 then
  (some (((S.1 71 p1.toNatClampNeg) >>> (((24 : Int32) - ((8 : Int32) * p2)) &&& 31)).toInt8.toInt32, S))
  else none
set_option maxRecDepth 100000 in
set_option maxHeartbeats 4000000 in
theorem w_X12_of (X : mX) (l : Launch) (p1 : Int32) (p2 : Int32) (S : mM) : MW X viI rm_X12_of cX12_of RX12 3 (some .int) l S [(0, .ref (X.2.1 69)), (1, .int p1), (2, .int p2)] [] 0 (f_X12_of p1 p2 S) := by
  unfold f_X12_of
  refine mw_aload_n 0 dX12_of_0 rfl rfl ?_
  refine gf_RX12_14 mk_69 dX12_of_1 ?_
  refine mw_iload_n 1 dX12_of_4 rfl rfl ?_
  refine mw_iaload mk_71 ml_71 dX12_of_5 ?_
  refine mw_bipush (v := (24 : Int32)) dX12_of_6 (by decide) ?_
  refine mw_bipush (v := (8 : Int32)) dX12_of_8 (by decide) ?_
  refine mw_iload_n 2 dX12_of_10 rfl rfl ?_
  refine mw_imul dX12_of_11 ?_
  refine mw_isub dX12_of_12 ?_
  refine mw_ishr dX12_of_13 ?_
  refine mw_i2b dX12_of_14 ?_
  exact mw_ireturn dX12_of_15
theorem t_X12_of (X : mX) (l : Launch) (p1 : Int32) (p2 : Int32) (S : mM) : mMet X viI yX12_of cX12_of 3 (some .int) rm_X12_of [.ref (X.2.1 69), .int p1, .int p2] l S (f_X12_of p1 p2 S) :=
  mMet_of (by decide +kernel) rfl (Nat.le_of_ble_eq_true rfl) (w_X12_of X l p1 p2 S )
/-! TraceBenchModel.high(III)I -/
def f_X12_high_31 (y1 : Int32) (y4 : Int32) (S : mM) : Option (Int32 × mM) :=
  if y4 < (S.1 69 28) then
    some ((0 : Int32), S)
  else
    some (((y1 - (1 : Int32)) - y4), S)
set_option maxRecDepth 100000 in
set_option maxHeartbeats 4000000 in
theorem w_X12_high_31 (X : mX) (l : Launch) (y1 : Int32) (y4 : Int32) (S : mM) : MW X viI rm_X12_high cX12_high RX12 5 (some .int) l S [(0, .ref (X.2.1 69)), (1, .int y1), (4, .int y4)] [] 31 (f_X12_high_31 y1 y4 S) := by
  unfold f_X12_high_31
  refine mw_iload 2 dX12_high_31 rfl ?_
  refine mw_aload_n 0 dX12_high_33 rfl rfl ?_
  refine gf_RX12_206 mk_69 dX12_high_34 ?_
  refine mw_icmp_lt (tgt := 49) dX12_high_37 (by decide) ?_ ?_
  · refine mw_iconst (v := (0 : Int32)) dX12_high_49 (by decide) ?_
    exact mw_ireturn dX12_high_50
  · refine mw_iload_n 1 dX12_high_40 rfl rfl ?_
    refine mw_iconst (v := (1 : Int32)) dX12_high_41 (by decide) ?_
    refine mw_isub dX12_high_42 ?_
    refine mw_iload 2 dX12_high_43 rfl ?_
    refine mw_isub dX12_high_45 ?_
    refine mw_goto (tgt := 50) dX12_high_46 (by decide) ?_
    exact mw_ireturn dX12_high_50
def f_X12_high_5 (n : Nat) (y1 : Int32) (y2 : Int32) (y3 : Int32) (y4 : Int32) (S : mM) : Option (Int32 × mM) := match n with
  | 0 => none
  | n + 1 =>
    if y4 < (S.1 69 28) then
      f_X12_high_31 y1 y4 S
    else
      mBind (f_X12_of y4 y2 S) fun r1 S2 =>
      if r1 < y3 then
        f_X12_high_31 y1 y4 S2
      else
        bnd (y4 + (-1 : Int32)) fun x3 =>
        f_X12_high_5 n y1 y2 y3 x3 S2
set_option maxRecDepth 100000 in
set_option maxHeartbeats 4000000 in
theorem w_X12_high_5 (X : mX) (l : Launch) (n : Nat) (y1 : Int32) (y2 : Int32) (y3 : Int32) (y4 : Int32) (S : mM) : MW X viI rm_X12_high cX12_high RX12 5 (some .int) l S [(0, .ref (X.2.1 69)), (1, .int y1), (2, .int y2), (3, .int y3), (4, .int y4)] [] 5 (f_X12_high_5 n y1 y2 y3 y4 S) := by
  induction n generalizing y1 y2 y3 y4 S with
  | zero => exact mw_none
  | succ n ih =>
    unfold f_X12_high_5
    refine mw_iload 4 dX12_high_5 rfl ?_
    refine mw_aload_n 0 dX12_high_7 rfl rfl ?_
    refine gf_RX12_206 mk_69 dX12_high_8 ?_
    refine mw_icmp_lt (tgt := 31) dX12_high_11 (by decide) ?_ ?_
    · exact mw_sub [0, 1, 4] rfl (w_X12_high_31 X l y1 y4 S)
    · refine mw_aload_n 0 dX12_high_14 rfl rfl ?_
      refine mw_iload 4 dX12_high_15 rfl ?_
      refine mw_iload_n 2 dX12_high_17 rfl rfl ?_
      refine mw_callV (t_X12_of X l y4 y2 S) cd_X12_of lk_RX12_227 im_X12_of se_X12_of in_RX12 de_X12_of ⟨rfl, rfl⟩ ⟨Nat.le_of_ble_eq_true rfl, Nat.le_of_ble_eq_true rfl⟩ (mKind_lt mk_69 (by decide)) (mCell_k mk_69) rfl rfl rfl rfl ⟨Nat.le_of_ble_eq_true rfl, Nat.le_of_ble_eq_true rfl⟩ (Nat.le_of_ble_eq_true rfl) dX12_high_18 (fun r1 S2 => ?_)
      refine mw_eq (st' := [.int r1]) rfl rfl ?_
      refine mw_iload_n 3 dX12_high_21 rfl rfl ?_
      refine mw_icmp_lt (tgt := 31) dX12_high_22 (by decide) ?_ ?_
      · exact mw_sub [0, 1, 4] rfl (w_X12_high_31 X l y1 y4 S2)
      · refine mw_iincB (lvf := fun x3 => [(4, .int x3), (0, .ref (X.2.1 69)), (1, .int y1), (2, .int y2), (3, .int y3)]) (k := 4) dX12_high_25 rfl (by decide) (by decide) (fun _ => rfl) (fun x3 => ?_)
        refine mw_goto (tgt := 5) dX12_high_28 (by decide) ?_
        exact mw_sub [1, 2, 3, 4, 0] rfl (ih y1 y2 y3 x3 S2)
def f_X12_high (p1 : Int32) (p2 : Int32) (p3 : Int32) (S : mM) : Option (Int32 × mM) :=
  bnd (p1 - (1 : Int32)) fun x1 =>
  f_X12_high_5 mFuel p1 p2 p3 x1 S
set_option maxRecDepth 100000 in
set_option maxHeartbeats 4000000 in
theorem w_X12_high (X : mX) (l : Launch) (p1 : Int32) (p2 : Int32) (p3 : Int32) (S : mM) : MW X viI rm_X12_high cX12_high RX12 5 (some .int) l S [(0, .ref (X.2.1 69)), (1, .int p1), (2, .int p2), (3, .int p3)] [] 0 (f_X12_high p1 p2 p3 S) := by
  unfold f_X12_high
  refine mw_iload_n 1 dX12_high_0 rfl rfl ?_
  refine mw_iconst (v := (1 : Int32)) dX12_high_1 (by decide) ?_
  refine mw_isub dX12_high_2 ?_
  refine mw_bndI (fun x1 => ?_)
  refine mw_istore (lv' := [(4, .int x1), (0, .ref (X.2.1 69)), (1, .int p1), (2, .int p2), (3, .int p3)]) dX12_high_3 (by decide) rfl ?_
  exact mw_sub [1, 2, 3, 4, 0] rfl (w_X12_high_5 X l mFuel p1 p2 p3 x1 S)
theorem t_X12_high (X : mX) (l : Launch) (p1 : Int32) (p2 : Int32) (p3 : Int32) (S : mM) : mMet X viI yX12_high cX12_high 5 (some .int) rm_X12_high [.ref (X.2.1 69), .int p1, .int p2, .int p3] l S (f_X12_high p1 p2 p3 S) :=
  mMet_of (by decide +kernel) rfl (Nat.le_of_ble_eq_true rfl) (w_X12_high X l p1 p2 p3 S )
/-! TraceBenchModel.isRunt(IIII)Z -/
def f_X12_isRunt_27 (n : Nat) (y1 : Int32) (y2 : Int32) (y4 : Int32) (y6 : Int32) (y7 : Int32) (S : mM) : Option (Int32 × mM) := match n with
  | 0 => none
  | n + 1 =>
    if y1 ≤ y7 then
      if y6 = 0 ∨ y6 = 1 then some (y6, S) else none
    else
      if y6 = 0 then
        bnd (y7 + (1 : Int32)) fun x1 =>
        f_X12_isRunt_27 n y1 y2 y4 (0 : Int32) x1 S
      else
        mBind (f_X12_of y7 y2 S) fun r2 S3 =>
        if y4 ≤ r2 then
          bnd (y7 + (1 : Int32)) fun x4 =>
          f_X12_isRunt_27 n y1 y2 y4 (0 : Int32) x4 S3
        else
          bnd (y7 + (1 : Int32)) fun x5 =>
          f_X12_isRunt_27 n y1 y2 y4 (1 : Int32) x5 S3
set_option maxRecDepth 100000 in
set_option maxHeartbeats 4000000 in
theorem w_X12_isRunt_27 (X : mX) (l : Launch) (n : Nat) (y1 : Int32) (y2 : Int32) (y4 : Int32) (y6 : Int32) (y7 : Int32) (S : mM) : MW X viI rm_X12_isRunt cX12_isRunt RX12 8 (some .boolean) l S [(0, .ref (X.2.1 69)), (1, .int y1), (2, .int y2), (4, .int y4), (6, .int y6), (7, .int y7)] [] 27 (f_X12_isRunt_27 n y1 y2 y4 y6 y7 S) := by
  induction n generalizing y1 y2 y4 y6 y7 S with
  | zero => exact mw_none
  | succ n ih =>
    unfold f_X12_isRunt_27
    refine mw_iload 5 dX12_isRunt_27 rfl ?_
    refine mw_iload_n 1 dX12_isRunt_29 rfl rfl ?_
    refine mw_icmp_ge (tgt := 63) dX12_isRunt_30 (by decide) ?_ ?_
    · refine mw_iload 4 dX12_isRunt_63 rfl ?_
      exact mw_zreturn dX12_isRunt_65
    · refine mw_iload 4 dX12_isRunt_33 rfl ?_
      refine mw_if_eq (tgt := 54) dX12_isRunt_35 (by decide) ?_ ?_
      · refine mw_iconst (v := (0 : Int32)) dX12_isRunt_54 (by decide) ?_
        refine mw_istore (lv' := [(6, .int (0 : Int32)), (0, .ref (X.2.1 69)), (1, .int y1), (2, .int y2), (4, .int y4), (7, .int y7)]) dX12_isRunt_55 (by decide) rfl ?_
        refine mw_iincB (lvf := fun x1 => [(7, .int x1), (6, .int (0 : Int32)), (0, .ref (X.2.1 69)), (1, .int y1), (2, .int y2), (4, .int y4)]) (k := 5) dX12_isRunt_57 rfl (by decide) (by decide) (fun _ => rfl) (fun x1 => ?_)
        refine mw_goto (tgt := 27) dX12_isRunt_60 (by decide) ?_
        exact mw_sub [2, 3, 4, 5, 1, 0] rfl (ih y1 y2 y4 (0 : Int32) x1 S)
      · refine mw_aload_n 0 dX12_isRunt_38 rfl rfl ?_
        refine mw_iload 5 dX12_isRunt_39 rfl ?_
        refine mw_iload_n 2 dX12_isRunt_41 rfl rfl ?_
        refine mw_callV (t_X12_of X l y7 y2 S) cd_X12_of lk_RX12_227 im_X12_of se_X12_of in_RX12 de_X12_of ⟨rfl, rfl⟩ ⟨Nat.le_of_ble_eq_true rfl, Nat.le_of_ble_eq_true rfl⟩ (mKind_lt mk_69 (by decide)) (mCell_k mk_69) rfl rfl rfl rfl ⟨Nat.le_of_ble_eq_true rfl, Nat.le_of_ble_eq_true rfl⟩ (Nat.le_of_ble_eq_true rfl) dX12_isRunt_42 (fun r2 S3 => ?_)
        refine mw_eq (st' := [.int r2]) rfl rfl ?_
        refine mw_iload 3 dX12_isRunt_45 rfl ?_
        refine mw_icmp_ge (tgt := 54) dX12_isRunt_47 (by decide) ?_ ?_
        · refine mw_iconst (v := (0 : Int32)) dX12_isRunt_54 (by decide) ?_
          refine mw_istore (lv' := [(6, .int (0 : Int32)), (0, .ref (X.2.1 69)), (1, .int y1), (2, .int y2), (4, .int y4), (7, .int y7)]) dX12_isRunt_55 (by decide) rfl ?_
          refine mw_iincB (lvf := fun x4 => [(7, .int x4), (6, .int (0 : Int32)), (0, .ref (X.2.1 69)), (1, .int y1), (2, .int y2), (4, .int y4)]) (k := 5) dX12_isRunt_57 rfl (by decide) (by decide) (fun _ => rfl) (fun x4 => ?_)
          refine mw_goto (tgt := 27) dX12_isRunt_60 (by decide) ?_
          exact mw_sub [2, 3, 4, 5, 1, 0] rfl (ih y1 y2 y4 (0 : Int32) x4 S3)
        · refine mw_iconst (v := (1 : Int32)) dX12_isRunt_50 (by decide) ?_
          refine mw_goto (tgt := 55) dX12_isRunt_51 (by decide) ?_
          refine mw_istore (lv' := [(6, .int (1 : Int32)), (0, .ref (X.2.1 69)), (1, .int y1), (2, .int y2), (4, .int y4), (7, .int y7)]) dX12_isRunt_55 (by decide) rfl ?_
          refine mw_iincB (lvf := fun x5 => [(7, .int x5), (6, .int (1 : Int32)), (0, .ref (X.2.1 69)), (1, .int y1), (2, .int y2), (4, .int y4)]) (k := 5) dX12_isRunt_57 rfl (by decide) (by decide) (fun _ => rfl) (fun x5 => ?_)
          refine mw_goto (tgt := 27) dX12_isRunt_60 (by decide) ?_
          exact mw_sub [2, 3, 4, 5, 1, 0] rfl (ih y1 y2 y4 (1 : Int32) x5 S3)
def f_X12_isRunt (p1 : Int32) (p2 : Int32) (p3 : Int32) (p4 : Int32) (S : mM) : Option (Int32 × mM) :=
  mBind (f_X12_high p1 p2 p3 S) fun r1 S2 =>
  if r1 ≤ 0 then
    bnd (p1 - r1) fun x3 =>
    f_X12_isRunt_27 mFuel p1 p2 p4 (0 : Int32) x3 S2
  else
    bnd (p1 - r1) fun x4 =>
    f_X12_isRunt_27 mFuel p1 p2 p4 (1 : Int32) x4 S2
set_option maxRecDepth 100000 in
set_option maxHeartbeats 4000000 in
theorem w_X12_isRunt (X : mX) (l : Launch) (p1 : Int32) (p2 : Int32) (p3 : Int32) (p4 : Int32) (S : mM) : MW X viI rm_X12_isRunt cX12_isRunt RX12 8 (some .boolean) l S [(0, .ref (X.2.1 69)), (1, .int p1), (2, .int p2), (3, .int p3), (4, .int p4)] [] 0 (f_X12_isRunt p1 p2 p3 p4 S) := by
  unfold f_X12_isRunt
  refine mw_aload_n 0 dX12_isRunt_0 rfl rfl ?_
  refine mw_iload_n 1 dX12_isRunt_1 rfl rfl ?_
  refine mw_iload_n 2 dX12_isRunt_2 rfl rfl ?_
  refine mw_iload_n 3 dX12_isRunt_3 rfl rfl ?_
  refine mw_callV (t_X12_high X l p1 p2 p3 S) cd_X12_high lk_RX12_230 im_X12_high se_X12_high in_RX12 de_X12_high ⟨rfl, rfl⟩ ⟨Nat.le_of_ble_eq_true rfl, Nat.le_of_ble_eq_true rfl⟩ (mKind_lt mk_69 (by decide)) (mCell_k mk_69) rfl rfl rfl rfl ⟨Nat.le_of_ble_eq_true rfl, Nat.le_of_ble_eq_true rfl⟩ (Nat.le_of_ble_eq_true rfl) dX12_isRunt_4 (fun r1 S2 => ?_)
  refine mw_eq (st' := [.int r1]) rfl rfl ?_
  refine mw_istore (lv' := [(5, .int r1), (0, .ref (X.2.1 69)), (1, .int p1), (2, .int p2), (3, .int p3), (4, .int p4)]) dX12_isRunt_7 (by decide) rfl ?_
  refine mw_iload 0 dX12_isRunt_9 rfl ?_
  refine mw_if_le (tgt := 18) dX12_isRunt_11 (by decide) ?_ ?_
  · refine mw_iconst (v := (0 : Int32)) dX12_isRunt_18 (by decide) ?_
    refine mw_istore (lv' := [(6, .int (0 : Int32)), (5, .int r1), (0, .ref (X.2.1 69)), (1, .int p1), (2, .int p2), (3, .int p3), (4, .int p4)]) dX12_isRunt_19 (by decide) rfl ?_
    refine mw_iload_n 3 dX12_isRunt_21 rfl rfl ?_
    refine mw_iload 1 dX12_isRunt_22 rfl ?_
    refine mw_isub dX12_isRunt_24 ?_
    refine mw_bndI (fun x3 => ?_)
    refine mw_istore (lv' := [(7, .int x3), (6, .int (0 : Int32)), (5, .int r1), (0, .ref (X.2.1 69)), (1, .int p1), (2, .int p2), (3, .int p3), (4, .int p4)]) dX12_isRunt_25 (by decide) rfl ?_
    exact mw_sub [3, 4, 5, 7, 1, 0] rfl (w_X12_isRunt_27 X l mFuel p1 p2 p4 (0 : Int32) x3 S2)
  · refine mw_iconst (v := (1 : Int32)) dX12_isRunt_14 (by decide) ?_
    refine mw_goto (tgt := 19) dX12_isRunt_15 (by decide) ?_
    refine mw_istore (lv' := [(6, .int (1 : Int32)), (5, .int r1), (0, .ref (X.2.1 69)), (1, .int p1), (2, .int p2), (3, .int p3), (4, .int p4)]) dX12_isRunt_19 (by decide) rfl ?_
    refine mw_iload_n 3 dX12_isRunt_21 rfl rfl ?_
    refine mw_iload 1 dX12_isRunt_22 rfl ?_
    refine mw_isub dX12_isRunt_24 ?_
    refine mw_bndI (fun x4 => ?_)
    refine mw_istore (lv' := [(7, .int x4), (6, .int (1 : Int32)), (5, .int r1), (0, .ref (X.2.1 69)), (1, .int p1), (2, .int p2), (3, .int p3), (4, .int p4)]) dX12_isRunt_25 (by decide) rfl ?_
    exact mw_sub [3, 4, 5, 7, 1, 0] rfl (w_X12_isRunt_27 X l mFuel p1 p2 p4 (1 : Int32) x4 S2)
theorem t_X12_isRunt (X : mX) (l : Launch) (p1 : Int32) (p2 : Int32) (p3 : Int32) (p4 : Int32) (S : mM) : mMet X viI yX12_isRunt cX12_isRunt 8 (some .boolean) rm_X12_isRunt [.ref (X.2.1 69), .int p1, .int p2, .int p3, .int p4] l S (f_X12_isRunt p1 p2 p3 p4 S) :=
  mMet_of (by decide +kernel) rfl (Nat.le_of_ble_eq_true rfl) (w_X12_isRunt X l p1 p2 p3 p4 S )
/-! TraceBenchModel.happens(I)Z -/
def f_X12_happens_76 (y1 : Int32) (y2 : Int32) (y3 : Int32) (y4 : Int32) (y5 : Int32) (y6 : Int32) (z0 : Int32) (S : mM) : Option (Int32 × mM) :=
  if 0 ≤ (S.1 69 29) ∧ (S.1 69 29).toNatClampNeg < 6 then
  (if (S.1 73 (S.1 69 29).toNatClampNeg) = (0 : Int32) then
    if y3 ≤ y5 then
      some ((0 : Int32), S)
    else
      if y6 < y3 then
        some ((0 : Int32), S)
      else
        some ((1 : Int32), S)
  else
    if (S.1 73 (S.1 69 29).toNatClampNeg) = (1 : Int32) then
      if z0 = 0 ∨ z0 = 1 then some (z0, S) else none
    else
      if (S.1 73 (S.1 69 29).toNatClampNeg) = (2 : Int32) then
        if z0 = 0 then
          some ((0 : Int32), S)
        else
          mBind (f_X12_high y1 y2 y3 S) fun r4 S5 =>
          if r4 < y4 then
            some ((0 : Int32), S5)
          else
            some ((1 : Int32), S5)
      else
        if (S.1 73 (S.1 69 29).toNatClampNeg) = (3 : Int32) then
          if z0 = 0 then
            some ((0 : Int32), S)
          else
            mBind (f_X12_high y1 y2 y3 S) fun r7 S8 =>
            if r7 ≤ 0 then
              some ((0 : Int32), S8)
            else
              mBind (f_X12_high y1 y2 y3 S8) fun r9 S10 =>
              if y4 ≤ r9 then
                some ((0 : Int32), S10)
              else
                some ((1 : Int32), S10)
        else
          if (S.1 73 (S.1 69 29).toNatClampNeg) = (4 : Int32) then
            if z0 = 0 then
              some ((0 : Int32), S)
            else
              mBind (f_X12_isRunt y1 y2 y3 y4 S) fun r12 S13 =>
              if r12 = 0 then
                some ((0 : Int32), S13)
              else
                some ((1 : Int32), S13)
          else
            if (S.1 73 (S.1 69 29).toNatClampNeg) = (5 : Int32) then
              mBind (f_X12_in y6.toInt64 y3.toInt64 y4.toInt64 S) fun r15 S16 =>
              if r15 = 0 then
                some ((0 : Int32), S16)
              else
                mBind (f_X12_in y5.toInt64 y3.toInt64 y4.toInt64 S16) fun r17 S18 =>
                if r17 = 0 then
                  some ((1 : Int32), S18)
                else
                  some ((0 : Int32), S18)
            else
              if (S.1 73 (S.1 69 29).toNatClampNeg) = (6 : Int32) then
                mBind (f_X12_in y5.toInt64 y3.toInt64 y4.toInt64 S) fun r20 S21 =>
                if r20 = 0 then
                  some ((0 : Int32), S21)
                else
                  mBind (f_X12_in y6.toInt64 y3.toInt64 y4.toInt64 S21) fun r22 S23 =>
                  if r22 = 0 then
                    some ((1 : Int32), S23)
                  else
                    some ((0 : Int32), S23)
              else
                mBind (f_X12_of y1 y3 S) fun r24 S25 =>
                if y6 = r24 then
                  mBind (f_X12_of (y1 - (1 : Int32)) y3 S25) fun r26 S27 =>
                  if y5 = r26 then
                    some ((0 : Int32), S27)
                  else
                    some ((1 : Int32), S27)
                else
                  some ((0 : Int32), S25))
  else none
set_option maxRecDepth 100000 in
set_option maxHeartbeats 4000000 in
theorem w_X12_happens_76 (X : mX) (l : Launch) (y1 : Int32) (y2 : Int32) (y3 : Int32) (y4 : Int32) (y5 : Int32) (y6 : Int32) (z0 : Int32) (S : mM) : MW X viI rm_X12_happens cX12_happens RX12 8 (some .boolean) l S [(0, .ref (X.2.1 69)), (1, .int y1), (2, .int y2), (3, .int y3), (4, .int y4), (5, .int y5), (6, .int y6)] [.int z0] 76 (f_X12_happens_76 y1 y2 y3 y4 y5 y6 z0 S) := by
  unfold f_X12_happens_76
  refine mw_istore (lv' := [(7, .int z0), (0, .ref (X.2.1 69)), (1, .int y1), (2, .int y2), (3, .int y3), (4, .int y4), (5, .int y5), (6, .int y6)]) dX12_happens_76 (by decide) rfl ?_
  refine mw_aload_n 1 dX12_happens_78 rfl rfl ?_
  refine gf_RX12_20 mk_69 dX12_happens_79 ?_
  refine mw_aload_n 1 dX12_happens_82 rfl rfl ?_
  refine gf_RX12_209 mk_69 dX12_happens_83 ?_
  refine mw_iaload mk_73 ml_73 dX12_happens_86 ?_
  refine mw_ite (fun h1 => ?_) (fun h1 => ?_)
  · refine mw_tab (tgt := 128) h1 dX12_happens_87 (by decide) (by decide) rfl (by decide) ?_
    refine mw_iload 6 dX12_happens_128 rfl ?_
    refine mw_iload_n 4 dX12_happens_130 rfl rfl ?_
    refine mw_icmp_ge (tgt := 144) dX12_happens_131 (by decide) ?_ ?_
    · refine mw_iconst (v := (0 : Int32)) dX12_happens_144 (by decide) ?_
      exact mw_zret (by decide) dX12_happens_145
    · refine mw_iload 7 dX12_happens_134 rfl ?_
      refine mw_iload_n 4 dX12_happens_136 rfl rfl ?_
      refine mw_icmp_lt (tgt := 144) dX12_happens_137 (by decide) ?_ ?_
      · refine mw_iconst (v := (0 : Int32)) dX12_happens_144 (by decide) ?_
        exact mw_zret (by decide) dX12_happens_145
      · refine mw_iconst (v := (1 : Int32)) dX12_happens_140 (by decide) ?_
        refine mw_goto (tgt := 145) dX12_happens_141 (by decide) ?_
        exact mw_zret (by decide) dX12_happens_145
  · refine mw_ite (fun h2 => ?_) (fun h2 => ?_)
    · refine mw_tab (tgt := 146) h2 dX12_happens_87 (by decide) (by decide) rfl (by decide) ?_
      refine mw_iload 0 dX12_happens_146 rfl ?_
      exact mw_zreturn dX12_happens_148
    · refine mw_ite (fun h3 => ?_) (fun h3 => ?_)
      · refine mw_tab (tgt := 149) h3 dX12_happens_87 (by decide) (by decide) rfl (by decide) ?_
        refine mw_iload 0 dX12_happens_149 rfl ?_
        refine mw_if_eq (tgt := 170) dX12_happens_151 (by decide) ?_ ?_
        · refine mw_iconst (v := (0 : Int32)) dX12_happens_170 (by decide) ?_
          exact mw_zret (by decide) dX12_happens_171
        · refine mw_aload_n 1 dX12_happens_154 rfl rfl ?_
          refine mw_iload_n 2 dX12_happens_155 rfl rfl ?_
          refine mw_iload_n 3 dX12_happens_156 rfl rfl ?_
          refine mw_iload_n 4 dX12_happens_157 rfl rfl ?_
          refine mw_callV (t_X12_high X l y1 y2 y3 S) cd_X12_high lk_RX12_230 im_X12_high se_X12_high in_RX12 de_X12_high ⟨rfl, rfl⟩ ⟨Nat.le_of_ble_eq_true rfl, Nat.le_of_ble_eq_true rfl⟩ (mKind_lt mk_69 (by decide)) (mCell_k mk_69) rfl rfl rfl rfl ⟨Nat.le_of_ble_eq_true rfl, Nat.le_of_ble_eq_true rfl⟩ (Nat.le_of_ble_eq_true rfl) dX12_happens_158 (fun r4 S5 => ?_)
          refine mw_eq (st' := [.int r4]) rfl rfl ?_
          refine mw_iload 5 dX12_happens_161 rfl ?_
          refine mw_icmp_lt (tgt := 170) dX12_happens_163 (by decide) ?_ ?_
          · refine mw_iconst (v := (0 : Int32)) dX12_happens_170 (by decide) ?_
            exact mw_zret (by decide) dX12_happens_171
          · refine mw_iconst (v := (1 : Int32)) dX12_happens_166 (by decide) ?_
            refine mw_goto (tgt := 171) dX12_happens_167 (by decide) ?_
            exact mw_zret (by decide) dX12_happens_171
      · refine mw_ite (fun h6 => ?_) (fun h6 => ?_)
        · refine mw_tab (tgt := 172) h6 dX12_happens_87 (by decide) (by decide) rfl (by decide) ?_
          refine mw_iload 0 dX12_happens_172 rfl ?_
          refine mw_if_eq (tgt := 203) dX12_happens_174 (by decide) ?_ ?_
          · refine mw_iconst (v := (0 : Int32)) dX12_happens_203 (by decide) ?_
            exact mw_zret (by decide) dX12_happens_204
          · refine mw_aload_n 1 dX12_happens_177 rfl rfl ?_
            refine mw_iload_n 2 dX12_happens_178 rfl rfl ?_
            refine mw_iload_n 3 dX12_happens_179 rfl rfl ?_
            refine mw_iload_n 4 dX12_happens_180 rfl rfl ?_
            refine mw_callV (t_X12_high X l y1 y2 y3 S) cd_X12_high lk_RX12_230 im_X12_high se_X12_high in_RX12 de_X12_high ⟨rfl, rfl⟩ ⟨Nat.le_of_ble_eq_true rfl, Nat.le_of_ble_eq_true rfl⟩ (mKind_lt mk_69 (by decide)) (mCell_k mk_69) rfl rfl rfl rfl ⟨Nat.le_of_ble_eq_true rfl, Nat.le_of_ble_eq_true rfl⟩ (Nat.le_of_ble_eq_true rfl) dX12_happens_181 (fun r7 S8 => ?_)
            refine mw_eq (st' := [.int r7]) rfl rfl ?_
            refine mw_if_le (tgt := 203) dX12_happens_184 (by decide) ?_ ?_
            · refine mw_iconst (v := (0 : Int32)) dX12_happens_203 (by decide) ?_
              exact mw_zret (by decide) dX12_happens_204
            · refine mw_aload_n 1 dX12_happens_187 rfl rfl ?_
              refine mw_iload_n 2 dX12_happens_188 rfl rfl ?_
              refine mw_iload_n 3 dX12_happens_189 rfl rfl ?_
              refine mw_iload_n 4 dX12_happens_190 rfl rfl ?_
              refine mw_callV (t_X12_high X l y1 y2 y3 S8) cd_X12_high lk_RX12_230 im_X12_high se_X12_high in_RX12 de_X12_high ⟨rfl, rfl⟩ ⟨Nat.le_of_ble_eq_true rfl, Nat.le_of_ble_eq_true rfl⟩ (mKind_lt mk_69 (by decide)) (mCell_k mk_69) rfl rfl rfl rfl ⟨Nat.le_of_ble_eq_true rfl, Nat.le_of_ble_eq_true rfl⟩ (Nat.le_of_ble_eq_true rfl) dX12_happens_191 (fun r9 S10 => ?_)
              refine mw_eq (st' := [.int r9]) rfl rfl ?_
              refine mw_iload 5 dX12_happens_194 rfl ?_
              refine mw_icmp_ge (tgt := 203) dX12_happens_196 (by decide) ?_ ?_
              · refine mw_iconst (v := (0 : Int32)) dX12_happens_203 (by decide) ?_
                exact mw_zret (by decide) dX12_happens_204
              · refine mw_iconst (v := (1 : Int32)) dX12_happens_199 (by decide) ?_
                refine mw_goto (tgt := 204) dX12_happens_200 (by decide) ?_
                exact mw_zret (by decide) dX12_happens_204
        · refine mw_ite (fun h11 => ?_) (fun h11 => ?_)
          · refine mw_tab (tgt := 205) h11 dX12_happens_87 (by decide) (by decide) rfl (by decide) ?_
            refine mw_iload 0 dX12_happens_205 rfl ?_
            refine mw_if_eq (tgt := 226) dX12_happens_207 (by decide) ?_ ?_
            · refine mw_iconst (v := (0 : Int32)) dX12_happens_226 (by decide) ?_
              exact mw_zret (by decide) dX12_happens_227
            · refine mw_aload_n 1 dX12_happens_210 rfl rfl ?_
              refine mw_iload_n 2 dX12_happens_211 rfl rfl ?_
              refine mw_iload_n 3 dX12_happens_212 rfl rfl ?_
              refine mw_iload_n 4 dX12_happens_213 rfl rfl ?_
              refine mw_iload 5 dX12_happens_214 rfl ?_
              refine mw_callV (t_X12_isRunt X l y1 y2 y3 y4 S) cd_X12_isRunt lk_RX12_234 im_X12_isRunt se_X12_isRunt in_RX12 de_X12_isRunt ⟨rfl, rfl⟩ ⟨Nat.le_of_ble_eq_true rfl, Nat.le_of_ble_eq_true rfl⟩ (mKind_lt mk_69 (by decide)) (mCell_k mk_69) rfl rfl rfl rfl ⟨Nat.le_of_ble_eq_true rfl, Nat.le_of_ble_eq_true rfl⟩ (Nat.le_of_ble_eq_true rfl) dX12_happens_216 (fun r12 S13 => ?_)
              refine mw_eq (st' := [.int r12]) rfl rfl ?_
              refine mw_if_eq (tgt := 226) dX12_happens_219 (by decide) ?_ ?_
              · refine mw_iconst (v := (0 : Int32)) dX12_happens_226 (by decide) ?_
                exact mw_zret (by decide) dX12_happens_227
              · refine mw_iconst (v := (1 : Int32)) dX12_happens_222 (by decide) ?_
                refine mw_goto (tgt := 227) dX12_happens_223 (by decide) ?_
                exact mw_zret (by decide) dX12_happens_227
          · refine mw_ite (fun h14 => ?_) (fun h14 => ?_)
            · refine mw_tab (tgt := 228) h14 dX12_happens_87 (by decide) (by decide) rfl (by decide) ?_
              refine mw_iload 7 dX12_happens_228 rfl ?_
              refine mw_i2l dX12_happens_230 ?_
              refine mw_iload_n 4 dX12_happens_231 rfl rfl ?_
              refine mw_i2l dX12_happens_232 ?_
              refine mw_iload 5 dX12_happens_233 rfl ?_
              refine mw_i2l dX12_happens_235 ?_
              refine mw_callS (t_X12_in X l y6.toInt64 y3.toInt64 y4.toInt64 S) cd_X12_in lk_RX12_115 sn_X12_in in_RX12 de_X12_in ⟨rfl, rfl⟩ ⟨Nat.le_of_ble_eq_true rfl, Nat.le_of_ble_eq_true rfl⟩ rfl rfl ⟨Nat.le_of_ble_eq_true rfl, Nat.le_of_ble_eq_true rfl⟩ (Nat.le_of_ble_eq_true rfl) dX12_happens_236 (fun r15 S16 => ?_)
              refine mw_eq (st' := [.int r15]) rfl rfl ?_
              refine mw_if_eq (tgt := 260) dX12_happens_239 (by decide) ?_ ?_
              · refine mw_iconst (v := (0 : Int32)) dX12_happens_260 (by decide) ?_
                exact mw_zret (by decide) dX12_happens_261
              · refine mw_iload 6 dX12_happens_242 rfl ?_
                refine mw_i2l dX12_happens_244 ?_
                refine mw_iload_n 4 dX12_happens_245 rfl rfl ?_
                refine mw_i2l dX12_happens_246 ?_
                refine mw_iload 5 dX12_happens_247 rfl ?_
                refine mw_i2l dX12_happens_249 ?_
                refine mw_callS (t_X12_in X l y5.toInt64 y3.toInt64 y4.toInt64 S16) cd_X12_in lk_RX12_115 sn_X12_in in_RX12 de_X12_in ⟨rfl, rfl⟩ ⟨Nat.le_of_ble_eq_true rfl, Nat.le_of_ble_eq_true rfl⟩ rfl rfl ⟨Nat.le_of_ble_eq_true rfl, Nat.le_of_ble_eq_true rfl⟩ (Nat.le_of_ble_eq_true rfl) dX12_happens_250 (fun r17 S18 => ?_)
                refine mw_eq (st' := [.int r17]) rfl rfl ?_
                refine mw_if_ne (tgt := 260) dX12_happens_253 (by decide) ?_ ?_
                · refine mw_iconst (v := (1 : Int32)) dX12_happens_256 (by decide) ?_
                  refine mw_goto (tgt := 261) dX12_happens_257 (by decide) ?_
                  exact mw_zret (by decide) dX12_happens_261
                · refine mw_iconst (v := (0 : Int32)) dX12_happens_260 (by decide) ?_
                  exact mw_zret (by decide) dX12_happens_261
            · refine mw_ite (fun h19 => ?_) (fun h19 => ?_)
              · refine mw_tab (tgt := 262) h19 dX12_happens_87 (by decide) (by decide) rfl (by decide) ?_
                refine mw_iload 6 dX12_happens_262 rfl ?_
                refine mw_i2l dX12_happens_264 ?_
                refine mw_iload_n 4 dX12_happens_265 rfl rfl ?_
                refine mw_i2l dX12_happens_266 ?_
                refine mw_iload 5 dX12_happens_267 rfl ?_
                refine mw_i2l dX12_happens_269 ?_
                refine mw_callS (t_X12_in X l y5.toInt64 y3.toInt64 y4.toInt64 S) cd_X12_in lk_RX12_115 sn_X12_in in_RX12 de_X12_in ⟨rfl, rfl⟩ ⟨Nat.le_of_ble_eq_true rfl, Nat.le_of_ble_eq_true rfl⟩ rfl rfl ⟨Nat.le_of_ble_eq_true rfl, Nat.le_of_ble_eq_true rfl⟩ (Nat.le_of_ble_eq_true rfl) dX12_happens_270 (fun r20 S21 => ?_)
                refine mw_eq (st' := [.int r20]) rfl rfl ?_
                refine mw_if_eq (tgt := 294) dX12_happens_273 (by decide) ?_ ?_
                · refine mw_iconst (v := (0 : Int32)) dX12_happens_294 (by decide) ?_
                  exact mw_zret (by decide) dX12_happens_295
                · refine mw_iload 7 dX12_happens_276 rfl ?_
                  refine mw_i2l dX12_happens_278 ?_
                  refine mw_iload_n 4 dX12_happens_279 rfl rfl ?_
                  refine mw_i2l dX12_happens_280 ?_
                  refine mw_iload 5 dX12_happens_281 rfl ?_
                  refine mw_i2l dX12_happens_283 ?_
                  refine mw_callS (t_X12_in X l y6.toInt64 y3.toInt64 y4.toInt64 S21) cd_X12_in lk_RX12_115 sn_X12_in in_RX12 de_X12_in ⟨rfl, rfl⟩ ⟨Nat.le_of_ble_eq_true rfl, Nat.le_of_ble_eq_true rfl⟩ rfl rfl ⟨Nat.le_of_ble_eq_true rfl, Nat.le_of_ble_eq_true rfl⟩ (Nat.le_of_ble_eq_true rfl) dX12_happens_284 (fun r22 S23 => ?_)
                  refine mw_eq (st' := [.int r22]) rfl rfl ?_
                  refine mw_if_ne (tgt := 294) dX12_happens_287 (by decide) ?_ ?_
                  · refine mw_iconst (v := (1 : Int32)) dX12_happens_290 (by decide) ?_
                    refine mw_goto (tgt := 295) dX12_happens_291 (by decide) ?_
                    exact mw_zret (by decide) dX12_happens_295
                  · refine mw_iconst (v := (0 : Int32)) dX12_happens_294 (by decide) ?_
                    exact mw_zret (by decide) dX12_happens_295
              · refine mw_tabD (tgt := 296) dX12_happens_87 (by have eh1 : ¬ (S.1 73 (S.1 69 29).toNatClampNeg).toInt = 0 := fun q => h1 (Int32.toInt_inj.mp (q.trans (by decide))); have eh2 : ¬ (S.1 73 (S.1 69 29).toNatClampNeg).toInt = 1 := fun q => h2 (Int32.toInt_inj.mp (q.trans (by decide))); have eh3 : ¬ (S.1 73 (S.1 69 29).toNatClampNeg).toInt = 2 := fun q => h3 (Int32.toInt_inj.mp (q.trans (by decide))); have eh6 : ¬ (S.1 73 (S.1 69 29).toNatClampNeg).toInt = 3 := fun q => h6 (Int32.toInt_inj.mp (q.trans (by decide))); have eh11 : ¬ (S.1 73 (S.1 69 29).toNatClampNeg).toInt = 4 := fun q => h11 (Int32.toInt_inj.mp (q.trans (by decide))); have eh14 : ¬ (S.1 73 (S.1 69 29).toNatClampNeg).toInt = 5 := fun q => h14 (Int32.toInt_inj.mp (q.trans (by decide))); have eh19 : ¬ (S.1 73 (S.1 69 29).toNatClampNeg).toInt = 6 := fun q => h19 (Int32.toInt_inj.mp (q.trans (by decide))); omega) (by decide) ?_
                refine mw_iload 7 dX12_happens_296 rfl ?_
                refine mw_aload_n 1 dX12_happens_298 rfl rfl ?_
                refine mw_iload_n 2 dX12_happens_299 rfl rfl ?_
                refine mw_iload_n 4 dX12_happens_300 rfl rfl ?_
                refine mw_callV (t_X12_of X l y1 y3 S) cd_X12_of lk_RX12_227 im_X12_of se_X12_of in_RX12 de_X12_of ⟨rfl, rfl⟩ ⟨Nat.le_of_ble_eq_true rfl, Nat.le_of_ble_eq_true rfl⟩ (mKind_lt mk_69 (by decide)) (mCell_k mk_69) rfl rfl rfl rfl ⟨Nat.le_of_ble_eq_true rfl, Nat.le_of_ble_eq_true rfl⟩ (Nat.le_of_ble_eq_true rfl) dX12_happens_301 (fun r24 S25 => ?_)
                refine mw_eq (st' := [.int r24, .int y6]) rfl rfl ?_
                refine mw_icmp_ne (tgt := 324) dX12_happens_304 (by decide) ?_ ?_
                · refine mw_iload 6 dX12_happens_307 rfl ?_
                  refine mw_aload_n 1 dX12_happens_309 rfl rfl ?_
                  refine mw_iload_n 2 dX12_happens_310 rfl rfl ?_
                  refine mw_iconst (v := (1 : Int32)) dX12_happens_311 (by decide) ?_
                  refine mw_isub dX12_happens_312 ?_
                  refine mw_iload_n 4 dX12_happens_313 rfl rfl ?_
                  refine mw_callV (t_X12_of X l (y1 - (1 : Int32)) y3 S25) cd_X12_of lk_RX12_227 im_X12_of se_X12_of in_RX12 de_X12_of ⟨rfl, rfl⟩ ⟨Nat.le_of_ble_eq_true rfl, Nat.le_of_ble_eq_true rfl⟩ (mKind_lt mk_69 (by decide)) (mCell_k mk_69) rfl rfl rfl rfl ⟨Nat.le_of_ble_eq_true rfl, Nat.le_of_ble_eq_true rfl⟩ (Nat.le_of_ble_eq_true rfl) dX12_happens_314 (fun r26 S27 => ?_)
                  refine mw_eq (st' := [.int r26, .int y5]) rfl rfl ?_
                  refine mw_icmp_eq (tgt := 324) dX12_happens_317 (by decide) ?_ ?_
                  · refine mw_iconst (v := (0 : Int32)) dX12_happens_324 (by decide) ?_
                    exact mw_zret (by decide) dX12_happens_325
                  · refine mw_iconst (v := (1 : Int32)) dX12_happens_320 (by decide) ?_
                    refine mw_goto (tgt := 325) dX12_happens_321 (by decide) ?_
                    exact mw_zret (by decide) dX12_happens_325
                · refine mw_iconst (v := (0 : Int32)) dX12_happens_324 (by decide) ?_
                  exact mw_zret (by decide) dX12_happens_325
def f_X12_happens_75 (y1 : Int32) (y2 : Int32) (y3 : Int32) (y4 : Int32) (y5 : Int32) (y6 : Int32) (S : mM) : Option (Int32 × mM) :=
  f_X12_happens_76 y1 y2 y3 y4 y5 y6 (0 : Int32) S
set_option maxRecDepth 100000 in
set_option maxHeartbeats 4000000 in
theorem w_X12_happens_75 (X : mX) (l : Launch) (y1 : Int32) (y2 : Int32) (y3 : Int32) (y4 : Int32) (y5 : Int32) (y6 : Int32) (S : mM) : MW X viI rm_X12_happens cX12_happens RX12 8 (some .boolean) l S [(0, .ref (X.2.1 69)), (1, .int y1), (2, .int y2), (3, .int y3), (4, .int y4), (5, .int y5), (6, .int y6)] [] 75 (f_X12_happens_75 y1 y2 y3 y4 y5 y6 S) := by
  unfold f_X12_happens_75
  refine mw_iconst (v := (0 : Int32)) dX12_happens_75 (by decide) ?_
  exact mw_sub [0, 1, 2, 3, 4, 5, 6] rfl (w_X12_happens_76 X l y1 y2 y3 y4 y5 y6 (0 : Int32) S)
def f_X12_happens (p1 : Int32) (S : mM) : Option (Int32 × mM) :=
  if p1 = (S.1 69 28) then
    some ((0 : Int32), S)
  else
    if 0 ≤ (S.1 69 29) ∧ (S.1 69 29).toNatClampNeg < 6 then
    (bnd (S.1 74 (S.1 69 29).toNatClampNeg) fun x1 =>
    if 0 ≤ (S.1 69 29) ∧ (S.1 69 29).toNatClampNeg < 6 then
    (bnd (S.1 75 (S.1 69 29).toNatClampNeg) fun x2 =>
    if 0 ≤ (S.1 69 29) ∧ (S.1 69 29).toNatClampNeg < 6 then
    (bnd (S.1 76 (S.1 69 29).toNatClampNeg) fun x3 =>
    mBind (f_X12_of (p1 - (1 : Int32)) x1 S) fun r4 S5 =>
    mBind (f_X12_of p1 x1 S5) fun r6 S7 =>
    if r4 < x2 then
      f_X12_happens_75 p1 x1 x2 x3 r4 r6 S7
    else
      if x2 ≤ r6 then
        f_X12_happens_75 p1 x1 x2 x3 r4 r6 S7
      else
        f_X12_happens_76 p1 x1 x2 x3 r4 r6 (1 : Int32) S7)
    else none)
    else none)
    else none
set_option maxRecDepth 100000 in
set_option maxHeartbeats 4000000 in
theorem w_X12_happens (X : mX) (l : Launch) (p1 : Int32) (S : mM) : MW X viI rm_X12_happens cX12_happens RX12 8 (some .boolean) l S [(0, .ref (X.2.1 69)), (1, .int p1)] [] 0 (f_X12_happens p1 S) := by
  unfold f_X12_happens
  refine mw_iload_n 1 dX12_happens_0 rfl rfl ?_
  refine mw_aload_n 0 dX12_happens_1 rfl rfl ?_
  refine gf_RX12_206 mk_69 dX12_happens_2 ?_
  refine mw_icmp_ne (tgt := 10) dX12_happens_5 (by decide) ?_ ?_
  · refine mw_iconst (v := (0 : Int32)) dX12_happens_8 (by decide) ?_
    exact mw_zret (by decide) dX12_happens_9
  · refine mw_aload_n 0 dX12_happens_10 rfl rfl ?_
    refine gf_RX12_23 mk_69 dX12_happens_11 ?_
    refine mw_aload_n 0 dX12_happens_14 rfl rfl ?_
    refine gf_RX12_209 mk_69 dX12_happens_15 ?_
    refine mw_iaload mk_74 ml_74 dX12_happens_18 ?_
    refine mw_bndI (fun x1 => ?_)
    refine mw_istore_n (lv' := [(2, .int x1), (0, .ref (X.2.1 69)), (1, .int p1)]) dX12_happens_19 rfl (by decide) rfl ?_
    refine mw_aload_n 1 dX12_happens_20 rfl rfl ?_
    refine gf_RX12_26 mk_69 dX12_happens_21 ?_
    refine mw_aload_n 1 dX12_happens_24 rfl rfl ?_
    refine gf_RX12_209 mk_69 dX12_happens_25 ?_
    refine mw_iaload mk_75 ml_75 dX12_happens_28 ?_
    refine mw_bndI (fun x2 => ?_)
    refine mw_istore_n (lv' := [(3, .int x2), (2, .int x1), (0, .ref (X.2.1 69)), (1, .int p1)]) dX12_happens_29 rfl (by decide) rfl ?_
    refine mw_aload_n 2 dX12_happens_30 rfl rfl ?_
    refine gf_RX12_29 mk_69 dX12_happens_31 ?_
    refine mw_aload_n 2 dX12_happens_34 rfl rfl ?_
    refine gf_RX12_209 mk_69 dX12_happens_35 ?_
    refine mw_iaload mk_76 ml_76 dX12_happens_38 ?_
    refine mw_bndI (fun x3 => ?_)
    refine mw_istore (lv' := [(4, .int x3), (3, .int x2), (2, .int x1), (0, .ref (X.2.1 69)), (1, .int p1)]) dX12_happens_39 (by decide) rfl ?_
    refine mw_aload_n 3 dX12_happens_41 rfl rfl ?_
    refine mw_iload_n 4 dX12_happens_42 rfl rfl ?_
    refine mw_iconst (v := (1 : Int32)) dX12_happens_43 (by decide) ?_
    refine mw_isub dX12_happens_44 ?_
    refine mw_iload_n 2 dX12_happens_45 rfl rfl ?_
    refine mw_callV (t_X12_of X l (p1 - (1 : Int32)) x1 S) cd_X12_of lk_RX12_227 im_X12_of se_X12_of in_RX12 de_X12_of ⟨rfl, rfl⟩ ⟨Nat.le_of_ble_eq_true rfl, Nat.le_of_ble_eq_true rfl⟩ (mKind_lt mk_69 (by decide)) (mCell_k mk_69) rfl rfl rfl rfl ⟨Nat.le_of_ble_eq_true rfl, Nat.le_of_ble_eq_true rfl⟩ (Nat.le_of_ble_eq_true rfl) dX12_happens_46 (fun r4 S5 => ?_)
    refine mw_eq (st' := [.int r4]) rfl rfl ?_
    refine mw_istore (lv' := [(5, .int r4), (4, .int x3), (3, .int x2), (2, .int x1), (0, .ref (X.2.1 69)), (1, .int p1)]) dX12_happens_49 (by decide) rfl ?_
    refine mw_aload_n 4 dX12_happens_51 rfl rfl ?_
    refine mw_iload_n 5 dX12_happens_52 rfl rfl ?_
    refine mw_iload_n 3 dX12_happens_53 rfl rfl ?_
    refine mw_callV (t_X12_of X l p1 x1 S5) cd_X12_of lk_RX12_227 im_X12_of se_X12_of in_RX12 de_X12_of ⟨rfl, rfl⟩ ⟨Nat.le_of_ble_eq_true rfl, Nat.le_of_ble_eq_true rfl⟩ (mKind_lt mk_69 (by decide)) (mCell_k mk_69) rfl rfl rfl rfl ⟨Nat.le_of_ble_eq_true rfl, Nat.le_of_ble_eq_true rfl⟩ (Nat.le_of_ble_eq_true rfl) dX12_happens_54 (fun r6 S7 => ?_)
    refine mw_eq (st' := [.int r6]) rfl rfl ?_
    refine mw_istore (lv' := [(6, .int r6), (5, .int r4), (4, .int x3), (3, .int x2), (2, .int x1), (0, .ref (X.2.1 69)), (1, .int p1)]) dX12_happens_57 (by decide) rfl ?_
    refine mw_iload 1 dX12_happens_59 rfl ?_
    refine mw_iload_n 3 dX12_happens_61 rfl rfl ?_
    refine mw_icmp_lt (tgt := 75) dX12_happens_62 (by decide) ?_ ?_
    · exact mw_sub [5, 6, 4, 3, 2, 1, 0] rfl (w_X12_happens_75 X l p1 x1 x2 x3 r4 r6 S7)
    · refine mw_iload 0 dX12_happens_65 rfl ?_
      refine mw_iload_n 3 dX12_happens_67 rfl rfl ?_
      refine mw_icmp_ge (tgt := 75) dX12_happens_68 (by decide) ?_ ?_
      · exact mw_sub [5, 6, 4, 3, 2, 1, 0] rfl (w_X12_happens_75 X l p1 x1 x2 x3 r4 r6 S7)
      · refine mw_iconst (v := (1 : Int32)) dX12_happens_71 (by decide) ?_
        refine mw_goto (tgt := 76) dX12_happens_72 (by decide) ?_
        exact mw_sub [5, 6, 4, 3, 2, 1, 0] rfl (w_X12_happens_76 X l p1 x1 x2 x3 r4 r6 (1 : Int32) S7)
theorem t_X12_happens (X : mX) (l : Launch) (p1 : Int32) (S : mM) : mMet X viI yX12_happens cX12_happens 8 (some .boolean) rm_X12_happens [.ref (X.2.1 69), .int p1] l S (f_X12_happens p1 S) :=
  mMet_of (by decide +kernel) rfl (Nat.le_of_ble_eq_true rfl) (w_X12_happens X l p1 S )
/-! TraceBenchModel.follows(I)V -/
def f_X12_follows_56 (y1 : Int32) (S : mM) : Option (Unit × mM) :=
  if y1 ≤ (S.1 69 31) then
    some ((), S)
  else
    mBind (f_X12_happens y1 S) fun r1 S2 =>
    if r1 = 0 then
      some ((), S2)
    else
      bnd (setI S2 69 30 ((S2.1 69 30) + (1 : Int32))) fun S3 =>
      if 0 ≤ (S3.1 69 29) ∧ (S3.1 69 29).toNatClampNeg < 6 then
      (if (S3.1 69 30) = (S3.1 72 (S3.1 69 29).toNatClampNeg) then
        bnd (setI S3 69 29 ((S3.1 69 29) + (1 : Int32))) fun S4 =>
        bnd (setI S4 69 30 (0 : Int32)) fun S5 =>
        bnd (setI S5 69 31 y1) fun S6 =>
        if (S6.1 69 29) = (S6.1 69 4) then
          bnd (setI S6 69 25 (2 : Int32)) fun S7 =>
          bnd (setI S7 69 33 y1) fun S8 =>
          some ((), S8)
        else
          some ((), S6)
      else
        some ((), S3))
      else none
set_option maxRecDepth 100000 in
set_option maxHeartbeats 4000000 in
theorem w_X12_follows_56 (X : mX) (l : Launch) (y1 : Int32) (S : mM) : MW X viV rm_X12_follows cX12_follows RX12 2 none l S [(0, .ref (X.2.1 69)), (1, .int y1)] [] 56 (f_X12_follows_56 y1 S) := by
  unfold f_X12_follows_56
  refine mw_iload_n 1 dX12_follows_56 rfl rfl ?_
  refine mw_aload_n 0 dX12_follows_57 rfl rfl ?_
  refine gf_RX12_215 mk_69 dX12_follows_58 ?_
  refine mw_icmp_le (tgt := 139) dX12_follows_61 (by decide) ?_ ?_
  · exact mw_return dX12_follows_139
  · refine mw_aload_n 0 dX12_follows_64 rfl rfl ?_
    refine mw_iload_n 1 dX12_follows_65 rfl rfl ?_
    refine mw_callV (t_X12_happens X l y1 S) cd_X12_happens lk_RX12_238 im_X12_happens se_X12_happens in_RX12 de_X12_happens ⟨rfl, rfl⟩ ⟨Nat.le_of_ble_eq_true rfl, Nat.le_of_ble_eq_true rfl⟩ (mKind_lt mk_69 (by decide)) (mCell_k mk_69) rfl rfl rfl rfl ⟨Nat.le_of_ble_eq_true rfl, Nat.le_of_ble_eq_true rfl⟩ (Nat.le_of_ble_eq_true rfl) dX12_follows_66 (fun r1 S2 => ?_)
    refine mw_eq (st' := [.int r1]) rfl rfl ?_
    refine mw_if_eq (tgt := 139) dX12_follows_69 (by decide) ?_ ?_
    · exact mw_return dX12_follows_139
    · refine mw_aload_n 0 dX12_follows_72 rfl rfl ?_
      refine mw_dup dX12_follows_73 rfl ?_
      refine gf_RX12_212 mk_69 dX12_follows_74 ?_
      refine mw_iconst (v := (1 : Int32)) dX12_follows_77 (by decide) ?_
      refine mw_iadd dX12_follows_78 ?_
      refine pf_RX12_212 mk_69 dX12_follows_79 ?_
      refine mw_bndS (fun S3 => ?_)
      refine mw_aload_n 0 dX12_follows_82 rfl rfl ?_
      refine gf_RX12_212 mk_69 dX12_follows_83 ?_
      refine mw_aload_n 0 dX12_follows_86 rfl rfl ?_
      refine gf_RX12_17 mk_69 dX12_follows_87 ?_
      refine mw_aload_n 0 dX12_follows_90 rfl rfl ?_
      refine gf_RX12_209 mk_69 dX12_follows_91 ?_
      refine mw_iaload mk_72 ml_72 dX12_follows_94 ?_
      refine mw_icmp_ne (tgt := 139) dX12_follows_95 (by decide) ?_ ?_
      · refine mw_aload_n 0 dX12_follows_98 rfl rfl ?_
        refine mw_dup dX12_follows_99 rfl ?_
        refine gf_RX12_209 mk_69 dX12_follows_100 ?_
        refine mw_iconst (v := (1 : Int32)) dX12_follows_103 (by decide) ?_
        refine mw_iadd dX12_follows_104 ?_
        refine pf_RX12_209 mk_69 dX12_follows_105 ?_
        refine mw_bndS (fun S4 => ?_)
        refine mw_aload_n 0 dX12_follows_108 rfl rfl ?_
        refine mw_iconst (v := (0 : Int32)) dX12_follows_109 (by decide) ?_
        refine pf_RX12_212 mk_69 dX12_follows_110 ?_
        refine mw_bndS (fun S5 => ?_)
        refine mw_aload_n 0 dX12_follows_113 rfl rfl ?_
        refine mw_iload_n 1 dX12_follows_114 rfl rfl ?_
        refine pf_RX12_215 mk_69 dX12_follows_115 ?_
        refine mw_bndS (fun S6 => ?_)
        refine mw_aload_n 0 dX12_follows_118 rfl rfl ?_
        refine gf_RX12_209 mk_69 dX12_follows_119 ?_
        refine mw_aload_n 0 dX12_follows_122 rfl rfl ?_
        refine gf_RX12_195 mk_69 dX12_follows_123 ?_
        refine mw_icmp_ne (tgt := 139) dX12_follows_126 (by decide) ?_ ?_
        · refine mw_aload_n 0 dX12_follows_129 rfl rfl ?_
          refine mw_iconst (v := (2 : Int32)) dX12_follows_130 (by decide) ?_
          refine pf_RX12_198 mk_69 dX12_follows_131 ?_
          refine mw_bndS (fun S7 => ?_)
          refine mw_aload_n 0 dX12_follows_134 rfl rfl ?_
          refine mw_iload_n 1 dX12_follows_135 rfl rfl ?_
          refine pf_RX12_242 mk_69 dX12_follows_136 ?_
          refine mw_bndS (fun S8 => ?_)
          exact mw_return dX12_follows_139
        · exact mw_return dX12_follows_139
      · exact mw_return dX12_follows_139
def f_X12_follows (p1 : Int32) (S : mM) : Option (Unit × mM) :=
  if 0 ≤ (S.1 69 29) ∧ (S.1 69 29).toNatClampNeg < 6 then
  (if (S.1 77 (S.1 69 29).toNatClampNeg) ≤ 0 then
    f_X12_follows_56 p1 S
  else
    if 0 ≤ (S.1 69 29) ∧ (S.1 69 29).toNatClampNeg < 6 then
    (if p1 = ((S.1 69 31) + (S.1 77 (S.1 69 29).toNatClampNeg)) then
      bnd (setI S 69 29 (0 : Int32)) fun S1 =>
      bnd (setI S1 69 30 (0 : Int32)) fun S2 =>
      bnd (setI S2 69 31 p1) fun S3 =>
      bnd (setI S3 69 32 ((S3.1 69 32) + (1 : Int32))) fun S4 =>
      some ((), S4)
    else
      f_X12_follows_56 p1 S)
    else none)
  else none
set_option maxRecDepth 100000 in
set_option maxHeartbeats 4000000 in
theorem w_X12_follows (X : mX) (l : Launch) (p1 : Int32) (S : mM) : MW X viV rm_X12_follows cX12_follows RX12 2 none l S [(0, .ref (X.2.1 69)), (1, .int p1)] [] 0 (f_X12_follows p1 S) := by
  unfold f_X12_follows
  refine mw_aload_n 0 dX12_follows_0 rfl rfl ?_
  refine gf_RX12_32 mk_69 dX12_follows_1 ?_
  refine mw_aload_n 0 dX12_follows_4 rfl rfl ?_
  refine gf_RX12_209 mk_69 dX12_follows_5 ?_
  refine mw_iaload mk_77 ml_77 dX12_follows_8 ?_
  refine mw_if_le (tgt := 56) dX12_follows_9 (by decide) ?_ ?_
  · exact mw_sub [0, 1] rfl (w_X12_follows_56 X l p1 S)
  · refine mw_iload_n 1 dX12_follows_12 rfl rfl ?_
    refine mw_aload_n 0 dX12_follows_13 rfl rfl ?_
    refine gf_RX12_215 mk_69 dX12_follows_14 ?_
    refine mw_aload_n 0 dX12_follows_17 rfl rfl ?_
    refine gf_RX12_32 mk_69 dX12_follows_18 ?_
    refine mw_aload_n 0 dX12_follows_21 rfl rfl ?_
    refine gf_RX12_209 mk_69 dX12_follows_22 ?_
    refine mw_iaload mk_77 ml_77 dX12_follows_25 ?_
    refine mw_iadd dX12_follows_26 ?_
    refine mw_icmp_ne (tgt := 56) dX12_follows_27 (by decide) ?_ ?_
    · refine mw_aload_n 0 dX12_follows_30 rfl rfl ?_
      refine mw_iconst (v := (0 : Int32)) dX12_follows_31 (by decide) ?_
      refine pf_RX12_209 mk_69 dX12_follows_32 ?_
      refine mw_bndS (fun S1 => ?_)
      refine mw_aload_n 0 dX12_follows_35 rfl rfl ?_
      refine mw_iconst (v := (0 : Int32)) dX12_follows_36 (by decide) ?_
      refine pf_RX12_212 mk_69 dX12_follows_37 ?_
      refine mw_bndS (fun S2 => ?_)
      refine mw_aload_n 0 dX12_follows_40 rfl rfl ?_
      refine mw_iload_n 1 dX12_follows_41 rfl rfl ?_
      refine pf_RX12_215 mk_69 dX12_follows_42 ?_
      refine mw_bndS (fun S3 => ?_)
      refine mw_aload_n 0 dX12_follows_45 rfl rfl ?_
      refine mw_dup dX12_follows_46 rfl ?_
      refine gf_RX12_218 mk_69 dX12_follows_47 ?_
      refine mw_iconst (v := (1 : Int32)) dX12_follows_50 (by decide) ?_
      refine mw_iadd dX12_follows_51 ?_
      refine pf_RX12_218 mk_69 dX12_follows_52 ?_
      refine mw_bndS (fun S4 => ?_)
      exact mw_return dX12_follows_55
    · exact mw_sub [0, 1] rfl (w_X12_follows_56 X l p1 S)
theorem t_X12_follows (X : mX) (l : Launch) (p1 : Int32) (S : mM) : mMet X viV yX12_follows cX12_follows 2 none rm_X12_follows [.ref (X.2.1 69), .int p1] l S (f_X12_follows p1 S) :=
  mMet_of (by decide +kernel) rfl (Nat.le_of_ble_eq_true rfl) (w_X12_follows X l p1 S )
/-! TraceBenchModel.kept()V -/
def f_X12_kept_88 (n : Nat) (y1 : Int32) (y2 : Int32) (y3 : Int32) (S : mM) : Option (Unit × mM) := match n with
  | 0 => none
  | n + 1 =>
    if 0 ≤ y1 ∧ y1.toNatClampNeg < 8 then
    (if (S.1 85 y1.toNatClampNeg) ≤ y3 then
      bnd (setI S 69 34 ((S.1 69 34) + (1 : Int32))) fun S1 =>
      if (S1.1 69 34) = (8 : Int32) then
        bnd (setI S1 69 25 (3 : Int32)) fun S2 =>
        some ((), S2)
      else
        mBind (f_X12_arms S1) fun r3 S4 =>
        some ((), S4)
    else
      if 0 ≤ (y2 + y3) ∧ (y2 + y3).toNatClampNeg < 33000 then
      (if 0 ≤ (((201 : Int32) * y1) + y3) ∧ (((201 : Int32) * y1) + y3).toNatClampNeg < 1608 then
      (bnd (setI S 87 (((201 : Int32) * y1) + y3).toNatClampNeg (S.1 71 (y2 + y3).toNatClampNeg)) fun S5 =>
      bnd (y3 + (1 : Int32)) fun x6 =>
      f_X12_kept_88 n y1 y2 x6 S5)
      else none)
      else none)
    else none
set_option maxRecDepth 100000 in
set_option maxHeartbeats 4000000 in
theorem w_X12_kept_88 (X : mX) (l : Launch) (n : Nat) (y1 : Int32) (y2 : Int32) (y3 : Int32) (S : mM) : MW X viV rm_X12_kept cX12_kept RX12 4 none l S [(0, .ref (X.2.1 69)), (1, .int y1), (2, .int y2), (3, .int y3)] [] 88 (f_X12_kept_88 n y1 y2 y3 S) := by
  induction n generalizing y1 y2 y3 S with
  | zero => exact mw_none
  | succ n ih =>
    unfold f_X12_kept_88
    refine mw_iload_n 3 dX12_kept_88 rfl rfl ?_
    refine mw_aload_n 0 dX12_kept_89 rfl rfl ?_
    refine gf_RX12_63 mk_69 dX12_kept_90 ?_
    refine mw_iload_n 1 dX12_kept_93 rfl rfl ?_
    refine mw_iaload mk_85 ml_85 dX12_kept_94 ?_
    refine mw_icmp_ge (tgt := 124) dX12_kept_95 (by decide) ?_ ?_
    · refine mw_aload_n 0 dX12_kept_124 rfl rfl ?_
      refine mw_dup dX12_kept_125 rfl ?_
      refine gf_RX12_221 mk_69 dX12_kept_126 ?_
      refine mw_iconst (v := (1 : Int32)) dX12_kept_129 (by decide) ?_
      refine mw_iadd dX12_kept_130 ?_
      refine pf_RX12_221 mk_69 dX12_kept_131 ?_
      refine mw_bndS (fun S1 => ?_)
      refine mw_aload_n 0 dX12_kept_134 rfl rfl ?_
      refine gf_RX12_221 mk_69 dX12_kept_135 ?_
      refine mw_bipush (v := (8 : Int32)) dX12_kept_138 (by decide) ?_
      refine mw_icmp_ne (tgt := 151) dX12_kept_140 (by decide) ?_ ?_
      · refine mw_aload_n 0 dX12_kept_143 rfl rfl ?_
        refine mw_iconst (v := (3 : Int32)) dX12_kept_144 (by decide) ?_
        refine pf_RX12_198 mk_69 dX12_kept_145 ?_
        refine mw_bndS (fun S2 => ?_)
        refine mw_goto (tgt := 155) dX12_kept_148 (by decide) ?_
        exact mw_return dX12_kept_155
      · refine mw_aload_n 0 dX12_kept_151 rfl rfl ?_
        refine mw_callV (t_X12_arms X l S1) cd_X12_arms lk_RX12_224 im_X12_arms se_X12_arms in_RX12 de_X12_arms ⟨rfl, rfl⟩ ⟨Nat.le_of_ble_eq_true rfl, Nat.le_of_ble_eq_true rfl⟩ (mKind_lt mk_69 (by decide)) (mCell_k mk_69) rfl rfl rfl rfl ⟨Nat.le_of_ble_eq_true rfl, Nat.le_of_ble_eq_true rfl⟩ (Nat.le_of_ble_eq_true rfl) dX12_kept_152 (fun r3 S4 => ?_)
        refine mw_eq (st' := []) rfl rfl ?_
        exact mw_return dX12_kept_155
    · refine mw_aload_n 0 dX12_kept_98 rfl rfl ?_
      refine gf_RX12_69 mk_69 dX12_kept_99 ?_
      refine mw_sipush (v := (201 : Int32)) dX12_kept_102 (by decide) ?_
      refine mw_iload_n 1 dX12_kept_105 rfl rfl ?_
      refine mw_imul dX12_kept_106 ?_
      refine mw_iload_n 3 dX12_kept_107 rfl rfl ?_
      refine mw_iadd dX12_kept_108 ?_
      refine mw_aload_n 0 dX12_kept_109 rfl rfl ?_
      refine gf_RX12_14 mk_69 dX12_kept_110 ?_
      refine mw_iload_n 2 dX12_kept_113 rfl rfl ?_
      refine mw_iload_n 3 dX12_kept_114 rfl rfl ?_
      refine mw_iadd dX12_kept_115 ?_
      refine mw_iaload mk_71 ml_71 dX12_kept_116 ?_
      refine mw_iastore mk_87 ml_87 dX12_kept_117 ?_
      refine mw_bndS (fun S5 => ?_)
      refine mw_iincB (lvf := fun x6 => [(3, .int x6), (0, .ref (X.2.1 69)), (1, .int y1), (2, .int y2)]) (k := 3) dX12_kept_118 rfl (by decide) (by decide) (fun _ => rfl) (fun x6 => ?_)
      refine mw_goto (tgt := 88) dX12_kept_121 (by decide) ?_
      exact mw_sub [1, 2, 3, 0] rfl (ih y1 y2 x6 S5)
def f_X12_kept_56 (y1 : Int32) (z0 : Int32) (S : mM) : Option (Unit × mM) :=
  if 0 ≤ y1 ∧ y1.toNatClampNeg < 8 then
  (bnd (setI S 84 y1.toNatClampNeg z0) fun S1 =>
  if 0 ≤ y1 ∧ y1.toNatClampNeg < 8 then
  (bnd (setI S1 85 y1.toNatClampNeg ((S1.1 69 3) - z0)) fun S2 =>
  if 0 ≤ y1 ∧ y1.toNatClampNeg < 8 then
  (bnd (setI S2 86 y1.toNatClampNeg (S2.1 69 33)) fun S3 =>
  f_X12_kept_88 mFuel y1 z0 (0 : Int32) S3)
  else none)
  else none)
  else none
set_option maxRecDepth 100000 in
set_option maxHeartbeats 4000000 in
theorem w_X12_kept_56 (X : mX) (l : Launch) (y1 : Int32) (z0 : Int32) (S : mM) : MW X viV rm_X12_kept cX12_kept RX12 4 none l S [(0, .ref (X.2.1 69)), (1, .int y1)] [.int z0] 56 (f_X12_kept_56 y1 z0 S) := by
  unfold f_X12_kept_56
  refine mw_istore_n (lv' := [(2, .int z0), (0, .ref (X.2.1 69)), (1, .int y1)]) dX12_kept_56 rfl (by decide) rfl ?_
  refine mw_aload_n 1 dX12_kept_57 rfl rfl ?_
  refine gf_RX12_60 mk_69 dX12_kept_58 ?_
  refine mw_iload_n 2 dX12_kept_61 rfl rfl ?_
  refine mw_iload_n 0 dX12_kept_62 rfl rfl ?_
  refine mw_iastore mk_84 ml_84 dX12_kept_63 ?_
  refine mw_bndS (fun S1 => ?_)
  refine mw_aload_n 1 dX12_kept_64 rfl rfl ?_
  refine gf_RX12_63 mk_69 dX12_kept_65 ?_
  refine mw_iload_n 2 dX12_kept_68 rfl rfl ?_
  refine mw_aload_n 1 dX12_kept_69 rfl rfl ?_
  refine gf_RX12_203 mk_69 dX12_kept_70 ?_
  refine mw_iload_n 0 dX12_kept_73 rfl rfl ?_
  refine mw_isub dX12_kept_74 ?_
  refine mw_iastore mk_85 ml_85 dX12_kept_75 ?_
  refine mw_bndS (fun S2 => ?_)
  refine mw_aload_n 1 dX12_kept_76 rfl rfl ?_
  refine gf_RX12_66 mk_69 dX12_kept_77 ?_
  refine mw_iload_n 2 dX12_kept_80 rfl rfl ?_
  refine mw_aload_n 1 dX12_kept_81 rfl rfl ?_
  refine gf_RX12_242 mk_69 dX12_kept_82 ?_
  refine mw_iastore mk_86 ml_86 dX12_kept_85 ?_
  refine mw_bndS (fun S3 => ?_)
  refine mw_iconst (v := (0 : Int32)) dX12_kept_86 (by decide) ?_
  refine mw_istore_n (lv' := [(3, .int (0 : Int32)), (2, .int z0), (0, .ref (X.2.1 69)), (1, .int y1)]) dX12_kept_87 rfl (by decide) rfl ?_
  exact mw_sub [2, 3, 1, 0] rfl (w_X12_kept_88 X l mFuel y1 z0 (0 : Int32) S3)
def f_X12_kept_31 (y1 : Int32) (z0 : Int32) (S : mM) : Option (Unit × mM) :=
  if ((S.1 69 3) - (256 : Int32)) ≤ z0 then
    f_X12_kept_56 y1 z0 S
  else
    f_X12_kept_56 y1 ((S.1 69 3) - (256 : Int32)) S
set_option maxRecDepth 100000 in
set_option maxHeartbeats 4000000 in
theorem w_X12_kept_31 (X : mX) (l : Launch) (y1 : Int32) (z0 : Int32) (S : mM) : MW X viV rm_X12_kept cX12_kept RX12 4 none l S [(0, .ref (X.2.1 69)), (1, .int y1)] [.int z0] 31 (f_X12_kept_31 y1 z0 S) := by
  unfold f_X12_kept_31
  refine mw_istore_n (lv' := [(2, .int z0), (0, .ref (X.2.1 69)), (1, .int y1)]) dX12_kept_31 rfl (by decide) rfl ?_
  refine mw_iload_n 0 dX12_kept_32 rfl rfl ?_
  refine mw_aload_n 1 dX12_kept_33 rfl rfl ?_
  refine gf_RX12_203 mk_69 dX12_kept_34 ?_
  refine mw_sipush (v := (256 : Int32)) dX12_kept_37 (by decide) ?_
  refine mw_isub dX12_kept_40 ?_
  refine mw_icmp_ge (tgt := 55) dX12_kept_41 (by decide) ?_ ?_
  · refine mw_iload_n 0 dX12_kept_55 rfl rfl ?_
    exact mw_sub [1, 2] rfl (w_X12_kept_56 X l y1 z0 S)
  · refine mw_aload_n 1 dX12_kept_44 rfl rfl ?_
    refine gf_RX12_203 mk_69 dX12_kept_45 ?_
    refine mw_sipush (v := (256 : Int32)) dX12_kept_48 (by decide) ?_
    refine mw_isub dX12_kept_51 ?_
    refine mw_goto (tgt := 56) dX12_kept_52 (by decide) ?_
    exact mw_sub [1, 2] rfl (w_X12_kept_56 X l y1 ((S.1 69 3) - (256 : Int32)) S)
def f_X12_kept (S : mM) : Option (Unit × mM) :=
  bnd (S.1 69 34) fun x1 =>
  bnd ((S.1 69 33) - (S.1 69 26)) fun x2 =>
  if (S.1 69 28) ≤ x2 then
    f_X12_kept_31 x1 x2 S
  else
    f_X12_kept_31 x1 (S.1 69 28) S
set_option maxRecDepth 100000 in
set_option maxHeartbeats 4000000 in
theorem w_X12_kept (X : mX) (l : Launch) (S : mM) : MW X viV rm_X12_kept cX12_kept RX12 4 none l S [(0, .ref (X.2.1 69))] [] 0 (f_X12_kept  S) := by
  unfold f_X12_kept
  refine mw_aload_n 0 dX12_kept_0 rfl rfl ?_
  refine gf_RX12_221 mk_69 dX12_kept_1 ?_
  refine mw_bndI (fun x1 => ?_)
  refine mw_istore_n (lv' := [(1, .int x1), (0, .ref (X.2.1 69))]) dX12_kept_4 rfl (by decide) rfl ?_
  refine mw_aload_n 1 dX12_kept_5 rfl rfl ?_
  refine gf_RX12_242 mk_69 dX12_kept_6 ?_
  refine mw_aload_n 1 dX12_kept_9 rfl rfl ?_
  refine gf_RX12_53 mk_69 dX12_kept_10 ?_
  refine mw_isub dX12_kept_13 ?_
  refine mw_bndI (fun x2 => ?_)
  refine mw_istore_n (lv' := [(2, .int x2), (1, .int x1), (0, .ref (X.2.1 69))]) dX12_kept_14 rfl (by decide) rfl ?_
  refine mw_iload_n 0 dX12_kept_15 rfl rfl ?_
  refine mw_aload_n 2 dX12_kept_16 rfl rfl ?_
  refine gf_RX12_206 mk_69 dX12_kept_17 ?_
  refine mw_icmp_ge (tgt := 30) dX12_kept_20 (by decide) ?_ ?_
  · refine mw_iload_n 0 dX12_kept_30 rfl rfl ?_
    exact mw_sub [2, 1] rfl (w_X12_kept_31 X l x1 x2 S)
  · refine mw_aload_n 2 dX12_kept_23 rfl rfl ?_
    refine gf_RX12_206 mk_69 dX12_kept_24 ?_
    refine mw_goto (tgt := 31) dX12_kept_27 (by decide) ?_
    exact mw_sub [2, 1] rfl (w_X12_kept_31 X l x1 (S.1 69 28) S)
theorem t_X12_kept (X : mX) (l : Launch) (S : mM) : mMet X viV yX12_kept cX12_kept 4 none rm_X12_kept [.ref (X.2.1 69)] l S (f_X12_kept  S) :=
  mMet_of (by decide +kernel) rfl (Nat.le_of_ble_eq_true rfl) (w_X12_kept X l  S )
/-! TraceBenchModel.takes(I)V -/
def f_X12_takes_35 (y2 : Int32) (S : mM) : Option (Unit × mM) :=
  if (S.1 69 25) = (2 : Int32) then
    if y2 = ((S.1 69 33) + (S.1 69 27)) then
      mBind (f_X12_kept S) fun r1 S2 =>
      some ((), S2)
    else
      some ((), S)
  else
    some ((), S)
set_option maxRecDepth 100000 in
set_option maxHeartbeats 4000000 in
theorem w_X12_takes_35 (X : mX) (l : Launch) (y2 : Int32) (S : mM) : MW X viV rm_X12_takes cX12_takes RX12 3 none l S [(0, .ref (X.2.1 69)), (2, .int y2)] [] 35 (f_X12_takes_35 y2 S) := by
  unfold f_X12_takes_35
  refine mw_aload_n 0 dX12_takes_35 rfl rfl ?_
  refine gf_RX12_198 mk_69 dX12_takes_36 ?_
  refine mw_iconst (v := (2 : Int32)) dX12_takes_39 (by decide) ?_
  refine mw_icmp_ne (tgt := 60) dX12_takes_40 (by decide) ?_ ?_
  · refine mw_iload_n 1 dX12_takes_43 rfl rfl ?_
    refine mw_aload_n 0 dX12_takes_44 rfl rfl ?_
    refine gf_RX12_242 mk_69 dX12_takes_45 ?_
    refine mw_aload_n 0 dX12_takes_48 rfl rfl ?_
    refine gf_RX12_57 mk_69 dX12_takes_49 ?_
    refine mw_iadd dX12_takes_52 ?_
    refine mw_icmp_ne (tgt := 60) dX12_takes_53 (by decide) ?_ ?_
    · refine mw_aload_n 0 dX12_takes_56 rfl rfl ?_
      refine mw_callV (t_X12_kept X l S) cd_X12_kept lk_RX12_248 im_X12_kept se_X12_kept in_RX12 de_X12_kept ⟨rfl, rfl⟩ ⟨Nat.le_of_ble_eq_true rfl, Nat.le_of_ble_eq_true rfl⟩ (mKind_lt mk_69 (by decide)) (mCell_k mk_69) rfl rfl rfl rfl ⟨Nat.le_of_ble_eq_true rfl, Nat.le_of_ble_eq_true rfl⟩ (Nat.le_of_ble_eq_true rfl) dX12_takes_57 (fun r1 S2 => ?_)
      refine mw_eq (st' := []) rfl rfl ?_
      exact mw_return dX12_takes_60
    · exact mw_return dX12_takes_60
  · exact mw_return dX12_takes_60
def f_X12_takes (p1 : Int32) (S : mM) : Option (Unit × mM) :=
  bnd (S.1 69 3) fun x1 =>
  if 0 ≤ x1 ∧ x1.toNatClampNeg < 33000 then
  (bnd (setI S 71 x1.toNatClampNeg p1) fun S2 =>
  bnd (setI S2 69 3 ((S2.1 69 3) + (1 : Int32))) fun S3 =>
  if (S3.1 69 25) = (1 : Int32) then
    mBind (f_X12_follows x1 S3) fun r4 S5 =>
    f_X12_takes_35 x1 S5
  else
    f_X12_takes_35 x1 S3)
  else none
set_option maxRecDepth 100000 in
set_option maxHeartbeats 4000000 in
theorem w_X12_takes (X : mX) (l : Launch) (p1 : Int32) (S : mM) : MW X viV rm_X12_takes cX12_takes RX12 3 none l S [(0, .ref (X.2.1 69)), (1, .int p1)] [] 0 (f_X12_takes p1 S) := by
  unfold f_X12_takes
  refine mw_aload_n 0 dX12_takes_0 rfl rfl ?_
  refine gf_RX12_203 mk_69 dX12_takes_1 ?_
  refine mw_bndI (fun x1 => ?_)
  refine mw_istore_n (lv' := [(2, .int x1), (0, .ref (X.2.1 69)), (1, .int p1)]) dX12_takes_4 rfl (by decide) rfl ?_
  refine mw_aload_n 1 dX12_takes_5 rfl rfl ?_
  refine gf_RX12_14 mk_69 dX12_takes_6 ?_
  refine mw_iload_n 0 dX12_takes_9 rfl rfl ?_
  refine mw_iload_n 2 dX12_takes_10 rfl rfl ?_
  refine mw_iastore mk_71 ml_71 dX12_takes_11 ?_
  refine mw_bndS (fun S2 => ?_)
  refine mw_aload_n 1 dX12_takes_12 rfl rfl ?_
  refine mw_dup dX12_takes_13 rfl ?_
  refine gf_RX12_203 mk_69 dX12_takes_14 ?_
  refine mw_iconst (v := (1 : Int32)) dX12_takes_17 (by decide) ?_
  refine mw_iadd dX12_takes_18 ?_
  refine pf_RX12_203 mk_69 dX12_takes_19 ?_
  refine mw_bndS (fun S3 => ?_)
  refine mw_aload_n 1 dX12_takes_22 rfl rfl ?_
  refine gf_RX12_198 mk_69 dX12_takes_23 ?_
  refine mw_iconst (v := (1 : Int32)) dX12_takes_26 (by decide) ?_
  refine mw_icmp_ne (tgt := 35) dX12_takes_27 (by decide) ?_ ?_
  · refine mw_aload_n 1 dX12_takes_30 rfl rfl ?_
    refine mw_iload_n 0 dX12_takes_31 rfl rfl ?_
    refine mw_callV (t_X12_follows X l x1 S3) cd_X12_follows lk_RX12_245 im_X12_follows se_X12_follows in_RX12 de_X12_follows ⟨rfl, rfl⟩ ⟨Nat.le_of_ble_eq_true rfl, Nat.le_of_ble_eq_true rfl⟩ (mKind_lt mk_69 (by decide)) (mCell_k mk_69) rfl rfl rfl rfl ⟨Nat.le_of_ble_eq_true rfl, Nat.le_of_ble_eq_true rfl⟩ (Nat.le_of_ble_eq_true rfl) dX12_takes_32 (fun r4 S5 => ?_)
    refine mw_eq (st' := []) rfl rfl ?_
    exact mw_sub [1, 0] rfl (w_X12_takes_35 X l x1 S5)
  · exact mw_sub [1, 0] rfl (w_X12_takes_35 X l x1 S3)
theorem t_X12_takes (X : mX) (l : Launch) (p1 : Int32) (S : mM) : mMet X viV yX12_takes cX12_takes 3 none rm_X12_takes [.ref (X.2.1 69), .int p1] l S (f_X12_takes p1 S) :=
  mMet_of (by decide +kernel) rfl (Nat.le_of_ble_eq_true rfl) (w_X12_takes X l p1 S )
/-! TraceBenchModel.come(J)I -/
def f_X12_come (p1 : Int64) (S : mM) : Option (Int32 × mM) :=
  mBind (f_X12_takes ((p1 >>> ((32 : Int32).toInt64 &&& 63)).toInt32) S) fun r1 S2 =>
  mBind (f_X12_takes p1.toInt32 S2) fun r3 S4 =>
  some ((S4.1 69 34), S4)
set_option maxRecDepth 100000 in
set_option maxHeartbeats 4000000 in
theorem w_X12_come (X : mX) (l : Launch) (p1 : Int64) (S : mM) : MW X viI rm_X12_come cX12_come RX12 3 (some .int) l S [(0, .ref (X.2.1 69)), (1, .long p1)] [] 0 (f_X12_come p1 S) := by
  unfold f_X12_come
  refine mw_aload_n 0 dX12_come_0 rfl rfl ?_
  refine mw_lload_n 1 dX12_come_1 rfl rfl ?_
  refine mw_bipush (v := (32 : Int32)) dX12_come_2 (by decide) ?_
  refine mw_lshr dX12_come_4 ?_
  refine mw_l2i dX12_come_5 ?_
  refine mw_callV (t_X12_takes X l ((p1 >>> ((32 : Int32).toInt64 &&& 63)).toInt32) S) cd_X12_takes lk_RX12_251 im_X12_takes se_X12_takes in_RX12 de_X12_takes ⟨rfl, rfl⟩ ⟨Nat.le_of_ble_eq_true rfl, Nat.le_of_ble_eq_true rfl⟩ (mKind_lt mk_69 (by decide)) (mCell_k mk_69) rfl rfl rfl rfl ⟨Nat.le_of_ble_eq_true rfl, Nat.le_of_ble_eq_true rfl⟩ (Nat.le_of_ble_eq_true rfl) dX12_come_6 (fun r1 S2 => ?_)
  refine mw_eq (st' := []) rfl rfl ?_
  refine mw_aload_n 0 dX12_come_9 rfl rfl ?_
  refine mw_lload_n 1 dX12_come_10 rfl rfl ?_
  refine mw_l2i dX12_come_11 ?_
  refine mw_callV (t_X12_takes X l p1.toInt32 S2) cd_X12_takes lk_RX12_251 im_X12_takes se_X12_takes in_RX12 de_X12_takes ⟨rfl, rfl⟩ ⟨Nat.le_of_ble_eq_true rfl, Nat.le_of_ble_eq_true rfl⟩ (mKind_lt mk_69 (by decide)) (mCell_k mk_69) rfl rfl rfl rfl ⟨Nat.le_of_ble_eq_true rfl, Nat.le_of_ble_eq_true rfl⟩ (Nat.le_of_ble_eq_true rfl) dX12_come_12 (fun r3 S4 => ?_)
  refine mw_eq (st' := []) rfl rfl ?_
  refine mw_aload_n 0 dX12_come_15 rfl rfl ?_
  refine gf_RX12_221 mk_69 dX12_come_16 ?_
  exact mw_ireturn dX12_come_19
theorem t_X12_come (X : mX) (l : Launch) (p1 : Int64) (S : mM) : mMet X viI yX12_come cX12_come 3 (some .int) rm_X12_come [.ref (X.2.1 69), .long p1] l S (f_X12_come p1 S) :=
  mMet_of (by decide +kernel) rfl (Nat.le_of_ble_eq_true rfl) (w_X12_come X l p1 S )
/-! TraceBenchModel.down(JI)J -/
def f_X12_down (p0 : Int64) (p2 : Int32) (S : mM) : Option (Int64 × mM) :=
  if ¬ p2.toInt64 = 0 then
  bnd (p0 / p2.toInt64) fun x2 =>
  if ¬ p2.toInt64 = 0 then
  if 0 ≤ (lg_cmp (p0 - p0 / p2.toInt64 * p2.toInt64) (0 : Int64)) then
    some (x2, S)
  else
    some ((x2 - (1 : Int64)), S) else none else none
set_option maxRecDepth 100000 in
set_option maxHeartbeats 4000000 in
theorem w_X12_down (X : mX) (l : Launch) (p0 : Int64) (p2 : Int32) (S : mM) : MW X viJ rm_X12_down cX12_down RX12 5 (some .long) l S [(0, .long p0), (2, .int p2)] [] 0 (f_X12_down p0 p2 S) := by
  unfold f_X12_down
  refine mw_lload_n 0 dX12_down_0 rfl rfl ?_
  refine mw_iload_n 1 dX12_down_1 rfl rfl ?_
  refine mw_i2l dX12_down_2 ?_
  refine mw_chk (fun h1 => ?_)
  refine mw_ldiv dX12_down_3 h1 ?_
  refine mw_bndJ (fun x2 => ?_)
  refine mw_lstore_n (lv' := [(3, .long x2), (0, .long p0), (2, .int p2)]) dX12_down_4 rfl (by decide) rfl ?_
  refine mw_lload_n 1 dX12_down_5 rfl rfl ?_
  refine mw_iload_n 2 dX12_down_6 rfl rfl ?_
  refine mw_i2l dX12_down_7 ?_
  refine mw_chk (fun h3 => ?_)
  refine mw_lrem dX12_down_8 h3 ?_
  refine mw_lconst (v := (0 : Int64)) dX12_down_9 (by decide) ?_
  refine mw_lcmp dX12_down_10 ?_
  refine mw_if_ge (tgt := 20) dX12_down_11 (by decide) ?_ ?_
  · refine mw_lload_n 0 dX12_down_20 rfl rfl ?_
    exact mw_lreturn dX12_down_21
  · refine mw_lload_n 0 dX12_down_14 rfl rfl ?_
    refine mw_lconst (v := (1 : Int64)) dX12_down_15 (by decide) ?_
    refine mw_lsub dX12_down_16 ?_
    refine mw_goto (tgt := 21) dX12_down_17 (by decide) ?_
    exact mw_lreturn dX12_down_21
theorem t_X12_down (X : mX) (l : Launch) (p0 : Int64) (p2 : Int32) (S : mM) : mMet X viJ yX12_down cX12_down 5 (some .long) rm_X12_down [.long p0, .int p2] l S (f_X12_down p0 p2 S) :=
  mMet_of (by decide +kernel) rfl (Nat.le_of_ble_eq_true rfl) (w_X12_down X l p0 p2 S )
/-! TraceBenchModel.drop()I -/
def f_X12_drop (S : mM) : Option (Int32 × mM) :=
  if (S.1 69 34) = 0 then
    some ((-4 : Int32), S)
  else
    bnd (setI S 69 34 ((S.1 69 34) - (1 : Int32))) fun S1 =>
    some ((S1.1 69 34), S1)
set_option maxRecDepth 100000 in
set_option maxHeartbeats 4000000 in
theorem w_X12_drop (X : mX) (l : Launch) (S : mM) : MW X viI rm_X12_drop cX12_drop RX12 1 (some .int) l S [(0, .ref (X.2.1 69))] [] 0 (f_X12_drop  S) := by
  unfold f_X12_drop
  refine mw_aload_n 0 dX12_drop_0 rfl rfl ?_
  refine gf_RX12_221 mk_69 dX12_drop_1 ?_
  refine mw_if_ne (tgt := 10) dX12_drop_4 (by decide) ?_ ?_
  · refine mw_bipush (v := (-4 : Int32)) dX12_drop_7 (by decide) ?_
    exact mw_ireturn dX12_drop_9
  · refine mw_aload_n 0 dX12_drop_10 rfl rfl ?_
    refine mw_dup dX12_drop_11 rfl ?_
    refine gf_RX12_221 mk_69 dX12_drop_12 ?_
    refine mw_iconst (v := (1 : Int32)) dX12_drop_15 (by decide) ?_
    refine mw_isub dX12_drop_16 ?_
    refine pf_RX12_221 mk_69 dX12_drop_17 ?_
    refine mw_bndS (fun S1 => ?_)
    refine mw_aload_n 0 dX12_drop_20 rfl rfl ?_
    refine gf_RX12_221 mk_69 dX12_drop_21 ?_
    exact mw_ireturn dX12_drop_24
theorem t_X12_drop (X : mX) (l : Launch) (S : mM) : mMet X viI yX12_drop cX12_drop 1 (some .int) rm_X12_drop [.ref (X.2.1 69)] l S (f_X12_drop  S) :=
  mMet_of (by decide +kernel) rfl (Nat.le_of_ble_eq_true rfl) (w_X12_drop X l  S )
/-! TraceBenchModel.end(I)I -/
def f_X12_end (p1 : Int32) (S : mM) : Option (Int32 × mM) :=
  mBind (f_X12_in p1.toInt64 (0 : Int64) ((S.1 69 1).toInt64) S) fun r1 S2 =>
  if r1 = 0 then
    some ((-1 : Int32), S2)
  else
    bnd (S2.1 69 1) fun x3 =>
    bnd (setI S2 69 1 p1) fun S4 =>
    some (x3, S4)
set_option maxRecDepth 100000 in
set_option maxHeartbeats 4000000 in
theorem w_X12_end (X : mX) (l : Launch) (p1 : Int32) (S : mM) : MW X viI rm_X12_end cX12_end RX12 3 (some .int) l S [(0, .ref (X.2.1 69)), (1, .int p1)] [] 0 (f_X12_end p1 S) := by
  unfold f_X12_end
  refine mw_iload_n 1 dX12_end_0 rfl rfl ?_
  refine mw_i2l dX12_end_1 ?_
  refine mw_lconst (v := (0 : Int64)) dX12_end_2 (by decide) ?_
  refine mw_aload_n 0 dX12_end_3 rfl rfl ?_
  refine gf_RX12_110 mk_69 dX12_end_4 ?_
  refine mw_i2l dX12_end_7 ?_
  refine mw_callS (t_X12_in X l p1.toInt64 (0 : Int64) ((S.1 69 1).toInt64) S) cd_X12_in lk_RX12_115 sn_X12_in in_RX12 de_X12_in ⟨rfl, rfl⟩ ⟨Nat.le_of_ble_eq_true rfl, Nat.le_of_ble_eq_true rfl⟩ rfl rfl ⟨Nat.le_of_ble_eq_true rfl, Nat.le_of_ble_eq_true rfl⟩ (Nat.le_of_ble_eq_true rfl) dX12_end_8 (fun r1 S2 => ?_)
  refine mw_eq (st' := [.int r1]) rfl rfl ?_
  refine mw_if_ne (tgt := 16) dX12_end_11 (by decide) ?_ ?_
  · refine mw_iconst (v := (-1 : Int32)) dX12_end_14 (by decide) ?_
    exact mw_ireturn dX12_end_15
  · refine mw_aload_n 0 dX12_end_16 rfl rfl ?_
    refine gf_RX12_110 mk_69 dX12_end_17 ?_
    refine mw_bndI (fun x3 => ?_)
    refine mw_istore_n (lv' := [(2, .int x3), (0, .ref (X.2.1 69)), (1, .int p1)]) dX12_end_20 rfl (by decide) rfl ?_
    refine mw_aload_n 1 dX12_end_21 rfl rfl ?_
    refine mw_iload_n 2 dX12_end_22 rfl rfl ?_
    refine pf_RX12_110 mk_69 dX12_end_23 ?_
    refine mw_bndS (fun S4 => ?_)
    refine mw_iload_n 0 dX12_end_26 rfl rfl ?_
    exact mw_ireturn dX12_end_27
theorem t_X12_end (X : mX) (l : Launch) (p1 : Int32) (S : mM) : mMet X viI yX12_end cX12_end 3 (some .int) rm_X12_end [.ref (X.2.1 69), .int p1] l S (f_X12_end p1 S) :=
  mMet_of (by decide +kernel) rfl (Nat.le_of_ble_eq_true rfl) (w_X12_end X l p1 S )
/-! TraceBenchModel.eye(IIIIJII)I -/
def f_X12_eye_72 (n : Nat) (y1 : Int32) (y2 : Int32) (y3 : Int32) (y4 : Int32) (y5 : Int64) (y7 : Int32) (y8 : Int32) (y9 : Int32) (y10 : Int32) (S : mM) : Option (Int32 × mM) := match n with
  | 0 => none
  | n + 1 =>
    if 0 ≤ y1 ∧ y1.toNatClampNeg < 4 then
    (if (S.1 91 y1.toNatClampNeg) ≤ y10 then
      some (y9, S)
    else
      bnd (((201 : Int32) * y1) + y10) fun x1 =>
      if ¬ y3 = 0 then
      if ((y10 - y2) - (y10 - y2) / y3 * y3) = y4 then
        if 0 ≤ x1 ∧ x1.toNatClampNeg < 804 then
        (if (S.1 93 x1.toNatClampNeg) = 0 then
          if 0 ≤ x1 ∧ x1.toNatClampNeg < 804 then
          (mBind (f_X12_down ((S.2.1 92 x1.toNatClampNeg) - y5) y7 S) fun r3 S4 =>
          if (lg_cmp r3 y8.toInt64) = 0 then
            bnd (y9 + (1 : Int32)) fun x5 =>
            bnd (y10 + (1 : Int32)) fun x6 =>
            f_X12_eye_72 n y1 y2 y3 y4 y5 y7 y8 x5 x6 S4
          else
            bnd (y9 + (0 : Int32)) fun x7 =>
            bnd (y10 + (1 : Int32)) fun x8 =>
            f_X12_eye_72 n y1 y2 y3 y4 y5 y7 y8 x7 x8 S4)
          else none
        else
          bnd (y9 + (0 : Int32)) fun x9 =>
          bnd (y10 + (1 : Int32)) fun x10 =>
          f_X12_eye_72 n y1 y2 y3 y4 y5 y7 y8 x9 x10 S)
        else none
      else
        bnd (y9 + (0 : Int32)) fun x11 =>
        bnd (y10 + (1 : Int32)) fun x12 =>
        f_X12_eye_72 n y1 y2 y3 y4 y5 y7 y8 x11 x12 S else none)
    else none
set_option maxRecDepth 100000 in
set_option maxHeartbeats 4000000 in
theorem w_X12_eye_72 (X : mX) (l : Launch) (n : Nat) (y1 : Int32) (y2 : Int32) (y3 : Int32) (y4 : Int32) (y5 : Int64) (y7 : Int32) (y8 : Int32) (y9 : Int32) (y10 : Int32) (S : mM) : MW X viI rm_X12_eye cX12_eye RX12 12 (some .int) l S [(0, .ref (X.2.1 69)), (1, .int y1), (2, .int y2), (3, .int y3), (4, .int y4), (5, .long y5), (7, .int y7), (8, .int y8), (9, .int y9), (10, .int y10)] [] 72 (f_X12_eye_72 n y1 y2 y3 y4 y5 y7 y8 y9 y10 S) := by
  induction n generalizing y1 y2 y3 y4 y5 y7 y8 y9 y10 S with
  | zero => exact mw_none
  | succ n ih =>
    unfold f_X12_eye_72
    refine mw_iload 9 dX12_eye_72 rfl ?_
    refine mw_aload_n 0 dX12_eye_74 rfl rfl ?_
    refine gf_RX12_84 mk_69 dX12_eye_75 ?_
    refine mw_iload_n 1 dX12_eye_78 rfl rfl ?_
    refine mw_iaload mk_91 ml_91 dX12_eye_79 ?_
    refine mw_icmp_ge (tgt := 152) dX12_eye_80 (by decide) ?_ ?_
    · refine mw_iload 8 dX12_eye_152 rfl ?_
      exact mw_ireturn dX12_eye_154
    · refine mw_sipush (v := (201 : Int32)) dX12_eye_83 (by decide) ?_
      refine mw_iload_n 1 dX12_eye_86 rfl rfl ?_
      refine mw_imul dX12_eye_87 ?_
      refine mw_iload 9 dX12_eye_88 rfl ?_
      refine mw_iadd dX12_eye_90 ?_
      refine mw_bndI (fun x1 => ?_)
      refine mw_istore (lv' := [(11, .int x1), (0, .ref (X.2.1 69)), (1, .int y1), (2, .int y2), (3, .int y3), (4, .int y4), (5, .long y5), (7, .int y7), (8, .int y8), (9, .int y9), (10, .int y10)]) dX12_eye_91 (by decide) rfl ?_
      refine mw_iload 9 dX12_eye_93 rfl ?_
      refine mw_iload 10 dX12_eye_95 rfl ?_
      refine mw_iload_n 3 dX12_eye_97 rfl rfl ?_
      refine mw_isub dX12_eye_98 ?_
      refine mw_iload_n 4 dX12_eye_99 rfl rfl ?_
      refine mw_chk (fun h2 => ?_)
      refine mw_irem dX12_eye_100 h2 ?_
      refine mw_iload 5 dX12_eye_101 rfl ?_
      refine mw_icmp_ne (tgt := 142) dX12_eye_103 (by decide) ?_ ?_
      · refine mw_aload_n 1 dX12_eye_106 rfl rfl ?_
        refine gf_RX12_91 mk_69 dX12_eye_107 ?_
        refine mw_iload 0 dX12_eye_110 rfl ?_
        refine mw_zaload mk_93 ml_93 dX12_eye_112 ?_
        refine mw_if_ne (tgt := 142) dX12_eye_113 (by decide) ?_ ?_
        · refine mw_aload_n 1 dX12_eye_116 rfl rfl ?_
          refine gf_RX12_87 mk_69 dX12_eye_117 ?_
          refine mw_iload 0 dX12_eye_120 rfl ?_
          refine mw_laload mk_92 ml_92 dX12_eye_122 ?_
          refine mw_lload 6 dX12_eye_123 rfl ?_
          refine mw_lsub dX12_eye_125 ?_
          refine mw_iload 7 dX12_eye_126 rfl ?_
          refine mw_callS (t_X12_down X l ((S.2.1 92 x1.toNatClampNeg) - y5) y7 S) cd_X12_down lk_RX12_285 sn_X12_down in_RX12 de_X12_down ⟨rfl, rfl⟩ ⟨Nat.le_of_ble_eq_true rfl, Nat.le_of_ble_eq_true rfl⟩ rfl rfl ⟨Nat.le_of_ble_eq_true rfl, Nat.le_of_ble_eq_true rfl⟩ (Nat.le_of_ble_eq_true rfl) dX12_eye_128 (fun r3 S4 => ?_)
          refine mw_eq (st' := [.long r3, .int y9]) rfl rfl ?_
          refine mw_iload 8 dX12_eye_131 rfl ?_
          refine mw_i2l dX12_eye_133 ?_
          refine mw_lcmp dX12_eye_134 ?_
          refine mw_if_ne (tgt := 142) dX12_eye_135 (by decide) ?_ ?_
          · refine mw_iconst (v := (1 : Int32)) dX12_eye_138 (by decide) ?_
            refine mw_goto (tgt := 143) dX12_eye_139 (by decide) ?_
            refine mw_iadd dX12_eye_143 ?_
            refine mw_bndI (fun x5 => ?_)
            refine mw_istore (lv' := [(9, .int x5), (11, .int x1), (0, .ref (X.2.1 69)), (1, .int y1), (2, .int y2), (3, .int y3), (4, .int y4), (5, .long y5), (7, .int y7), (8, .int y8), (10, .int y10)]) dX12_eye_144 (by decide) rfl ?_
            refine mw_iincB (lvf := fun x6 => [(10, .int x6), (9, .int x5), (11, .int x1), (0, .ref (X.2.1 69)), (1, .int y1), (2, .int y2), (3, .int y3), (4, .int y4), (5, .long y5), (7, .int y7), (8, .int y8)]) (k := 10) dX12_eye_146 rfl (by decide) (by decide) (fun _ => rfl) (fun x6 => ?_)
            refine mw_goto (tgt := 72) dX12_eye_149 (by decide) ?_
            exact mw_sub [3, 4, 5, 6, 7, 8, 9, 10, 1, 0] rfl (ih y1 y2 y3 y4 y5 y7 y8 x5 x6 S4)
          · refine mw_iconst (v := (0 : Int32)) dX12_eye_142 (by decide) ?_
            refine mw_iadd dX12_eye_143 ?_
            refine mw_bndI (fun x7 => ?_)
            refine mw_istore (lv' := [(9, .int x7), (11, .int x1), (0, .ref (X.2.1 69)), (1, .int y1), (2, .int y2), (3, .int y3), (4, .int y4), (5, .long y5), (7, .int y7), (8, .int y8), (10, .int y10)]) dX12_eye_144 (by decide) rfl ?_
            refine mw_iincB (lvf := fun x8 => [(10, .int x8), (9, .int x7), (11, .int x1), (0, .ref (X.2.1 69)), (1, .int y1), (2, .int y2), (3, .int y3), (4, .int y4), (5, .long y5), (7, .int y7), (8, .int y8)]) (k := 10) dX12_eye_146 rfl (by decide) (by decide) (fun _ => rfl) (fun x8 => ?_)
            refine mw_goto (tgt := 72) dX12_eye_149 (by decide) ?_
            exact mw_sub [3, 4, 5, 6, 7, 8, 9, 10, 1, 0] rfl (ih y1 y2 y3 y4 y5 y7 y8 x7 x8 S4)
        · refine mw_iconst (v := (0 : Int32)) dX12_eye_142 (by decide) ?_
          refine mw_iadd dX12_eye_143 ?_
          refine mw_bndI (fun x9 => ?_)
          refine mw_istore (lv' := [(9, .int x9), (11, .int x1), (0, .ref (X.2.1 69)), (1, .int y1), (2, .int y2), (3, .int y3), (4, .int y4), (5, .long y5), (7, .int y7), (8, .int y8), (10, .int y10)]) dX12_eye_144 (by decide) rfl ?_
          refine mw_iincB (lvf := fun x10 => [(10, .int x10), (9, .int x9), (11, .int x1), (0, .ref (X.2.1 69)), (1, .int y1), (2, .int y2), (3, .int y3), (4, .int y4), (5, .long y5), (7, .int y7), (8, .int y8)]) (k := 10) dX12_eye_146 rfl (by decide) (by decide) (fun _ => rfl) (fun x10 => ?_)
          refine mw_goto (tgt := 72) dX12_eye_149 (by decide) ?_
          exact mw_sub [3, 4, 5, 6, 7, 8, 9, 10, 1, 0] rfl (ih y1 y2 y3 y4 y5 y7 y8 x9 x10 S)
      · refine mw_iconst (v := (0 : Int32)) dX12_eye_142 (by decide) ?_
        refine mw_iadd dX12_eye_143 ?_
        refine mw_bndI (fun x11 => ?_)
        refine mw_istore (lv' := [(9, .int x11), (11, .int x1), (0, .ref (X.2.1 69)), (1, .int y1), (2, .int y2), (3, .int y3), (4, .int y4), (5, .long y5), (7, .int y7), (8, .int y8), (10, .int y10)]) dX12_eye_144 (by decide) rfl ?_
        refine mw_iincB (lvf := fun x12 => [(10, .int x12), (9, .int x11), (11, .int x1), (0, .ref (X.2.1 69)), (1, .int y1), (2, .int y2), (3, .int y3), (4, .int y4), (5, .long y5), (7, .int y7), (8, .int y8)]) (k := 10) dX12_eye_146 rfl (by decide) (by decide) (fun _ => rfl) (fun x12 => ?_)
        refine mw_goto (tgt := 72) dX12_eye_149 (by decide) ?_
        exact mw_sub [3, 4, 5, 6, 7, 8, 9, 10, 1, 0] rfl (ih y1 y2 y3 y4 y5 y7 y8 x11 x12 S)
def f_X12_eye (p1 : Int32) (p2 : Int32) (p3 : Int32) (p4 : Int32) (p5 : Int64) (p7 : Int32) (p8 : Int32) (S : mM) : Option (Int32 × mM) :=
  mBind (f_X12_isRow p1 S) fun r1 S2 =>
  if r1 = 0 then
    some ((-1 : Int32), S2)
  else
    if p2 < 0 then
      some ((-1 : Int32), S2)
    else
      mBind (f_X12_in p3.toInt64 (1 : Int64) (32 : Int64) S2) fun r3 S4 =>
      if r3 = 0 then
        some ((-1 : Int32), S4)
      else
        mBind (f_X12_in p4.toInt64 (0 : Int64) ((p3 - (1 : Int32)).toInt64) S4) fun r5 S6 =>
        if r5 = 0 then
          some ((-1 : Int32), S6)
        else
          mBind (f_X12_in p7.toInt64 (1 : Int64) (1000 : Int64) S6) fun r7 S8 =>
          if r7 = 0 then
            some ((-1 : Int32), S8)
          else
            mBind (f_X12_in p8.toInt64 (0 : Int64) (15 : Int64) S8) fun r9 S10 =>
            if r9 = 0 then
              some ((-1 : Int32), S10)
            else
              f_X12_eye_72 mFuel p1 p2 p3 p4 p5 p7 p8 (0 : Int32) p2 S10
set_option maxRecDepth 100000 in
set_option maxHeartbeats 4000000 in
theorem w_X12_eye (X : mX) (l : Launch) (p1 : Int32) (p2 : Int32) (p3 : Int32) (p4 : Int32) (p5 : Int64) (p7 : Int32) (p8 : Int32) (S : mM) : MW X viI rm_X12_eye cX12_eye RX12 12 (some .int) l S [(0, .ref (X.2.1 69)), (1, .int p1), (2, .int p2), (3, .int p3), (4, .int p4), (5, .long p5), (7, .int p7), (8, .int p8)] [] 0 (f_X12_eye p1 p2 p3 p4 p5 p7 p8 S) := by
  unfold f_X12_eye
  refine mw_aload_n 0 dX12_eye_0 rfl rfl ?_
  refine mw_iload_n 1 dX12_eye_1 rfl rfl ?_
  refine mw_callV (t_X12_isRow X l p1 S) cd_X12_isRow lk_RX12_254 im_X12_isRow se_X12_isRow in_RX12 de_X12_isRow ⟨rfl, rfl⟩ ⟨Nat.le_of_ble_eq_true rfl, Nat.le_of_ble_eq_true rfl⟩ (mKind_lt mk_69 (by decide)) (mCell_k mk_69) rfl rfl rfl rfl ⟨Nat.le_of_ble_eq_true rfl, Nat.le_of_ble_eq_true rfl⟩ (Nat.le_of_ble_eq_true rfl) dX12_eye_2 (fun r1 S2 => ?_)
  refine mw_eq (st' := [.int r1]) rfl rfl ?_
  refine mw_if_eq (tgt := 64) dX12_eye_5 (by decide) ?_ ?_
  · refine mw_iconst (v := (-1 : Int32)) dX12_eye_64 (by decide) ?_
    exact mw_ireturn dX12_eye_65
  · refine mw_iload_n 2 dX12_eye_8 rfl rfl ?_
    refine mw_if_lt (tgt := 64) dX12_eye_9 (by decide) ?_ ?_
    · refine mw_iconst (v := (-1 : Int32)) dX12_eye_64 (by decide) ?_
      exact mw_ireturn dX12_eye_65
    · refine mw_iload_n 3 dX12_eye_12 rfl rfl ?_
      refine mw_i2l dX12_eye_13 ?_
      refine mw_lconst (v := (1 : Int64)) dX12_eye_14 (by decide) ?_
      refine mw_ldc2 cl_RX12_281 dX12_eye_15 ?_
      refine mw_callS (t_X12_in X l p3.toInt64 (1 : Int64) (32 : Int64) S2) cd_X12_in lk_RX12_115 sn_X12_in in_RX12 de_X12_in ⟨rfl, rfl⟩ ⟨Nat.le_of_ble_eq_true rfl, Nat.le_of_ble_eq_true rfl⟩ rfl rfl ⟨Nat.le_of_ble_eq_true rfl, Nat.le_of_ble_eq_true rfl⟩ (Nat.le_of_ble_eq_true rfl) dX12_eye_18 (fun r3 S4 => ?_)
      refine mw_eq (st' := [.int r3]) rfl rfl ?_
      refine mw_if_eq (tgt := 64) dX12_eye_21 (by decide) ?_ ?_
      · refine mw_iconst (v := (-1 : Int32)) dX12_eye_64 (by decide) ?_
        exact mw_ireturn dX12_eye_65
      · refine mw_iload 4 dX12_eye_24 rfl ?_
        refine mw_i2l dX12_eye_26 ?_
        refine mw_lconst (v := (0 : Int64)) dX12_eye_27 (by decide) ?_
        refine mw_iload_n 3 dX12_eye_28 rfl rfl ?_
        refine mw_iconst (v := (1 : Int32)) dX12_eye_29 (by decide) ?_
        refine mw_isub dX12_eye_30 ?_
        refine mw_i2l dX12_eye_31 ?_
        refine mw_callS (t_X12_in X l p4.toInt64 (0 : Int64) ((p3 - (1 : Int32)).toInt64) S4) cd_X12_in lk_RX12_115 sn_X12_in in_RX12 de_X12_in ⟨rfl, rfl⟩ ⟨Nat.le_of_ble_eq_true rfl, Nat.le_of_ble_eq_true rfl⟩ rfl rfl ⟨Nat.le_of_ble_eq_true rfl, Nat.le_of_ble_eq_true rfl⟩ (Nat.le_of_ble_eq_true rfl) dX12_eye_32 (fun r5 S6 => ?_)
        refine mw_eq (st' := [.int r5]) rfl rfl ?_
        refine mw_if_eq (tgt := 64) dX12_eye_35 (by decide) ?_ ?_
        · refine mw_iconst (v := (-1 : Int32)) dX12_eye_64 (by decide) ?_
          exact mw_ireturn dX12_eye_65
        · refine mw_iload 6 dX12_eye_38 rfl ?_
          refine mw_i2l dX12_eye_40 ?_
          refine mw_lconst (v := (1 : Int64)) dX12_eye_41 (by decide) ?_
          refine mw_ldc2 cl_RX12_273 dX12_eye_42 ?_
          refine mw_callS (t_X12_in X l p7.toInt64 (1 : Int64) (1000 : Int64) S6) cd_X12_in lk_RX12_115 sn_X12_in in_RX12 de_X12_in ⟨rfl, rfl⟩ ⟨Nat.le_of_ble_eq_true rfl, Nat.le_of_ble_eq_true rfl⟩ rfl rfl ⟨Nat.le_of_ble_eq_true rfl, Nat.le_of_ble_eq_true rfl⟩ (Nat.le_of_ble_eq_true rfl) dX12_eye_45 (fun r7 S8 => ?_)
          refine mw_eq (st' := [.int r7]) rfl rfl ?_
          refine mw_if_eq (tgt := 64) dX12_eye_48 (by decide) ?_ ?_
          · refine mw_iconst (v := (-1 : Int32)) dX12_eye_64 (by decide) ?_
            exact mw_ireturn dX12_eye_65
          · refine mw_iload 7 dX12_eye_51 rfl ?_
            refine mw_i2l dX12_eye_53 ?_
            refine mw_lconst (v := (0 : Int64)) dX12_eye_54 (by decide) ?_
            refine mw_ldc2 cl_RX12_283 dX12_eye_55 ?_
            refine mw_callS (t_X12_in X l p8.toInt64 (0 : Int64) (15 : Int64) S8) cd_X12_in lk_RX12_115 sn_X12_in in_RX12 de_X12_in ⟨rfl, rfl⟩ ⟨Nat.le_of_ble_eq_true rfl, Nat.le_of_ble_eq_true rfl⟩ rfl rfl ⟨Nat.le_of_ble_eq_true rfl, Nat.le_of_ble_eq_true rfl⟩ (Nat.le_of_ble_eq_true rfl) dX12_eye_58 (fun r9 S10 => ?_)
            refine mw_eq (st' := [.int r9]) rfl rfl ?_
            refine mw_if_ne (tgt := 66) dX12_eye_61 (by decide) ?_ ?_
            · refine mw_iconst (v := (-1 : Int32)) dX12_eye_64 (by decide) ?_
              exact mw_ireturn dX12_eye_65
            · refine mw_iconst (v := (0 : Int32)) dX12_eye_66 (by decide) ?_
              refine mw_istore (lv' := [(9, .int (0 : Int32)), (0, .ref (X.2.1 69)), (1, .int p1), (2, .int p2), (3, .int p3), (4, .int p4), (5, .long p5), (7, .int p7), (8, .int p8)]) dX12_eye_67 (by decide) rfl ?_
              refine mw_iload_n 3 dX12_eye_69 rfl rfl ?_
              refine mw_istore (lv' := [(10, .int p2), (9, .int (0 : Int32)), (0, .ref (X.2.1 69)), (1, .int p1), (2, .int p2), (3, .int p3), (4, .int p4), (5, .long p5), (7, .int p7), (8, .int p8)]) dX12_eye_70 (by decide) rfl ?_
              exact mw_sub [2, 3, 4, 5, 6, 7, 8, 9, 1, 0] rfl (w_X12_eye_72 X l mFuel p1 p2 p3 p4 p5 p7 p8 (0 : Int32) p2 S10)
theorem t_X12_eye (X : mX) (l : Launch) (p1 : Int32) (p2 : Int32) (p3 : Int32) (p4 : Int32) (p5 : Int64) (p7 : Int32) (p8 : Int32) (S : mM) : mMet X viI yX12_eye cX12_eye 12 (some .int) rm_X12_eye [.ref (X.2.1 69), .int p1, .int p2, .int p3, .int p4, .long p5, .int p7, .int p8] l S (f_X12_eye p1 p2 p3 p4 p5 p7 p8 S) :=
  mMet_of (by decide +kernel) rfl (Nat.le_of_ble_eq_true rfl) (w_X12_eye X l p1 p2 p3 p4 p5 p7 p8 S )
/-! TraceBenchModel.fails(II)V -/
def f_X12_fails (p1 : Int32) (p2 : Int32) (S : mM) : Option (Unit × mM) :=
  if (S.1 69 18) = 0 then
    bnd (setI S 69 18 p1) fun S1 =>
    bnd (setI S1 69 19 p2) fun S2 =>
    some ((), S2)
  else
    some ((), S)
set_option maxRecDepth 100000 in
set_option maxHeartbeats 4000000 in
theorem w_X12_fails (X : mX) (l : Launch) (p1 : Int32) (p2 : Int32) (S : mM) : MW X viV rm_X12_fails cX12_fails RX12 3 none l S [(0, .ref (X.2.1 69)), (1, .int p1), (2, .int p2)] [] 0 (f_X12_fails p1 p2 S) := by
  unfold f_X12_fails
  refine mw_aload_n 0 dX12_fails_0 rfl rfl ?_
  refine gf_RX12_119 mk_69 dX12_fails_1 ?_
  refine mw_if_ne (tgt := 17) dX12_fails_4 (by decide) ?_ ?_
  · refine mw_aload_n 0 dX12_fails_7 rfl rfl ?_
    refine mw_iload_n 1 dX12_fails_8 rfl rfl ?_
    refine pf_RX12_119 mk_69 dX12_fails_9 ?_
    refine mw_bndS (fun S1 => ?_)
    refine mw_aload_n 0 dX12_fails_12 rfl rfl ?_
    refine mw_iload_n 2 dX12_fails_13 rfl rfl ?_
    refine pf_RX12_122 mk_69 dX12_fails_14 ?_
    refine mw_bndS (fun S2 => ?_)
    exact mw_return dX12_fails_17
  · exact mw_return dX12_fails_17
theorem t_X12_fails (X : mX) (l : Launch) (p1 : Int32) (p2 : Int32) (S : mM) : mMet X viV yX12_fails cX12_fails 3 none rm_X12_fails [.ref (X.2.1 69), .int p1, .int p2] l S (f_X12_fails p1 p2 S) :=
  mMet_of (by decide +kernel) rfl (Nat.le_of_ble_eq_true rfl) (w_X12_fails X l p1 p2 S )
/-! TraceBenchModel.fault()I -/
def f_X12_fault (S : mM) : Option (Int32 × mM) :=
  some ((S.1 69 18), S)
set_option maxRecDepth 100000 in
set_option maxHeartbeats 4000000 in
theorem w_X12_fault (X : mX) (l : Launch) (S : mM) : MW X viI rm_X12_fault cX12_fault RX12 1 (some .int) l S [(0, .ref (X.2.1 69))] [] 0 (f_X12_fault  S) := by
  unfold f_X12_fault
  refine mw_aload_n 0 dX12_fault_0 rfl rfl ?_
  refine gf_RX12_119 mk_69 dX12_fault_1 ?_
  exact mw_ireturn dX12_fault_4
theorem t_X12_fault (X : mX) (l : Launch) (S : mM) : mMet X viI yX12_fault cX12_fault 1 (some .int) rm_X12_fault [.ref (X.2.1 69)] l S (f_X12_fault  S) :=
  mMet_of (by decide +kernel) rfl (Nat.le_of_ble_eq_true rfl) (w_X12_fault X l  S )
/-! TraceBenchModel.feed(J)I -/
def f_X12_feed_19 (n : Nat) (y1 : Int64) (y3 : Int32) (S : mM) : Option (Int32 × mM) := match n with
  | 0 => none
  | n + 1 =>
    if y3 < 0 then
      some ((S.1 69 1), S)
    else
      if 0 ≤ (S.1 69 1) ∧ (S.1 69 1).toNatClampNeg < 200 then
      (bnd (setI S 70 (S.1 69 1).toNatClampNeg (((y1 >>> (y3.toInt64 &&& 63)) &&& (255 : Int64)).toInt32)) fun S1 =>
      bnd (setI S1 69 1 ((S1.1 69 1) + (1 : Int32))) fun S2 =>
      bnd (y3 + (-8 : Int32)) fun x3 =>
      f_X12_feed_19 n y1 x3 S2)
      else none
set_option maxRecDepth 100000 in
set_option maxHeartbeats 4000000 in
theorem w_X12_feed_19 (X : mX) (l : Launch) (n : Nat) (y1 : Int64) (y3 : Int32) (S : mM) : MW X viI rm_X12_feed cX12_feed RX12 4 (some .int) l S [(0, .ref (X.2.1 69)), (1, .long y1), (3, .int y3)] [] 19 (f_X12_feed_19 n y1 y3 S) := by
  induction n generalizing y1 y3 S with
  | zero => exact mw_none
  | succ n ih =>
    unfold f_X12_feed_19
    refine mw_iload_n 2 dX12_feed_19 rfl rfl ?_
    refine mw_if_lt (tgt := 56) dX12_feed_20 (by decide) ?_ ?_
    · refine mw_aload_n 0 dX12_feed_56 rfl rfl ?_
      refine gf_RX12_110 mk_69 dX12_feed_57 ?_
      exact mw_ireturn dX12_feed_60
    · refine mw_aload_n 0 dX12_feed_23 rfl rfl ?_
      refine gf_RX12_7 mk_69 dX12_feed_24 ?_
      refine mw_aload_n 0 dX12_feed_27 rfl rfl ?_
      refine gf_RX12_110 mk_69 dX12_feed_28 ?_
      refine mw_lload_n 1 dX12_feed_31 rfl rfl ?_
      refine mw_iload_n 2 dX12_feed_32 rfl rfl ?_
      refine mw_lshr dX12_feed_33 ?_
      refine mw_ldc2 cl_RX12_113 dX12_feed_34 ?_
      refine mw_land dX12_feed_37 ?_
      refine mw_l2i dX12_feed_38 ?_
      refine mw_iastore mk_70 ml_70 dX12_feed_39 ?_
      refine mw_bndS (fun S1 => ?_)
      refine mw_aload_n 0 dX12_feed_40 rfl rfl ?_
      refine mw_dup dX12_feed_41 rfl ?_
      refine gf_RX12_110 mk_69 dX12_feed_42 ?_
      refine mw_iconst (v := (1 : Int32)) dX12_feed_45 (by decide) ?_
      refine mw_iadd dX12_feed_46 ?_
      refine pf_RX12_110 mk_69 dX12_feed_47 ?_
      refine mw_bndS (fun S2 => ?_)
      refine mw_iincB (lvf := fun x3 => [(3, .int x3), (0, .ref (X.2.1 69)), (1, .long y1)]) (k := 2) dX12_feed_50 rfl (by decide) (by decide) (fun _ => rfl) (fun x3 => ?_)
      refine mw_goto (tgt := 19) dX12_feed_53 (by decide) ?_
      exact mw_sub [1, 2, 0] rfl (ih y1 x3 S2)
def f_X12_feed (p1 : Int64) (S : mM) : Option (Int32 × mM) :=
  if ((S.1 69 1) + (8 : Int32)) ≤ (200 : Int32) then
    f_X12_feed_19 mFuel p1 (56 : Int32) S
  else
    some ((-3 : Int32), S)
set_option maxRecDepth 100000 in
set_option maxHeartbeats 4000000 in
theorem w_X12_feed (X : mX) (l : Launch) (p1 : Int64) (S : mM) : MW X viI rm_X12_feed cX12_feed RX12 4 (some .int) l S [(0, .ref (X.2.1 69)), (1, .long p1)] [] 0 (f_X12_feed p1 S) := by
  unfold f_X12_feed
  refine mw_aload_n 0 dX12_feed_0 rfl rfl ?_
  refine gf_RX12_110 mk_69 dX12_feed_1 ?_
  refine mw_bipush (v := (8 : Int32)) dX12_feed_4 (by decide) ?_
  refine mw_iadd dX12_feed_6 ?_
  refine mw_sipush (v := (200 : Int32)) dX12_feed_7 (by decide) ?_
  refine mw_icmp_le (tgt := 16) dX12_feed_10 (by decide) ?_ ?_
  · refine mw_bipush (v := (56 : Int32)) dX12_feed_16 (by decide) ?_
    refine mw_istore_n (lv' := [(3, .int (56 : Int32)), (0, .ref (X.2.1 69)), (1, .long p1)]) dX12_feed_18 rfl (by decide) rfl ?_
    exact mw_sub [1, 2, 0] rfl (w_X12_feed_19 X l mFuel p1 (56 : Int32) S)
  · refine mw_bipush (v := (-3 : Int32)) dX12_feed_13 (by decide) ?_
    exact mw_ireturn dX12_feed_15
theorem t_X12_feed (X : mX) (l : Launch) (p1 : Int64) (S : mM) : mMet X viI yX12_feed cX12_feed 4 (some .int) rm_X12_feed [.ref (X.2.1 69), .long p1] l S (f_X12_feed p1 S) :=
  mMet_of (by decide +kernel) rfl (Nat.le_of_ble_eq_true rfl) (w_X12_feed X l p1 S )
/-! TraceBenchModel.first()I -/
def f_X12_first (S : mM) : Option (Int32 × mM) :=
  some ((S.1 69 42), S)
set_option maxRecDepth 100000 in
set_option maxHeartbeats 4000000 in
theorem w_X12_first (X : mX) (l : Launch) (S : mM) : MW X viI rm_X12_first cX12_first RX12 1 (some .int) l S [(0, .ref (X.2.1 69))] [] 0 (f_X12_first  S) := by
  unfold f_X12_first
  refine mw_aload_n 0 dX12_first_0 rfl rfl ?_
  refine gf_RX12_81 mk_69 dX12_first_1 ?_
  exact mw_ireturn dX12_first_4
theorem t_X12_first (X : mX) (l : Launch) (S : mM) : mMet X viI yX12_first cX12_first 1 (some .int) rm_X12_first [.ref (X.2.1 69)] l S (f_X12_first  S) :=
  mMet_of (by decide +kernel) rfl (Nat.le_of_ble_eq_true rfl) (w_X12_first X l  S )
/-! TraceBenchModel.frame(I)I -/
def f_X12_frame_88 (n : Nat) (k8 : Int32 → mM → Option (Int32 × mM)) (y2 : Int32) (y3 : Int32) (y4 : Int32) (y5 : Int32) (S : mM) : Option (Int32 × mM) := match n with
  | 0 => none
  | n + 1 =>
    if y3 ≤ y5 then
      if 0 ≤ ((y2 + (2 : Int32)) + y3) ∧ ((y2 + (2 : Int32)) + y3).toNatClampNeg < 20 then
      (if (y4 &&& (255 : Int32)) = ((S.1 96 ((y2 + (2 : Int32)) + y3).toNatClampNeg) &&& (255 : Int32)) then
        some (y2, S)
      else
        bnd (y2 + (1 : Int32)) fun x1 =>
        k8 x1 S)
      else none
    else
      if 0 ≤ ((y2 + (2 : Int32)) + y5) ∧ ((y2 + (2 : Int32)) + y5).toNatClampNeg < 20 then
      (bnd (y4 + ((S.1 96 ((y2 + (2 : Int32)) + y5).toNatClampNeg) &&& (255 : Int32))) fun x2 =>
      bnd (y5 + (1 : Int32)) fun x3 =>
      f_X12_frame_88 n k8 y2 y3 x2 x3 S)
      else none
set_option maxRecDepth 100000 in
set_option maxHeartbeats 4000000 in
theorem w_X12_frame_88 (X : mX) (l : Launch) (n : Nat) (k8 : Int32 → mM → Option (Int32 × mM)) (hk8 : ∀ (y2 : Int32) (S : mM), MW X viI rm_X12_frame cX12_frame RX12 6 (some .int) l S [(0, .ref (X.2.1 69)), (2, .int y2)] [] 8 (k8 y2 S)) (y2 : Int32) (y3 : Int32) (y4 : Int32) (y5 : Int32) (S : mM) : MW X viI rm_X12_frame cX12_frame RX12 6 (some .int) l S [(0, .ref (X.2.1 69)), (2, .int y2), (3, .int y3), (4, .int y4), (5, .int y5)] [] 88 (f_X12_frame_88 n k8 y2 y3 y4 y5 S) := by
  induction n generalizing y2 y3 y4 y5 S with
  | zero => exact mw_none
  | succ n ih =>
    unfold f_X12_frame_88
    refine mw_iload 4 dX12_frame_88 rfl ?_
    refine mw_iload_n 2 dX12_frame_90 rfl rfl ?_
    refine mw_icmp_ge (tgt := 120) dX12_frame_91 (by decide) ?_ ?_
    · refine mw_iload 3 dX12_frame_120 rfl ?_
      refine mw_sipush (v := (255 : Int32)) dX12_frame_122 (by decide) ?_
      refine mw_iand dX12_frame_125 ?_
      refine mw_aload_n 0 dX12_frame_126 rfl rfl ?_
      refine gf_RX12_101 mk_69 dX12_frame_127 ?_
      refine mw_iload_n 1 dX12_frame_130 rfl rfl ?_
      refine mw_iconst (v := (2 : Int32)) dX12_frame_131 (by decide) ?_
      refine mw_iadd dX12_frame_132 ?_
      refine mw_iload_n 2 dX12_frame_133 rfl rfl ?_
      refine mw_iadd dX12_frame_134 ?_
      refine mw_iaload mk_96 ml_96 dX12_frame_135 ?_
      refine mw_sipush (v := (255 : Int32)) dX12_frame_136 (by decide) ?_
      refine mw_iand dX12_frame_139 ?_
      refine mw_icmp_ne (tgt := 145) dX12_frame_140 (by decide) ?_ ?_
      · refine mw_iload_n 1 dX12_frame_143 rfl rfl ?_
        exact mw_ireturn dX12_frame_144
      · refine mw_iincB (lvf := fun x1 => [(2, .int x1), (0, .ref (X.2.1 69)), (3, .int y3), (4, .int y4), (5, .int y5)]) (k := 1) dX12_frame_145 rfl (by decide) (by decide) (fun _ => rfl) (fun x1 => ?_)
        refine mw_goto (tgt := 8) dX12_frame_148 (by decide) ?_
        exact mw_sub [1, 0] rfl (hk8 x1 S)
    · refine mw_iload 3 dX12_frame_94 rfl ?_
      refine mw_aload_n 0 dX12_frame_96 rfl rfl ?_
      refine gf_RX12_101 mk_69 dX12_frame_97 ?_
      refine mw_iload_n 1 dX12_frame_100 rfl rfl ?_
      refine mw_iconst (v := (2 : Int32)) dX12_frame_101 (by decide) ?_
      refine mw_iadd dX12_frame_102 ?_
      refine mw_iload 4 dX12_frame_103 rfl ?_
      refine mw_iadd dX12_frame_105 ?_
      refine mw_iaload mk_96 ml_96 dX12_frame_106 ?_
      refine mw_sipush (v := (255 : Int32)) dX12_frame_107 (by decide) ?_
      refine mw_iand dX12_frame_110 ?_
      refine mw_iadd dX12_frame_111 ?_
      refine mw_bndI (fun x2 => ?_)
      refine mw_istore (lv' := [(4, .int x2), (0, .ref (X.2.1 69)), (2, .int y2), (3, .int y3), (5, .int y5)]) dX12_frame_112 (by decide) rfl ?_
      refine mw_iincB (lvf := fun x3 => [(5, .int x3), (4, .int x2), (0, .ref (X.2.1 69)), (2, .int y2), (3, .int y3)]) (k := 4) dX12_frame_114 rfl (by decide) (by decide) (fun _ => rfl) (fun x3 => ?_)
      refine mw_goto (tgt := 88) dX12_frame_117 (by decide) ?_
      exact mw_sub [2, 3, 4, 1, 0] rfl (ih y2 y3 x2 x3 S)
def f_X12_frame_42 (k8 : Int32 → mM → Option (Int32 × mM)) (y2 : Int32) (z0 : Int32) (S : mM) : Option (Int32 × mM) :=
  if 0 ≤ y2 ∧ y2.toNatClampNeg < 20 then
  (if ((S.1 96 y2.toNatClampNeg) &&& (255 : Int32)) = (85 : Int32) then
    mBind (f_X12_in z0.toInt64 (1 : Int64) (8 : Int64) S) fun r1 S2 =>
    if r1 = 0 then
      bnd (y2 + (1 : Int32)) fun x3 =>
      k8 x3 S2
    else
      if (S2.1 69 48) ≤ ((y2 + z0) + (2 : Int32)) then
        bnd (y2 + (1 : Int32)) fun x4 =>
        k8 x4 S2
      else
        f_X12_frame_88 mFuel k8 y2 z0 z0 (0 : Int32) S2
  else
    bnd (y2 + (1 : Int32)) fun x5 =>
    k8 x5 S)
  else none
set_option maxRecDepth 100000 in
set_option maxHeartbeats 4000000 in
theorem w_X12_frame_42 (X : mX) (l : Launch) (k8 : Int32 → mM → Option (Int32 × mM)) (hk8 : ∀ (y2 : Int32) (S : mM), MW X viI rm_X12_frame cX12_frame RX12 6 (some .int) l S [(0, .ref (X.2.1 69)), (2, .int y2)] [] 8 (k8 y2 S)) (y2 : Int32) (z0 : Int32) (S : mM) : MW X viI rm_X12_frame cX12_frame RX12 6 (some .int) l S [(0, .ref (X.2.1 69)), (2, .int y2)] [.int z0] 42 (f_X12_frame_42 k8 y2 z0 S) := by
  unfold f_X12_frame_42
  refine mw_istore_n (lv' := [(3, .int z0), (0, .ref (X.2.1 69)), (2, .int y2)]) dX12_frame_42 rfl (by decide) rfl ?_
  refine mw_aload_n 1 dX12_frame_43 rfl rfl ?_
  refine gf_RX12_101 mk_69 dX12_frame_44 ?_
  refine mw_iload_n 2 dX12_frame_47 rfl rfl ?_
  refine mw_iaload mk_96 ml_96 dX12_frame_48 ?_
  refine mw_sipush (v := (255 : Int32)) dX12_frame_49 (by decide) ?_
  refine mw_iand dX12_frame_52 ?_
  refine mw_bipush (v := (85 : Int32)) dX12_frame_53 (by decide) ?_
  refine mw_icmp_ne (tgt := 145) dX12_frame_55 (by decide) ?_ ?_
  · refine mw_iload_n 0 dX12_frame_58 rfl rfl ?_
    refine mw_i2l dX12_frame_59 ?_
    refine mw_lconst (v := (1 : Int64)) dX12_frame_60 (by decide) ?_
    refine mw_ldc2 cl_RX12_300 dX12_frame_61 ?_
    refine mw_callS (t_X12_in X l z0.toInt64 (1 : Int64) (8 : Int64) S) cd_X12_in lk_RX12_115 sn_X12_in in_RX12 de_X12_in ⟨rfl, rfl⟩ ⟨Nat.le_of_ble_eq_true rfl, Nat.le_of_ble_eq_true rfl⟩ rfl rfl ⟨Nat.le_of_ble_eq_true rfl, Nat.le_of_ble_eq_true rfl⟩ (Nat.le_of_ble_eq_true rfl) dX12_frame_64 (fun r1 S2 => ?_)
    refine mw_eq (st' := [.int r1]) rfl rfl ?_
    refine mw_if_eq (tgt := 145) dX12_frame_67 (by decide) ?_ ?_
    · refine mw_iincB (lvf := fun x3 => [(2, .int x3), (3, .int z0), (0, .ref (X.2.1 69))]) (k := 2) dX12_frame_145 rfl (by decide) (by decide) (fun _ => rfl) (fun x3 => ?_)
      refine mw_goto (tgt := 8) dX12_frame_148 (by decide) ?_
      exact mw_sub [2, 0] rfl (hk8 x3 S2)
    · refine mw_iload_n 2 dX12_frame_70 rfl rfl ?_
      refine mw_iload_n 0 dX12_frame_71 rfl rfl ?_
      refine mw_iadd dX12_frame_72 ?_
      refine mw_iconst (v := (2 : Int32)) dX12_frame_73 (by decide) ?_
      refine mw_iadd dX12_frame_74 ?_
      refine mw_aload_n 1 dX12_frame_75 rfl rfl ?_
      refine gf_RX12_289 mk_69 dX12_frame_76 ?_
      refine mw_icmp_ge (tgt := 145) dX12_frame_79 (by decide) ?_ ?_
      · refine mw_iincB (lvf := fun x4 => [(2, .int x4), (3, .int z0), (0, .ref (X.2.1 69))]) (k := 2) dX12_frame_145 rfl (by decide) (by decide) (fun _ => rfl) (fun x4 => ?_)
        refine mw_goto (tgt := 8) dX12_frame_148 (by decide) ?_
        exact mw_sub [2, 0] rfl (hk8 x4 S2)
      · refine mw_iload_n 0 dX12_frame_82 rfl rfl ?_
        refine mw_istore (lv' := [(4, .int z0), (3, .int z0), (0, .ref (X.2.1 69)), (2, .int y2)]) dX12_frame_83 (by decide) rfl ?_
        refine mw_iconst (v := (0 : Int32)) dX12_frame_85 (by decide) ?_
        refine mw_istore (lv' := [(5, .int (0 : Int32)), (4, .int z0), (3, .int z0), (0, .ref (X.2.1 69)), (2, .int y2)]) dX12_frame_86 (by decide) rfl ?_
        exact mw_sub [3, 4, 2, 1, 0] rfl (w_X12_frame_88 X l mFuel k8 hk8 y2 z0 z0 (0 : Int32) S2)
  · refine mw_iincB (lvf := fun x5 => [(2, .int x5), (3, .int z0), (0, .ref (X.2.1 69))]) (k := 2) dX12_frame_145 rfl (by decide) (by decide) (fun _ => rfl) (fun x5 => ?_)
    refine mw_goto (tgt := 8) dX12_frame_148 (by decide) ?_
    exact mw_sub [2, 0] rfl (hk8 x5 S)
def f_X12_frame_8 (n : Nat) (y2 : Int32) (S : mM) : Option (Int32 × mM) := match n with
  | 0 => none
  | n + 1 =>
    if (S.1 69 48) ≤ y2 then
      some ((-4 : Int32), S)
    else
      if (S.1 69 48) ≤ (y2 + (1 : Int32)) then
        f_X12_frame_42 (f_X12_frame_8 n) y2 (0 : Int32) S
      else
        if 0 ≤ (y2 + (1 : Int32)) ∧ (y2 + (1 : Int32)).toNatClampNeg < 20 then
        (f_X12_frame_42 (f_X12_frame_8 n) y2 ((S.1 96 (y2 + (1 : Int32)).toNatClampNeg) &&& (255 : Int32)) S)
        else none
set_option maxRecDepth 100000 in
set_option maxHeartbeats 4000000 in
theorem w_X12_frame_8 (X : mX) (l : Launch) (n : Nat) (y2 : Int32) (S : mM) : MW X viI rm_X12_frame cX12_frame RX12 6 (some .int) l S [(0, .ref (X.2.1 69)), (2, .int y2)] [] 8 (f_X12_frame_8 n y2 S) := by
  induction n generalizing y2 S with
  | zero => exact mw_none
  | succ n ih =>
    unfold f_X12_frame_8
    refine mw_iload_n 1 dX12_frame_8 rfl rfl ?_
    refine mw_aload_n 0 dX12_frame_9 rfl rfl ?_
    refine gf_RX12_289 mk_69 dX12_frame_10 ?_
    refine mw_icmp_ge (tgt := 151) dX12_frame_13 (by decide) ?_ ?_
    · refine mw_bipush (v := (-4 : Int32)) dX12_frame_151 (by decide) ?_
      exact mw_ireturn dX12_frame_153
    · refine mw_iload_n 1 dX12_frame_16 rfl rfl ?_
      refine mw_iconst (v := (1 : Int32)) dX12_frame_17 (by decide) ?_
      refine mw_iadd dX12_frame_18 ?_
      refine mw_aload_n 0 dX12_frame_19 rfl rfl ?_
      refine gf_RX12_289 mk_69 dX12_frame_20 ?_
      refine mw_icmp_ge (tgt := 41) dX12_frame_23 (by decide) ?_ ?_
      · refine mw_iconst (v := (0 : Int32)) dX12_frame_41 (by decide) ?_
        exact mw_sub [0, 1] rfl (w_X12_frame_42 X l (f_X12_frame_8 n) ih y2 (0 : Int32) S)
      · refine mw_aload_n 0 dX12_frame_26 rfl rfl ?_
        refine gf_RX12_101 mk_69 dX12_frame_27 ?_
        refine mw_iload_n 1 dX12_frame_30 rfl rfl ?_
        refine mw_iconst (v := (1 : Int32)) dX12_frame_31 (by decide) ?_
        refine mw_iadd dX12_frame_32 ?_
        refine mw_iaload mk_96 ml_96 dX12_frame_33 ?_
        refine mw_sipush (v := (255 : Int32)) dX12_frame_34 (by decide) ?_
        refine mw_iand dX12_frame_37 ?_
        refine mw_goto (tgt := 42) dX12_frame_38 (by decide) ?_
        exact mw_sub [0, 1] rfl (w_X12_frame_42 X l (f_X12_frame_8 n) ih y2 ((S.1 96 (y2 + (1 : Int32)).toNatClampNeg) &&& (255 : Int32)) S)
def f_X12_frame (p1 : Int32) (S : mM) : Option (Int32 × mM) :=
  if 0 ≤ p1 then
    f_X12_frame_8 mFuel p1 S
  else
    some ((-1 : Int32), S)
set_option maxRecDepth 100000 in
set_option maxHeartbeats 4000000 in
theorem w_X12_frame (X : mX) (l : Launch) (p1 : Int32) (S : mM) : MW X viI rm_X12_frame cX12_frame RX12 6 (some .int) l S [(0, .ref (X.2.1 69)), (1, .int p1)] [] 0 (f_X12_frame p1 S) := by
  unfold f_X12_frame
  refine mw_iload_n 1 dX12_frame_0 rfl rfl ?_
  refine mw_if_ge (tgt := 6) dX12_frame_1 (by decide) ?_ ?_
  · refine mw_iload_n 1 dX12_frame_6 rfl rfl ?_
    refine mw_istore_n (lv' := [(2, .int p1), (0, .ref (X.2.1 69)), (1, .int p1)]) dX12_frame_7 rfl (by decide) rfl ?_
    exact mw_sub [1, 0] rfl (w_X12_frame_8 X l mFuel p1 S)
  · refine mw_iconst (v := (-1 : Int32)) dX12_frame_4 (by decide) ?_
    exact mw_ireturn dX12_frame_5
theorem t_X12_frame (X : mX) (l : Launch) (p1 : Int32) (S : mM) : mMet X viI yX12_frame cX12_frame 6 (some .int) rm_X12_frame [.ref (X.2.1 69), .int p1] l S (f_X12_frame p1 S) :=
  mMet_of (by decide +kernel) rfl (Nat.le_of_ble_eq_true rfl) (w_X12_frame X l p1 S )
/-! TraceBenchModel.got(I)I -/
def f_X12_got (p1 : Int32) (S : mM) : Option (Int32 × mM) :=
  mBind (f_X12_in p1.toInt64 (0 : Int64) (((S.1 69 48) - (1 : Int32)).toInt64) S) fun r1 S2 =>
  if r1 = 0 then
    some ((-1 : Int32), S2)
  else
    if 0 ≤ p1 ∧ p1.toNatClampNeg < 20 then
    (some ((S2.1 96 p1.toNatClampNeg), S2))
    else none
set_option maxRecDepth 100000 in
set_option maxHeartbeats 4000000 in
theorem w_X12_got (X : mX) (l : Launch) (p1 : Int32) (S : mM) : MW X viI rm_X12_got cX12_got RX12 2 (some .int) l S [(0, .ref (X.2.1 69)), (1, .int p1)] [] 0 (f_X12_got p1 S) := by
  unfold f_X12_got
  refine mw_iload_n 1 dX12_got_0 rfl rfl ?_
  refine mw_i2l dX12_got_1 ?_
  refine mw_lconst (v := (0 : Int64)) dX12_got_2 (by decide) ?_
  refine mw_aload_n 0 dX12_got_3 rfl rfl ?_
  refine gf_RX12_289 mk_69 dX12_got_4 ?_
  refine mw_iconst (v := (1 : Int32)) dX12_got_7 (by decide) ?_
  refine mw_isub dX12_got_8 ?_
  refine mw_i2l dX12_got_9 ?_
  refine mw_callS (t_X12_in X l p1.toInt64 (0 : Int64) (((S.1 69 48) - (1 : Int32)).toInt64) S) cd_X12_in lk_RX12_115 sn_X12_in in_RX12 de_X12_in ⟨rfl, rfl⟩ ⟨Nat.le_of_ble_eq_true rfl, Nat.le_of_ble_eq_true rfl⟩ rfl rfl ⟨Nat.le_of_ble_eq_true rfl, Nat.le_of_ble_eq_true rfl⟩ (Nat.le_of_ble_eq_true rfl) dX12_got_10 (fun r1 S2 => ?_)
  refine mw_eq (st' := [.int r1]) rfl rfl ?_
  refine mw_if_eq (tgt := 25) dX12_got_13 (by decide) ?_ ?_
  · refine mw_iconst (v := (-1 : Int32)) dX12_got_25 (by decide) ?_
    exact mw_ireturn dX12_got_26
  · refine mw_aload_n 0 dX12_got_16 rfl rfl ?_
    refine gf_RX12_101 mk_69 dX12_got_17 ?_
    refine mw_iload_n 1 dX12_got_20 rfl rfl ?_
    refine mw_iaload mk_96 ml_96 dX12_got_21 ?_
    refine mw_goto (tgt := 26) dX12_got_22 (by decide) ?_
    exact mw_ireturn dX12_got_26
theorem t_X12_got (X : mX) (l : Launch) (p1 : Int32) (S : mM) : mMet X viI yX12_got cX12_got 2 (some .int) rm_X12_got [.ref (X.2.1 69), .int p1] l S (f_X12_got p1 S) :=
  mMet_of (by decide +kernel) rfl (Nat.le_of_ble_eq_true rfl) (w_X12_got X l p1 S )
/-! TraceBenchModel.keep(II)I -/
def f_X12_keep (p1 : Int32) (p2 : Int32) (S : mM) : Option (Int32 × mM) :=
  mBind (f_X12_in p1.toInt64 (0 : Int64) (100 : Int64) S) fun r1 S2 =>
  if r1 = 0 then
    some ((-1 : Int32), S2)
  else
    mBind (f_X12_in p2.toInt64 (0 : Int64) (100 : Int64) S2) fun r3 S4 =>
    if r3 = 0 then
      some ((-1 : Int32), S4)
    else
      if (S4.1 69 25) = (1 : Int32) then
        some ((-2 : Int32), S4)
      else
        if (S4.1 69 25) = (2 : Int32) then
          some ((-2 : Int32), S4)
        else
          bnd (setI S4 69 26 p1) fun S5 =>
          bnd (setI S5 69 27 p2) fun S6 =>
          some ((1 : Int32), S6)
set_option maxRecDepth 100000 in
set_option maxHeartbeats 4000000 in
theorem w_X12_keep (X : mX) (l : Launch) (p1 : Int32) (p2 : Int32) (S : mM) : MW X viI rm_X12_keep cX12_keep RX12 3 (some .int) l S [(0, .ref (X.2.1 69)), (1, .int p1), (2, .int p2)] [] 0 (f_X12_keep p1 p2 S) := by
  unfold f_X12_keep
  refine mw_iload_n 1 dX12_keep_0 rfl rfl ?_
  refine mw_i2l dX12_keep_1 ?_
  refine mw_lconst (v := (0 : Int64)) dX12_keep_2 (by decide) ?_
  refine mw_ldc2 cl_RX12_201 dX12_keep_3 ?_
  refine mw_callS (t_X12_in X l p1.toInt64 (0 : Int64) (100 : Int64) S) cd_X12_in lk_RX12_115 sn_X12_in in_RX12 de_X12_in ⟨rfl, rfl⟩ ⟨Nat.le_of_ble_eq_true rfl, Nat.le_of_ble_eq_true rfl⟩ rfl rfl ⟨Nat.le_of_ble_eq_true rfl, Nat.le_of_ble_eq_true rfl⟩ (Nat.le_of_ble_eq_true rfl) dX12_keep_6 (fun r1 S2 => ?_)
  refine mw_eq (st' := [.int r1]) rfl rfl ?_
  refine mw_if_eq (tgt := 24) dX12_keep_9 (by decide) ?_ ?_
  · refine mw_iconst (v := (-1 : Int32)) dX12_keep_24 (by decide) ?_
    exact mw_ireturn dX12_keep_25
  · refine mw_iload_n 2 dX12_keep_12 rfl rfl ?_
    refine mw_i2l dX12_keep_13 ?_
    refine mw_lconst (v := (0 : Int64)) dX12_keep_14 (by decide) ?_
    refine mw_ldc2 cl_RX12_201 dX12_keep_15 ?_
    refine mw_callS (t_X12_in X l p2.toInt64 (0 : Int64) (100 : Int64) S2) cd_X12_in lk_RX12_115 sn_X12_in in_RX12 de_X12_in ⟨rfl, rfl⟩ ⟨Nat.le_of_ble_eq_true rfl, Nat.le_of_ble_eq_true rfl⟩ rfl rfl ⟨Nat.le_of_ble_eq_true rfl, Nat.le_of_ble_eq_true rfl⟩ (Nat.le_of_ble_eq_true rfl) dX12_keep_18 (fun r3 S4 => ?_)
    refine mw_eq (st' := [.int r3]) rfl rfl ?_
    refine mw_if_ne (tgt := 26) dX12_keep_21 (by decide) ?_ ?_
    · refine mw_iconst (v := (-1 : Int32)) dX12_keep_24 (by decide) ?_
      exact mw_ireturn dX12_keep_25
    · refine mw_aload_n 0 dX12_keep_26 rfl rfl ?_
      refine gf_RX12_198 mk_69 dX12_keep_27 ?_
      refine mw_iconst (v := (1 : Int32)) dX12_keep_30 (by decide) ?_
      refine mw_icmp_eq (tgt := 42) dX12_keep_31 (by decide) ?_ ?_
      · refine mw_bipush (v := (-2 : Int32)) dX12_keep_42 (by decide) ?_
        exact mw_ireturn dX12_keep_44
      · refine mw_aload_n 0 dX12_keep_34 rfl rfl ?_
        refine gf_RX12_198 mk_69 dX12_keep_35 ?_
        refine mw_iconst (v := (2 : Int32)) dX12_keep_38 (by decide) ?_
        refine mw_icmp_ne (tgt := 45) dX12_keep_39 (by decide) ?_ ?_
        · refine mw_bipush (v := (-2 : Int32)) dX12_keep_42 (by decide) ?_
          exact mw_ireturn dX12_keep_44
        · refine mw_aload_n 0 dX12_keep_45 rfl rfl ?_
          refine mw_iload_n 1 dX12_keep_46 rfl rfl ?_
          refine pf_RX12_53 mk_69 dX12_keep_47 ?_
          refine mw_bndS (fun S5 => ?_)
          refine mw_aload_n 0 dX12_keep_50 rfl rfl ?_
          refine mw_iload_n 2 dX12_keep_51 rfl rfl ?_
          refine pf_RX12_57 mk_69 dX12_keep_52 ?_
          refine mw_bndS (fun S6 => ?_)
          refine mw_iconst (v := (1 : Int32)) dX12_keep_55 (by decide) ?_
          exact mw_ireturn dX12_keep_56
theorem t_X12_keep (X : mX) (l : Launch) (p1 : Int32) (p2 : Int32) (S : mM) : mMet X viI yX12_keep cX12_keep 3 (some .int) rm_X12_keep [.ref (X.2.1 69), .int p1, .int p2] l S (f_X12_keep p1 p2 S) :=
  mMet_of (by decide +kernel) rfl (Nat.le_of_ble_eq_true rfl) (w_X12_keep X l p1 p2 S )
/-! TraceBenchModel.lay(III)I -/
def f_X12_lay (p1 : Int32) (p2 : Int32) (p3 : Int32) (S : mM) : Option (Int32 × mM) :=
  mBind (f_X12_in p1.toInt64 (0 : Int64) (3 : Int64) S) fun r1 S2 =>
  if r1 = 0 then
    some ((-1 : Int32), S2)
  else
    if 0 ≤ p1 ∧ p1.toNatClampNeg < 4 then
    (if (S2.1 88 p1.toNatClampNeg) = (-4 : Int32) then
      some ((-11 : Int32), S2)
    else
      if 0 ≤ p1 ∧ p1.toNatClampNeg < 4 then
      (mBind (f_X12_in p2.toInt64 (0 : Int64) (((S2.1 89 p1.toNatClampNeg) - (1 : Int32)).toInt64) S2) fun r3 S4 =>
      if r3 = 0 then
        some ((-12 : Int32), S4)
      else
        if 0 ≤ p1 ∧ p1.toNatClampNeg < 4 then
        (if (S4.1 88 p1.toNatClampNeg) = 0 then
          if 0 ≤ (((64 : Int32) * p1) + p2) ∧ (((64 : Int32) * p1) + p2).toNatClampNeg < 256 then
          (bnd (setI S4 90 (((64 : Int32) * p1) + p2).toNatClampNeg p3.toInt8.toInt32) fun S5 =>
          some ((1 : Int32), S5))
          else none
        else
          if 0 ≤ p1 ∧ p1.toNatClampNeg < 4 then
          (if (S4.1 88 p1.toNatClampNeg) = (1 : Int32) then
            if 0 ≤ (((64 : Int32) * p1) + p2) ∧ (((64 : Int32) * p1) + p2).toNatClampNeg < 256 then
            (bnd (setI S4 90 (((64 : Int32) * p1) + p2).toNatClampNeg p3.toInt16.toInt32) fun S6 =>
            some ((1 : Int32), S6))
            else none
          else
            if 0 ≤ (((64 : Int32) * p1) + p2) ∧ (((64 : Int32) * p1) + p2).toNatClampNeg < 256 then
            (bnd (setI S4 90 (((64 : Int32) * p1) + p2).toNatClampNeg p3) fun S7 =>
            some ((1 : Int32), S7))
            else none)
          else none)
        else none)
      else none)
    else none
set_option maxRecDepth 100000 in
set_option maxHeartbeats 4000000 in
theorem w_X12_lay (X : mX) (l : Launch) (p1 : Int32) (p2 : Int32) (p3 : Int32) (S : mM) : MW X viI rm_X12_lay cX12_lay RX12 4 (some .int) l S [(0, .ref (X.2.1 69)), (1, .int p1), (2, .int p2), (3, .int p3)] [] 0 (f_X12_lay p1 p2 p3 S) := by
  unfold f_X12_lay
  refine mw_iload_n 1 dX12_lay_0 rfl rfl ?_
  refine mw_i2l dX12_lay_1 ?_
  refine mw_lconst (v := (0 : Int64)) dX12_lay_2 (by decide) ?_
  refine mw_ldc2 cl_RX12_257 dX12_lay_3 ?_
  refine mw_callS (t_X12_in X l p1.toInt64 (0 : Int64) (3 : Int64) S) cd_X12_in lk_RX12_115 sn_X12_in in_RX12 de_X12_in ⟨rfl, rfl⟩ ⟨Nat.le_of_ble_eq_true rfl, Nat.le_of_ble_eq_true rfl⟩ rfl rfl ⟨Nat.le_of_ble_eq_true rfl, Nat.le_of_ble_eq_true rfl⟩ (Nat.le_of_ble_eq_true rfl) dX12_lay_6 (fun r1 S2 => ?_)
  refine mw_eq (st' := [.int r1]) rfl rfl ?_
  refine mw_if_ne (tgt := 14) dX12_lay_9 (by decide) ?_ ?_
  · refine mw_iconst (v := (-1 : Int32)) dX12_lay_12 (by decide) ?_
    exact mw_ireturn dX12_lay_13
  · refine mw_aload_n 0 dX12_lay_14 rfl rfl ?_
    refine gf_RX12_72 mk_69 dX12_lay_15 ?_
    refine mw_iload_n 1 dX12_lay_18 rfl rfl ?_
    refine mw_iaload mk_88 ml_88 dX12_lay_19 ?_
    refine mw_bipush (v := (-4 : Int32)) dX12_lay_20 (by decide) ?_
    refine mw_icmp_ne (tgt := 28) dX12_lay_22 (by decide) ?_ ?_
    · refine mw_bipush (v := (-11 : Int32)) dX12_lay_25 (by decide) ?_
      exact mw_ireturn dX12_lay_27
    · refine mw_iload_n 2 dX12_lay_28 rfl rfl ?_
      refine mw_i2l dX12_lay_29 ?_
      refine mw_lconst (v := (0 : Int64)) dX12_lay_30 (by decide) ?_
      refine mw_aload_n 0 dX12_lay_31 rfl rfl ?_
      refine gf_RX12_75 mk_69 dX12_lay_32 ?_
      refine mw_iload_n 1 dX12_lay_35 rfl rfl ?_
      refine mw_iaload mk_89 ml_89 dX12_lay_36 ?_
      refine mw_iconst (v := (1 : Int32)) dX12_lay_37 (by decide) ?_
      refine mw_isub dX12_lay_38 ?_
      refine mw_i2l dX12_lay_39 ?_
      refine mw_callS (t_X12_in X l p2.toInt64 (0 : Int64) (((S2.1 89 p1.toNatClampNeg) - (1 : Int32)).toInt64) S2) cd_X12_in lk_RX12_115 sn_X12_in in_RX12 de_X12_in ⟨rfl, rfl⟩ ⟨Nat.le_of_ble_eq_true rfl, Nat.le_of_ble_eq_true rfl⟩ rfl rfl ⟨Nat.le_of_ble_eq_true rfl, Nat.le_of_ble_eq_true rfl⟩ (Nat.le_of_ble_eq_true rfl) dX12_lay_40 (fun r3 S4 => ?_)
      refine mw_eq (st' := [.int r3]) rfl rfl ?_
      refine mw_if_ne (tgt := 49) dX12_lay_43 (by decide) ?_ ?_
      · refine mw_bipush (v := (-12 : Int32)) dX12_lay_46 (by decide) ?_
        exact mw_ireturn dX12_lay_48
      · refine mw_aload_n 0 dX12_lay_49 rfl rfl ?_
        refine gf_RX12_78 mk_69 dX12_lay_50 ?_
        refine mw_bipush (v := (64 : Int32)) dX12_lay_53 (by decide) ?_
        refine mw_iload_n 1 dX12_lay_55 rfl rfl ?_
        refine mw_imul dX12_lay_56 ?_
        refine mw_iload_n 2 dX12_lay_57 rfl rfl ?_
        refine mw_iadd dX12_lay_58 ?_
        refine mw_aload_n 0 dX12_lay_59 rfl rfl ?_
        refine gf_RX12_72 mk_69 dX12_lay_60 ?_
        refine mw_iload_n 1 dX12_lay_63 rfl rfl ?_
        refine mw_iaload mk_88 ml_88 dX12_lay_64 ?_
        refine mw_if_ne (tgt := 73) dX12_lay_65 (by decide) ?_ ?_
        · refine mw_iload_n 3 dX12_lay_68 rfl rfl ?_
          refine mw_i2b dX12_lay_69 ?_
          refine mw_goto (tgt := 89) dX12_lay_70 (by decide) ?_
          refine mw_iastore mk_90 ml_90 dX12_lay_89 ?_
          refine mw_bndS (fun S5 => ?_)
          refine mw_iconst (v := (1 : Int32)) dX12_lay_90 (by decide) ?_
          exact mw_ireturn dX12_lay_91
        · refine mw_aload_n 0 dX12_lay_73 rfl rfl ?_
          refine gf_RX12_72 mk_69 dX12_lay_74 ?_
          refine mw_iload_n 1 dX12_lay_77 rfl rfl ?_
          refine mw_iaload mk_88 ml_88 dX12_lay_78 ?_
          refine mw_iconst (v := (1 : Int32)) dX12_lay_79 (by decide) ?_
          refine mw_icmp_ne (tgt := 88) dX12_lay_80 (by decide) ?_ ?_
          · refine mw_iload_n 3 dX12_lay_83 rfl rfl ?_
            refine mw_i2s dX12_lay_84 ?_
            refine mw_goto (tgt := 89) dX12_lay_85 (by decide) ?_
            refine mw_iastore mk_90 ml_90 dX12_lay_89 ?_
            refine mw_bndS (fun S6 => ?_)
            refine mw_iconst (v := (1 : Int32)) dX12_lay_90 (by decide) ?_
            exact mw_ireturn dX12_lay_91
          · refine mw_iload_n 3 dX12_lay_88 rfl rfl ?_
            refine mw_iastore mk_90 ml_90 dX12_lay_89 ?_
            refine mw_bndS (fun S7 => ?_)
            refine mw_iconst (v := (1 : Int32)) dX12_lay_90 (by decide) ?_
            exact mw_ireturn dX12_lay_91
theorem t_X12_lay (X : mX) (l : Launch) (p1 : Int32) (p2 : Int32) (p3 : Int32) (S : mM) : mMet X viI yX12_lay cX12_lay 4 (some .int) rm_X12_lay [.ref (X.2.1 69), .int p1, .int p2, .int p3] l S (f_X12_lay p1 p2 p3 S) :=
  mMet_of (by decide +kernel) rfl (Nat.le_of_ble_eq_true rfl) (w_X12_lay X l p1 p2 p3 S )
/-! TraceBenchModel.look()I -/
def f_X12_look (S : mM) : Option (Int32 × mM) :=
  if (S.1 69 1) ≤ (S.1 69 20) then
    some ((-1 : Int32), S)
  else
    if 0 ≤ (S.1 69 20) ∧ (S.1 69 20).toNatClampNeg < 200 then
    (some ((S.1 70 (S.1 69 20).toNatClampNeg), S))
    else none
set_option maxRecDepth 100000 in
set_option maxHeartbeats 4000000 in
theorem w_X12_look (X : mX) (l : Launch) (S : mM) : MW X viI rm_X12_look cX12_look RX12 1 (some .int) l S [(0, .ref (X.2.1 69))] [] 0 (f_X12_look  S) := by
  unfold f_X12_look
  refine mw_aload_n 0 dX12_look_0 rfl rfl ?_
  refine gf_RX12_125 mk_69 dX12_look_1 ?_
  refine mw_aload_n 0 dX12_look_4 rfl rfl ?_
  refine gf_RX12_110 mk_69 dX12_look_5 ?_
  refine mw_icmp_ge (tgt := 23) dX12_look_8 (by decide) ?_ ?_
  · refine mw_iconst (v := (-1 : Int32)) dX12_look_23 (by decide) ?_
    exact mw_ireturn dX12_look_24
  · refine mw_aload_n 0 dX12_look_11 rfl rfl ?_
    refine gf_RX12_7 mk_69 dX12_look_12 ?_
    refine mw_aload_n 0 dX12_look_15 rfl rfl ?_
    refine gf_RX12_125 mk_69 dX12_look_16 ?_
    refine mw_iaload mk_70 ml_70 dX12_look_19 ?_
    refine mw_goto (tgt := 24) dX12_look_20 (by decide) ?_
    exact mw_ireturn dX12_look_24
theorem t_X12_look (X : mX) (l : Launch) (S : mM) : mMet X viI yX12_look cX12_look 1 (some .int) rm_X12_look [.ref (X.2.1 69)] l S (f_X12_look  S) :=
  mMet_of (by decide +kernel) rfl (Nat.le_of_ble_eq_true rfl) (w_X12_look X l  S )
/-! TraceBenchModel.mask(IIIIII)I -/
def f_X12_mask_198 (k113 : Int32 → Int32 → Int32 → Int32 → Int32 → Int32 → Int32 → Int32 → mM → Option (Int32 × mM)) (y1 : Int32) (y2 : Int32) (y3 : Int32) (y5 : Int32) (y6 : Int32) (y7 : Int32) (y8 : Int32) (y9 : Int32) (y10 : Int64) (S : mM) : Option (Int32 × mM) :=
  if y7 = 0 then
    bnd y10.toInt32 fun x1 =>
    bnd (y7 + (1 : Int32)) fun x2 =>
    bnd (y9 + (1 : Int32)) fun x3 =>
    k113 y1 y2 y3 y5 y6 x2 x1 x3 S
  else
    bnd (y7 + (1 : Int32)) fun x4 =>
    bnd (y9 + (1 : Int32)) fun x5 =>
    k113 y1 y2 y3 y5 y6 x4 y8 x5 S
set_option maxRecDepth 100000 in
set_option maxHeartbeats 4000000 in
theorem w_X12_mask_198 (X : mX) (l : Launch) (k113 : Int32 → Int32 → Int32 → Int32 → Int32 → Int32 → Int32 → Int32 → mM → Option (Int32 × mM)) (hk113 : ∀ (y1 : Int32) (y2 : Int32) (y3 : Int32) (y5 : Int32) (y6 : Int32) (y7 : Int32) (y8 : Int32) (y9 : Int32) (S : mM), MW X viI rm_X12_mask cX12_mask RX12 13 (some .int) l S [(0, .ref (X.2.1 69)), (1, .int y1), (2, .int y2), (3, .int y3), (5, .int y5), (6, .int y6), (7, .int y7), (8, .int y8), (9, .int y9)] [] 113 (k113 y1 y2 y3 y5 y6 y7 y8 y9 S)) (y1 : Int32) (y2 : Int32) (y3 : Int32) (y5 : Int32) (y6 : Int32) (y7 : Int32) (y8 : Int32) (y9 : Int32) (y10 : Int64) (S : mM) : MW X viI rm_X12_mask cX12_mask RX12 13 (some .int) l S [(0, .ref (X.2.1 69)), (1, .int y1), (2, .int y2), (3, .int y3), (5, .int y5), (6, .int y6), (7, .int y7), (8, .int y8), (9, .int y9), (10, .long y10)] [] 198 (f_X12_mask_198 k113 y1 y2 y3 y5 y6 y7 y8 y9 y10 S) := by
  unfold f_X12_mask_198
  refine mw_iload 6 dX12_mask_198 rfl ?_
  refine mw_if_ne (tgt := 209) dX12_mask_200 (by decide) ?_ ?_
  · refine mw_lload 9 dX12_mask_203 rfl ?_
    refine mw_l2i dX12_mask_205 ?_
    refine mw_goto (tgt := 211) dX12_mask_206 (by decide) ?_
    refine mw_bndI (fun x1 => ?_)
    refine mw_istore (lv' := [(8, .int x1), (0, .ref (X.2.1 69)), (1, .int y1), (2, .int y2), (3, .int y3), (5, .int y5), (6, .int y6), (7, .int y7), (9, .int y9), (10, .long y10)]) dX12_mask_211 (by decide) rfl ?_
    refine mw_iincB (lvf := fun x2 => [(7, .int x2), (8, .int x1), (0, .ref (X.2.1 69)), (1, .int y1), (2, .int y2), (3, .int y3), (5, .int y5), (6, .int y6), (9, .int y9), (10, .long y10)]) (k := 7) dX12_mask_213 rfl (by decide) (by decide) (fun _ => rfl) (fun x2 => ?_)
    refine mw_iincB (lvf := fun x3 => [(9, .int x3), (7, .int x2), (8, .int x1), (0, .ref (X.2.1 69)), (1, .int y1), (2, .int y2), (3, .int y3), (5, .int y5), (6, .int y6), (10, .long y10)]) (k := 8) dX12_mask_216 rfl (by decide) (by decide) (fun _ => rfl) (fun x3 => ?_)
    refine mw_goto (tgt := 113) dX12_mask_219 (by decide) ?_
    exact mw_sub [3, 4, 5, 6, 7, 8, 1, 2, 0] rfl (hk113 y1 y2 y3 y5 y6 x2 x1 x3 S)
  · refine mw_iload 7 dX12_mask_209 rfl ?_
    refine mw_istore (lv' := [(8, .int y8), (0, .ref (X.2.1 69)), (1, .int y1), (2, .int y2), (3, .int y3), (5, .int y5), (6, .int y6), (7, .int y7), (9, .int y9), (10, .long y10)]) dX12_mask_211 (by decide) rfl ?_
    refine mw_iincB (lvf := fun x4 => [(7, .int x4), (8, .int y8), (0, .ref (X.2.1 69)), (1, .int y1), (2, .int y2), (3, .int y3), (5, .int y5), (6, .int y6), (9, .int y9), (10, .long y10)]) (k := 7) dX12_mask_213 rfl (by decide) (by decide) (fun _ => rfl) (fun x4 => ?_)
    refine mw_iincB (lvf := fun x5 => [(9, .int x5), (7, .int x4), (8, .int y8), (0, .ref (X.2.1 69)), (1, .int y1), (2, .int y2), (3, .int y3), (5, .int y5), (6, .int y6), (10, .long y10)]) (k := 8) dX12_mask_216 rfl (by decide) (by decide) (fun _ => rfl) (fun x5 => ?_)
    refine mw_goto (tgt := 113) dX12_mask_219 (by decide) ?_
    exact mw_sub [3, 4, 5, 6, 7, 8, 1, 2, 0] rfl (hk113 y1 y2 y3 y5 y6 x4 y8 x5 S)
def f_X12_mask_113 (n : Nat) (y1 : Int32) (y2 : Int32) (y3 : Int32) (y5 : Int32) (y6 : Int32) (y7 : Int32) (y8 : Int32) (y9 : Int32) (S : mM) : Option (Int32 × mM) := match n with
  | 0 => none
  | n + 1 =>
    if y6 ≤ y9 then
      bnd (setI S 69 42 y8) fun S1 =>
      some (y7, S1)
    else
      bnd (y5.toInt64 + y9.toInt64) fun x2 =>
      if 0 ≤ y1 ∧ y1.toNatClampNeg < 8 then
      (mBind (f_X12_in x2 (0 : Int64) ((S.1 85 y1.toNatClampNeg).toInt64 - (1 : Int64)) S) fun r3 S4 =>
      if r3 = 0 then
        bnd (y9 + (1 : Int32)) fun x5 =>
        f_X12_mask_113 n y1 y2 y3 y5 y6 y7 y8 x5 S4
      else
        mBind (f_X12_valueAt y1 y2 x2.toInt32 S4) fun r6 S7 =>
        if 0 ≤ (((64 : Int32) * y3) + ((2 : Int32) * y9)) ∧ (((64 : Int32) * y3) + ((2 : Int32) * y9)).toNatClampNeg < 256 then
        (if r6 < (S7.1 90 (((64 : Int32) * y3) + ((2 : Int32) * y9)).toNatClampNeg) then
          f_X12_mask_198 (f_X12_mask_113 n) y1 y2 y3 y5 y6 y7 y8 y9 x2 S7
        else
          if 0 ≤ ((((64 : Int32) * y3) + ((2 : Int32) * y9)) + (1 : Int32)) ∧ ((((64 : Int32) * y3) + ((2 : Int32) * y9)) + (1 : Int32)).toNatClampNeg < 256 then
          (if r6 ≤ (S7.1 90 ((((64 : Int32) * y3) + ((2 : Int32) * y9)) + (1 : Int32)).toNatClampNeg) then
            bnd (y9 + (1 : Int32)) fun x8 =>
            f_X12_mask_113 n y1 y2 y3 y5 y6 y7 y8 x8 S7
          else
            f_X12_mask_198 (f_X12_mask_113 n) y1 y2 y3 y5 y6 y7 y8 y9 x2 S7)
          else none)
        else none)
      else none
set_option maxRecDepth 100000 in
set_option maxHeartbeats 4000000 in
theorem w_X12_mask_113 (X : mX) (l : Launch) (n : Nat) (y1 : Int32) (y2 : Int32) (y3 : Int32) (y5 : Int32) (y6 : Int32) (y7 : Int32) (y8 : Int32) (y9 : Int32) (S : mM) : MW X viI rm_X12_mask cX12_mask RX12 13 (some .int) l S [(0, .ref (X.2.1 69)), (1, .int y1), (2, .int y2), (3, .int y3), (5, .int y5), (6, .int y6), (7, .int y7), (8, .int y8), (9, .int y9)] [] 113 (f_X12_mask_113 n y1 y2 y3 y5 y6 y7 y8 y9 S) := by
  induction n generalizing y1 y2 y3 y5 y6 y7 y8 y9 S with
  | zero => exact mw_none
  | succ n ih =>
    unfold f_X12_mask_113
    refine mw_iload 8 dX12_mask_113 rfl ?_
    refine mw_iload 5 dX12_mask_115 rfl ?_
    refine mw_icmp_ge (tgt := 222) dX12_mask_117 (by decide) ?_ ?_
    · refine mw_aload_n 0 dX12_mask_222 rfl rfl ?_
      refine mw_iload 7 dX12_mask_223 rfl ?_
      refine pf_RX12_81 mk_69 dX12_mask_225 ?_
      refine mw_bndS (fun S1 => ?_)
      refine mw_iload 6 dX12_mask_228 rfl ?_
      exact mw_ireturn dX12_mask_230
    · refine mw_iload 4 dX12_mask_120 rfl ?_
      refine mw_i2l dX12_mask_122 ?_
      refine mw_iload 8 dX12_mask_123 rfl ?_
      refine mw_i2l dX12_mask_125 ?_
      refine mw_ladd dX12_mask_126 ?_
      refine mw_bndJ (fun x2 => ?_)
      refine mw_lstore (lv' := [(10, .long x2), (0, .ref (X.2.1 69)), (1, .int y1), (2, .int y2), (3, .int y3), (5, .int y5), (6, .int y6), (7, .int y7), (8, .int y8), (9, .int y9)]) dX12_mask_127 (by decide) rfl ?_
      refine mw_lload 0 dX12_mask_129 rfl ?_
      refine mw_lconst (v := (0 : Int64)) dX12_mask_131 (by decide) ?_
      refine mw_aload_n 1 dX12_mask_132 rfl rfl ?_
      refine gf_RX12_63 mk_69 dX12_mask_133 ?_
      refine mw_iload_n 2 dX12_mask_136 rfl rfl ?_
      refine mw_iaload mk_85 ml_85 dX12_mask_137 ?_
      refine mw_i2l dX12_mask_138 ?_
      refine mw_lconst (v := (1 : Int64)) dX12_mask_139 (by decide) ?_
      refine mw_lsub dX12_mask_140 ?_
      refine mw_callS (t_X12_in X l x2 (0 : Int64) ((S.1 85 y1.toNatClampNeg).toInt64 - (1 : Int64)) S) cd_X12_in lk_RX12_115 sn_X12_in in_RX12 de_X12_in ⟨rfl, rfl⟩ ⟨Nat.le_of_ble_eq_true rfl, Nat.le_of_ble_eq_true rfl⟩ rfl rfl ⟨Nat.le_of_ble_eq_true rfl, Nat.le_of_ble_eq_true rfl⟩ (Nat.le_of_ble_eq_true rfl) dX12_mask_141 (fun r3 S4 => ?_)
      refine mw_eq (st' := [.int r3]) rfl rfl ?_
      refine mw_if_eq (tgt := 216) dX12_mask_144 (by decide) ?_ ?_
      · refine mw_iincB (lvf := fun x5 => [(9, .int x5), (10, .long x2), (0, .ref (X.2.1 69)), (1, .int y1), (2, .int y2), (3, .int y3), (5, .int y5), (6, .int y6), (7, .int y7), (8, .int y8)]) (k := 9) dX12_mask_216 rfl (by decide) (by decide) (fun _ => rfl) (fun x5 => ?_)
        refine mw_goto (tgt := 113) dX12_mask_219 (by decide) ?_
        exact mw_sub [2, 3, 4, 5, 6, 7, 8, 9, 0] rfl (ih y1 y2 y3 y5 y6 y7 y8 x5 S4)
      · refine mw_aload_n 1 dX12_mask_147 rfl rfl ?_
        refine mw_iload_n 2 dX12_mask_148 rfl rfl ?_
        refine mw_iload_n 3 dX12_mask_149 rfl rfl ?_
        refine mw_lload 0 dX12_mask_150 rfl ?_
        refine mw_l2i dX12_mask_152 ?_
        refine mw_callV (t_X12_valueAt X l y1 y2 x2.toInt32 S4) cd_X12_valueAt lk_RX12_266 im_X12_valueAt se_X12_valueAt in_RX12 de_X12_valueAt ⟨rfl, rfl⟩ ⟨Nat.le_of_ble_eq_true rfl, Nat.le_of_ble_eq_true rfl⟩ (mKind_lt mk_69 (by decide)) (mCell_k mk_69) rfl rfl rfl rfl ⟨Nat.le_of_ble_eq_true rfl, Nat.le_of_ble_eq_true rfl⟩ (Nat.le_of_ble_eq_true rfl) dX12_mask_153 (fun r6 S7 => ?_)
        refine mw_eq (st' := [.int r6]) rfl rfl ?_
        refine mw_istore (lv' := [(12, .int r6), (10, .long x2), (0, .ref (X.2.1 69)), (1, .int y1), (2, .int y2), (3, .int y3), (5, .int y5), (6, .int y6), (7, .int y7), (8, .int y8), (9, .int y9)]) dX12_mask_156 (by decide) rfl ?_
        refine mw_iload 0 dX12_mask_158 rfl ?_
        refine mw_aload_n 2 dX12_mask_160 rfl rfl ?_
        refine gf_RX12_78 mk_69 dX12_mask_161 ?_
        refine mw_bipush (v := (64 : Int32)) dX12_mask_164 (by decide) ?_
        refine mw_iload_n 5 dX12_mask_166 rfl rfl ?_
        refine mw_imul dX12_mask_167 ?_
        refine mw_iconst (v := (2 : Int32)) dX12_mask_168 (by decide) ?_
        refine mw_iload 10 dX12_mask_169 rfl ?_
        refine mw_imul dX12_mask_171 ?_
        refine mw_iadd dX12_mask_172 ?_
        refine mw_iaload mk_90 ml_90 dX12_mask_173 ?_
        refine mw_icmp_lt (tgt := 198) dX12_mask_174 (by decide) ?_ ?_
        · exact mw_sub [2, 3, 4, 5, 6, 7, 8, 9, 10, 1] rfl (w_X12_mask_198 X l (f_X12_mask_113 n) ih y1 y2 y3 y5 y6 y7 y8 y9 x2 S7)
        · refine mw_iload 0 dX12_mask_177 rfl ?_
          refine mw_aload_n 2 dX12_mask_179 rfl rfl ?_
          refine gf_RX12_78 mk_69 dX12_mask_180 ?_
          refine mw_bipush (v := (64 : Int32)) dX12_mask_183 (by decide) ?_
          refine mw_iload_n 5 dX12_mask_185 rfl rfl ?_
          refine mw_imul dX12_mask_186 ?_
          refine mw_iconst (v := (2 : Int32)) dX12_mask_187 (by decide) ?_
          refine mw_iload 10 dX12_mask_188 rfl ?_
          refine mw_imul dX12_mask_190 ?_
          refine mw_iadd dX12_mask_191 ?_
          refine mw_iconst (v := (1 : Int32)) dX12_mask_192 (by decide) ?_
          refine mw_iadd dX12_mask_193 ?_
          refine mw_iaload mk_90 ml_90 dX12_mask_194 ?_
          refine mw_icmp_le (tgt := 216) dX12_mask_195 (by decide) ?_ ?_
          · refine mw_iincB (lvf := fun x8 => [(9, .int x8), (12, .int r6), (10, .long x2), (0, .ref (X.2.1 69)), (1, .int y1), (2, .int y2), (3, .int y3), (5, .int y5), (6, .int y6), (7, .int y7), (8, .int y8)]) (k := 10) dX12_mask_216 rfl (by decide) (by decide) (fun _ => rfl) (fun x8 => ?_)
            refine mw_goto (tgt := 113) dX12_mask_219 (by decide) ?_
            exact mw_sub [3, 4, 5, 6, 7, 8, 9, 10, 0] rfl (ih y1 y2 y3 y5 y6 y7 y8 x8 S7)
          · exact mw_sub [2, 3, 4, 5, 6, 7, 8, 9, 10, 1] rfl (w_X12_mask_198 X l (f_X12_mask_113 n) ih y1 y2 y3 y5 y6 y7 y8 y9 x2 S7)
def f_X12_mask (p1 : Int32) (p2 : Int32) (p3 : Int32) (p4 : Int32) (p5 : Int32) (p6 : Int32) (S : mM) : Option (Int32 × mM) :=
  mBind (f_X12_isSegment p1 S) fun r1 S2 =>
  if r1 = 0 then
    some ((-1 : Int32), S2)
  else
    mBind (f_X12_in p2.toInt64 (0 : Int64) (3 : Int64) S2) fun r3 S4 =>
    if r3 = 0 then
      some ((-1 : Int32), S4)
    else
      mBind (f_X12_in p3.toInt64 (0 : Int64) (3 : Int64) S4) fun r5 S6 =>
      if r5 = 0 then
        some ((-1 : Int32), S6)
      else
        mBind (f_X12_in p4.toInt64 (0 : Int64) (2 : Int64) S6) fun r7 S8 =>
        if r7 = 0 then
          some ((-1 : Int32), S8)
        else
          if 0 ≤ p6 then
            if 0 ≤ p3 ∧ p3.toNatClampNeg < 4 then
            (if (S8.1 88 p3.toNatClampNeg) = p4 then
              if 0 ≤ p3 ∧ p3.toNatClampNeg < 4 then
              (if (lg_cmp ((2 : Int64) * p6.toInt64) ((S8.1 89 p3.toNatClampNeg).toInt64)) ≤ 0 then
                f_X12_mask_113 mFuel p1 p2 p3 p5 p6 (0 : Int32) (-4 : Int32) (0 : Int32) S8
              else
                some ((-12 : Int32), S8))
              else none
            else
              if 0 ≤ p3 ∧ p3.toNatClampNeg < 4 then
              (if (S8.1 88 p3.toNatClampNeg) = (-4 : Int32) then
                some ((-11 : Int32), S8)
              else
                some ((-13 : Int32), S8))
              else none)
            else none
          else
            some ((-1 : Int32), S8)
set_option maxRecDepth 100000 in
set_option maxHeartbeats 4000000 in
theorem w_X12_mask (X : mX) (l : Launch) (p1 : Int32) (p2 : Int32) (p3 : Int32) (p4 : Int32) (p5 : Int32) (p6 : Int32) (S : mM) : MW X viI rm_X12_mask cX12_mask RX12 13 (some .int) l S [(0, .ref (X.2.1 69)), (1, .int p1), (2, .int p2), (3, .int p3), (4, .int p4), (5, .int p5), (6, .int p6)] [] 0 (f_X12_mask p1 p2 p3 p4 p5 p6 S) := by
  unfold f_X12_mask
  refine mw_aload_n 0 dX12_mask_0 rfl rfl ?_
  refine mw_iload_n 1 dX12_mask_1 rfl rfl ?_
  refine mw_callV (t_X12_isSegment X l p1 S) cd_X12_isSegment lk_RX12_261 im_X12_isSegment se_X12_isSegment in_RX12 de_X12_isSegment ⟨rfl, rfl⟩ ⟨Nat.le_of_ble_eq_true rfl, Nat.le_of_ble_eq_true rfl⟩ (mKind_lt mk_69 (by decide)) (mCell_k mk_69) rfl rfl rfl rfl ⟨Nat.le_of_ble_eq_true rfl, Nat.le_of_ble_eq_true rfl⟩ (Nat.le_of_ble_eq_true rfl) dX12_mask_2 (fun r1 S2 => ?_)
  refine mw_eq (st' := [.int r1]) rfl rfl ?_
  refine mw_if_eq (tgt := 50) dX12_mask_5 (by decide) ?_ ?_
  · refine mw_iconst (v := (-1 : Int32)) dX12_mask_50 (by decide) ?_
    exact mw_ireturn dX12_mask_51
  · refine mw_iload_n 2 dX12_mask_8 rfl rfl ?_
    refine mw_i2l dX12_mask_9 ?_
    refine mw_lconst (v := (0 : Int64)) dX12_mask_10 (by decide) ?_
    refine mw_ldc2 cl_RX12_257 dX12_mask_11 ?_
    refine mw_callS (t_X12_in X l p2.toInt64 (0 : Int64) (3 : Int64) S2) cd_X12_in lk_RX12_115 sn_X12_in in_RX12 de_X12_in ⟨rfl, rfl⟩ ⟨Nat.le_of_ble_eq_true rfl, Nat.le_of_ble_eq_true rfl⟩ rfl rfl ⟨Nat.le_of_ble_eq_true rfl, Nat.le_of_ble_eq_true rfl⟩ (Nat.le_of_ble_eq_true rfl) dX12_mask_14 (fun r3 S4 => ?_)
    refine mw_eq (st' := [.int r3]) rfl rfl ?_
    refine mw_if_eq (tgt := 50) dX12_mask_17 (by decide) ?_ ?_
    · refine mw_iconst (v := (-1 : Int32)) dX12_mask_50 (by decide) ?_
      exact mw_ireturn dX12_mask_51
    · refine mw_iload_n 3 dX12_mask_20 rfl rfl ?_
      refine mw_i2l dX12_mask_21 ?_
      refine mw_lconst (v := (0 : Int64)) dX12_mask_22 (by decide) ?_
      refine mw_ldc2 cl_RX12_257 dX12_mask_23 ?_
      refine mw_callS (t_X12_in X l p3.toInt64 (0 : Int64) (3 : Int64) S4) cd_X12_in lk_RX12_115 sn_X12_in in_RX12 de_X12_in ⟨rfl, rfl⟩ ⟨Nat.le_of_ble_eq_true rfl, Nat.le_of_ble_eq_true rfl⟩ rfl rfl ⟨Nat.le_of_ble_eq_true rfl, Nat.le_of_ble_eq_true rfl⟩ (Nat.le_of_ble_eq_true rfl) dX12_mask_26 (fun r5 S6 => ?_)
      refine mw_eq (st' := [.int r5]) rfl rfl ?_
      refine mw_if_eq (tgt := 50) dX12_mask_29 (by decide) ?_ ?_
      · refine mw_iconst (v := (-1 : Int32)) dX12_mask_50 (by decide) ?_
        exact mw_ireturn dX12_mask_51
      · refine mw_iload 4 dX12_mask_32 rfl ?_
        refine mw_i2l dX12_mask_34 ?_
        refine mw_lconst (v := (0 : Int64)) dX12_mask_35 (by decide) ?_
        refine mw_ldc2 cl_RX12_264 dX12_mask_36 ?_
        refine mw_callS (t_X12_in X l p4.toInt64 (0 : Int64) (2 : Int64) S6) cd_X12_in lk_RX12_115 sn_X12_in in_RX12 de_X12_in ⟨rfl, rfl⟩ ⟨Nat.le_of_ble_eq_true rfl, Nat.le_of_ble_eq_true rfl⟩ rfl rfl ⟨Nat.le_of_ble_eq_true rfl, Nat.le_of_ble_eq_true rfl⟩ (Nat.le_of_ble_eq_true rfl) dX12_mask_39 (fun r7 S8 => ?_)
        refine mw_eq (st' := [.int r7]) rfl rfl ?_
        refine mw_if_eq (tgt := 50) dX12_mask_42 (by decide) ?_ ?_
        · refine mw_iconst (v := (-1 : Int32)) dX12_mask_50 (by decide) ?_
          exact mw_ireturn dX12_mask_51
        · refine mw_iload 6 dX12_mask_45 rfl ?_
          refine mw_if_ge (tgt := 52) dX12_mask_47 (by decide) ?_ ?_
          · refine mw_aload_n 0 dX12_mask_52 rfl rfl ?_
            refine gf_RX12_72 mk_69 dX12_mask_53 ?_
            refine mw_iload_n 3 dX12_mask_56 rfl rfl ?_
            refine mw_iaload mk_88 ml_88 dX12_mask_57 ?_
            refine mw_iload 4 dX12_mask_58 rfl ?_
            refine mw_icmp_eq (tgt := 82) dX12_mask_60 (by decide) ?_ ?_
            · refine mw_ldc2 cl_RX12_264 dX12_mask_82 ?_
              refine mw_iload 6 dX12_mask_85 rfl ?_
              refine mw_i2l dX12_mask_87 ?_
              refine mw_lmul dX12_mask_88 ?_
              refine mw_aload_n 0 dX12_mask_89 rfl rfl ?_
              refine gf_RX12_75 mk_69 dX12_mask_90 ?_
              refine mw_iload_n 3 dX12_mask_93 rfl rfl ?_
              refine mw_iaload mk_89 ml_89 dX12_mask_94 ?_
              refine mw_i2l dX12_mask_95 ?_
              refine mw_lcmp dX12_mask_96 ?_
              refine mw_if_le (tgt := 103) dX12_mask_97 (by decide) ?_ ?_
              · refine mw_iconst (v := (0 : Int32)) dX12_mask_103 (by decide) ?_
                refine mw_istore (lv' := [(7, .int (0 : Int32)), (0, .ref (X.2.1 69)), (1, .int p1), (2, .int p2), (3, .int p3), (4, .int p4), (5, .int p5), (6, .int p6)]) dX12_mask_104 (by decide) rfl ?_
                refine mw_bipush (v := (-4 : Int32)) dX12_mask_106 (by decide) ?_
                refine mw_istore (lv' := [(8, .int (-4 : Int32)), (7, .int (0 : Int32)), (0, .ref (X.2.1 69)), (1, .int p1), (2, .int p2), (3, .int p3), (4, .int p4), (5, .int p5), (6, .int p6)]) dX12_mask_108 (by decide) rfl ?_
                refine mw_iconst (v := (0 : Int32)) dX12_mask_110 (by decide) ?_
                refine mw_istore (lv' := [(9, .int (0 : Int32)), (8, .int (-4 : Int32)), (7, .int (0 : Int32)), (0, .ref (X.2.1 69)), (1, .int p1), (2, .int p2), (3, .int p3), (4, .int p4), (5, .int p5), (6, .int p6)]) dX12_mask_111 (by decide) rfl ?_
                exact mw_sub [3, 4, 5, 6, 8, 9, 2, 1, 0] rfl (w_X12_mask_113 X l mFuel p1 p2 p3 p5 p6 (0 : Int32) (-4 : Int32) (0 : Int32) S8)
              · refine mw_bipush (v := (-12 : Int32)) dX12_mask_100 (by decide) ?_
                exact mw_ireturn dX12_mask_102
            · refine mw_aload_n 0 dX12_mask_63 rfl rfl ?_
              refine gf_RX12_72 mk_69 dX12_mask_64 ?_
              refine mw_iload_n 3 dX12_mask_67 rfl rfl ?_
              refine mw_iaload mk_88 ml_88 dX12_mask_68 ?_
              refine mw_bipush (v := (-4 : Int32)) dX12_mask_69 (by decide) ?_
              refine mw_icmp_ne (tgt := 79) dX12_mask_71 (by decide) ?_ ?_
              · refine mw_bipush (v := (-11 : Int32)) dX12_mask_74 (by decide) ?_
                refine mw_goto (tgt := 81) dX12_mask_76 (by decide) ?_
                exact mw_ireturn dX12_mask_81
              · refine mw_bipush (v := (-13 : Int32)) dX12_mask_79 (by decide) ?_
                exact mw_ireturn dX12_mask_81
          · refine mw_iconst (v := (-1 : Int32)) dX12_mask_50 (by decide) ?_
            exact mw_ireturn dX12_mask_51
theorem t_X12_mask (X : mX) (l : Launch) (p1 : Int32) (p2 : Int32) (p3 : Int32) (p4 : Int32) (p5 : Int32) (p6 : Int32) (S : mM) : mMet X viI yX12_mask cX12_mask 13 (some .int) rm_X12_mask [.ref (X.2.1 69), .int p1, .int p2, .int p3, .int p4, .int p5, .int p6] l S (f_X12_mask p1 p2 p3 p4 p5 p6 S) :=
  mMet_of (by decide +kernel) rfl (Nat.le_of_ble_eq_true rfl) (w_X12_mask X l p1 p2 p3 p4 p5 p6 S )
/-! TraceBenchModel.packed(IIIIII)J -/
def f_X12_packed_123 (y5 : Int32) (z0 : Int64) (S : mM) : Option (Int64 × mM) :=
  if y5 ≤ 0 then
    some (z0, S)
  else
    bnd ((((27 : Int64) * z0) + y5.toInt64) - (96 : Int64)) fun x1 =>
    some (x1, S)
set_option maxRecDepth 100000 in
set_option maxHeartbeats 4000000 in
theorem w_X12_packed_123 (X : mX) (l : Launch) (y5 : Int32) (z0 : Int64) (S : mM) : MW X viJ rm_X12_packed cX12_packed RX12 8 (some .long) l S [(5, .int y5)] [.long z0] 123 (f_X12_packed_123 y5 z0 S) := by
  unfold f_X12_packed_123
  refine mw_lstore (lv' := [(6, .long z0), (5, .int y5)]) dX12_packed_123 (by decide) rfl ?_
  refine mw_iload 1 dX12_packed_125 rfl ?_
  refine mw_if_le (tgt := 147) dX12_packed_127 (by decide) ?_ ?_
  · refine mw_lload 0 dX12_packed_147 rfl ?_
    refine mw_lstore (lv' := [(6, .long z0), (5, .int y5)]) dX12_packed_149 (by decide) rfl ?_
    refine mw_lload 0 dX12_packed_151 rfl ?_
    exact mw_lreturn dX12_packed_153
  · refine mw_ldc2 cl_RX12_128 dX12_packed_130 ?_
    refine mw_lload 0 dX12_packed_133 rfl ?_
    refine mw_lmul dX12_packed_135 ?_
    refine mw_iload 1 dX12_packed_136 rfl ?_
    refine mw_i2l dX12_packed_138 ?_
    refine mw_ladd dX12_packed_139 ?_
    refine mw_ldc2 cl_RX12_130 dX12_packed_140 ?_
    refine mw_lsub dX12_packed_143 ?_
    refine mw_goto (tgt := 149) dX12_packed_144 (by decide) ?_
    refine mw_bndJ (fun x1 => ?_)
    refine mw_lstore (lv' := [(6, .long x1), (5, .int y5)]) dX12_packed_149 (by decide) rfl ?_
    refine mw_lload 0 dX12_packed_151 rfl ?_
    exact mw_lreturn dX12_packed_153
def f_X12_packed_97 (y4 : Int32) (y5 : Int32) (z0 : Int64) (S : mM) : Option (Int64 × mM) :=
  if y4 ≤ 0 then
    f_X12_packed_123 y5 z0 S
  else
    f_X12_packed_123 y5 ((((27 : Int64) * z0) + y4.toInt64) - (96 : Int64)) S
set_option maxRecDepth 100000 in
set_option maxHeartbeats 4000000 in
theorem w_X12_packed_97 (X : mX) (l : Launch) (y4 : Int32) (y5 : Int32) (z0 : Int64) (S : mM) : MW X viJ rm_X12_packed cX12_packed RX12 8 (some .long) l S [(4, .int y4), (5, .int y5)] [.long z0] 97 (f_X12_packed_97 y4 y5 z0 S) := by
  unfold f_X12_packed_97
  refine mw_lstore (lv' := [(6, .long z0), (4, .int y4), (5, .int y5)]) dX12_packed_97 (by decide) rfl ?_
  refine mw_iload 1 dX12_packed_99 rfl ?_
  refine mw_if_le (tgt := 121) dX12_packed_101 (by decide) ?_ ?_
  · refine mw_lload 0 dX12_packed_121 rfl ?_
    exact mw_sub [2] rfl (w_X12_packed_123 X l y5 z0 S)
  · refine mw_ldc2 cl_RX12_128 dX12_packed_104 ?_
    refine mw_lload 0 dX12_packed_107 rfl ?_
    refine mw_lmul dX12_packed_109 ?_
    refine mw_iload 1 dX12_packed_110 rfl ?_
    refine mw_i2l dX12_packed_112 ?_
    refine mw_ladd dX12_packed_113 ?_
    refine mw_ldc2 cl_RX12_130 dX12_packed_114 ?_
    refine mw_lsub dX12_packed_117 ?_
    refine mw_goto (tgt := 123) dX12_packed_118 (by decide) ?_
    exact mw_sub [2] rfl (w_X12_packed_123 X l y5 ((((27 : Int64) * z0) + y4.toInt64) - (96 : Int64)) S)
def f_X12_packed_73 (y3 : Int32) (y4 : Int32) (y5 : Int32) (z0 : Int64) (S : mM) : Option (Int64 × mM) :=
  if y3 ≤ 0 then
    f_X12_packed_97 y4 y5 z0 S
  else
    f_X12_packed_97 y4 y5 ((((27 : Int64) * z0) + y3.toInt64) - (96 : Int64)) S
set_option maxRecDepth 100000 in
set_option maxHeartbeats 4000000 in
theorem w_X12_packed_73 (X : mX) (l : Launch) (y3 : Int32) (y4 : Int32) (y5 : Int32) (z0 : Int64) (S : mM) : MW X viJ rm_X12_packed cX12_packed RX12 8 (some .long) l S [(3, .int y3), (4, .int y4), (5, .int y5)] [.long z0] 73 (f_X12_packed_73 y3 y4 y5 z0 S) := by
  unfold f_X12_packed_73
  refine mw_lstore (lv' := [(6, .long z0), (3, .int y3), (4, .int y4), (5, .int y5)]) dX12_packed_73 (by decide) rfl ?_
  refine mw_iload_n 1 dX12_packed_75 rfl rfl ?_
  refine mw_if_le (tgt := 95) dX12_packed_76 (by decide) ?_ ?_
  · refine mw_lload 0 dX12_packed_95 rfl ?_
    exact mw_sub [2, 3] rfl (w_X12_packed_97 X l y4 y5 z0 S)
  · refine mw_ldc2 cl_RX12_128 dX12_packed_79 ?_
    refine mw_lload 0 dX12_packed_82 rfl ?_
    refine mw_lmul dX12_packed_84 ?_
    refine mw_iload_n 1 dX12_packed_85 rfl rfl ?_
    refine mw_i2l dX12_packed_86 ?_
    refine mw_ladd dX12_packed_87 ?_
    refine mw_ldc2 cl_RX12_130 dX12_packed_88 ?_
    refine mw_lsub dX12_packed_91 ?_
    refine mw_goto (tgt := 97) dX12_packed_92 (by decide) ?_
    exact mw_sub [2, 3] rfl (w_X12_packed_97 X l y4 y5 ((((27 : Int64) * z0) + y3.toInt64) - (96 : Int64)) S)
def f_X12_packed_49 (y2 : Int32) (y3 : Int32) (y4 : Int32) (y5 : Int32) (z0 : Int64) (S : mM) : Option (Int64 × mM) :=
  if y2 ≤ 0 then
    f_X12_packed_73 y3 y4 y5 z0 S
  else
    f_X12_packed_73 y3 y4 y5 ((((27 : Int64) * z0) + y2.toInt64) - (96 : Int64)) S
set_option maxRecDepth 100000 in
set_option maxHeartbeats 4000000 in
theorem w_X12_packed_49 (X : mX) (l : Launch) (y2 : Int32) (y3 : Int32) (y4 : Int32) (y5 : Int32) (z0 : Int64) (S : mM) : MW X viJ rm_X12_packed cX12_packed RX12 8 (some .long) l S [(2, .int y2), (3, .int y3), (4, .int y4), (5, .int y5)] [.long z0] 49 (f_X12_packed_49 y2 y3 y4 y5 z0 S) := by
  unfold f_X12_packed_49
  refine mw_lstore (lv' := [(6, .long z0), (2, .int y2), (3, .int y3), (4, .int y4), (5, .int y5)]) dX12_packed_49 (by decide) rfl ?_
  refine mw_iload_n 1 dX12_packed_51 rfl rfl ?_
  refine mw_if_le (tgt := 71) dX12_packed_52 (by decide) ?_ ?_
  · refine mw_lload 0 dX12_packed_71 rfl ?_
    exact mw_sub [2, 3, 4] rfl (w_X12_packed_73 X l y3 y4 y5 z0 S)
  · refine mw_ldc2 cl_RX12_128 dX12_packed_55 ?_
    refine mw_lload 0 dX12_packed_58 rfl ?_
    refine mw_lmul dX12_packed_60 ?_
    refine mw_iload_n 1 dX12_packed_61 rfl rfl ?_
    refine mw_i2l dX12_packed_62 ?_
    refine mw_ladd dX12_packed_63 ?_
    refine mw_ldc2 cl_RX12_130 dX12_packed_64 ?_
    refine mw_lsub dX12_packed_67 ?_
    refine mw_goto (tgt := 73) dX12_packed_68 (by decide) ?_
    exact mw_sub [2, 3, 4] rfl (w_X12_packed_73 X l y3 y4 y5 ((((27 : Int64) * z0) + y2.toInt64) - (96 : Int64)) S)
def f_X12_packed_25 (y1 : Int32) (y2 : Int32) (y3 : Int32) (y4 : Int32) (y5 : Int32) (z0 : Int64) (S : mM) : Option (Int64 × mM) :=
  if y1 ≤ 0 then
    f_X12_packed_49 y2 y3 y4 y5 z0 S
  else
    f_X12_packed_49 y2 y3 y4 y5 ((((27 : Int64) * z0) + y1.toInt64) - (96 : Int64)) S
set_option maxRecDepth 100000 in
set_option maxHeartbeats 4000000 in
theorem w_X12_packed_25 (X : mX) (l : Launch) (y1 : Int32) (y2 : Int32) (y3 : Int32) (y4 : Int32) (y5 : Int32) (z0 : Int64) (S : mM) : MW X viJ rm_X12_packed cX12_packed RX12 8 (some .long) l S [(1, .int y1), (2, .int y2), (3, .int y3), (4, .int y4), (5, .int y5)] [.long z0] 25 (f_X12_packed_25 y1 y2 y3 y4 y5 z0 S) := by
  unfold f_X12_packed_25
  refine mw_lstore (lv' := [(6, .long z0), (1, .int y1), (2, .int y2), (3, .int y3), (4, .int y4), (5, .int y5)]) dX12_packed_25 (by decide) rfl ?_
  refine mw_iload_n 1 dX12_packed_27 rfl rfl ?_
  refine mw_if_le (tgt := 47) dX12_packed_28 (by decide) ?_ ?_
  · refine mw_lload 0 dX12_packed_47 rfl ?_
    exact mw_sub [2, 3, 4, 5] rfl (w_X12_packed_49 X l y2 y3 y4 y5 z0 S)
  · refine mw_ldc2 cl_RX12_128 dX12_packed_31 ?_
    refine mw_lload 0 dX12_packed_34 rfl ?_
    refine mw_lmul dX12_packed_36 ?_
    refine mw_iload_n 1 dX12_packed_37 rfl rfl ?_
    refine mw_i2l dX12_packed_38 ?_
    refine mw_ladd dX12_packed_39 ?_
    refine mw_ldc2 cl_RX12_130 dX12_packed_40 ?_
    refine mw_lsub dX12_packed_43 ?_
    refine mw_goto (tgt := 49) dX12_packed_44 (by decide) ?_
    exact mw_sub [2, 3, 4, 5] rfl (w_X12_packed_49 X l y2 y3 y4 y5 ((((27 : Int64) * z0) + y1.toInt64) - (96 : Int64)) S)
def f_X12_packed (p0 : Int32) (p1 : Int32) (p2 : Int32) (p3 : Int32) (p4 : Int32) (p5 : Int32) (S : mM) : Option (Int64 × mM) :=
  if p0 ≤ 0 then
    f_X12_packed_25 p1 p2 p3 p4 p5 (0 : Int64) S
  else
    f_X12_packed_25 p1 p2 p3 p4 p5 ((((27 : Int64) * (0 : Int64)) + p0.toInt64) - (96 : Int64)) S
set_option maxRecDepth 100000 in
set_option maxHeartbeats 4000000 in
theorem w_X12_packed (X : mX) (l : Launch) (p0 : Int32) (p1 : Int32) (p2 : Int32) (p3 : Int32) (p4 : Int32) (p5 : Int32) (S : mM) : MW X viJ rm_X12_packed cX12_packed RX12 8 (some .long) l S [(0, .int p0), (1, .int p1), (2, .int p2), (3, .int p3), (4, .int p4), (5, .int p5)] [] 0 (f_X12_packed p0 p1 p2 p3 p4 p5 S) := by
  unfold f_X12_packed
  refine mw_lconst (v := (0 : Int64)) dX12_packed_0 (by decide) ?_
  refine mw_lstore (lv' := [(6, .long (0 : Int64)), (0, .int p0), (1, .int p1), (2, .int p2), (3, .int p3), (4, .int p4), (5, .int p5)]) dX12_packed_1 (by decide) rfl ?_
  refine mw_iload_n 1 dX12_packed_3 rfl rfl ?_
  refine mw_if_le (tgt := 23) dX12_packed_4 (by decide) ?_ ?_
  · refine mw_lload 0 dX12_packed_23 rfl ?_
    exact mw_sub [2, 3, 4, 5, 6] rfl (w_X12_packed_25 X l p1 p2 p3 p4 p5 (0 : Int64) S)
  · refine mw_ldc2 cl_RX12_128 dX12_packed_7 ?_
    refine mw_lload 0 dX12_packed_10 rfl ?_
    refine mw_lmul dX12_packed_12 ?_
    refine mw_iload_n 1 dX12_packed_13 rfl rfl ?_
    refine mw_i2l dX12_packed_14 ?_
    refine mw_ladd dX12_packed_15 ?_
    refine mw_ldc2 cl_RX12_130 dX12_packed_16 ?_
    refine mw_lsub dX12_packed_19 ?_
    refine mw_goto (tgt := 25) dX12_packed_20 (by decide) ?_
    exact mw_sub [2, 3, 4, 5, 6] rfl (w_X12_packed_25 X l p1 p2 p3 p4 p5 ((((27 : Int64) * (0 : Int64)) + p0.toInt64) - (96 : Int64)) S)
theorem t_X12_packed (X : mX) (l : Launch) (p0 : Int32) (p1 : Int32) (p2 : Int32) (p3 : Int32) (p4 : Int32) (p5 : Int32) (S : mM) : mMet X viJ yX12_packed cX12_packed 8 (some .long) rm_X12_packed [.int p0, .int p1, .int p2, .int p3, .int p4, .int p5] l S (f_X12_packed p0 p1 p2 p3 p4 p5 S) :=
  mMet_of (by decide +kernel) rfl (Nat.le_of_ble_eq_true rfl) (w_X12_packed X l p0 p1 p2 p3 p4 p5 S )
/-! TraceBenchModel.named(J)I -/
def f_X12_named (p0 : Int64) (S : mM) : Option (Int32 × mM) :=
  mBind (f_X12_packed (114 : Int32) (105 : Int32) (115 : Int32) (101 : Int32) (0 : Int32) (0 : Int32) S) fun r1 S2 =>
  if (lg_cmp p0 r1) = 0 then
    some ((0 : Int32), S2)
  else
    mBind (f_X12_packed (102 : Int32) (97 : Int32) (108 : Int32) (108 : Int32) (0 : Int32) (0 : Int32) S2) fun r3 S4 =>
    if (lg_cmp p0 r3) = 0 then
      some ((1 : Int32), S4)
    else
      mBind (f_X12_packed (119 : Int32) (105 : Int32) (100 : Int32) (101 : Int32) (0 : Int32) (0 : Int32) S4) fun r5 S6 =>
      if (lg_cmp p0 r5) = 0 then
        some ((2 : Int32), S6)
      else
        mBind (f_X12_packed (116 : Int32) (104 : Int32) (105 : Int32) (110 : Int32) (0 : Int32) (0 : Int32) S6) fun r7 S8 =>
        if (lg_cmp p0 r7) = 0 then
          some ((3 : Int32), S8)
        else
          mBind (f_X12_packed (114 : Int32) (117 : Int32) (110 : Int32) (116 : Int32) (0 : Int32) (0 : Int32) S8) fun r9 S10 =>
          if (lg_cmp p0 r9) = 0 then
            some ((4 : Int32), S10)
          else
            mBind (f_X12_packed (105 : Int32) (110 : Int32) (0 : Int32) (0 : Int32) (0 : Int32) (0 : Int32) S10) fun r11 S12 =>
            if (lg_cmp p0 r11) = 0 then
              some ((5 : Int32), S12)
            else
              mBind (f_X12_packed (111 : Int32) (117 : Int32) (116 : Int32) (0 : Int32) (0 : Int32) (0 : Int32) S12) fun r13 S14 =>
              if (lg_cmp p0 r13) = 0 then
                some ((6 : Int32), S14)
              else
                mBind (f_X12_packed (101 : Int32) (113 : Int32) (117 : Int32) (97 : Int32) (108 : Int32) (0 : Int32) S14) fun r15 S16 =>
                if (lg_cmp p0 r15) = 0 then
                  some ((7 : Int32), S16)
                else
                  mBind (f_X12_packed (119 : Int32) (105 : Int32) (116 : Int32) (104 : Int32) (105 : Int32) (110 : Int32) S16) fun r17 S18 =>
                  if (lg_cmp p0 r17) = 0 then
                    some ((8 : Int32), S18)
                  else
                    some ((-4 : Int32), S18)
set_option maxRecDepth 100000 in
set_option maxHeartbeats 4000000 in
theorem w_X12_named (X : mX) (l : Launch) (p0 : Int64) (S : mM) : MW X viI rm_X12_named cX12_named RX12 2 (some .int) l S [(0, .long p0)] [] 0 (f_X12_named p0 S) := by
  unfold f_X12_named
  refine mw_lload_n 0 dX12_named_0 rfl rfl ?_
  refine mw_bipush (v := (114 : Int32)) dX12_named_1 (by decide) ?_
  refine mw_bipush (v := (105 : Int32)) dX12_named_3 (by decide) ?_
  refine mw_bipush (v := (115 : Int32)) dX12_named_5 (by decide) ?_
  refine mw_bipush (v := (101 : Int32)) dX12_named_7 (by decide) ?_
  refine mw_iconst (v := (0 : Int32)) dX12_named_9 (by decide) ?_
  refine mw_iconst (v := (0 : Int32)) dX12_named_10 (by decide) ?_
  refine mw_callS (t_X12_packed X l (114 : Int32) (105 : Int32) (115 : Int32) (101 : Int32) (0 : Int32) (0 : Int32) S) cd_X12_packed lk_RX12_132 sn_X12_packed in_RX12 de_X12_packed ⟨rfl, rfl⟩ ⟨Nat.le_of_ble_eq_true rfl, Nat.le_of_ble_eq_true rfl⟩ rfl rfl ⟨Nat.le_of_ble_eq_true rfl, Nat.le_of_ble_eq_true rfl⟩ (Nat.le_of_ble_eq_true rfl) dX12_named_11 (fun r1 S2 => ?_)
  refine mw_eq (st' := [.long r1, .long p0]) rfl rfl ?_
  refine mw_lcmp dX12_named_14 ?_
  refine mw_if_ne (tgt := 20) dX12_named_15 (by decide) ?_ ?_
  · refine mw_iconst (v := (0 : Int32)) dX12_named_18 (by decide) ?_
    exact mw_ireturn dX12_named_19
  · refine mw_lload_n 0 dX12_named_20 rfl rfl ?_
    refine mw_bipush (v := (102 : Int32)) dX12_named_21 (by decide) ?_
    refine mw_bipush (v := (97 : Int32)) dX12_named_23 (by decide) ?_
    refine mw_bipush (v := (108 : Int32)) dX12_named_25 (by decide) ?_
    refine mw_bipush (v := (108 : Int32)) dX12_named_27 (by decide) ?_
    refine mw_iconst (v := (0 : Int32)) dX12_named_29 (by decide) ?_
    refine mw_iconst (v := (0 : Int32)) dX12_named_30 (by decide) ?_
    refine mw_callS (t_X12_packed X l (102 : Int32) (97 : Int32) (108 : Int32) (108 : Int32) (0 : Int32) (0 : Int32) S2) cd_X12_packed lk_RX12_132 sn_X12_packed in_RX12 de_X12_packed ⟨rfl, rfl⟩ ⟨Nat.le_of_ble_eq_true rfl, Nat.le_of_ble_eq_true rfl⟩ rfl rfl ⟨Nat.le_of_ble_eq_true rfl, Nat.le_of_ble_eq_true rfl⟩ (Nat.le_of_ble_eq_true rfl) dX12_named_31 (fun r3 S4 => ?_)
    refine mw_eq (st' := [.long r3, .long p0]) rfl rfl ?_
    refine mw_lcmp dX12_named_34 ?_
    refine mw_if_ne (tgt := 40) dX12_named_35 (by decide) ?_ ?_
    · refine mw_iconst (v := (1 : Int32)) dX12_named_38 (by decide) ?_
      exact mw_ireturn dX12_named_39
    · refine mw_lload_n 0 dX12_named_40 rfl rfl ?_
      refine mw_bipush (v := (119 : Int32)) dX12_named_41 (by decide) ?_
      refine mw_bipush (v := (105 : Int32)) dX12_named_43 (by decide) ?_
      refine mw_bipush (v := (100 : Int32)) dX12_named_45 (by decide) ?_
      refine mw_bipush (v := (101 : Int32)) dX12_named_47 (by decide) ?_
      refine mw_iconst (v := (0 : Int32)) dX12_named_49 (by decide) ?_
      refine mw_iconst (v := (0 : Int32)) dX12_named_50 (by decide) ?_
      refine mw_callS (t_X12_packed X l (119 : Int32) (105 : Int32) (100 : Int32) (101 : Int32) (0 : Int32) (0 : Int32) S4) cd_X12_packed lk_RX12_132 sn_X12_packed in_RX12 de_X12_packed ⟨rfl, rfl⟩ ⟨Nat.le_of_ble_eq_true rfl, Nat.le_of_ble_eq_true rfl⟩ rfl rfl ⟨Nat.le_of_ble_eq_true rfl, Nat.le_of_ble_eq_true rfl⟩ (Nat.le_of_ble_eq_true rfl) dX12_named_51 (fun r5 S6 => ?_)
      refine mw_eq (st' := [.long r5, .long p0]) rfl rfl ?_
      refine mw_lcmp dX12_named_54 ?_
      refine mw_if_ne (tgt := 60) dX12_named_55 (by decide) ?_ ?_
      · refine mw_iconst (v := (2 : Int32)) dX12_named_58 (by decide) ?_
        exact mw_ireturn dX12_named_59
      · refine mw_lload_n 0 dX12_named_60 rfl rfl ?_
        refine mw_bipush (v := (116 : Int32)) dX12_named_61 (by decide) ?_
        refine mw_bipush (v := (104 : Int32)) dX12_named_63 (by decide) ?_
        refine mw_bipush (v := (105 : Int32)) dX12_named_65 (by decide) ?_
        refine mw_bipush (v := (110 : Int32)) dX12_named_67 (by decide) ?_
        refine mw_iconst (v := (0 : Int32)) dX12_named_69 (by decide) ?_
        refine mw_iconst (v := (0 : Int32)) dX12_named_70 (by decide) ?_
        refine mw_callS (t_X12_packed X l (116 : Int32) (104 : Int32) (105 : Int32) (110 : Int32) (0 : Int32) (0 : Int32) S6) cd_X12_packed lk_RX12_132 sn_X12_packed in_RX12 de_X12_packed ⟨rfl, rfl⟩ ⟨Nat.le_of_ble_eq_true rfl, Nat.le_of_ble_eq_true rfl⟩ rfl rfl ⟨Nat.le_of_ble_eq_true rfl, Nat.le_of_ble_eq_true rfl⟩ (Nat.le_of_ble_eq_true rfl) dX12_named_71 (fun r7 S8 => ?_)
        refine mw_eq (st' := [.long r7, .long p0]) rfl rfl ?_
        refine mw_lcmp dX12_named_74 ?_
        refine mw_if_ne (tgt := 80) dX12_named_75 (by decide) ?_ ?_
        · refine mw_iconst (v := (3 : Int32)) dX12_named_78 (by decide) ?_
          exact mw_ireturn dX12_named_79
        · refine mw_lload_n 0 dX12_named_80 rfl rfl ?_
          refine mw_bipush (v := (114 : Int32)) dX12_named_81 (by decide) ?_
          refine mw_bipush (v := (117 : Int32)) dX12_named_83 (by decide) ?_
          refine mw_bipush (v := (110 : Int32)) dX12_named_85 (by decide) ?_
          refine mw_bipush (v := (116 : Int32)) dX12_named_87 (by decide) ?_
          refine mw_iconst (v := (0 : Int32)) dX12_named_89 (by decide) ?_
          refine mw_iconst (v := (0 : Int32)) dX12_named_90 (by decide) ?_
          refine mw_callS (t_X12_packed X l (114 : Int32) (117 : Int32) (110 : Int32) (116 : Int32) (0 : Int32) (0 : Int32) S8) cd_X12_packed lk_RX12_132 sn_X12_packed in_RX12 de_X12_packed ⟨rfl, rfl⟩ ⟨Nat.le_of_ble_eq_true rfl, Nat.le_of_ble_eq_true rfl⟩ rfl rfl ⟨Nat.le_of_ble_eq_true rfl, Nat.le_of_ble_eq_true rfl⟩ (Nat.le_of_ble_eq_true rfl) dX12_named_91 (fun r9 S10 => ?_)
          refine mw_eq (st' := [.long r9, .long p0]) rfl rfl ?_
          refine mw_lcmp dX12_named_94 ?_
          refine mw_if_ne (tgt := 100) dX12_named_95 (by decide) ?_ ?_
          · refine mw_iconst (v := (4 : Int32)) dX12_named_98 (by decide) ?_
            exact mw_ireturn dX12_named_99
          · refine mw_lload_n 0 dX12_named_100 rfl rfl ?_
            refine mw_bipush (v := (105 : Int32)) dX12_named_101 (by decide) ?_
            refine mw_bipush (v := (110 : Int32)) dX12_named_103 (by decide) ?_
            refine mw_iconst (v := (0 : Int32)) dX12_named_105 (by decide) ?_
            refine mw_iconst (v := (0 : Int32)) dX12_named_106 (by decide) ?_
            refine mw_iconst (v := (0 : Int32)) dX12_named_107 (by decide) ?_
            refine mw_iconst (v := (0 : Int32)) dX12_named_108 (by decide) ?_
            refine mw_callS (t_X12_packed X l (105 : Int32) (110 : Int32) (0 : Int32) (0 : Int32) (0 : Int32) (0 : Int32) S10) cd_X12_packed lk_RX12_132 sn_X12_packed in_RX12 de_X12_packed ⟨rfl, rfl⟩ ⟨Nat.le_of_ble_eq_true rfl, Nat.le_of_ble_eq_true rfl⟩ rfl rfl ⟨Nat.le_of_ble_eq_true rfl, Nat.le_of_ble_eq_true rfl⟩ (Nat.le_of_ble_eq_true rfl) dX12_named_109 (fun r11 S12 => ?_)
            refine mw_eq (st' := [.long r11, .long p0]) rfl rfl ?_
            refine mw_lcmp dX12_named_112 ?_
            refine mw_if_ne (tgt := 118) dX12_named_113 (by decide) ?_ ?_
            · refine mw_iconst (v := (5 : Int32)) dX12_named_116 (by decide) ?_
              exact mw_ireturn dX12_named_117
            · refine mw_lload_n 0 dX12_named_118 rfl rfl ?_
              refine mw_bipush (v := (111 : Int32)) dX12_named_119 (by decide) ?_
              refine mw_bipush (v := (117 : Int32)) dX12_named_121 (by decide) ?_
              refine mw_bipush (v := (116 : Int32)) dX12_named_123 (by decide) ?_
              refine mw_iconst (v := (0 : Int32)) dX12_named_125 (by decide) ?_
              refine mw_iconst (v := (0 : Int32)) dX12_named_126 (by decide) ?_
              refine mw_iconst (v := (0 : Int32)) dX12_named_127 (by decide) ?_
              refine mw_callS (t_X12_packed X l (111 : Int32) (117 : Int32) (116 : Int32) (0 : Int32) (0 : Int32) (0 : Int32) S12) cd_X12_packed lk_RX12_132 sn_X12_packed in_RX12 de_X12_packed ⟨rfl, rfl⟩ ⟨Nat.le_of_ble_eq_true rfl, Nat.le_of_ble_eq_true rfl⟩ rfl rfl ⟨Nat.le_of_ble_eq_true rfl, Nat.le_of_ble_eq_true rfl⟩ (Nat.le_of_ble_eq_true rfl) dX12_named_128 (fun r13 S14 => ?_)
              refine mw_eq (st' := [.long r13, .long p0]) rfl rfl ?_
              refine mw_lcmp dX12_named_131 ?_
              refine mw_if_ne (tgt := 138) dX12_named_132 (by decide) ?_ ?_
              · refine mw_bipush (v := (6 : Int32)) dX12_named_135 (by decide) ?_
                exact mw_ireturn dX12_named_137
              · refine mw_lload_n 0 dX12_named_138 rfl rfl ?_
                refine mw_bipush (v := (101 : Int32)) dX12_named_139 (by decide) ?_
                refine mw_bipush (v := (113 : Int32)) dX12_named_141 (by decide) ?_
                refine mw_bipush (v := (117 : Int32)) dX12_named_143 (by decide) ?_
                refine mw_bipush (v := (97 : Int32)) dX12_named_145 (by decide) ?_
                refine mw_bipush (v := (108 : Int32)) dX12_named_147 (by decide) ?_
                refine mw_iconst (v := (0 : Int32)) dX12_named_149 (by decide) ?_
                refine mw_callS (t_X12_packed X l (101 : Int32) (113 : Int32) (117 : Int32) (97 : Int32) (108 : Int32) (0 : Int32) S14) cd_X12_packed lk_RX12_132 sn_X12_packed in_RX12 de_X12_packed ⟨rfl, rfl⟩ ⟨Nat.le_of_ble_eq_true rfl, Nat.le_of_ble_eq_true rfl⟩ rfl rfl ⟨Nat.le_of_ble_eq_true rfl, Nat.le_of_ble_eq_true rfl⟩ (Nat.le_of_ble_eq_true rfl) dX12_named_150 (fun r15 S16 => ?_)
                refine mw_eq (st' := [.long r15, .long p0]) rfl rfl ?_
                refine mw_lcmp dX12_named_153 ?_
                refine mw_if_ne (tgt := 160) dX12_named_154 (by decide) ?_ ?_
                · refine mw_bipush (v := (7 : Int32)) dX12_named_157 (by decide) ?_
                  exact mw_ireturn dX12_named_159
                · refine mw_lload_n 0 dX12_named_160 rfl rfl ?_
                  refine mw_bipush (v := (119 : Int32)) dX12_named_161 (by decide) ?_
                  refine mw_bipush (v := (105 : Int32)) dX12_named_163 (by decide) ?_
                  refine mw_bipush (v := (116 : Int32)) dX12_named_165 (by decide) ?_
                  refine mw_bipush (v := (104 : Int32)) dX12_named_167 (by decide) ?_
                  refine mw_bipush (v := (105 : Int32)) dX12_named_169 (by decide) ?_
                  refine mw_bipush (v := (110 : Int32)) dX12_named_171 (by decide) ?_
                  refine mw_callS (t_X12_packed X l (119 : Int32) (105 : Int32) (116 : Int32) (104 : Int32) (105 : Int32) (110 : Int32) S16) cd_X12_packed lk_RX12_132 sn_X12_packed in_RX12 de_X12_packed ⟨rfl, rfl⟩ ⟨Nat.le_of_ble_eq_true rfl, Nat.le_of_ble_eq_true rfl⟩ rfl rfl ⟨Nat.le_of_ble_eq_true rfl, Nat.le_of_ble_eq_true rfl⟩ (Nat.le_of_ble_eq_true rfl) dX12_named_173 (fun r17 S18 => ?_)
                  refine mw_eq (st' := [.long r17, .long p0]) rfl rfl ?_
                  refine mw_lcmp dX12_named_176 ?_
                  refine mw_if_ne (tgt := 185) dX12_named_177 (by decide) ?_ ?_
                  · refine mw_bipush (v := (8 : Int32)) dX12_named_180 (by decide) ?_
                    refine mw_goto (tgt := 187) dX12_named_182 (by decide) ?_
                    exact mw_ireturn dX12_named_187
                  · refine mw_bipush (v := (-4 : Int32)) dX12_named_185 (by decide) ?_
                    exact mw_ireturn dX12_named_187
theorem t_X12_named (X : mX) (l : Launch) (p0 : Int64) (S : mM) : mMet X viI yX12_named cX12_named 2 (some .int) rm_X12_named [.long p0] l S (f_X12_named p0 S) :=
  mMet_of (by decide +kernel) rfl (Nat.le_of_ble_eq_true rfl) (w_X12_named X l p0 S )
/-! TraceBenchModel.next()V -/
def f_X12_next_127 (k71 : mM → Option (Unit × mM)) (z0 : Int64) (S : mM) : Option (Unit × mM) :=
  bnd (setJ S 69 24 z0) fun S1 =>
  bnd (setI S1 69 20 ((S1.1 69 20) + (1 : Int32))) fun S2 =>
  k71 S2
set_option maxRecDepth 100000 in
set_option maxHeartbeats 4000000 in
theorem w_X12_next_127 (X : mX) (l : Launch) (k71 : mM → Option (Unit × mM)) (hk71 : ∀ (S : mM), MW X viV rm_X12_next cX12_next RX12 3 none l S [(0, .ref (X.2.1 69))] [] 71 (k71  S)) (z0 : Int64) (S : mM) : MW X viV rm_X12_next cX12_next RX12 3 none l S [(0, .ref (X.2.1 69))] [.long z0, .ref (X.2.1 69)] 127 (f_X12_next_127 k71 z0 S) := by
  unfold f_X12_next_127
  refine pf_RX12_150 mk_69 dX12_next_127 ?_
  refine mw_bndS (fun S1 => ?_)
  refine mw_aload_n 0 dX12_next_130 rfl rfl ?_
  refine mw_dup dX12_next_131 rfl ?_
  refine gf_RX12_125 mk_69 dX12_next_132 ?_
  refine mw_iconst (v := (1 : Int32)) dX12_next_135 (by decide) ?_
  refine mw_iadd dX12_next_136 ?_
  refine pf_RX12_125 mk_69 dX12_next_137 ?_
  refine mw_bndS (fun S2 => ?_)
  refine mw_goto (tgt := 71) dX12_next_140 (by decide) ?_
  exact mw_sub [0] rfl (hk71 S2)
def f_X12_next_280 (k230 : Int32 → Int32 → mM → Option (Unit × mM)) (y1 : Int32) (y2 : Int32) (z0 : Int32) (S : mM) : Option (Unit × mM) :=
  bnd (setI S 69 23 z0) fun S1 =>
  bnd (setI S1 69 20 ((S1.1 69 20) + (1 : Int32))) fun S2 =>
  k230 y1 y2 S2
set_option maxRecDepth 100000 in
set_option maxHeartbeats 4000000 in
theorem w_X12_next_280 (X : mX) (l : Launch) (k230 : Int32 → Int32 → mM → Option (Unit × mM)) (hk230 : ∀ (y1 : Int32) (y2 : Int32) (S : mM), MW X viV rm_X12_next cX12_next RX12 3 none l S [(0, .ref (X.2.1 69)), (1, .int y1), (2, .int y2)] [] 230 (k230 y1 y2 S)) (y1 : Int32) (y2 : Int32) (z0 : Int32) (S : mM) : MW X viV rm_X12_next cX12_next RX12 3 none l S [(0, .ref (X.2.1 69)), (1, .int y1), (2, .int y2)] [.int z0, .ref (X.2.1 69)] 280 (f_X12_next_280 k230 y1 y2 z0 S) := by
  unfold f_X12_next_280
  refine pf_RX12_160 mk_69 dX12_next_280 ?_
  refine mw_bndS (fun S1 => ?_)
  refine mw_aload_n 0 dX12_next_283 rfl rfl ?_
  refine mw_dup dX12_next_284 rfl ?_
  refine gf_RX12_125 mk_69 dX12_next_285 ?_
  refine mw_iconst (v := (1 : Int32)) dX12_next_288 (by decide) ?_
  refine mw_iadd dX12_next_289 ?_
  refine pf_RX12_125 mk_69 dX12_next_290 ?_
  refine mw_bndS (fun S2 => ?_)
  refine mw_goto (tgt := 230) dX12_next_293 (by decide) ?_
  exact mw_sub [0, 1, 2] rfl (hk230 y1 y2 S2)
def f_X12_next_315 (y2 : Int32) (z0 : Int32) (S : mM) : Option (Unit × mM) :=
  bnd (setI S 69 23 z0) fun S1 =>
  if (S1.1 69 20) = y2 then
    mBind (f_X12_fails (1 : Int32) (S1.1 69 21) S1) fun r2 S3 =>
    some ((), S3)
  else
    if ((S1.1 69 20) - y2) ≤ (3 : Int32) then
      some ((), S1)
    else
      mBind (f_X12_fails (1 : Int32) (S1.1 69 21) S1) fun r4 S5 =>
      some ((), S5)
set_option maxRecDepth 100000 in
set_option maxHeartbeats 4000000 in
theorem w_X12_next_315 (X : mX) (l : Launch) (y2 : Int32) (z0 : Int32) (S : mM) : MW X viV rm_X12_next cX12_next RX12 3 none l S [(0, .ref (X.2.1 69)), (2, .int y2)] [.int z0, .ref (X.2.1 69)] 315 (f_X12_next_315 y2 z0 S) := by
  unfold f_X12_next_315
  refine pf_RX12_160 mk_69 dX12_next_315 ?_
  refine mw_bndS (fun S1 => ?_)
  refine mw_aload_n 0 dX12_next_318 rfl rfl ?_
  refine gf_RX12_125 mk_69 dX12_next_319 ?_
  refine mw_iload_n 1 dX12_next_322 rfl rfl ?_
  refine mw_icmp_eq (tgt := 336) dX12_next_323 (by decide) ?_ ?_
  · refine mw_aload_n 0 dX12_next_336 rfl rfl ?_
    refine mw_iconst (v := (1 : Int32)) dX12_next_337 (by decide) ?_
    refine mw_aload_n 0 dX12_next_338 rfl rfl ?_
    refine gf_RX12_140 mk_69 dX12_next_339 ?_
    refine mw_callV (t_X12_fails X l (1 : Int32) (S1.1 69 21) S1) cd_X12_fails lk_RX12_163 im_X12_fails se_X12_fails in_RX12 de_X12_fails ⟨rfl, rfl⟩ ⟨Nat.le_of_ble_eq_true rfl, Nat.le_of_ble_eq_true rfl⟩ (mKind_lt mk_69 (by decide)) (mCell_k mk_69) rfl rfl rfl rfl ⟨Nat.le_of_ble_eq_true rfl, Nat.le_of_ble_eq_true rfl⟩ (Nat.le_of_ble_eq_true rfl) dX12_next_342 (fun r2 S3 => ?_)
    refine mw_eq (st' := []) rfl rfl ?_
    refine mw_goto (tgt := 392) dX12_next_345 (by decide) ?_
    exact mw_return dX12_next_392
  · refine mw_aload_n 0 dX12_next_326 rfl rfl ?_
    refine gf_RX12_125 mk_69 dX12_next_327 ?_
    refine mw_iload_n 1 dX12_next_330 rfl rfl ?_
    refine mw_isub dX12_next_331 ?_
    refine mw_iconst (v := (3 : Int32)) dX12_next_332 (by decide) ?_
    refine mw_icmp_le (tgt := 345) dX12_next_333 (by decide) ?_ ?_
    · refine mw_goto (tgt := 392) dX12_next_345 (by decide) ?_
      exact mw_return dX12_next_392
    · refine mw_aload_n 0 dX12_next_336 rfl rfl ?_
      refine mw_iconst (v := (1 : Int32)) dX12_next_337 (by decide) ?_
      refine mw_aload_n 0 dX12_next_338 rfl rfl ?_
      refine gf_RX12_140 mk_69 dX12_next_339 ?_
      refine mw_callV (t_X12_fails X l (1 : Int32) (S1.1 69 21) S1) cd_X12_fails lk_RX12_163 im_X12_fails se_X12_fails in_RX12 de_X12_fails ⟨rfl, rfl⟩ ⟨Nat.le_of_ble_eq_true rfl, Nat.le_of_ble_eq_true rfl⟩ (mKind_lt mk_69 (by decide)) (mCell_k mk_69) rfl rfl rfl rfl ⟨Nat.le_of_ble_eq_true rfl, Nat.le_of_ble_eq_true rfl⟩ (Nat.le_of_ble_eq_true rfl) dX12_next_342 (fun r4 S5 => ?_)
      refine mw_eq (st' := []) rfl rfl ?_
      refine mw_goto (tgt := 392) dX12_next_345 (by decide) ?_
      exact mw_return dX12_next_392
def f_X12_next_360 (y1 : Int32) (S : mM) : Option (Unit × mM) :=
  bnd (setI S 69 22 (3 : Int32)) fun S1 =>
  bnd (setI S1 69 23 y1) fun S2 =>
  bnd (setI S2 69 20 ((S2.1 69 20) + (1 : Int32))) fun S3 =>
  some ((), S3)
set_option maxRecDepth 100000 in
set_option maxHeartbeats 4000000 in
theorem w_X12_next_360 (X : mX) (l : Launch) (y1 : Int32) (S : mM) : MW X viV rm_X12_next cX12_next RX12 3 none l S [(0, .ref (X.2.1 69)), (1, .int y1)] [] 360 (f_X12_next_360 y1 S) := by
  unfold f_X12_next_360
  refine mw_aload_n 0 dX12_next_360 rfl rfl ?_
  refine mw_iconst (v := (3 : Int32)) dX12_next_361 (by decide) ?_
  refine pf_RX12_143 mk_69 dX12_next_362 ?_
  refine mw_bndS (fun S1 => ?_)
  refine mw_aload_n 0 dX12_next_365 rfl rfl ?_
  refine mw_iload_n 1 dX12_next_366 rfl rfl ?_
  refine pf_RX12_160 mk_69 dX12_next_367 ?_
  refine mw_bndS (fun S2 => ?_)
  refine mw_aload_n 0 dX12_next_370 rfl rfl ?_
  refine mw_dup dX12_next_371 rfl ?_
  refine gf_RX12_125 mk_69 dX12_next_372 ?_
  refine mw_iconst (v := (1 : Int32)) dX12_next_375 (by decide) ?_
  refine mw_iadd dX12_next_376 ?_
  refine pf_RX12_125 mk_69 dX12_next_377 ?_
  refine mw_bndS (fun S3 => ?_)
  refine mw_goto (tgt := 392) dX12_next_380 (by decide) ?_
  exact mw_return dX12_next_392
def f_X12_next_71 (n : Nat) (S : mM) : Option (Unit × mM) := match n with
  | 0 => none
  | n + 1 =>
    mBind (f_X12_look S) fun r1 S2 =>
    mBind (f_X12_in r1.toInt64 (97 : Int64) (122 : Int64) S2) fun r3 S4 =>
    if r3 = 0 then
      mBind (f_X12_named (S4.2.1 69 24) S4) fun r5 S6 =>
      bnd (setI S6 69 23 r5) fun S7 =>
      if (S7.1 69 23) = (-4 : Int32) then
        mBind (f_X12_fails (1 : Int32) (S7.1 69 21) S7) fun r8 S9 =>
        some ((), S9)
      else
        some ((), S7)
    else
      if (6 : Int32) ≤ ((S4.1 69 20) - (S4.1 69 21)) then
        f_X12_next_127 (f_X12_next_71 n) (-1 : Int64) S4
      else
        mBind (f_X12_look S4) fun r10 S11 =>
        f_X12_next_127 (f_X12_next_71 n) ((((27 : Int64) * (S4.2.1 69 24)) + r10.toInt64) - (96 : Int64)) S11
set_option maxRecDepth 100000 in
set_option maxHeartbeats 4000000 in
theorem w_X12_next_71 (X : mX) (l : Launch) (n : Nat) (S : mM) : MW X viV rm_X12_next cX12_next RX12 3 none l S [(0, .ref (X.2.1 69))] [] 71 (f_X12_next_71 n  S) := by
  induction n generalizing S with
  | zero => exact mw_none
  | succ n ih =>
    unfold f_X12_next_71
    refine mw_aload_n 0 dX12_next_71 rfl rfl ?_
    refine mw_callV (t_X12_look X l S) cd_X12_look lk_RX12_136 im_X12_look se_X12_look in_RX12 de_X12_look ⟨rfl, rfl⟩ ⟨Nat.le_of_ble_eq_true rfl, Nat.le_of_ble_eq_true rfl⟩ (mKind_lt mk_69 (by decide)) (mCell_k mk_69) rfl rfl rfl rfl ⟨Nat.le_of_ble_eq_true rfl, Nat.le_of_ble_eq_true rfl⟩ (Nat.le_of_ble_eq_true rfl) dX12_next_72 (fun r1 S2 => ?_)
    refine mw_eq (st' := [.int r1]) rfl rfl ?_
    refine mw_i2l dX12_next_75 ?_
    refine mw_ldc2 cl_RX12_146 dX12_next_76 ?_
    refine mw_ldc2 cl_RX12_148 dX12_next_79 ?_
    refine mw_callS (t_X12_in X l r1.toInt64 (97 : Int64) (122 : Int64) S2) cd_X12_in lk_RX12_115 sn_X12_in in_RX12 de_X12_in ⟨rfl, rfl⟩ ⟨Nat.le_of_ble_eq_true rfl, Nat.le_of_ble_eq_true rfl⟩ rfl rfl ⟨Nat.le_of_ble_eq_true rfl, Nat.le_of_ble_eq_true rfl⟩ (Nat.le_of_ble_eq_true rfl) dX12_next_82 (fun r3 S4 => ?_)
    refine mw_eq (st' := [.int r3]) rfl rfl ?_
    refine mw_if_eq (tgt := 143) dX12_next_85 (by decide) ?_ ?_
    · refine mw_aload_n 0 dX12_next_143 rfl rfl ?_
      refine mw_aload_n 0 dX12_next_144 rfl rfl ?_
      refine gf_RX12_150 mk_69 dX12_next_145 ?_
      refine mw_callS (t_X12_named X l (S4.2.1 69 24) S4) cd_X12_named lk_RX12_156 sn_X12_named in_RX12 de_X12_named ⟨rfl, rfl⟩ ⟨Nat.le_of_ble_eq_true rfl, Nat.le_of_ble_eq_true rfl⟩ rfl rfl ⟨Nat.le_of_ble_eq_true rfl, Nat.le_of_ble_eq_true rfl⟩ (Nat.le_of_ble_eq_true rfl) dX12_next_148 (fun r5 S6 => ?_)
      refine mw_eq (st' := [.int r5, .ref (X.2.1 69)]) rfl rfl ?_
      refine pf_RX12_160 mk_69 dX12_next_151 ?_
      refine mw_bndS (fun S7 => ?_)
      refine mw_aload_n 0 dX12_next_154 rfl rfl ?_
      refine gf_RX12_160 mk_69 dX12_next_155 ?_
      refine mw_bipush (v := (-4 : Int32)) dX12_next_158 (by decide) ?_
      refine mw_icmp_ne (tgt := 392) dX12_next_160 (by decide) ?_ ?_
      · refine mw_aload_n 0 dX12_next_163 rfl rfl ?_
        refine mw_iconst (v := (1 : Int32)) dX12_next_164 (by decide) ?_
        refine mw_aload_n 0 dX12_next_165 rfl rfl ?_
        refine gf_RX12_140 mk_69 dX12_next_166 ?_
        refine mw_callV (t_X12_fails X l (1 : Int32) (S7.1 69 21) S7) cd_X12_fails lk_RX12_163 im_X12_fails se_X12_fails in_RX12 de_X12_fails ⟨rfl, rfl⟩ ⟨Nat.le_of_ble_eq_true rfl, Nat.le_of_ble_eq_true rfl⟩ (mKind_lt mk_69 (by decide)) (mCell_k mk_69) rfl rfl rfl rfl ⟨Nat.le_of_ble_eq_true rfl, Nat.le_of_ble_eq_true rfl⟩ (Nat.le_of_ble_eq_true rfl) dX12_next_169 (fun r8 S9 => ?_)
        refine mw_eq (st' := []) rfl rfl ?_
        refine mw_goto (tgt := 392) dX12_next_172 (by decide) ?_
        exact mw_return dX12_next_392
      · exact mw_return dX12_next_392
    · refine mw_aload_n 0 dX12_next_88 rfl rfl ?_
      refine mw_aload_n 0 dX12_next_89 rfl rfl ?_
      refine gf_RX12_125 mk_69 dX12_next_90 ?_
      refine mw_aload_n 0 dX12_next_93 rfl rfl ?_
      refine gf_RX12_140 mk_69 dX12_next_94 ?_
      refine mw_isub dX12_next_97 ?_
      refine mw_bipush (v := (6 : Int32)) dX12_next_98 (by decide) ?_
      refine mw_icmp_ge (tgt := 124) dX12_next_100 (by decide) ?_ ?_
      · refine mw_ldc2 cl_RX12_154 dX12_next_124 ?_
        exact mw_sub [0] rfl (w_X12_next_127 X l (f_X12_next_71 n) ih (-1 : Int64) S4)
      · refine mw_ldc2 cl_RX12_128 dX12_next_103 ?_
        refine mw_aload_n 0 dX12_next_106 rfl rfl ?_
        refine gf_RX12_150 mk_69 dX12_next_107 ?_
        refine mw_lmul dX12_next_110 ?_
        refine mw_aload_n 0 dX12_next_111 rfl rfl ?_
        refine mw_callV (t_X12_look X l S4) cd_X12_look lk_RX12_136 im_X12_look se_X12_look in_RX12 de_X12_look ⟨rfl, rfl⟩ ⟨Nat.le_of_ble_eq_true rfl, Nat.le_of_ble_eq_true rfl⟩ (mKind_lt mk_69 (by decide)) (mCell_k mk_69) rfl rfl rfl rfl ⟨Nat.le_of_ble_eq_true rfl, Nat.le_of_ble_eq_true rfl⟩ (Nat.le_of_ble_eq_true rfl) dX12_next_112 (fun r10 S11 => ?_)
        refine mw_eq (st' := [.int r10, .long ((27 : Int64) * (S4.2.1 69 24)), .ref (X.2.1 69)]) rfl rfl ?_
        refine mw_i2l dX12_next_115 ?_
        refine mw_ladd dX12_next_116 ?_
        refine mw_ldc2 cl_RX12_130 dX12_next_117 ?_
        refine mw_lsub dX12_next_120 ?_
        refine mw_goto (tgt := 127) dX12_next_121 (by decide) ?_
        exact mw_sub [0] rfl (w_X12_next_127 X l (f_X12_next_71 n) ih ((((27 : Int64) * (S4.2.1 69 24)) + r10.toInt64) - (96 : Int64)) S11)
def f_X12_next_230 (n : Nat) (y1 : Int32) (y2 : Int32) (S : mM) : Option (Unit × mM) := match n with
  | 0 => none
  | n + 1 =>
    mBind (f_X12_look S) fun r1 S2 =>
    mBind (f_X12_in r1.toInt64 (48 : Int64) (57 : Int64) S2) fun r3 S4 =>
    if r3 = 0 then
      if y1 = (45 : Int32) then
        f_X12_next_315 y2 (-(S4.1 69 23)) S4
      else
        f_X12_next_315 y2 (S4.1 69 23) S4
    else
      if (3 : Int32) ≤ ((S4.1 69 20) - y2) then
        f_X12_next_280 (f_X12_next_230 n) y1 y2 (S4.1 69 23) S4
      else
        mBind (f_X12_look S4) fun r5 S6 =>
        f_X12_next_280 (f_X12_next_230 n) y1 y2 ((((10 : Int32) * (S4.1 69 23)) + r5) - (48 : Int32)) S6
set_option maxRecDepth 100000 in
set_option maxHeartbeats 4000000 in
theorem w_X12_next_230 (X : mX) (l : Launch) (n : Nat) (y1 : Int32) (y2 : Int32) (S : mM) : MW X viV rm_X12_next cX12_next RX12 3 none l S [(0, .ref (X.2.1 69)), (1, .int y1), (2, .int y2)] [] 230 (f_X12_next_230 n y1 y2 S) := by
  induction n generalizing y1 y2 S with
  | zero => exact mw_none
  | succ n ih =>
    unfold f_X12_next_230
    refine mw_aload_n 0 dX12_next_230 rfl rfl ?_
    refine mw_callV (t_X12_look X l S) cd_X12_look lk_RX12_136 im_X12_look se_X12_look in_RX12 de_X12_look ⟨rfl, rfl⟩ ⟨Nat.le_of_ble_eq_true rfl, Nat.le_of_ble_eq_true rfl⟩ (mKind_lt mk_69 (by decide)) (mCell_k mk_69) rfl rfl rfl rfl ⟨Nat.le_of_ble_eq_true rfl, Nat.le_of_ble_eq_true rfl⟩ (Nat.le_of_ble_eq_true rfl) dX12_next_231 (fun r1 S2 => ?_)
    refine mw_eq (st' := [.int r1]) rfl rfl ?_
    refine mw_i2l dX12_next_234 ?_
    refine mw_ldc2 cl_RX12_167 dX12_next_235 ?_
    refine mw_ldc2 cl_RX12_169 dX12_next_238 ?_
    refine mw_callS (t_X12_in X l r1.toInt64 (48 : Int64) (57 : Int64) S2) cd_X12_in lk_RX12_115 sn_X12_in in_RX12 de_X12_in ⟨rfl, rfl⟩ ⟨Nat.le_of_ble_eq_true rfl, Nat.le_of_ble_eq_true rfl⟩ rfl rfl ⟨Nat.le_of_ble_eq_true rfl, Nat.le_of_ble_eq_true rfl⟩ (Nat.le_of_ble_eq_true rfl) dX12_next_241 (fun r3 S4 => ?_)
    refine mw_eq (st' := [.int r3]) rfl rfl ?_
    refine mw_if_eq (tgt := 296) dX12_next_244 (by decide) ?_ ?_
    · refine mw_aload_n 0 dX12_next_296 rfl rfl ?_
      refine mw_iload_n 1 dX12_next_297 rfl rfl ?_
      refine mw_bipush (v := (45 : Int32)) dX12_next_298 (by decide) ?_
      refine mw_icmp_ne (tgt := 311) dX12_next_300 (by decide) ?_ ?_
      · refine mw_aload_n 0 dX12_next_303 rfl rfl ?_
        refine gf_RX12_160 mk_69 dX12_next_304 ?_
        refine mw_ineg dX12_next_307 ?_
        refine mw_goto (tgt := 315) dX12_next_308 (by decide) ?_
        exact mw_sub [0, 2] rfl (w_X12_next_315 X l y2 (-(S4.1 69 23)) S4)
      · refine mw_aload_n 0 dX12_next_311 rfl rfl ?_
        refine gf_RX12_160 mk_69 dX12_next_312 ?_
        exact mw_sub [0, 2] rfl (w_X12_next_315 X l y2 (S4.1 69 23) S4)
    · refine mw_aload_n 0 dX12_next_247 rfl rfl ?_
      refine mw_aload_n 0 dX12_next_248 rfl rfl ?_
      refine gf_RX12_125 mk_69 dX12_next_249 ?_
      refine mw_iload_n 2 dX12_next_252 rfl rfl ?_
      refine mw_isub dX12_next_253 ?_
      refine mw_iconst (v := (3 : Int32)) dX12_next_254 (by decide) ?_
      refine mw_icmp_ge (tgt := 276) dX12_next_255 (by decide) ?_ ?_
      · refine mw_aload_n 0 dX12_next_276 rfl rfl ?_
        refine gf_RX12_160 mk_69 dX12_next_277 ?_
        exact mw_sub [0, 1, 2] rfl (w_X12_next_280 X l (f_X12_next_230 n) ih y1 y2 (S4.1 69 23) S4)
      · refine mw_bipush (v := (10 : Int32)) dX12_next_258 (by decide) ?_
        refine mw_aload_n 0 dX12_next_260 rfl rfl ?_
        refine gf_RX12_160 mk_69 dX12_next_261 ?_
        refine mw_imul dX12_next_264 ?_
        refine mw_aload_n 0 dX12_next_265 rfl rfl ?_
        refine mw_callV (t_X12_look X l S4) cd_X12_look lk_RX12_136 im_X12_look se_X12_look in_RX12 de_X12_look ⟨rfl, rfl⟩ ⟨Nat.le_of_ble_eq_true rfl, Nat.le_of_ble_eq_true rfl⟩ (mKind_lt mk_69 (by decide)) (mCell_k mk_69) rfl rfl rfl rfl ⟨Nat.le_of_ble_eq_true rfl, Nat.le_of_ble_eq_true rfl⟩ (Nat.le_of_ble_eq_true rfl) dX12_next_266 (fun r5 S6 => ?_)
        refine mw_eq (st' := [.int r5, .int ((10 : Int32) * (S4.1 69 23)), .ref (X.2.1 69)]) rfl rfl ?_
        refine mw_iadd dX12_next_269 ?_
        refine mw_bipush (v := (48 : Int32)) dX12_next_270 (by decide) ?_
        refine mw_isub dX12_next_272 ?_
        refine mw_goto (tgt := 280) dX12_next_273 (by decide) ?_
        exact mw_sub [0, 1, 2] rfl (w_X12_next_280 X l (f_X12_next_230 n) ih y1 y2 ((((10 : Int32) * (S4.1 69 23)) + r5) - (48 : Int32)) S6)
def f_X12_next_216 (y1 : Int32) (z0 : Int32) (z1 : Int32) (S : mM) : Option (Unit × mM) :=
  bnd (setI S 69 20 (z1 + z0)) fun S1 =>
  bnd (S1.1 69 20) fun x2 =>
  bnd (setI S1 69 23 (0 : Int32)) fun S3 =>
  f_X12_next_230 mFuel y1 x2 S3
set_option maxRecDepth 100000 in
set_option maxHeartbeats 4000000 in
theorem w_X12_next_216 (X : mX) (l : Launch) (y1 : Int32) (z0 : Int32) (z1 : Int32) (S : mM) : MW X viV rm_X12_next cX12_next RX12 3 none l S [(0, .ref (X.2.1 69)), (1, .int y1)] [.int z0, .int z1, .ref (X.2.1 69)] 216 (f_X12_next_216 y1 z0 z1 S) := by
  unfold f_X12_next_216
  refine mw_iadd dX12_next_216 ?_
  refine pf_RX12_125 mk_69 dX12_next_217 ?_
  refine mw_bndS (fun S1 => ?_)
  refine mw_aload_n 0 dX12_next_220 rfl rfl ?_
  refine gf_RX12_125 mk_69 dX12_next_221 ?_
  refine mw_bndI (fun x2 => ?_)
  refine mw_istore_n (lv' := [(2, .int x2), (0, .ref (X.2.1 69)), (1, .int y1)]) dX12_next_224 rfl (by decide) rfl ?_
  refine mw_aload_n 1 dX12_next_225 rfl rfl ?_
  refine mw_iconst (v := (0 : Int32)) dX12_next_226 (by decide) ?_
  refine pf_RX12_160 mk_69 dX12_next_227 ?_
  refine mw_bndS (fun S3 => ?_)
  exact mw_sub [1, 2, 0] rfl (w_X12_next_230 X l mFuel y1 x2 S3)
def f_X12_next_195 (y1 : Int32) (S : mM) : Option (Unit × mM) :=
  bnd (setI S 69 22 (2 : Int32)) fun S1 =>
  if y1 = (45 : Int32) then
    f_X12_next_216 y1 (1 : Int32) (S1.1 69 20) S1
  else
    f_X12_next_216 y1 (0 : Int32) (S1.1 69 20) S1
set_option maxRecDepth 100000 in
set_option maxHeartbeats 4000000 in
theorem w_X12_next_195 (X : mX) (l : Launch) (y1 : Int32) (S : mM) : MW X viV rm_X12_next cX12_next RX12 3 none l S [(0, .ref (X.2.1 69)), (1, .int y1)] [] 195 (f_X12_next_195 y1 S) := by
  unfold f_X12_next_195
  refine mw_aload_n 0 dX12_next_195 rfl rfl ?_
  refine mw_iconst (v := (2 : Int32)) dX12_next_196 (by decide) ?_
  refine pf_RX12_143 mk_69 dX12_next_197 ?_
  refine mw_bndS (fun S1 => ?_)
  refine mw_aload_n 0 dX12_next_200 rfl rfl ?_
  refine mw_dup dX12_next_201 rfl ?_
  refine gf_RX12_125 mk_69 dX12_next_202 ?_
  refine mw_iload_n 1 dX12_next_205 rfl rfl ?_
  refine mw_bipush (v := (45 : Int32)) dX12_next_206 (by decide) ?_
  refine mw_icmp_ne (tgt := 215) dX12_next_208 (by decide) ?_ ?_
  · refine mw_iconst (v := (1 : Int32)) dX12_next_211 (by decide) ?_
    refine mw_goto (tgt := 216) dX12_next_212 (by decide) ?_
    exact mw_sub [0, 1] rfl (w_X12_next_216 X l y1 (1 : Int32) (S1.1 69 20) S1)
  · refine mw_iconst (v := (0 : Int32)) dX12_next_215 (by decide) ?_
    exact mw_sub [0, 1] rfl (w_X12_next_216 X l y1 (0 : Int32) (S1.1 69 20) S1)
def f_X12_next_0 (n : Nat) (S : mM) : Option (Unit × mM) := match n with
  | 0 => none
  | n + 1 =>
    mBind (f_X12_look S) fun r1 S2 =>
    if r1 = (32 : Int32) then
      bnd (setI S2 69 20 ((S2.1 69 20) + (1 : Int32))) fun S3 =>
      f_X12_next_0 n S3
    else
      bnd (setI S2 69 21 (S2.1 69 20)) fun S4 =>
      mBind (f_X12_look S4) fun r5 S6 =>
      if 0 ≤ r5 then
        mBind (f_X12_in r5.toInt64 (97 : Int64) (122 : Int64) S6) fun r7 S8 =>
        if r7 = 0 then
          if r5 = (45 : Int32) then
            f_X12_next_195 r5 S8
          else
            mBind (f_X12_in r5.toInt64 (48 : Int64) (57 : Int64) S8) fun r9 S10 =>
            if r9 = 0 then
              if r5 = (42 : Int32) then
                f_X12_next_360 r5 S10
              else
                if r5 = (59 : Int32) then
                  f_X12_next_360 r5 S10
                else
                  mBind (f_X12_fails (1 : Int32) (S10.1 69 21) S10) fun r11 S12 =>
                  some ((), S12)
            else
              f_X12_next_195 r5 S10
        else
          bnd (setI S8 69 22 (1 : Int32)) fun S13 =>
          bnd (setJ S13 69 24 (0 : Int64)) fun S14 =>
          f_X12_next_71 mFuel S14
      else
        bnd (setI S6 69 22 (0 : Int32)) fun S15 =>
        some ((), S15)
set_option maxRecDepth 100000 in
set_option maxHeartbeats 4000000 in
theorem w_X12_next_0 (X : mX) (l : Launch) (n : Nat) (S : mM) : MW X viV rm_X12_next cX12_next RX12 3 none l S [(0, .ref (X.2.1 69))] [] 0 (f_X12_next_0 n  S) := by
  induction n generalizing S with
  | zero => exact mw_none
  | succ n ih =>
    unfold f_X12_next_0
    refine mw_aload_n 0 dX12_next_0 rfl rfl ?_
    refine mw_callV (t_X12_look X l S) cd_X12_look lk_RX12_136 im_X12_look se_X12_look in_RX12 de_X12_look ⟨rfl, rfl⟩ ⟨Nat.le_of_ble_eq_true rfl, Nat.le_of_ble_eq_true rfl⟩ (mKind_lt mk_69 (by decide)) (mCell_k mk_69) rfl rfl rfl rfl ⟨Nat.le_of_ble_eq_true rfl, Nat.le_of_ble_eq_true rfl⟩ (Nat.le_of_ble_eq_true rfl) dX12_next_1 (fun r1 S2 => ?_)
    refine mw_eq (st' := [.int r1]) rfl rfl ?_
    refine mw_bipush (v := (32 : Int32)) dX12_next_4 (by decide) ?_
    refine mw_icmp_ne (tgt := 22) dX12_next_6 (by decide) ?_ ?_
    · refine mw_aload_n 0 dX12_next_9 rfl rfl ?_
      refine mw_dup dX12_next_10 rfl ?_
      refine gf_RX12_125 mk_69 dX12_next_11 ?_
      refine mw_iconst (v := (1 : Int32)) dX12_next_14 (by decide) ?_
      refine mw_iadd dX12_next_15 ?_
      refine pf_RX12_125 mk_69 dX12_next_16 ?_
      refine mw_bndS (fun S3 => ?_)
      refine mw_goto (tgt := 0) dX12_next_19 (by decide) ?_
      exact mw_sub [0] rfl (ih S3)
    · refine mw_aload_n 0 dX12_next_22 rfl rfl ?_
      refine mw_aload_n 0 dX12_next_23 rfl rfl ?_
      refine gf_RX12_125 mk_69 dX12_next_24 ?_
      refine pf_RX12_140 mk_69 dX12_next_27 ?_
      refine mw_bndS (fun S4 => ?_)
      refine mw_aload_n 0 dX12_next_30 rfl rfl ?_
      refine mw_callV (t_X12_look X l S4) cd_X12_look lk_RX12_136 im_X12_look se_X12_look in_RX12 de_X12_look ⟨rfl, rfl⟩ ⟨Nat.le_of_ble_eq_true rfl, Nat.le_of_ble_eq_true rfl⟩ (mKind_lt mk_69 (by decide)) (mCell_k mk_69) rfl rfl rfl rfl ⟨Nat.le_of_ble_eq_true rfl, Nat.le_of_ble_eq_true rfl⟩ (Nat.le_of_ble_eq_true rfl) dX12_next_31 (fun r5 S6 => ?_)
      refine mw_eq (st' := [.int r5]) rfl rfl ?_
      refine mw_istore_n (lv' := [(1, .int r5), (0, .ref (X.2.1 69))]) dX12_next_34 rfl (by decide) rfl ?_
      refine mw_iload_n 0 dX12_next_35 rfl rfl ?_
      refine mw_if_ge (tgt := 47) dX12_next_36 (by decide) ?_ ?_
      · refine mw_iload_n 0 dX12_next_47 rfl rfl ?_
        refine mw_i2l dX12_next_48 ?_
        refine mw_ldc2 cl_RX12_146 dX12_next_49 ?_
        refine mw_ldc2 cl_RX12_148 dX12_next_52 ?_
        refine mw_callS (t_X12_in X l r5.toInt64 (97 : Int64) (122 : Int64) S6) cd_X12_in lk_RX12_115 sn_X12_in in_RX12 de_X12_in ⟨rfl, rfl⟩ ⟨Nat.le_of_ble_eq_true rfl, Nat.le_of_ble_eq_true rfl⟩ rfl rfl ⟨Nat.le_of_ble_eq_true rfl, Nat.le_of_ble_eq_true rfl⟩ (Nat.le_of_ble_eq_true rfl) dX12_next_55 (fun r7 S8 => ?_)
        refine mw_eq (st' := [.int r7]) rfl rfl ?_
        refine mw_if_eq (tgt := 175) dX12_next_58 (by decide) ?_ ?_
        · refine mw_iload_n 0 dX12_next_175 rfl rfl ?_
          refine mw_bipush (v := (45 : Int32)) dX12_next_176 (by decide) ?_
          refine mw_icmp_eq (tgt := 195) dX12_next_178 (by decide) ?_ ?_
          · exact mw_sub [1, 0] rfl (w_X12_next_195 X l r5 S8)
          · refine mw_iload_n 0 dX12_next_181 rfl rfl ?_
            refine mw_i2l dX12_next_182 ?_
            refine mw_ldc2 cl_RX12_167 dX12_next_183 ?_
            refine mw_ldc2 cl_RX12_169 dX12_next_186 ?_
            refine mw_callS (t_X12_in X l r5.toInt64 (48 : Int64) (57 : Int64) S8) cd_X12_in lk_RX12_115 sn_X12_in in_RX12 de_X12_in ⟨rfl, rfl⟩ ⟨Nat.le_of_ble_eq_true rfl, Nat.le_of_ble_eq_true rfl⟩ rfl rfl ⟨Nat.le_of_ble_eq_true rfl, Nat.le_of_ble_eq_true rfl⟩ (Nat.le_of_ble_eq_true rfl) dX12_next_189 (fun r9 S10 => ?_)
            refine mw_eq (st' := [.int r9]) rfl rfl ?_
            refine mw_if_eq (tgt := 348) dX12_next_192 (by decide) ?_ ?_
            · refine mw_iload_n 0 dX12_next_348 rfl rfl ?_
              refine mw_bipush (v := (42 : Int32)) dX12_next_349 (by decide) ?_
              refine mw_icmp_eq (tgt := 360) dX12_next_351 (by decide) ?_ ?_
              · exact mw_sub [1, 0] rfl (w_X12_next_360 X l r5 S10)
              · refine mw_iload_n 0 dX12_next_354 rfl rfl ?_
                refine mw_bipush (v := (59 : Int32)) dX12_next_355 (by decide) ?_
                refine mw_icmp_ne (tgt := 383) dX12_next_357 (by decide) ?_ ?_
                · exact mw_sub [1, 0] rfl (w_X12_next_360 X l r5 S10)
                · refine mw_aload_n 1 dX12_next_383 rfl rfl ?_
                  refine mw_iconst (v := (1 : Int32)) dX12_next_384 (by decide) ?_
                  refine mw_aload_n 1 dX12_next_385 rfl rfl ?_
                  refine gf_RX12_140 mk_69 dX12_next_386 ?_
                  refine mw_callV (t_X12_fails X l (1 : Int32) (S10.1 69 21) S10) cd_X12_fails lk_RX12_163 im_X12_fails se_X12_fails in_RX12 de_X12_fails ⟨rfl, rfl⟩ ⟨Nat.le_of_ble_eq_true rfl, Nat.le_of_ble_eq_true rfl⟩ (mKind_lt mk_69 (by decide)) (mCell_k mk_69) rfl rfl rfl rfl ⟨Nat.le_of_ble_eq_true rfl, Nat.le_of_ble_eq_true rfl⟩ (Nat.le_of_ble_eq_true rfl) dX12_next_389 (fun r11 S12 => ?_)
                  refine mw_eq (st' := []) rfl rfl ?_
                  exact mw_return dX12_next_392
            · exact mw_sub [1, 0] rfl (w_X12_next_195 X l r5 S10)
        · refine mw_aload_n 1 dX12_next_61 rfl rfl ?_
          refine mw_iconst (v := (1 : Int32)) dX12_next_62 (by decide) ?_
          refine pf_RX12_143 mk_69 dX12_next_63 ?_
          refine mw_bndS (fun S13 => ?_)
          refine mw_aload_n 1 dX12_next_66 rfl rfl ?_
          refine mw_lconst (v := (0 : Int64)) dX12_next_67 (by decide) ?_
          refine pf_RX12_150 mk_69 dX12_next_68 ?_
          refine mw_bndS (fun S14 => ?_)
          exact mw_sub [1] rfl (w_X12_next_71 X l mFuel S14)
      · refine mw_aload_n 1 dX12_next_39 rfl rfl ?_
        refine mw_iconst (v := (0 : Int32)) dX12_next_40 (by decide) ?_
        refine pf_RX12_143 mk_69 dX12_next_41 ?_
        refine mw_bndS (fun S15 => ?_)
        refine mw_goto (tgt := 392) dX12_next_44 (by decide) ?_
        exact mw_return dX12_next_392
def f_X12_next (S : mM) : Option (Unit × mM) :=
  f_X12_next_0 mFuel S
set_option maxRecDepth 100000 in
set_option maxHeartbeats 4000000 in
theorem w_X12_next (X : mX) (l : Launch) (S : mM) : MW X viV rm_X12_next cX12_next RX12 3 none l S [(0, .ref (X.2.1 69))] [] 0 (f_X12_next  S) := by
  unfold f_X12_next
  exact mw_sub [0] rfl (w_X12_next_0 X l mFuel S)
theorem t_X12_next (X : mX) (l : Launch) (S : mM) : mMet X viV yX12_next cX12_next 3 none rm_X12_next [.ref (X.2.1 69)] l S (f_X12_next  S) :=
  mMet_of (by decide +kernel) rfl (Nat.le_of_ble_eq_true rfl) (w_X12_next X l  S )
/-! TraceBenchModel.place(II)J -/
def f_X12_place (p1 : Int32) (p2 : Int32) (S : mM) : Option (Int64 × mM) :=
  mBind (f_X12_isRow p1 S) fun r1 S2 =>
  if r1 = 0 then
    some ((0 : Int64), S2)
  else
    if 0 ≤ p1 ∧ p1.toNatClampNeg < 4 then
    (mBind (f_X12_in p2.toInt64 (0 : Int64) (((S2.1 91 p1.toNatClampNeg) - (1 : Int32)).toInt64) S2) fun r3 S4 =>
    if r3 = 0 then
      some ((0 : Int64), S4)
    else
      if 0 ≤ (((201 : Int32) * p1) + p2) ∧ (((201 : Int32) * p1) + p2).toNatClampNeg < 804 then
      (if (S4.1 93 (((201 : Int32) * p1) + p2).toNatClampNeg) = 0 then
        if 0 ≤ (((201 : Int32) * p1) + p2) ∧ (((201 : Int32) * p1) + p2).toNatClampNeg < 804 then
        (some ((S4.2.1 92 (((201 : Int32) * p1) + p2).toNatClampNeg), S4))
        else none
      else
        some ((0 : Int64), S4))
      else none)
    else none
set_option maxRecDepth 100000 in
set_option maxHeartbeats 4000000 in
theorem w_X12_place (X : mX) (l : Launch) (p1 : Int32) (p2 : Int32) (S : mM) : MW X viJ rm_X12_place cX12_place RX12 3 (some .long) l S [(0, .ref (X.2.1 69)), (1, .int p1), (2, .int p2)] [] 0 (f_X12_place p1 p2 S) := by
  unfold f_X12_place
  refine mw_aload_n 0 dX12_place_0 rfl rfl ?_
  refine mw_iload_n 1 dX12_place_1 rfl rfl ?_
  refine mw_callV (t_X12_isRow X l p1 S) cd_X12_isRow lk_RX12_254 im_X12_isRow se_X12_isRow in_RX12 de_X12_isRow ⟨rfl, rfl⟩ ⟨Nat.le_of_ble_eq_true rfl, Nat.le_of_ble_eq_true rfl⟩ (mKind_lt mk_69 (by decide)) (mCell_k mk_69) rfl rfl rfl rfl ⟨Nat.le_of_ble_eq_true rfl, Nat.le_of_ble_eq_true rfl⟩ (Nat.le_of_ble_eq_true rfl) dX12_place_2 (fun r1 S2 => ?_)
  refine mw_eq (st' := [.int r1]) rfl rfl ?_
  refine mw_if_eq (tgt := 56) dX12_place_5 (by decide) ?_ ?_
  · refine mw_lconst (v := (0 : Int64)) dX12_place_56 (by decide) ?_
    exact mw_lreturn dX12_place_57
  · refine mw_iload_n 2 dX12_place_8 rfl rfl ?_
    refine mw_i2l dX12_place_9 ?_
    refine mw_lconst (v := (0 : Int64)) dX12_place_10 (by decide) ?_
    refine mw_aload_n 0 dX12_place_11 rfl rfl ?_
    refine gf_RX12_84 mk_69 dX12_place_12 ?_
    refine mw_iload_n 1 dX12_place_15 rfl rfl ?_
    refine mw_iaload mk_91 ml_91 dX12_place_16 ?_
    refine mw_iconst (v := (1 : Int32)) dX12_place_17 (by decide) ?_
    refine mw_isub dX12_place_18 ?_
    refine mw_i2l dX12_place_19 ?_
    refine mw_callS (t_X12_in X l p2.toInt64 (0 : Int64) (((S2.1 91 p1.toNatClampNeg) - (1 : Int32)).toInt64) S2) cd_X12_in lk_RX12_115 sn_X12_in in_RX12 de_X12_in ⟨rfl, rfl⟩ ⟨Nat.le_of_ble_eq_true rfl, Nat.le_of_ble_eq_true rfl⟩ rfl rfl ⟨Nat.le_of_ble_eq_true rfl, Nat.le_of_ble_eq_true rfl⟩ (Nat.le_of_ble_eq_true rfl) dX12_place_20 (fun r3 S4 => ?_)
    refine mw_eq (st' := [.int r3]) rfl rfl ?_
    refine mw_if_eq (tgt := 56) dX12_place_23 (by decide) ?_ ?_
    · refine mw_lconst (v := (0 : Int64)) dX12_place_56 (by decide) ?_
      exact mw_lreturn dX12_place_57
    · refine mw_aload_n 0 dX12_place_26 rfl rfl ?_
      refine gf_RX12_91 mk_69 dX12_place_27 ?_
      refine mw_sipush (v := (201 : Int32)) dX12_place_30 (by decide) ?_
      refine mw_iload_n 1 dX12_place_33 rfl rfl ?_
      refine mw_imul dX12_place_34 ?_
      refine mw_iload_n 2 dX12_place_35 rfl rfl ?_
      refine mw_iadd dX12_place_36 ?_
      refine mw_zaload mk_93 ml_93 dX12_place_37 ?_
      refine mw_if_ne (tgt := 56) dX12_place_38 (by decide) ?_ ?_
      · refine mw_aload_n 0 dX12_place_41 rfl rfl ?_
        refine gf_RX12_87 mk_69 dX12_place_42 ?_
        refine mw_sipush (v := (201 : Int32)) dX12_place_45 (by decide) ?_
        refine mw_iload_n 1 dX12_place_48 rfl rfl ?_
        refine mw_imul dX12_place_49 ?_
        refine mw_iload_n 2 dX12_place_50 rfl rfl ?_
        refine mw_iadd dX12_place_51 ?_
        refine mw_laload mk_92 ml_92 dX12_place_52 ?_
        refine mw_goto (tgt := 57) dX12_place_53 (by decide) ?_
        exact mw_lreturn dX12_place_57
      · refine mw_lconst (v := (0 : Int64)) dX12_place_56 (by decide) ?_
        exact mw_lreturn dX12_place_57
theorem t_X12_place (X : mX) (l : Launch) (p1 : Int32) (p2 : Int32) (S : mM) : mMet X viJ yX12_place cX12_place 3 (some .long) rm_X12_place [.ref (X.2.1 69), .int p1, .int p2] l S (f_X12_place p1 p2 S) :=
  mMet_of (by decide +kernel) rfl (Nat.le_of_ble_eq_true rfl) (w_X12_place X l p1 p2 S )
/-! TraceBenchModel.play(IIII)I -/
def f_X12_play_104 (k57 : Int32 → Int32 → Int32 → Int32 → Int32 → mM → Option (Int32 × mM)) (y1 : Int32) (y2 : Int32) (y3 : Int32) (y4 : Int32) (y5 : Int32) (z0 : Int32) (S : mM) : Option (Int32 × mM) :=
  mBind (f_X12_takes (z0 <<< (((24 : Int32) - ((8 : Int32) * y2)) &&& 31)) S) fun r1 S2 =>
  bnd (y5 + (1 : Int32)) fun x3 =>
  k57 y1 y2 y3 y4 x3 S2
set_option maxRecDepth 100000 in
set_option maxHeartbeats 4000000 in
theorem w_X12_play_104 (X : mX) (l : Launch) (k57 : Int32 → Int32 → Int32 → Int32 → Int32 → mM → Option (Int32 × mM)) (hk57 : ∀ (y1 : Int32) (y2 : Int32) (y3 : Int32) (y4 : Int32) (y5 : Int32) (S : mM), MW X viI rm_X12_play cX12_play RX12 7 (some .int) l S [(0, .ref (X.2.1 69)), (1, .int y1), (2, .int y2), (3, .int y3), (4, .int y4), (5, .int y5)] [] 57 (k57 y1 y2 y3 y4 y5 S)) (y1 : Int32) (y2 : Int32) (y3 : Int32) (y4 : Int32) (y5 : Int32) (z0 : Int32) (S : mM) : MW X viI rm_X12_play cX12_play RX12 7 (some .int) l S [(0, .ref (X.2.1 69)), (1, .int y1), (2, .int y2), (3, .int y3), (4, .int y4), (5, .int y5)] [.int z0] 104 (f_X12_play_104 k57 y1 y2 y3 y4 y5 z0 S) := by
  unfold f_X12_play_104
  refine mw_istore (lv' := [(6, .int z0), (0, .ref (X.2.1 69)), (1, .int y1), (2, .int y2), (3, .int y3), (4, .int y4), (5, .int y5)]) dX12_play_104 (by decide) rfl ?_
  refine mw_aload_n 1 dX12_play_106 rfl rfl ?_
  refine mw_iload 0 dX12_play_107 rfl ?_
  refine mw_bipush (v := (24 : Int32)) dX12_play_109 (by decide) ?_
  refine mw_bipush (v := (8 : Int32)) dX12_play_111 (by decide) ?_
  refine mw_iload_n 3 dX12_play_113 rfl rfl ?_
  refine mw_imul dX12_play_114 ?_
  refine mw_isub dX12_play_115 ?_
  refine mw_ishl dX12_play_116 ?_
  refine mw_callV (t_X12_takes X l (z0 <<< (((24 : Int32) - ((8 : Int32) * y2)) &&& 31)) S) cd_X12_takes lk_RX12_251 im_X12_takes se_X12_takes in_RX12 de_X12_takes ⟨rfl, rfl⟩ ⟨Nat.le_of_ble_eq_true rfl, Nat.le_of_ble_eq_true rfl⟩ (mKind_lt mk_69 (by decide)) (mCell_k mk_69) rfl rfl rfl rfl ⟨Nat.le_of_ble_eq_true rfl, Nat.le_of_ble_eq_true rfl⟩ (Nat.le_of_ble_eq_true rfl) dX12_play_117 (fun r1 S2 => ?_)
  refine mw_eq (st' := []) rfl rfl ?_
  refine mw_iincB (lvf := fun x3 => [(5, .int x3), (6, .int z0), (0, .ref (X.2.1 69)), (1, .int y1), (2, .int y2), (3, .int y3), (4, .int y4)]) (k := 6) dX12_play_120 rfl (by decide) (by decide) (fun _ => rfl) (fun x3 => ?_)
  refine mw_goto (tgt := 57) dX12_play_123 (by decide) ?_
  exact mw_sub [2, 3, 4, 5, 6, 0] rfl (hk57 y1 y2 y3 y4 x3 S2)
def f_X12_play_57 (n : Nat) (y1 : Int32) (y2 : Int32) (y3 : Int32) (y4 : Int32) (y5 : Int32) (S : mM) : Option (Int32 × mM) := match n with
  | 0 => none
  | n + 1 =>
    if (y3 + y4) ≤ y5 then
      some ((S.1 69 34), S)
    else
      if 0 ≤ (((201 : Int32) * y1) + y5) ∧ (((201 : Int32) * y1) + y5).toNatClampNeg < 804 then
      (if (S.1 93 (((201 : Int32) * y1) + y5).toNatClampNeg) = 0 then
        if 0 ≤ (((201 : Int32) * y1) + y5) ∧ (((201 : Int32) * y1) + y5).toNatClampNeg < 804 then
        (f_X12_play_104 (f_X12_play_57 n) y1 y2 y3 y4 y5 (((S.2.1 92 (((201 : Int32) * y1) + y5).toNatClampNeg) &&& (255 : Int64)).toInt32) S)
        else none
      else
        f_X12_play_104 (f_X12_play_57 n) y1 y2 y3 y4 y5 (0 : Int32) S)
      else none
set_option maxRecDepth 100000 in
set_option maxHeartbeats 4000000 in
theorem w_X12_play_57 (X : mX) (l : Launch) (n : Nat) (y1 : Int32) (y2 : Int32) (y3 : Int32) (y4 : Int32) (y5 : Int32) (S : mM) : MW X viI rm_X12_play cX12_play RX12 7 (some .int) l S [(0, .ref (X.2.1 69)), (1, .int y1), (2, .int y2), (3, .int y3), (4, .int y4), (5, .int y5)] [] 57 (f_X12_play_57 n y1 y2 y3 y4 y5 S) := by
  induction n generalizing y1 y2 y3 y4 y5 S with
  | zero => exact mw_none
  | succ n ih =>
    unfold f_X12_play_57
    refine mw_iload 5 dX12_play_57 rfl ?_
    refine mw_iload_n 3 dX12_play_59 rfl rfl ?_
    refine mw_iload 4 dX12_play_60 rfl ?_
    refine mw_iadd dX12_play_62 ?_
    refine mw_icmp_ge (tgt := 126) dX12_play_63 (by decide) ?_ ?_
    · refine mw_aload_n 0 dX12_play_126 rfl rfl ?_
      refine gf_RX12_221 mk_69 dX12_play_127 ?_
      exact mw_ireturn dX12_play_130
    · refine mw_aload_n 0 dX12_play_66 rfl rfl ?_
      refine gf_RX12_91 mk_69 dX12_play_67 ?_
      refine mw_sipush (v := (201 : Int32)) dX12_play_70 (by decide) ?_
      refine mw_iload_n 1 dX12_play_73 rfl rfl ?_
      refine mw_imul dX12_play_74 ?_
      refine mw_iload 5 dX12_play_75 rfl ?_
      refine mw_iadd dX12_play_77 ?_
      refine mw_zaload mk_93 ml_93 dX12_play_78 ?_
      refine mw_if_eq (tgt := 86) dX12_play_79 (by decide) ?_ ?_
      · refine mw_aload_n 0 dX12_play_86 rfl rfl ?_
        refine gf_RX12_87 mk_69 dX12_play_87 ?_
        refine mw_sipush (v := (201 : Int32)) dX12_play_90 (by decide) ?_
        refine mw_iload_n 1 dX12_play_93 rfl rfl ?_
        refine mw_imul dX12_play_94 ?_
        refine mw_iload 5 dX12_play_95 rfl ?_
        refine mw_iadd dX12_play_97 ?_
        refine mw_laload mk_92 ml_92 dX12_play_98 ?_
        refine mw_ldc2 cl_RX12_113 dX12_play_99 ?_
        refine mw_land dX12_play_102 ?_
        refine mw_l2i dX12_play_103 ?_
        exact mw_sub [0, 1, 2, 3, 4, 5] rfl (w_X12_play_104 X l (f_X12_play_57 n) ih y1 y2 y3 y4 y5 (((S.2.1 92 (((201 : Int32) * y1) + y5).toNatClampNeg) &&& (255 : Int64)).toInt32) S)
      · refine mw_iconst (v := (0 : Int32)) dX12_play_82 (by decide) ?_
        refine mw_goto (tgt := 104) dX12_play_83 (by decide) ?_
        exact mw_sub [0, 1, 2, 3, 4, 5] rfl (w_X12_play_104 X l (f_X12_play_57 n) ih y1 y2 y3 y4 y5 (0 : Int32) S)
def f_X12_play (p1 : Int32) (p2 : Int32) (p3 : Int32) (p4 : Int32) (S : mM) : Option (Int32 × mM) :=
  mBind (f_X12_isRow p1 S) fun r1 S2 =>
  if r1 = 0 then
    some ((-1 : Int32), S2)
  else
    mBind (f_X12_in p2.toInt64 (0 : Int64) (3 : Int64) S2) fun r3 S4 =>
    if r3 = 0 then
      some ((-1 : Int32), S4)
    else
      mBind (f_X12_in p4.toInt64 (0 : Int64) (64 : Int64) S4) fun r5 S6 =>
      if r5 = 0 then
        some ((-1 : Int32), S6)
      else
        if 0 ≤ p1 ∧ p1.toNatClampNeg < 4 then
        (mBind (f_X12_in p3.toInt64 (0 : Int64) (((S6.1 91 p1.toNatClampNeg) - p4).toInt64) S6) fun r7 S8 =>
        if r7 = 0 then
          some ((-1 : Int32), S8)
        else
          f_X12_play_57 mFuel p1 p2 p3 p4 p3 S8)
        else none
set_option maxRecDepth 100000 in
set_option maxHeartbeats 4000000 in
theorem w_X12_play (X : mX) (l : Launch) (p1 : Int32) (p2 : Int32) (p3 : Int32) (p4 : Int32) (S : mM) : MW X viI rm_X12_play cX12_play RX12 7 (some .int) l S [(0, .ref (X.2.1 69)), (1, .int p1), (2, .int p2), (3, .int p3), (4, .int p4)] [] 0 (f_X12_play p1 p2 p3 p4 S) := by
  unfold f_X12_play
  refine mw_aload_n 0 dX12_play_0 rfl rfl ?_
  refine mw_iload_n 1 dX12_play_1 rfl rfl ?_
  refine mw_callV (t_X12_isRow X l p1 S) cd_X12_isRow lk_RX12_254 im_X12_isRow se_X12_isRow in_RX12 de_X12_isRow ⟨rfl, rfl⟩ ⟨Nat.le_of_ble_eq_true rfl, Nat.le_of_ble_eq_true rfl⟩ (mKind_lt mk_69 (by decide)) (mCell_k mk_69) rfl rfl rfl rfl ⟨Nat.le_of_ble_eq_true rfl, Nat.le_of_ble_eq_true rfl⟩ (Nat.le_of_ble_eq_true rfl) dX12_play_2 (fun r1 S2 => ?_)
  refine mw_eq (st' := [.int r1]) rfl rfl ?_
  refine mw_if_eq (tgt := 52) dX12_play_5 (by decide) ?_ ?_
  · refine mw_iconst (v := (-1 : Int32)) dX12_play_52 (by decide) ?_
    exact mw_ireturn dX12_play_53
  · refine mw_iload_n 2 dX12_play_8 rfl rfl ?_
    refine mw_i2l dX12_play_9 ?_
    refine mw_lconst (v := (0 : Int64)) dX12_play_10 (by decide) ?_
    refine mw_ldc2 cl_RX12_257 dX12_play_11 ?_
    refine mw_callS (t_X12_in X l p2.toInt64 (0 : Int64) (3 : Int64) S2) cd_X12_in lk_RX12_115 sn_X12_in in_RX12 de_X12_in ⟨rfl, rfl⟩ ⟨Nat.le_of_ble_eq_true rfl, Nat.le_of_ble_eq_true rfl⟩ rfl rfl ⟨Nat.le_of_ble_eq_true rfl, Nat.le_of_ble_eq_true rfl⟩ (Nat.le_of_ble_eq_true rfl) dX12_play_14 (fun r3 S4 => ?_)
    refine mw_eq (st' := [.int r3]) rfl rfl ?_
    refine mw_if_eq (tgt := 52) dX12_play_17 (by decide) ?_ ?_
    · refine mw_iconst (v := (-1 : Int32)) dX12_play_52 (by decide) ?_
      exact mw_ireturn dX12_play_53
    · refine mw_iload 4 dX12_play_20 rfl ?_
      refine mw_i2l dX12_play_22 ?_
      refine mw_lconst (v := (0 : Int64)) dX12_play_23 (by decide) ?_
      refine mw_ldc2 cl_RX12_259 dX12_play_24 ?_
      refine mw_callS (t_X12_in X l p4.toInt64 (0 : Int64) (64 : Int64) S4) cd_X12_in lk_RX12_115 sn_X12_in in_RX12 de_X12_in ⟨rfl, rfl⟩ ⟨Nat.le_of_ble_eq_true rfl, Nat.le_of_ble_eq_true rfl⟩ rfl rfl ⟨Nat.le_of_ble_eq_true rfl, Nat.le_of_ble_eq_true rfl⟩ (Nat.le_of_ble_eq_true rfl) dX12_play_27 (fun r5 S6 => ?_)
      refine mw_eq (st' := [.int r5]) rfl rfl ?_
      refine mw_if_eq (tgt := 52) dX12_play_30 (by decide) ?_ ?_
      · refine mw_iconst (v := (-1 : Int32)) dX12_play_52 (by decide) ?_
        exact mw_ireturn dX12_play_53
      · refine mw_iload_n 3 dX12_play_33 rfl rfl ?_
        refine mw_i2l dX12_play_34 ?_
        refine mw_lconst (v := (0 : Int64)) dX12_play_35 (by decide) ?_
        refine mw_aload_n 0 dX12_play_36 rfl rfl ?_
        refine gf_RX12_84 mk_69 dX12_play_37 ?_
        refine mw_iload_n 1 dX12_play_40 rfl rfl ?_
        refine mw_iaload mk_91 ml_91 dX12_play_41 ?_
        refine mw_iload 4 dX12_play_42 rfl ?_
        refine mw_isub dX12_play_44 ?_
        refine mw_i2l dX12_play_45 ?_
        refine mw_callS (t_X12_in X l p3.toInt64 (0 : Int64) (((S6.1 91 p1.toNatClampNeg) - p4).toInt64) S6) cd_X12_in lk_RX12_115 sn_X12_in in_RX12 de_X12_in ⟨rfl, rfl⟩ ⟨Nat.le_of_ble_eq_true rfl, Nat.le_of_ble_eq_true rfl⟩ rfl rfl ⟨Nat.le_of_ble_eq_true rfl, Nat.le_of_ble_eq_true rfl⟩ (Nat.le_of_ble_eq_true rfl) dX12_play_46 (fun r7 S8 => ?_)
        refine mw_eq (st' := [.int r7]) rfl rfl ?_
        refine mw_if_ne (tgt := 54) dX12_play_49 (by decide) ?_ ?_
        · refine mw_iconst (v := (-1 : Int32)) dX12_play_52 (by decide) ?_
          exact mw_ireturn dX12_play_53
        · refine mw_iload_n 3 dX12_play_54 rfl rfl ?_
          refine mw_istore (lv' := [(5, .int p3), (0, .ref (X.2.1 69)), (1, .int p1), (2, .int p2), (3, .int p3), (4, .int p4)]) dX12_play_55 (by decide) rfl ?_
          exact mw_sub [1, 2, 3, 4, 5, 0] rfl (w_X12_play_57 X l mFuel p1 p2 p3 p4 p3 S8)
theorem t_X12_play (X : mX) (l : Launch) (p1 : Int32) (p2 : Int32) (p3 : Int32) (p4 : Int32) (S : mM) : mMet X viI yX12_play cX12_play 7 (some .int) rm_X12_play [.ref (X.2.1 69), .int p1, .int p2, .int p3, .int p4] l S (f_X12_play p1 p2 p3 p4 S) :=
  mMet_of (by decide +kernel) rfl (Nat.le_of_ble_eq_true rfl) (w_X12_play X l p1 p2 p3 p4 S )
/-! TraceBenchModel.taken(II)I -/
def f_X12_taken_55 (S : mM) : Option (Int32 × mM) :=
  bnd (S.1 69 23) fun x1 =>
  if (S.1 69 18) = 0 then
    mBind (f_X12_next S) fun r2 S3 =>
    some (x1, S3)
  else
    some (x1, S)
set_option maxRecDepth 100000 in
set_option maxHeartbeats 4000000 in
theorem w_X12_taken_55 (X : mX) (l : Launch) (S : mM) : MW X viI rm_X12_taken cX12_taken RX12 4 (some .int) l S [(0, .ref (X.2.1 69))] [] 55 (f_X12_taken_55  S) := by
  unfold f_X12_taken_55
  refine mw_aload_n 0 dX12_taken_55 rfl rfl ?_
  refine gf_RX12_160 mk_69 dX12_taken_56 ?_
  refine mw_bndI (fun x1 => ?_)
  refine mw_istore_n (lv' := [(3, .int x1), (0, .ref (X.2.1 69))]) dX12_taken_59 rfl (by decide) rfl ?_
  refine mw_aload_n 1 dX12_taken_60 rfl rfl ?_
  refine gf_RX12_119 mk_69 dX12_taken_61 ?_
  refine mw_if_ne (tgt := 71) dX12_taken_64 (by decide) ?_ ?_
  · refine mw_aload_n 1 dX12_taken_67 rfl rfl ?_
    refine mw_callV (t_X12_next X l S) cd_X12_next lk_RX12_171 im_X12_next se_X12_next in_RX12 de_X12_next ⟨rfl, rfl⟩ ⟨Nat.le_of_ble_eq_true rfl, Nat.le_of_ble_eq_true rfl⟩ (mKind_lt mk_69 (by decide)) (mCell_k mk_69) rfl rfl rfl rfl ⟨Nat.le_of_ble_eq_true rfl, Nat.le_of_ble_eq_true rfl⟩ (Nat.le_of_ble_eq_true rfl) dX12_taken_68 (fun r2 S3 => ?_)
    refine mw_eq (st' := []) rfl rfl ?_
    refine mw_iload_n 0 dX12_taken_71 rfl rfl ?_
    exact mw_ireturn dX12_taken_72
  · refine mw_iload_n 0 dX12_taken_71 rfl rfl ?_
    exact mw_ireturn dX12_taken_72
def f_X12_taken_24 (y1 : Int32) (y2 : Int32) (S : mM) : Option (Int32 × mM) :=
  if (S.1 69 18) = 0 then
    mBind (f_X12_in ((S.1 69 23).toInt64) y1.toInt64 y2.toInt64 S) fun r1 S2 =>
    if r1 = 0 then
      mBind (f_X12_fails (3 : Int32) (S2.1 69 21) S2) fun r3 S4 =>
      f_X12_taken_55 S4
    else
      f_X12_taken_55 S2
  else
    f_X12_taken_55 S
set_option maxRecDepth 100000 in
set_option maxHeartbeats 4000000 in
theorem w_X12_taken_24 (X : mX) (l : Launch) (y1 : Int32) (y2 : Int32) (S : mM) : MW X viI rm_X12_taken cX12_taken RX12 4 (some .int) l S [(0, .ref (X.2.1 69)), (1, .int y1), (2, .int y2)] [] 24 (f_X12_taken_24 y1 y2 S) := by
  unfold f_X12_taken_24
  refine mw_aload_n 0 dX12_taken_24 rfl rfl ?_
  refine gf_RX12_119 mk_69 dX12_taken_25 ?_
  refine mw_if_ne (tgt := 55) dX12_taken_28 (by decide) ?_ ?_
  · refine mw_aload_n 0 dX12_taken_31 rfl rfl ?_
    refine gf_RX12_160 mk_69 dX12_taken_32 ?_
    refine mw_i2l dX12_taken_35 ?_
    refine mw_iload_n 1 dX12_taken_36 rfl rfl ?_
    refine mw_i2l dX12_taken_37 ?_
    refine mw_iload_n 2 dX12_taken_38 rfl rfl ?_
    refine mw_i2l dX12_taken_39 ?_
    refine mw_callS (t_X12_in X l ((S.1 69 23).toInt64) y1.toInt64 y2.toInt64 S) cd_X12_in lk_RX12_115 sn_X12_in in_RX12 de_X12_in ⟨rfl, rfl⟩ ⟨Nat.le_of_ble_eq_true rfl, Nat.le_of_ble_eq_true rfl⟩ rfl rfl ⟨Nat.le_of_ble_eq_true rfl, Nat.le_of_ble_eq_true rfl⟩ (Nat.le_of_ble_eq_true rfl) dX12_taken_40 (fun r1 S2 => ?_)
    refine mw_eq (st' := [.int r1]) rfl rfl ?_
    refine mw_if_ne (tgt := 55) dX12_taken_43 (by decide) ?_ ?_
    · refine mw_aload_n 0 dX12_taken_46 rfl rfl ?_
      refine mw_iconst (v := (3 : Int32)) dX12_taken_47 (by decide) ?_
      refine mw_aload_n 0 dX12_taken_48 rfl rfl ?_
      refine gf_RX12_140 mk_69 dX12_taken_49 ?_
      refine mw_callV (t_X12_fails X l (3 : Int32) (S2.1 69 21) S2) cd_X12_fails lk_RX12_163 im_X12_fails se_X12_fails in_RX12 de_X12_fails ⟨rfl, rfl⟩ ⟨Nat.le_of_ble_eq_true rfl, Nat.le_of_ble_eq_true rfl⟩ (mKind_lt mk_69 (by decide)) (mCell_k mk_69) rfl rfl rfl rfl ⟨Nat.le_of_ble_eq_true rfl, Nat.le_of_ble_eq_true rfl⟩ (Nat.le_of_ble_eq_true rfl) dX12_taken_52 (fun r3 S4 => ?_)
      refine mw_eq (st' := []) rfl rfl ?_
      exact mw_sub [0] rfl (w_X12_taken_55 X l S4)
    · exact mw_sub [0] rfl (w_X12_taken_55 X l S2)
  · exact mw_sub [0] rfl (w_X12_taken_55 X l S)
def f_X12_taken (p1 : Int32) (p2 : Int32) (S : mM) : Option (Int32 × mM) :=
  if (S.1 69 18) = 0 then
    if (S.1 69 22) = (2 : Int32) then
      f_X12_taken_24 p1 p2 S
    else
      mBind (f_X12_fails (2 : Int32) (S.1 69 21) S) fun r1 S2 =>
      f_X12_taken_24 p1 p2 S2
  else
    f_X12_taken_24 p1 p2 S
set_option maxRecDepth 100000 in
set_option maxHeartbeats 4000000 in
theorem w_X12_taken (X : mX) (l : Launch) (p1 : Int32) (p2 : Int32) (S : mM) : MW X viI rm_X12_taken cX12_taken RX12 4 (some .int) l S [(0, .ref (X.2.1 69)), (1, .int p1), (2, .int p2)] [] 0 (f_X12_taken p1 p2 S) := by
  unfold f_X12_taken
  refine mw_aload_n 0 dX12_taken_0 rfl rfl ?_
  refine gf_RX12_119 mk_69 dX12_taken_1 ?_
  refine mw_if_ne (tgt := 24) dX12_taken_4 (by decide) ?_ ?_
  · refine mw_aload_n 0 dX12_taken_7 rfl rfl ?_
    refine gf_RX12_143 mk_69 dX12_taken_8 ?_
    refine mw_iconst (v := (2 : Int32)) dX12_taken_11 (by decide) ?_
    refine mw_icmp_eq (tgt := 24) dX12_taken_12 (by decide) ?_ ?_
    · exact mw_sub [0, 1, 2] rfl (w_X12_taken_24 X l p1 p2 S)
    · refine mw_aload_n 0 dX12_taken_15 rfl rfl ?_
      refine mw_iconst (v := (2 : Int32)) dX12_taken_16 (by decide) ?_
      refine mw_aload_n 0 dX12_taken_17 rfl rfl ?_
      refine gf_RX12_140 mk_69 dX12_taken_18 ?_
      refine mw_callV (t_X12_fails X l (2 : Int32) (S.1 69 21) S) cd_X12_fails lk_RX12_163 im_X12_fails se_X12_fails in_RX12 de_X12_fails ⟨rfl, rfl⟩ ⟨Nat.le_of_ble_eq_true rfl, Nat.le_of_ble_eq_true rfl⟩ (mKind_lt mk_69 (by decide)) (mCell_k mk_69) rfl rfl rfl rfl ⟨Nat.le_of_ble_eq_true rfl, Nat.le_of_ble_eq_true rfl⟩ (Nat.le_of_ble_eq_true rfl) dX12_taken_21 (fun r1 S2 => ?_)
      refine mw_eq (st' := []) rfl rfl ?_
      exact mw_sub [0, 1, 2] rfl (w_X12_taken_24 X l p1 p2 S2)
  · exact mw_sub [0, 1, 2] rfl (w_X12_taken_24 X l p1 p2 S)
theorem t_X12_taken (X : mX) (l : Launch) (p1 : Int32) (p2 : Int32) (S : mM) : mMet X viI yX12_taken cX12_taken 4 (some .int) rm_X12_taken [.ref (X.2.1 69), .int p1, .int p2] l S (f_X12_taken p1 p2 S) :=
  mMet_of (by decide +kernel) rfl (Nat.le_of_ble_eq_true rfl) (w_X12_taken X l p1 p2 S )
/-! TraceBenchModel.readEvent(I)V -/
def f_X12_readEvent_115 (y1 : Int32) (S : mM) : Option (Unit × mM) :=
  mBind (f_X12_taken (1 : Int32) (200 : Int32) S) fun r1 S2 =>
  if 0 ≤ y1 ∧ y1.toNatClampNeg < 6 then
  (bnd (setI S2 82 y1.toNatClampNeg r1) fun S3 =>
  some ((), S3))
  else none
set_option maxRecDepth 100000 in
set_option maxHeartbeats 4000000 in
theorem w_X12_readEvent_115 (X : mX) (l : Launch) (y1 : Int32) (S : mM) : MW X viV rm_X12_readEvent cX12_readEvent RX12 3 none l S [(0, .ref (X.2.1 69)), (1, .int y1)] [] 115 (f_X12_readEvent_115 y1 S) := by
  unfold f_X12_readEvent_115
  refine mw_aload_n 0 dX12_readEvent_115 rfl rfl ?_
  refine gf_RX12_47 mk_69 dX12_readEvent_116 ?_
  refine mw_iload_n 1 dX12_readEvent_119 rfl rfl ?_
  refine mw_aload_n 0 dX12_readEvent_120 rfl rfl ?_
  refine mw_iconst (v := (1 : Int32)) dX12_readEvent_121 (by decide) ?_
  refine mw_sipush (v := (200 : Int32)) dX12_readEvent_122 (by decide) ?_
  refine mw_callV (t_X12_taken X l (1 : Int32) (200 : Int32) S) cd_X12_taken lk_RX12_174 im_X12_taken se_X12_taken in_RX12 de_X12_taken ⟨rfl, rfl⟩ ⟨Nat.le_of_ble_eq_true rfl, Nat.le_of_ble_eq_true rfl⟩ (mKind_lt mk_69 (by decide)) (mCell_k mk_69) rfl rfl rfl rfl ⟨Nat.le_of_ble_eq_true rfl, Nat.le_of_ble_eq_true rfl⟩ (Nat.le_of_ble_eq_true rfl) dX12_readEvent_125 (fun r1 S2 => ?_)
  refine mw_eq (st' := [.int r1, .int y1, .ref (X.2.1 82)]) rfl rfl ?_
  refine mw_iastore mk_82 ml_82 dX12_readEvent_128 ?_
  refine mw_bndS (fun S3 => ?_)
  refine mw_goto (tgt := 216) dX12_readEvent_129 (by decide) ?_
  exact mw_return dX12_readEvent_216
def f_X12_readEvent_202 (y1 : Int32) (S : mM) : Option (Unit × mM) :=
  mBind (f_X12_taken (-128 : Int32) (127 : Int32) S) fun r1 S2 =>
  if 0 ≤ y1 ∧ y1.toNatClampNeg < 6 then
  (bnd (setI S2 82 y1.toNatClampNeg r1) fun S3 =>
  some ((), S3))
  else none
set_option maxRecDepth 100000 in
set_option maxHeartbeats 4000000 in
theorem w_X12_readEvent_202 (X : mX) (l : Launch) (y1 : Int32) (S : mM) : MW X viV rm_X12_readEvent cX12_readEvent RX12 3 none l S [(0, .ref (X.2.1 69)), (1, .int y1)] [] 202 (f_X12_readEvent_202 y1 S) := by
  unfold f_X12_readEvent_202
  refine mw_aload_n 0 dX12_readEvent_202 rfl rfl ?_
  refine gf_RX12_47 mk_69 dX12_readEvent_203 ?_
  refine mw_iload_n 1 dX12_readEvent_206 rfl rfl ?_
  refine mw_aload_n 0 dX12_readEvent_207 rfl rfl ?_
  refine mw_bipush (v := (-128 : Int32)) dX12_readEvent_208 (by decide) ?_
  refine mw_bipush (v := (127 : Int32)) dX12_readEvent_210 (by decide) ?_
  refine mw_callV (t_X12_taken X l (-128 : Int32) (127 : Int32) S) cd_X12_taken lk_RX12_174 im_X12_taken se_X12_taken in_RX12 de_X12_taken ⟨rfl, rfl⟩ ⟨Nat.le_of_ble_eq_true rfl, Nat.le_of_ble_eq_true rfl⟩ (mKind_lt mk_69 (by decide)) (mCell_k mk_69) rfl rfl rfl rfl ⟨Nat.le_of_ble_eq_true rfl, Nat.le_of_ble_eq_true rfl⟩ (Nat.le_of_ble_eq_true rfl) dX12_readEvent_212 (fun r1 S2 => ?_)
  refine mw_eq (st' := [.int r1, .int y1, .ref (X.2.1 82)]) rfl rfl ?_
  refine mw_iastore mk_82 ml_82 dX12_readEvent_215 ?_
  refine mw_bndS (fun S3 => ?_)
  exact mw_return dX12_readEvent_216
def f_X12_readEvent_148 (y1 : Int32) (S : mM) : Option (Unit × mM) :=
  if (S.1 69 18) = 0 then
    if (S.1 69 22) = (2 : Int32) then
      mBind (f_X12_in ((S.1 69 23).toInt64) (-128 : Int64) (127 : Int64) S) fun r1 S2 =>
      if r1 = 0 then
        f_X12_readEvent_202 y1 S2
      else
        if 0 ≤ y1 ∧ y1.toNatClampNeg < 6 then
        (if (S2.1 81 y1.toNatClampNeg) < (S2.1 69 23) then
          f_X12_readEvent_202 y1 S2
        else
          mBind (f_X12_fails (5 : Int32) (S2.1 69 21) S2) fun r3 S4 =>
          f_X12_readEvent_202 y1 S4)
        else none
    else
      f_X12_readEvent_202 y1 S
  else
    f_X12_readEvent_202 y1 S
set_option maxRecDepth 100000 in
set_option maxHeartbeats 4000000 in
theorem w_X12_readEvent_148 (X : mX) (l : Launch) (y1 : Int32) (S : mM) : MW X viV rm_X12_readEvent cX12_readEvent RX12 3 none l S [(0, .ref (X.2.1 69)), (1, .int y1)] [] 148 (f_X12_readEvent_148 y1 S) := by
  unfold f_X12_readEvent_148
  refine mw_aload_n 0 dX12_readEvent_148 rfl rfl ?_
  refine gf_RX12_119 mk_69 dX12_readEvent_149 ?_
  refine mw_if_ne (tgt := 202) dX12_readEvent_152 (by decide) ?_ ?_
  · refine mw_aload_n 0 dX12_readEvent_155 rfl rfl ?_
    refine gf_RX12_143 mk_69 dX12_readEvent_156 ?_
    refine mw_iconst (v := (2 : Int32)) dX12_readEvent_159 (by decide) ?_
    refine mw_icmp_ne (tgt := 202) dX12_readEvent_160 (by decide) ?_ ?_
    · refine mw_aload_n 0 dX12_readEvent_163 rfl rfl ?_
      refine gf_RX12_160 mk_69 dX12_readEvent_164 ?_
      refine mw_i2l dX12_readEvent_167 ?_
      refine mw_ldc2 cl_RX12_178 dX12_readEvent_168 ?_
      refine mw_ldc2 cl_RX12_180 dX12_readEvent_171 ?_
      refine mw_callS (t_X12_in X l ((S.1 69 23).toInt64) (-128 : Int64) (127 : Int64) S) cd_X12_in lk_RX12_115 sn_X12_in in_RX12 de_X12_in ⟨rfl, rfl⟩ ⟨Nat.le_of_ble_eq_true rfl, Nat.le_of_ble_eq_true rfl⟩ rfl rfl ⟨Nat.le_of_ble_eq_true rfl, Nat.le_of_ble_eq_true rfl⟩ (Nat.le_of_ble_eq_true rfl) dX12_readEvent_174 (fun r1 S2 => ?_)
      refine mw_eq (st' := [.int r1]) rfl rfl ?_
      refine mw_if_eq (tgt := 202) dX12_readEvent_177 (by decide) ?_ ?_
      · exact mw_sub [0, 1] rfl (w_X12_readEvent_202 X l y1 S2)
      · refine mw_aload_n 0 dX12_readEvent_180 rfl rfl ?_
        refine gf_RX12_160 mk_69 dX12_readEvent_181 ?_
        refine mw_aload_n 0 dX12_readEvent_184 rfl rfl ?_
        refine gf_RX12_44 mk_69 dX12_readEvent_185 ?_
        refine mw_iload_n 1 dX12_readEvent_188 rfl rfl ?_
        refine mw_iaload mk_81 ml_81 dX12_readEvent_189 ?_
        refine mw_icmp_gt (tgt := 202) dX12_readEvent_190 (by decide) ?_ ?_
        · exact mw_sub [0, 1] rfl (w_X12_readEvent_202 X l y1 S2)
        · refine mw_aload_n 0 dX12_readEvent_193 rfl rfl ?_
          refine mw_iconst (v := (5 : Int32)) dX12_readEvent_194 (by decide) ?_
          refine mw_aload_n 0 dX12_readEvent_195 rfl rfl ?_
          refine gf_RX12_140 mk_69 dX12_readEvent_196 ?_
          refine mw_callV (t_X12_fails X l (5 : Int32) (S2.1 69 21) S2) cd_X12_fails lk_RX12_163 im_X12_fails se_X12_fails in_RX12 de_X12_fails ⟨rfl, rfl⟩ ⟨Nat.le_of_ble_eq_true rfl, Nat.le_of_ble_eq_true rfl⟩ (mKind_lt mk_69 (by decide)) (mCell_k mk_69) rfl rfl rfl rfl ⟨Nat.le_of_ble_eq_true rfl, Nat.le_of_ble_eq_true rfl⟩ (Nat.le_of_ble_eq_true rfl) dX12_readEvent_199 (fun r3 S4 => ?_)
          refine mw_eq (st' := []) rfl rfl ?_
          exact mw_sub [0, 1] rfl (w_X12_readEvent_202 X l y1 S4)
    · exact mw_sub [0, 1] rfl (w_X12_readEvent_202 X l y1 S)
  · exact mw_sub [0, 1] rfl (w_X12_readEvent_202 X l y1 S)
def f_X12_readEvent_97 (y1 : Int32) (y2 : Int32) (z0 : Int32) (z1 : Int32) (S : mM) : Option (Unit × mM) :=
  if 0 ≤ z1 ∧ z1.toNatClampNeg < 6 then
  (bnd (setI S 81 z1.toNatClampNeg z0) fun S1 =>
  if 0 ≤ y1 ∧ y1.toNatClampNeg < 6 then
  (bnd (setI S1 82 y1.toNatClampNeg (0 : Int32)) fun S2 =>
  if y2 = (2 : Int32) then
    f_X12_readEvent_115 y1 S2
  else
    if y2 = (3 : Int32) then
      f_X12_readEvent_115 y1 S2
    else
      if y2 = (4 : Int32) then
        f_X12_readEvent_148 y1 S2
      else
        if y2 = (5 : Int32) then
          f_X12_readEvent_148 y1 S2
        else
          if y2 = (6 : Int32) then
            f_X12_readEvent_148 y1 S2
          else
            some ((), S2))
  else none)
  else none
set_option maxRecDepth 100000 in
set_option maxHeartbeats 4000000 in
theorem w_X12_readEvent_97 (X : mX) (l : Launch) (y1 : Int32) (y2 : Int32) (z0 : Int32) (z1 : Int32) (S : mM) : MW X viV rm_X12_readEvent cX12_readEvent RX12 3 none l S [(0, .ref (X.2.1 69)), (1, .int y1), (2, .int y2)] [.int z0, .int z1, .ref (X.2.1 81)] 97 (f_X12_readEvent_97 y1 y2 z0 z1 S) := by
  unfold f_X12_readEvent_97
  refine mw_iastore mk_81 ml_81 dX12_readEvent_97 ?_
  refine mw_bndS (fun S1 => ?_)
  refine mw_aload_n 0 dX12_readEvent_98 rfl rfl ?_
  refine gf_RX12_47 mk_69 dX12_readEvent_99 ?_
  refine mw_iload_n 1 dX12_readEvent_102 rfl rfl ?_
  refine mw_iconst (v := (0 : Int32)) dX12_readEvent_103 (by decide) ?_
  refine mw_iastore mk_82 ml_82 dX12_readEvent_104 ?_
  refine mw_bndS (fun S2 => ?_)
  refine mw_iload_n 2 dX12_readEvent_105 rfl rfl ?_
  refine mw_iconst (v := (2 : Int32)) dX12_readEvent_106 (by decide) ?_
  refine mw_icmp_eq (tgt := 115) dX12_readEvent_107 (by decide) ?_ ?_
  · exact mw_sub [0, 1] rfl (w_X12_readEvent_115 X l y1 S2)
  · refine mw_iload_n 2 dX12_readEvent_110 rfl rfl ?_
    refine mw_iconst (v := (3 : Int32)) dX12_readEvent_111 (by decide) ?_
    refine mw_icmp_ne (tgt := 132) dX12_readEvent_112 (by decide) ?_ ?_
    · exact mw_sub [0, 1] rfl (w_X12_readEvent_115 X l y1 S2)
    · refine mw_iload_n 2 dX12_readEvent_132 rfl rfl ?_
      refine mw_iconst (v := (4 : Int32)) dX12_readEvent_133 (by decide) ?_
      refine mw_icmp_eq (tgt := 148) dX12_readEvent_134 (by decide) ?_ ?_
      · exact mw_sub [0, 1] rfl (w_X12_readEvent_148 X l y1 S2)
      · refine mw_iload_n 2 dX12_readEvent_137 rfl rfl ?_
        refine mw_iconst (v := (5 : Int32)) dX12_readEvent_138 (by decide) ?_
        refine mw_icmp_eq (tgt := 148) dX12_readEvent_139 (by decide) ?_ ?_
        · exact mw_sub [0, 1] rfl (w_X12_readEvent_148 X l y1 S2)
        · refine mw_iload_n 2 dX12_readEvent_142 rfl rfl ?_
          refine mw_bipush (v := (6 : Int32)) dX12_readEvent_143 (by decide) ?_
          refine mw_icmp_ne (tgt := 216) dX12_readEvent_145 (by decide) ?_ ?_
          · exact mw_sub [0, 1] rfl (w_X12_readEvent_148 X l y1 S2)
          · exact mw_return dX12_readEvent_216
def f_X12_readEvent_33 (y1 : Int32) (S : mM) : Option (Unit × mM) :=
  if (S.1 69 18) ≤ 0 then
    bnd (S.1 69 23) fun x1 =>
    if 0 ≤ y1 ∧ y1.toNatClampNeg < 6 then
    (bnd (setI S 79 y1.toNatClampNeg x1) fun S2 =>
    mBind (f_X12_next S2) fun r3 S4 =>
    mBind (f_X12_taken (0 : Int32) (3 : Int32) S4) fun r5 S6 =>
    if 0 ≤ y1 ∧ y1.toNatClampNeg < 6 then
    (bnd (setI S6 80 y1.toNatClampNeg r5) fun S7 =>
    if x1 = (7 : Int32) then
      mBind (f_X12_taken (0 : Int32) (3 : Int32) S7) fun r8 S9 =>
      f_X12_readEvent_97 y1 x1 r8 y1 S9
    else
      mBind (f_X12_taken (-128 : Int32) (127 : Int32) S7) fun r10 S11 =>
      f_X12_readEvent_97 y1 x1 r10 y1 S11)
    else none)
    else none
  else
    some ((), S)
set_option maxRecDepth 100000 in
set_option maxHeartbeats 4000000 in
theorem w_X12_readEvent_33 (X : mX) (l : Launch) (y1 : Int32) (S : mM) : MW X viV rm_X12_readEvent cX12_readEvent RX12 3 none l S [(0, .ref (X.2.1 69)), (1, .int y1)] [] 33 (f_X12_readEvent_33 y1 S) := by
  unfold f_X12_readEvent_33
  refine mw_aload_n 0 dX12_readEvent_33 rfl rfl ?_
  refine gf_RX12_119 mk_69 dX12_readEvent_34 ?_
  refine mw_if_le (tgt := 41) dX12_readEvent_37 (by decide) ?_ ?_
  · refine mw_aload_n 0 dX12_readEvent_41 rfl rfl ?_
    refine gf_RX12_160 mk_69 dX12_readEvent_42 ?_
    refine mw_bndI (fun x1 => ?_)
    refine mw_istore_n (lv' := [(2, .int x1), (0, .ref (X.2.1 69)), (1, .int y1)]) dX12_readEvent_45 rfl (by decide) rfl ?_
    refine mw_aload_n 1 dX12_readEvent_46 rfl rfl ?_
    refine gf_RX12_38 mk_69 dX12_readEvent_47 ?_
    refine mw_iload_n 2 dX12_readEvent_50 rfl rfl ?_
    refine mw_iload_n 0 dX12_readEvent_51 rfl rfl ?_
    refine mw_iastore mk_79 ml_79 dX12_readEvent_52 ?_
    refine mw_bndS (fun S2 => ?_)
    refine mw_aload_n 1 dX12_readEvent_53 rfl rfl ?_
    refine mw_callV (t_X12_next X l S2) cd_X12_next lk_RX12_171 im_X12_next se_X12_next in_RX12 de_X12_next ⟨rfl, rfl⟩ ⟨Nat.le_of_ble_eq_true rfl, Nat.le_of_ble_eq_true rfl⟩ (mKind_lt mk_69 (by decide)) (mCell_k mk_69) rfl rfl rfl rfl ⟨Nat.le_of_ble_eq_true rfl, Nat.le_of_ble_eq_true rfl⟩ (Nat.le_of_ble_eq_true rfl) dX12_readEvent_54 (fun r3 S4 => ?_)
    refine mw_eq (st' := []) rfl rfl ?_
    refine mw_aload_n 1 dX12_readEvent_57 rfl rfl ?_
    refine gf_RX12_41 mk_69 dX12_readEvent_58 ?_
    refine mw_iload_n 2 dX12_readEvent_61 rfl rfl ?_
    refine mw_aload_n 1 dX12_readEvent_62 rfl rfl ?_
    refine mw_iconst (v := (0 : Int32)) dX12_readEvent_63 (by decide) ?_
    refine mw_iconst (v := (3 : Int32)) dX12_readEvent_64 (by decide) ?_
    refine mw_callV (t_X12_taken X l (0 : Int32) (3 : Int32) S4) cd_X12_taken lk_RX12_174 im_X12_taken se_X12_taken in_RX12 de_X12_taken ⟨rfl, rfl⟩ ⟨Nat.le_of_ble_eq_true rfl, Nat.le_of_ble_eq_true rfl⟩ (mKind_lt mk_69 (by decide)) (mCell_k mk_69) rfl rfl rfl rfl ⟨Nat.le_of_ble_eq_true rfl, Nat.le_of_ble_eq_true rfl⟩ (Nat.le_of_ble_eq_true rfl) dX12_readEvent_65 (fun r5 S6 => ?_)
    refine mw_eq (st' := [.int r5, .int y1, .ref (X.2.1 80)]) rfl rfl ?_
    refine mw_iastore mk_80 ml_80 dX12_readEvent_68 ?_
    refine mw_bndS (fun S7 => ?_)
    refine mw_aload_n 1 dX12_readEvent_69 rfl rfl ?_
    refine gf_RX12_44 mk_69 dX12_readEvent_70 ?_
    refine mw_iload_n 2 dX12_readEvent_73 rfl rfl ?_
    refine mw_iload_n 0 dX12_readEvent_74 rfl rfl ?_
    refine mw_bipush (v := (7 : Int32)) dX12_readEvent_75 (by decide) ?_
    refine mw_icmp_ne (tgt := 89) dX12_readEvent_77 (by decide) ?_ ?_
    · refine mw_aload_n 1 dX12_readEvent_80 rfl rfl ?_
      refine mw_iconst (v := (0 : Int32)) dX12_readEvent_81 (by decide) ?_
      refine mw_iconst (v := (3 : Int32)) dX12_readEvent_82 (by decide) ?_
      refine mw_callV (t_X12_taken X l (0 : Int32) (3 : Int32) S7) cd_X12_taken lk_RX12_174 im_X12_taken se_X12_taken in_RX12 de_X12_taken ⟨rfl, rfl⟩ ⟨Nat.le_of_ble_eq_true rfl, Nat.le_of_ble_eq_true rfl⟩ (mKind_lt mk_69 (by decide)) (mCell_k mk_69) rfl rfl rfl rfl ⟨Nat.le_of_ble_eq_true rfl, Nat.le_of_ble_eq_true rfl⟩ (Nat.le_of_ble_eq_true rfl) dX12_readEvent_83 (fun r8 S9 => ?_)
      refine mw_eq (st' := [.int r8, .int y1, .ref (X.2.1 81)]) rfl rfl ?_
      refine mw_goto (tgt := 97) dX12_readEvent_86 (by decide) ?_
      exact mw_sub [1, 2, 0] rfl (w_X12_readEvent_97 X l y1 x1 r8 y1 S9)
    · refine mw_aload_n 1 dX12_readEvent_89 rfl rfl ?_
      refine mw_bipush (v := (-128 : Int32)) dX12_readEvent_90 (by decide) ?_
      refine mw_bipush (v := (127 : Int32)) dX12_readEvent_92 (by decide) ?_
      refine mw_callV (t_X12_taken X l (-128 : Int32) (127 : Int32) S7) cd_X12_taken lk_RX12_174 im_X12_taken se_X12_taken in_RX12 de_X12_taken ⟨rfl, rfl⟩ ⟨Nat.le_of_ble_eq_true rfl, Nat.le_of_ble_eq_true rfl⟩ (mKind_lt mk_69 (by decide)) (mCell_k mk_69) rfl rfl rfl rfl ⟨Nat.le_of_ble_eq_true rfl, Nat.le_of_ble_eq_true rfl⟩ (Nat.le_of_ble_eq_true rfl) dX12_readEvent_94 (fun r10 S11 => ?_)
      refine mw_eq (st' := [.int r10, .int y1, .ref (X.2.1 81)]) rfl rfl ?_
      exact mw_sub [1, 2, 0] rfl (w_X12_readEvent_97 X l y1 x1 r10 y1 S11)
  · exact mw_return dX12_readEvent_40
def f_X12_readEvent_24 (y1 : Int32) (S : mM) : Option (Unit × mM) :=
  mBind (f_X12_fails (2 : Int32) (S.1 69 21) S) fun r1 S2 =>
  f_X12_readEvent_33 y1 S2
set_option maxRecDepth 100000 in
set_option maxHeartbeats 4000000 in
theorem w_X12_readEvent_24 (X : mX) (l : Launch) (y1 : Int32) (S : mM) : MW X viV rm_X12_readEvent cX12_readEvent RX12 3 none l S [(0, .ref (X.2.1 69)), (1, .int y1)] [] 24 (f_X12_readEvent_24 y1 S) := by
  unfold f_X12_readEvent_24
  refine mw_aload_n 0 dX12_readEvent_24 rfl rfl ?_
  refine mw_iconst (v := (2 : Int32)) dX12_readEvent_25 (by decide) ?_
  refine mw_aload_n 0 dX12_readEvent_26 rfl rfl ?_
  refine gf_RX12_140 mk_69 dX12_readEvent_27 ?_
  refine mw_callV (t_X12_fails X l (2 : Int32) (S.1 69 21) S) cd_X12_fails lk_RX12_163 im_X12_fails se_X12_fails in_RX12 de_X12_fails ⟨rfl, rfl⟩ ⟨Nat.le_of_ble_eq_true rfl, Nat.le_of_ble_eq_true rfl⟩ (mKind_lt mk_69 (by decide)) (mCell_k mk_69) rfl rfl rfl rfl ⟨Nat.le_of_ble_eq_true rfl, Nat.le_of_ble_eq_true rfl⟩ (Nat.le_of_ble_eq_true rfl) dX12_readEvent_30 (fun r1 S2 => ?_)
  refine mw_eq (st' := []) rfl rfl ?_
  exact mw_sub [0, 1] rfl (w_X12_readEvent_33 X l y1 S2)
def f_X12_readEvent (p1 : Int32) (S : mM) : Option (Unit × mM) :=
  if (S.1 69 18) = 0 then
    if (S.1 69 22) = (1 : Int32) then
      if (S.1 69 23) = (8 : Int32) then
        f_X12_readEvent_24 p1 S
      else
        f_X12_readEvent_33 p1 S
    else
      f_X12_readEvent_24 p1 S
  else
    f_X12_readEvent_33 p1 S
set_option maxRecDepth 100000 in
set_option maxHeartbeats 4000000 in
theorem w_X12_readEvent (X : mX) (l : Launch) (p1 : Int32) (S : mM) : MW X viV rm_X12_readEvent cX12_readEvent RX12 3 none l S [(0, .ref (X.2.1 69)), (1, .int p1)] [] 0 (f_X12_readEvent p1 S) := by
  unfold f_X12_readEvent
  refine mw_aload_n 0 dX12_readEvent_0 rfl rfl ?_
  refine gf_RX12_119 mk_69 dX12_readEvent_1 ?_
  refine mw_if_ne (tgt := 33) dX12_readEvent_4 (by decide) ?_ ?_
  · refine mw_aload_n 0 dX12_readEvent_7 rfl rfl ?_
    refine gf_RX12_143 mk_69 dX12_readEvent_8 ?_
    refine mw_iconst (v := (1 : Int32)) dX12_readEvent_11 (by decide) ?_
    refine mw_icmp_ne (tgt := 24) dX12_readEvent_12 (by decide) ?_ ?_
    · refine mw_aload_n 0 dX12_readEvent_15 rfl rfl ?_
      refine gf_RX12_160 mk_69 dX12_readEvent_16 ?_
      refine mw_bipush (v := (8 : Int32)) dX12_readEvent_19 (by decide) ?_
      refine mw_icmp_ne (tgt := 33) dX12_readEvent_21 (by decide) ?_ ?_
      · exact mw_sub [0, 1] rfl (w_X12_readEvent_24 X l p1 S)
      · exact mw_sub [0, 1] rfl (w_X12_readEvent_33 X l p1 S)
    · exact mw_sub [0, 1] rfl (w_X12_readEvent_24 X l p1 S)
  · exact mw_sub [0, 1] rfl (w_X12_readEvent_33 X l p1 S)
theorem t_X12_readEvent (X : mX) (l : Launch) (p1 : Int32) (S : mM) : mMet X viV yX12_readEvent cX12_readEvent 3 none rm_X12_readEvent [.ref (X.2.1 69), .int p1] l S (f_X12_readEvent p1 S) :=
  mMet_of (by decide +kernel) rfl (Nat.le_of_ble_eq_true rfl) (w_X12_readEvent X l p1 S )
/-! TraceBenchModel.readStage()V -/
def f_X12_readStage_84 (y1 : Int32) (S : mM) : Option (Unit × mM) :=
  mBind (f_X12_readEvent y1 S) fun r1 S2 =>
  if 0 ≤ y1 ∧ y1.toNatClampNeg < 6 then
  (bnd (setI S2 83 y1.toNatClampNeg (0 : Int32)) fun S3 =>
  if (S3.1 69 18) = 0 then
    if (S3.1 69 22) = (1 : Int32) then
      if (S3.1 69 23) = (8 : Int32) then
        mBind (f_X12_next S3) fun r4 S5 =>
        mBind (f_X12_taken (1 : Int32) (200 : Int32) S5) fun r6 S7 =>
        if 0 ≤ y1 ∧ y1.toNatClampNeg < 6 then
        (bnd (setI S7 83 y1.toNatClampNeg r6) fun S8 =>
        bnd (setI S8 69 11 ((S8.1 69 11) + (1 : Int32))) fun S9 =>
        some ((), S9))
        else none
      else
        bnd (setI S3 69 11 ((S3.1 69 11) + (1 : Int32))) fun S10 =>
        some ((), S10)
    else
      bnd (setI S3 69 11 ((S3.1 69 11) + (1 : Int32))) fun S11 =>
      some ((), S11)
  else
    bnd (setI S3 69 11 ((S3.1 69 11) + (1 : Int32))) fun S12 =>
    some ((), S12))
  else none
set_option maxRecDepth 100000 in
set_option maxHeartbeats 4000000 in
theorem w_X12_readStage_84 (X : mX) (l : Launch) (y1 : Int32) (S : mM) : MW X viV rm_X12_readStage cX12_readStage RX12 2 none l S [(0, .ref (X.2.1 69)), (1, .int y1)] [] 84 (f_X12_readStage_84 y1 S) := by
  unfold f_X12_readStage_84
  refine mw_aload_n 0 dX12_readStage_84 rfl rfl ?_
  refine mw_iload_n 1 dX12_readStage_85 rfl rfl ?_
  refine mw_callV (t_X12_readEvent X l y1 S) cd_X12_readEvent lk_RX12_185 im_X12_readEvent se_X12_readEvent in_RX12 de_X12_readEvent ⟨rfl, rfl⟩ ⟨Nat.le_of_ble_eq_true rfl, Nat.le_of_ble_eq_true rfl⟩ (mKind_lt mk_69 (by decide)) (mCell_k mk_69) rfl rfl rfl rfl ⟨Nat.le_of_ble_eq_true rfl, Nat.le_of_ble_eq_true rfl⟩ (Nat.le_of_ble_eq_true rfl) dX12_readStage_86 (fun r1 S2 => ?_)
  refine mw_eq (st' := []) rfl rfl ?_
  refine mw_aload_n 0 dX12_readStage_89 rfl rfl ?_
  refine gf_RX12_50 mk_69 dX12_readStage_90 ?_
  refine mw_iload_n 1 dX12_readStage_93 rfl rfl ?_
  refine mw_iconst (v := (0 : Int32)) dX12_readStage_94 (by decide) ?_
  refine mw_iastore mk_83 ml_83 dX12_readStage_95 ?_
  refine mw_bndS (fun S3 => ?_)
  refine mw_aload_n 0 dX12_readStage_96 rfl rfl ?_
  refine gf_RX12_119 mk_69 dX12_readStage_97 ?_
  refine mw_if_ne (tgt := 138) dX12_readStage_100 (by decide) ?_ ?_
  · refine mw_aload_n 0 dX12_readStage_103 rfl rfl ?_
    refine gf_RX12_143 mk_69 dX12_readStage_104 ?_
    refine mw_iconst (v := (1 : Int32)) dX12_readStage_107 (by decide) ?_
    refine mw_icmp_ne (tgt := 138) dX12_readStage_108 (by decide) ?_ ?_
    · refine mw_aload_n 0 dX12_readStage_111 rfl rfl ?_
      refine gf_RX12_160 mk_69 dX12_readStage_112 ?_
      refine mw_bipush (v := (8 : Int32)) dX12_readStage_115 (by decide) ?_
      refine mw_icmp_ne (tgt := 138) dX12_readStage_117 (by decide) ?_ ?_
      · refine mw_aload_n 0 dX12_readStage_120 rfl rfl ?_
        refine mw_callV (t_X12_next X l S3) cd_X12_next lk_RX12_171 im_X12_next se_X12_next in_RX12 de_X12_next ⟨rfl, rfl⟩ ⟨Nat.le_of_ble_eq_true rfl, Nat.le_of_ble_eq_true rfl⟩ (mKind_lt mk_69 (by decide)) (mCell_k mk_69) rfl rfl rfl rfl ⟨Nat.le_of_ble_eq_true rfl, Nat.le_of_ble_eq_true rfl⟩ (Nat.le_of_ble_eq_true rfl) dX12_readStage_121 (fun r4 S5 => ?_)
        refine mw_eq (st' := []) rfl rfl ?_
        refine mw_aload_n 0 dX12_readStage_124 rfl rfl ?_
        refine gf_RX12_50 mk_69 dX12_readStage_125 ?_
        refine mw_iload_n 1 dX12_readStage_128 rfl rfl ?_
        refine mw_aload_n 0 dX12_readStage_129 rfl rfl ?_
        refine mw_iconst (v := (1 : Int32)) dX12_readStage_130 (by decide) ?_
        refine mw_sipush (v := (200 : Int32)) dX12_readStage_131 (by decide) ?_
        refine mw_callV (t_X12_taken X l (1 : Int32) (200 : Int32) S5) cd_X12_taken lk_RX12_174 im_X12_taken se_X12_taken in_RX12 de_X12_taken ⟨rfl, rfl⟩ ⟨Nat.le_of_ble_eq_true rfl, Nat.le_of_ble_eq_true rfl⟩ (mKind_lt mk_69 (by decide)) (mCell_k mk_69) rfl rfl rfl rfl ⟨Nat.le_of_ble_eq_true rfl, Nat.le_of_ble_eq_true rfl⟩ (Nat.le_of_ble_eq_true rfl) dX12_readStage_134 (fun r6 S7 => ?_)
        refine mw_eq (st' := [.int r6, .int y1, .ref (X.2.1 83)]) rfl rfl ?_
        refine mw_iastore mk_83 ml_83 dX12_readStage_137 ?_
        refine mw_bndS (fun S8 => ?_)
        refine mw_aload_n 0 dX12_readStage_138 rfl rfl ?_
        refine mw_dup dX12_readStage_139 rfl ?_
        refine gf_RX12_182 mk_69 dX12_readStage_140 ?_
        refine mw_iconst (v := (1 : Int32)) dX12_readStage_143 (by decide) ?_
        refine mw_iadd dX12_readStage_144 ?_
        refine pf_RX12_182 mk_69 dX12_readStage_145 ?_
        refine mw_bndS (fun S9 => ?_)
        exact mw_return dX12_readStage_148
      · refine mw_aload_n 0 dX12_readStage_138 rfl rfl ?_
        refine mw_dup dX12_readStage_139 rfl ?_
        refine gf_RX12_182 mk_69 dX12_readStage_140 ?_
        refine mw_iconst (v := (1 : Int32)) dX12_readStage_143 (by decide) ?_
        refine mw_iadd dX12_readStage_144 ?_
        refine pf_RX12_182 mk_69 dX12_readStage_145 ?_
        refine mw_bndS (fun S10 => ?_)
        exact mw_return dX12_readStage_148
    · refine mw_aload_n 0 dX12_readStage_138 rfl rfl ?_
      refine mw_dup dX12_readStage_139 rfl ?_
      refine gf_RX12_182 mk_69 dX12_readStage_140 ?_
      refine mw_iconst (v := (1 : Int32)) dX12_readStage_143 (by decide) ?_
      refine mw_iadd dX12_readStage_144 ?_
      refine pf_RX12_182 mk_69 dX12_readStage_145 ?_
      refine mw_bndS (fun S11 => ?_)
      exact mw_return dX12_readStage_148
  · refine mw_aload_n 0 dX12_readStage_138 rfl rfl ?_
    refine mw_dup dX12_readStage_139 rfl ?_
    refine gf_RX12_182 mk_69 dX12_readStage_140 ?_
    refine mw_iconst (v := (1 : Int32)) dX12_readStage_143 (by decide) ?_
    refine mw_iadd dX12_readStage_144 ?_
    refine pf_RX12_182 mk_69 dX12_readStage_145 ?_
    refine mw_bndS (fun S12 => ?_)
    exact mw_return dX12_readStage_148
def f_X12_readStage_73 (y1 : Int32) (S : mM) : Option (Unit × mM) :=
  if (S.1 69 18) = 0 then
    mBind (f_X12_next S) fun r1 S2 =>
    f_X12_readStage_84 y1 S2
  else
    f_X12_readStage_84 y1 S
set_option maxRecDepth 100000 in
set_option maxHeartbeats 4000000 in
theorem w_X12_readStage_73 (X : mX) (l : Launch) (y1 : Int32) (S : mM) : MW X viV rm_X12_readStage cX12_readStage RX12 2 none l S [(0, .ref (X.2.1 69)), (1, .int y1)] [] 73 (f_X12_readStage_73 y1 S) := by
  unfold f_X12_readStage_73
  refine mw_aload_n 0 dX12_readStage_73 rfl rfl ?_
  refine gf_RX12_119 mk_69 dX12_readStage_74 ?_
  refine mw_if_ne (tgt := 84) dX12_readStage_77 (by decide) ?_ ?_
  · refine mw_aload_n 0 dX12_readStage_80 rfl rfl ?_
    refine mw_callV (t_X12_next X l S) cd_X12_next lk_RX12_171 im_X12_next se_X12_next in_RX12 de_X12_next ⟨rfl, rfl⟩ ⟨Nat.le_of_ble_eq_true rfl, Nat.le_of_ble_eq_true rfl⟩ (mKind_lt mk_69 (by decide)) (mCell_k mk_69) rfl rfl rfl rfl ⟨Nat.le_of_ble_eq_true rfl, Nat.le_of_ble_eq_true rfl⟩ (Nat.le_of_ble_eq_true rfl) dX12_readStage_81 (fun r1 S2 => ?_)
    refine mw_eq (st' := []) rfl rfl ?_
    exact mw_sub [0, 1] rfl (w_X12_readStage_84 X l y1 S2)
  · exact mw_sub [0, 1] rfl (w_X12_readStage_84 X l y1 S)
def f_X12_readStage_64 (y1 : Int32) (S : mM) : Option (Unit × mM) :=
  mBind (f_X12_fails (2 : Int32) (S.1 69 21) S) fun r1 S2 =>
  f_X12_readStage_73 y1 S2
set_option maxRecDepth 100000 in
set_option maxHeartbeats 4000000 in
theorem w_X12_readStage_64 (X : mX) (l : Launch) (y1 : Int32) (S : mM) : MW X viV rm_X12_readStage cX12_readStage RX12 2 none l S [(0, .ref (X.2.1 69)), (1, .int y1)] [] 64 (f_X12_readStage_64 y1 S) := by
  unfold f_X12_readStage_64
  refine mw_aload_n 0 dX12_readStage_64 rfl rfl ?_
  refine mw_iconst (v := (2 : Int32)) dX12_readStage_65 (by decide) ?_
  refine mw_aload_n 0 dX12_readStage_66 rfl rfl ?_
  refine gf_RX12_140 mk_69 dX12_readStage_67 ?_
  refine mw_callV (t_X12_fails X l (2 : Int32) (S.1 69 21) S) cd_X12_fails lk_RX12_163 im_X12_fails se_X12_fails in_RX12 de_X12_fails ⟨rfl, rfl⟩ ⟨Nat.le_of_ble_eq_true rfl, Nat.le_of_ble_eq_true rfl⟩ (mKind_lt mk_69 (by decide)) (mCell_k mk_69) rfl rfl rfl rfl ⟨Nat.le_of_ble_eq_true rfl, Nat.le_of_ble_eq_true rfl⟩ (Nat.le_of_ble_eq_true rfl) dX12_readStage_70 (fun r1 S2 => ?_)
  refine mw_eq (st' := []) rfl rfl ?_
  exact mw_sub [0, 1] rfl (w_X12_readStage_73 X l y1 S2)
def f_X12_readStage (S : mM) : Option (Unit × mM) :=
  bnd (S.1 69 11) fun x1 =>
  if 0 ≤ x1 ∧ x1.toNatClampNeg < 6 then
  (bnd (setI S 78 x1.toNatClampNeg (1 : Int32)) fun S2 =>
  if (S2.1 69 18) = 0 then
    if (S2.1 69 22) = (2 : Int32) then
      mBind (f_X12_taken (1 : Int32) (20 : Int32) S2) fun r3 S4 =>
      if 0 ≤ x1 ∧ x1.toNatClampNeg < 6 then
      (bnd (setI S4 78 x1.toNatClampNeg r3) fun S5 =>
      if (S5.1 69 18) = 0 then
        if (S5.1 69 22) = (3 : Int32) then
          if (S5.1 69 23) = (42 : Int32) then
            f_X12_readStage_73 x1 S5
          else
            f_X12_readStage_64 x1 S5
        else
          f_X12_readStage_64 x1 S5
      else
        f_X12_readStage_73 x1 S5)
      else none
    else
      f_X12_readStage_84 x1 S2
  else
    f_X12_readStage_84 x1 S2)
  else none
set_option maxRecDepth 100000 in
set_option maxHeartbeats 4000000 in
theorem w_X12_readStage (X : mX) (l : Launch) (S : mM) : MW X viV rm_X12_readStage cX12_readStage RX12 2 none l S [(0, .ref (X.2.1 69))] [] 0 (f_X12_readStage  S) := by
  unfold f_X12_readStage
  refine mw_aload_n 0 dX12_readStage_0 rfl rfl ?_
  refine gf_RX12_182 mk_69 dX12_readStage_1 ?_
  refine mw_bndI (fun x1 => ?_)
  refine mw_istore_n (lv' := [(1, .int x1), (0, .ref (X.2.1 69))]) dX12_readStage_4 rfl (by decide) rfl ?_
  refine mw_aload_n 1 dX12_readStage_5 rfl rfl ?_
  refine gf_RX12_35 mk_69 dX12_readStage_6 ?_
  refine mw_iload_n 0 dX12_readStage_9 rfl rfl ?_
  refine mw_iconst (v := (1 : Int32)) dX12_readStage_10 (by decide) ?_
  refine mw_iastore mk_78 ml_78 dX12_readStage_11 ?_
  refine mw_bndS (fun S2 => ?_)
  refine mw_aload_n 1 dX12_readStage_12 rfl rfl ?_
  refine gf_RX12_119 mk_69 dX12_readStage_13 ?_
  refine mw_if_ne (tgt := 84) dX12_readStage_16 (by decide) ?_ ?_
  · refine mw_aload_n 1 dX12_readStage_19 rfl rfl ?_
    refine gf_RX12_143 mk_69 dX12_readStage_20 ?_
    refine mw_iconst (v := (2 : Int32)) dX12_readStage_23 (by decide) ?_
    refine mw_icmp_ne (tgt := 84) dX12_readStage_24 (by decide) ?_ ?_
    · refine mw_aload_n 1 dX12_readStage_27 rfl rfl ?_
      refine gf_RX12_35 mk_69 dX12_readStage_28 ?_
      refine mw_iload_n 0 dX12_readStage_31 rfl rfl ?_
      refine mw_aload_n 1 dX12_readStage_32 rfl rfl ?_
      refine mw_iconst (v := (1 : Int32)) dX12_readStage_33 (by decide) ?_
      refine mw_bipush (v := (20 : Int32)) dX12_readStage_34 (by decide) ?_
      refine mw_callV (t_X12_taken X l (1 : Int32) (20 : Int32) S2) cd_X12_taken lk_RX12_174 im_X12_taken se_X12_taken in_RX12 de_X12_taken ⟨rfl, rfl⟩ ⟨Nat.le_of_ble_eq_true rfl, Nat.le_of_ble_eq_true rfl⟩ (mKind_lt mk_69 (by decide)) (mCell_k mk_69) rfl rfl rfl rfl ⟨Nat.le_of_ble_eq_true rfl, Nat.le_of_ble_eq_true rfl⟩ (Nat.le_of_ble_eq_true rfl) dX12_readStage_36 (fun r3 S4 => ?_)
      refine mw_eq (st' := [.int r3, .int x1, .ref (X.2.1 78)]) rfl rfl ?_
      refine mw_iastore mk_78 ml_78 dX12_readStage_39 ?_
      refine mw_bndS (fun S5 => ?_)
      refine mw_aload_n 1 dX12_readStage_40 rfl rfl ?_
      refine gf_RX12_119 mk_69 dX12_readStage_41 ?_
      refine mw_if_ne (tgt := 73) dX12_readStage_44 (by decide) ?_ ?_
      · refine mw_aload_n 1 dX12_readStage_47 rfl rfl ?_
        refine gf_RX12_143 mk_69 dX12_readStage_48 ?_
        refine mw_iconst (v := (3 : Int32)) dX12_readStage_51 (by decide) ?_
        refine mw_icmp_ne (tgt := 64) dX12_readStage_52 (by decide) ?_ ?_
        · refine mw_aload_n 1 dX12_readStage_55 rfl rfl ?_
          refine gf_RX12_160 mk_69 dX12_readStage_56 ?_
          refine mw_bipush (v := (42 : Int32)) dX12_readStage_59 (by decide) ?_
          refine mw_icmp_eq (tgt := 73) dX12_readStage_61 (by decide) ?_ ?_
          · exact mw_sub [1, 0] rfl (w_X12_readStage_73 X l x1 S5)
          · exact mw_sub [1, 0] rfl (w_X12_readStage_64 X l x1 S5)
        · exact mw_sub [1, 0] rfl (w_X12_readStage_64 X l x1 S5)
      · exact mw_sub [1, 0] rfl (w_X12_readStage_73 X l x1 S5)
    · exact mw_sub [1, 0] rfl (w_X12_readStage_84 X l x1 S2)
  · exact mw_sub [1, 0] rfl (w_X12_readStage_84 X l x1 S2)
theorem t_X12_readStage (X : mX) (l : Launch) (S : mM) : mMet X viV yX12_readStage cX12_readStage 2 none rm_X12_readStage [.ref (X.2.1 69)] l S (f_X12_readStage  S) :=
  mMet_of (by decide +kernel) rfl (Nat.le_of_ble_eq_true rfl) (w_X12_readStage X l  S )
/-! TraceBenchModel.readTrigger()V -/
def f_X12_readTrigger_81 (k16 : Int32 → mM → Option (Unit × mM)) (z0 : Int32) (S : mM) : Option (Unit × mM) :=
  if (S.1 69 18) = 0 then
    if z0 = 0 then
      if (S.1 69 22) = 0 then
        if z0 = 0 then
          k16 z0 S
        else
          mBind (f_X12_next S) fun r1 S2 =>
          k16 z0 S2
      else
        mBind (f_X12_fails (2 : Int32) (S.1 69 21) S) fun r3 S4 =>
        if z0 = 0 then
          k16 z0 S4
        else
          mBind (f_X12_next S4) fun r5 S6 =>
          k16 z0 S6
    else
      if z0 = 0 then
        k16 z0 S
      else
        mBind (f_X12_next S) fun r7 S8 =>
        k16 z0 S8
  else
    if z0 = 0 then
      k16 z0 S
    else
      mBind (f_X12_next S) fun r9 S10 =>
      k16 z0 S10
set_option maxRecDepth 100000 in
set_option maxHeartbeats 4000000 in
theorem w_X12_readTrigger_81 (X : mX) (l : Launch) (k16 : Int32 → mM → Option (Unit × mM)) (hk16 : ∀ (y1 : Int32) (S : mM), MW X viV rm_X12_readTrigger cX12_readTrigger RX12 2 none l S [(0, .ref (X.2.1 69)), (1, .int y1)] [] 16 (k16 y1 S)) (z0 : Int32) (S : mM) : MW X viV rm_X12_readTrigger cX12_readTrigger RX12 2 none l S [(0, .ref (X.2.1 69))] [.int z0] 81 (f_X12_readTrigger_81 k16 z0 S) := by
  unfold f_X12_readTrigger_81
  refine mw_istore_n (lv' := [(1, .int z0), (0, .ref (X.2.1 69))]) dX12_readTrigger_81 rfl (by decide) rfl ?_
  refine mw_aload_n 1 dX12_readTrigger_82 rfl rfl ?_
  refine gf_RX12_119 mk_69 dX12_readTrigger_83 ?_
  refine mw_if_ne (tgt := 109) dX12_readTrigger_86 (by decide) ?_ ?_
  · refine mw_iload_n 0 dX12_readTrigger_89 rfl rfl ?_
    refine mw_if_ne (tgt := 109) dX12_readTrigger_90 (by decide) ?_ ?_
    · refine mw_aload_n 1 dX12_readTrigger_93 rfl rfl ?_
      refine gf_RX12_143 mk_69 dX12_readTrigger_94 ?_
      refine mw_if_eq (tgt := 109) dX12_readTrigger_97 (by decide) ?_ ?_
      · refine mw_iload_n 0 dX12_readTrigger_109 rfl rfl ?_
        refine mw_if_eq (tgt := 16) dX12_readTrigger_110 (by decide) ?_ ?_
        · exact mw_sub [1, 0] rfl (hk16 z0 S)
        · refine mw_aload_n 1 dX12_readTrigger_113 rfl rfl ?_
          refine mw_callV (t_X12_next X l S) cd_X12_next lk_RX12_171 im_X12_next se_X12_next in_RX12 de_X12_next ⟨rfl, rfl⟩ ⟨Nat.le_of_ble_eq_true rfl, Nat.le_of_ble_eq_true rfl⟩ (mKind_lt mk_69 (by decide)) (mCell_k mk_69) rfl rfl rfl rfl ⟨Nat.le_of_ble_eq_true rfl, Nat.le_of_ble_eq_true rfl⟩ (Nat.le_of_ble_eq_true rfl) dX12_readTrigger_114 (fun r1 S2 => ?_)
          refine mw_eq (st' := []) rfl rfl ?_
          refine mw_goto (tgt := 16) dX12_readTrigger_117 (by decide) ?_
          exact mw_sub [1, 0] rfl (hk16 z0 S2)
      · refine mw_aload_n 1 dX12_readTrigger_100 rfl rfl ?_
        refine mw_iconst (v := (2 : Int32)) dX12_readTrigger_101 (by decide) ?_
        refine mw_aload_n 1 dX12_readTrigger_102 rfl rfl ?_
        refine gf_RX12_140 mk_69 dX12_readTrigger_103 ?_
        refine mw_callV (t_X12_fails X l (2 : Int32) (S.1 69 21) S) cd_X12_fails lk_RX12_163 im_X12_fails se_X12_fails in_RX12 de_X12_fails ⟨rfl, rfl⟩ ⟨Nat.le_of_ble_eq_true rfl, Nat.le_of_ble_eq_true rfl⟩ (mKind_lt mk_69 (by decide)) (mCell_k mk_69) rfl rfl rfl rfl ⟨Nat.le_of_ble_eq_true rfl, Nat.le_of_ble_eq_true rfl⟩ (Nat.le_of_ble_eq_true rfl) dX12_readTrigger_106 (fun r3 S4 => ?_)
        refine mw_eq (st' := []) rfl rfl ?_
        refine mw_iload_n 0 dX12_readTrigger_109 rfl rfl ?_
        refine mw_if_eq (tgt := 16) dX12_readTrigger_110 (by decide) ?_ ?_
        · exact mw_sub [1, 0] rfl (hk16 z0 S4)
        · refine mw_aload_n 1 dX12_readTrigger_113 rfl rfl ?_
          refine mw_callV (t_X12_next X l S4) cd_X12_next lk_RX12_171 im_X12_next se_X12_next in_RX12 de_X12_next ⟨rfl, rfl⟩ ⟨Nat.le_of_ble_eq_true rfl, Nat.le_of_ble_eq_true rfl⟩ (mKind_lt mk_69 (by decide)) (mCell_k mk_69) rfl rfl rfl rfl ⟨Nat.le_of_ble_eq_true rfl, Nat.le_of_ble_eq_true rfl⟩ (Nat.le_of_ble_eq_true rfl) dX12_readTrigger_114 (fun r5 S6 => ?_)
          refine mw_eq (st' := []) rfl rfl ?_
          refine mw_goto (tgt := 16) dX12_readTrigger_117 (by decide) ?_
          exact mw_sub [1, 0] rfl (hk16 z0 S6)
    · refine mw_iload_n 0 dX12_readTrigger_109 rfl rfl ?_
      refine mw_if_eq (tgt := 16) dX12_readTrigger_110 (by decide) ?_ ?_
      · exact mw_sub [1, 0] rfl (hk16 z0 S)
      · refine mw_aload_n 1 dX12_readTrigger_113 rfl rfl ?_
        refine mw_callV (t_X12_next X l S) cd_X12_next lk_RX12_171 im_X12_next se_X12_next in_RX12 de_X12_next ⟨rfl, rfl⟩ ⟨Nat.le_of_ble_eq_true rfl, Nat.le_of_ble_eq_true rfl⟩ (mKind_lt mk_69 (by decide)) (mCell_k mk_69) rfl rfl rfl rfl ⟨Nat.le_of_ble_eq_true rfl, Nat.le_of_ble_eq_true rfl⟩ (Nat.le_of_ble_eq_true rfl) dX12_readTrigger_114 (fun r7 S8 => ?_)
        refine mw_eq (st' := []) rfl rfl ?_
        refine mw_goto (tgt := 16) dX12_readTrigger_117 (by decide) ?_
        exact mw_sub [1, 0] rfl (hk16 z0 S8)
  · refine mw_iload_n 0 dX12_readTrigger_109 rfl rfl ?_
    refine mw_if_eq (tgt := 16) dX12_readTrigger_110 (by decide) ?_ ?_
    · exact mw_sub [1, 0] rfl (hk16 z0 S)
    · refine mw_aload_n 1 dX12_readTrigger_113 rfl rfl ?_
      refine mw_callV (t_X12_next X l S) cd_X12_next lk_RX12_171 im_X12_next se_X12_next in_RX12 de_X12_next ⟨rfl, rfl⟩ ⟨Nat.le_of_ble_eq_true rfl, Nat.le_of_ble_eq_true rfl⟩ (mKind_lt mk_69 (by decide)) (mCell_k mk_69) rfl rfl rfl rfl ⟨Nat.le_of_ble_eq_true rfl, Nat.le_of_ble_eq_true rfl⟩ (Nat.le_of_ble_eq_true rfl) dX12_readTrigger_114 (fun r9 S10 => ?_)
      refine mw_eq (st' := []) rfl rfl ?_
      refine mw_goto (tgt := 16) dX12_readTrigger_117 (by decide) ?_
      exact mw_sub [1, 0] rfl (hk16 z0 S10)
def f_X12_readTrigger_80 (k16 : Int32 → mM → Option (Unit × mM)) (S : mM) : Option (Unit × mM) :=
  f_X12_readTrigger_81 k16 (0 : Int32) S
set_option maxRecDepth 100000 in
set_option maxHeartbeats 4000000 in
theorem w_X12_readTrigger_80 (X : mX) (l : Launch) (k16 : Int32 → mM → Option (Unit × mM)) (hk16 : ∀ (y1 : Int32) (S : mM), MW X viV rm_X12_readTrigger cX12_readTrigger RX12 2 none l S [(0, .ref (X.2.1 69)), (1, .int y1)] [] 16 (k16 y1 S)) (S : mM) : MW X viV rm_X12_readTrigger cX12_readTrigger RX12 2 none l S [(0, .ref (X.2.1 69))] [] 80 (f_X12_readTrigger_80 k16  S) := by
  unfold f_X12_readTrigger_80
  refine mw_iconst (v := (0 : Int32)) dX12_readTrigger_80 (by decide) ?_
  exact mw_sub [0] rfl (w_X12_readTrigger_81 X l k16 hk16 (0 : Int32) S)
def f_X12_readTrigger_52 (k16 : Int32 → mM → Option (Unit × mM)) (S : mM) : Option (Unit × mM) :=
  if (S.1 69 18) = 0 then
    if (S.1 69 22) = (3 : Int32) then
      if (S.1 69 23) = (59 : Int32) then
        f_X12_readTrigger_81 k16 (1 : Int32) S
      else
        f_X12_readTrigger_80 k16 S
    else
      f_X12_readTrigger_80 k16 S
  else
    f_X12_readTrigger_80 k16 S
set_option maxRecDepth 100000 in
set_option maxHeartbeats 4000000 in
theorem w_X12_readTrigger_52 (X : mX) (l : Launch) (k16 : Int32 → mM → Option (Unit × mM)) (hk16 : ∀ (y1 : Int32) (S : mM), MW X viV rm_X12_readTrigger cX12_readTrigger RX12 2 none l S [(0, .ref (X.2.1 69)), (1, .int y1)] [] 16 (k16 y1 S)) (S : mM) : MW X viV rm_X12_readTrigger cX12_readTrigger RX12 2 none l S [(0, .ref (X.2.1 69))] [] 52 (f_X12_readTrigger_52 k16  S) := by
  unfold f_X12_readTrigger_52
  refine mw_aload_n 0 dX12_readTrigger_52 rfl rfl ?_
  refine gf_RX12_119 mk_69 dX12_readTrigger_53 ?_
  refine mw_if_ne (tgt := 80) dX12_readTrigger_56 (by decide) ?_ ?_
  · refine mw_aload_n 0 dX12_readTrigger_59 rfl rfl ?_
    refine gf_RX12_143 mk_69 dX12_readTrigger_60 ?_
    refine mw_iconst (v := (3 : Int32)) dX12_readTrigger_63 (by decide) ?_
    refine mw_icmp_ne (tgt := 80) dX12_readTrigger_64 (by decide) ?_ ?_
    · refine mw_aload_n 0 dX12_readTrigger_67 rfl rfl ?_
      refine gf_RX12_160 mk_69 dX12_readTrigger_68 ?_
      refine mw_bipush (v := (59 : Int32)) dX12_readTrigger_71 (by decide) ?_
      refine mw_icmp_ne (tgt := 80) dX12_readTrigger_73 (by decide) ?_ ?_
      · refine mw_iconst (v := (1 : Int32)) dX12_readTrigger_76 (by decide) ?_
        refine mw_goto (tgt := 81) dX12_readTrigger_77 (by decide) ?_
        exact mw_sub [0] rfl (w_X12_readTrigger_81 X l k16 hk16 (1 : Int32) S)
      · exact mw_sub [0] rfl (w_X12_readTrigger_80 X l k16 hk16 S)
    · exact mw_sub [0] rfl (w_X12_readTrigger_80 X l k16 hk16 S)
  · exact mw_sub [0] rfl (w_X12_readTrigger_80 X l k16 hk16 S)
def f_X12_readTrigger_16 (n : Nat) (y1 : Int32) (S : mM) : Option (Unit × mM) := match n with
  | 0 => none
  | n + 1 =>
    if y1 = 0 then
      some ((), S)
    else
      if (S.1 69 18) = 0 then
        if (S.1 69 11) = (6 : Int32) then
          mBind (f_X12_fails (4 : Int32) (S.1 69 21) S) fun r1 S2 =>
          f_X12_readTrigger_52 (f_X12_readTrigger_16 n) S2
        else
          mBind (f_X12_readStage S) fun r3 S4 =>
          f_X12_readTrigger_52 (f_X12_readTrigger_16 n) S4
      else
        some ((), S)
set_option maxRecDepth 100000 in
set_option maxHeartbeats 4000000 in
theorem w_X12_readTrigger_16 (X : mX) (l : Launch) (n : Nat) (y1 : Int32) (S : mM) : MW X viV rm_X12_readTrigger cX12_readTrigger RX12 2 none l S [(0, .ref (X.2.1 69)), (1, .int y1)] [] 16 (f_X12_readTrigger_16 n y1 S) := by
  induction n generalizing y1 S with
  | zero => exact mw_none
  | succ n ih =>
    unfold f_X12_readTrigger_16
    refine mw_iload_n 1 dX12_readTrigger_16 rfl rfl ?_
    refine mw_if_eq (tgt := 120) dX12_readTrigger_17 (by decide) ?_ ?_
    · exact mw_return dX12_readTrigger_120
    · refine mw_aload_n 0 dX12_readTrigger_20 rfl rfl ?_
      refine gf_RX12_119 mk_69 dX12_readTrigger_21 ?_
      refine mw_if_ne (tgt := 120) dX12_readTrigger_24 (by decide) ?_ ?_
      · refine mw_aload_n 0 dX12_readTrigger_27 rfl rfl ?_
        refine gf_RX12_182 mk_69 dX12_readTrigger_28 ?_
        refine mw_bipush (v := (6 : Int32)) dX12_readTrigger_31 (by decide) ?_
        refine mw_icmp_ne (tgt := 48) dX12_readTrigger_33 (by decide) ?_ ?_
        · refine mw_aload_n 0 dX12_readTrigger_36 rfl rfl ?_
          refine mw_iconst (v := (4 : Int32)) dX12_readTrigger_37 (by decide) ?_
          refine mw_aload_n 0 dX12_readTrigger_38 rfl rfl ?_
          refine gf_RX12_140 mk_69 dX12_readTrigger_39 ?_
          refine mw_callV (t_X12_fails X l (4 : Int32) (S.1 69 21) S) cd_X12_fails lk_RX12_163 im_X12_fails se_X12_fails in_RX12 de_X12_fails ⟨rfl, rfl⟩ ⟨Nat.le_of_ble_eq_true rfl, Nat.le_of_ble_eq_true rfl⟩ (mKind_lt mk_69 (by decide)) (mCell_k mk_69) rfl rfl rfl rfl ⟨Nat.le_of_ble_eq_true rfl, Nat.le_of_ble_eq_true rfl⟩ (Nat.le_of_ble_eq_true rfl) dX12_readTrigger_42 (fun r1 S2 => ?_)
          refine mw_eq (st' := []) rfl rfl ?_
          refine mw_goto (tgt := 52) dX12_readTrigger_45 (by decide) ?_
          exact mw_sub [0] rfl (w_X12_readTrigger_52 X l (f_X12_readTrigger_16 n) ih S2)
        · refine mw_aload_n 0 dX12_readTrigger_48 rfl rfl ?_
          refine mw_callV (t_X12_readStage X l S) cd_X12_readStage lk_RX12_189 im_X12_readStage se_X12_readStage in_RX12 de_X12_readStage ⟨rfl, rfl⟩ ⟨Nat.le_of_ble_eq_true rfl, Nat.le_of_ble_eq_true rfl⟩ (mKind_lt mk_69 (by decide)) (mCell_k mk_69) rfl rfl rfl rfl ⟨Nat.le_of_ble_eq_true rfl, Nat.le_of_ble_eq_true rfl⟩ (Nat.le_of_ble_eq_true rfl) dX12_readTrigger_49 (fun r3 S4 => ?_)
          refine mw_eq (st' := []) rfl rfl ?_
          exact mw_sub [0] rfl (w_X12_readTrigger_52 X l (f_X12_readTrigger_16 n) ih S4)
      · exact mw_return dX12_readTrigger_120
def f_X12_readTrigger (S : mM) : Option (Unit × mM) :=
  bnd (setI S 69 20 (0 : Int32)) fun S1 =>
  bnd (setI S1 69 11 (0 : Int32)) fun S2 =>
  mBind (f_X12_next S2) fun r3 S4 =>
  f_X12_readTrigger_16 mFuel (1 : Int32) S4
set_option maxRecDepth 100000 in
set_option maxHeartbeats 4000000 in
theorem w_X12_readTrigger (X : mX) (l : Launch) (S : mM) : MW X viV rm_X12_readTrigger cX12_readTrigger RX12 2 none l S [(0, .ref (X.2.1 69))] [] 0 (f_X12_readTrigger  S) := by
  unfold f_X12_readTrigger
  refine mw_aload_n 0 dX12_readTrigger_0 rfl rfl ?_
  refine mw_iconst (v := (0 : Int32)) dX12_readTrigger_1 (by decide) ?_
  refine pf_RX12_125 mk_69 dX12_readTrigger_2 ?_
  refine mw_bndS (fun S1 => ?_)
  refine mw_aload_n 0 dX12_readTrigger_5 rfl rfl ?_
  refine mw_iconst (v := (0 : Int32)) dX12_readTrigger_6 (by decide) ?_
  refine pf_RX12_182 mk_69 dX12_readTrigger_7 ?_
  refine mw_bndS (fun S2 => ?_)
  refine mw_aload_n 0 dX12_readTrigger_10 rfl rfl ?_
  refine mw_callV (t_X12_next X l S2) cd_X12_next lk_RX12_171 im_X12_next se_X12_next in_RX12 de_X12_next ⟨rfl, rfl⟩ ⟨Nat.le_of_ble_eq_true rfl, Nat.le_of_ble_eq_true rfl⟩ (mKind_lt mk_69 (by decide)) (mCell_k mk_69) rfl rfl rfl rfl ⟨Nat.le_of_ble_eq_true rfl, Nat.le_of_ble_eq_true rfl⟩ (Nat.le_of_ble_eq_true rfl) dX12_readTrigger_11 (fun r3 S4 => ?_)
  refine mw_eq (st' := []) rfl rfl ?_
  refine mw_iconst (v := (1 : Int32)) dX12_readTrigger_14 (by decide) ?_
  refine mw_istore_n (lv' := [(1, .int (1 : Int32)), (0, .ref (X.2.1 69))]) dX12_readTrigger_15 rfl (by decide) rfl ?_
  exact mw_sub [1, 0] rfl (w_X12_readTrigger_16 X l mFuel (1 : Int32) S4)
theorem t_X12_readTrigger (X : mX) (l : Launch) (S : mM) : mMet X viV yX12_readTrigger cX12_readTrigger 2 none rm_X12_readTrigger [.ref (X.2.1 69)] l S (f_X12_readTrigger  S) :=
  mMet_of (by decide +kernel) rfl (Nat.le_of_ble_eq_true rfl) (w_X12_readTrigger X l  S )
/-! TraceBenchModel.single(IIII)V -/
def f_X12_single_254 (y4 : Int32) (y6 : Int32) (y7 : Int64) (S : mM) : Option (Unit × mM) :=
  if y6 = 0 then
    if 0 ≤ y4 ∧ y4.toNatClampNeg < 201 then
    (bnd (setJ S 94 y4.toNatClampNeg y7) fun S1 =>
    if 0 ≤ y4 ∧ y4.toNatClampNeg < 201 then
    (bnd (setI S1 95 y4.toNatClampNeg (vp_nar .boolean y6)) fun S2 =>
    some ((), S2))
    else none)
    else none
  else
    if 0 ≤ y4 ∧ y4.toNatClampNeg < 201 then
    (bnd (setJ S 94 y4.toNatClampNeg (0 : Int64)) fun S3 =>
    if 0 ≤ y4 ∧ y4.toNatClampNeg < 201 then
    (bnd (setI S3 95 y4.toNatClampNeg (vp_nar .boolean y6)) fun S4 =>
    some ((), S4))
    else none)
    else none
set_option maxRecDepth 100000 in
set_option maxHeartbeats 4000000 in
theorem w_X12_single_254 (X : mX) (l : Launch) (y4 : Int32) (y6 : Int32) (y7 : Int64) (S : mM) : MW X viV rm_X12_single cX12_single RX12 10 none l S [(0, .ref (X.2.1 69)), (4, .int y4), (6, .int y6), (7, .long y7)] [] 254 (f_X12_single_254 y4 y6 y7 S) := by
  unfold f_X12_single_254
  refine mw_aload_n 0 dX12_single_254 rfl rfl ?_
  refine gf_RX12_95 mk_69 dX12_single_255 ?_
  refine mw_iload 1 dX12_single_258 rfl ?_
  refine mw_iload 2 dX12_single_260 rfl ?_
  refine mw_if_eq (tgt := 269) dX12_single_262 (by decide) ?_ ?_
  · refine mw_lload 3 dX12_single_269 rfl ?_
    refine mw_lastore mk_94 ml_94 dX12_single_271 ?_
    refine mw_bndS (fun S1 => ?_)
    refine mw_aload_n 0 dX12_single_272 rfl rfl ?_
    refine gf_RX12_98 mk_69 dX12_single_273 ?_
    refine mw_iload 1 dX12_single_276 rfl ?_
    refine mw_iload 2 dX12_single_278 rfl ?_
    refine mw_zastore mk_95 ml_95 dX12_single_280 ?_
    refine mw_bndS (fun S2 => ?_)
    exact mw_return dX12_single_281
  · refine mw_lconst (v := (0 : Int64)) dX12_single_265 (by decide) ?_
    refine mw_goto (tgt := 271) dX12_single_266 (by decide) ?_
    refine mw_lastore mk_94 ml_94 dX12_single_271 ?_
    refine mw_bndS (fun S3 => ?_)
    refine mw_aload_n 0 dX12_single_272 rfl rfl ?_
    refine gf_RX12_98 mk_69 dX12_single_273 ?_
    refine mw_iload 1 dX12_single_276 rfl ?_
    refine mw_iload 2 dX12_single_278 rfl ?_
    refine mw_zastore mk_95 ml_95 dX12_single_280 ?_
    refine mw_bndS (fun S4 => ?_)
    exact mw_return dX12_single_281
def f_X12_single_110 (y4 : Int32) (y6 : Int32) (y7 : Int64) (S : mM) : Option (Unit × mM) :=
  f_X12_single_254 y4 y6 y7 S
set_option maxRecDepth 100000 in
set_option maxHeartbeats 4000000 in
theorem w_X12_single_110 (X : mX) (l : Launch) (y4 : Int32) (y6 : Int32) (y7 : Int64) (S : mM) : MW X viV rm_X12_single cX12_single RX12 10 none l S [(0, .ref (X.2.1 69)), (4, .int y4), (6, .int y6), (7, .long y7)] [] 110 (f_X12_single_110 y4 y6 y7 S) := by
  unfold f_X12_single_110
  refine mw_goto (tgt := 254) dX12_single_110 (by decide) ?_
  exact mw_sub [0, 1, 2, 3] rfl (w_X12_single_254 X l y4 y6 y7 S)
def f_X12_single_169 (y4 : Int32) (y6 : Int32) (z0 : Int64) (S : mM) : Option (Unit × mM) :=
  f_X12_single_254 y4 y6 z0 S
set_option maxRecDepth 100000 in
set_option maxHeartbeats 4000000 in
theorem w_X12_single_169 (X : mX) (l : Launch) (y4 : Int32) (y6 : Int32) (z0 : Int64) (S : mM) : MW X viV rm_X12_single cX12_single RX12 10 none l S [(0, .ref (X.2.1 69)), (4, .int y4), (6, .int y6)] [.long z0] 169 (f_X12_single_169 y4 y6 z0 S) := by
  unfold f_X12_single_169
  refine mw_lstore (lv' := [(7, .long z0), (0, .ref (X.2.1 69)), (4, .int y4), (6, .int y6)]) dX12_single_169 (by decide) rfl ?_
  refine mw_goto (tgt := 254) dX12_single_171 (by decide) ?_
  exact mw_sub [1, 2, 3, 0] rfl (w_X12_single_254 X l y4 y6 z0 S)
def f_X12_single_197 (y4 : Int32) (y7 : Int64) (z0 : Int32) (S : mM) : Option (Unit × mM) :=
  f_X12_single_254 y4 z0 y7 S
set_option maxRecDepth 100000 in
set_option maxHeartbeats 4000000 in
theorem w_X12_single_197 (X : mX) (l : Launch) (y4 : Int32) (y7 : Int64) (z0 : Int32) (S : mM) : MW X viV rm_X12_single cX12_single RX12 10 none l S [(0, .ref (X.2.1 69)), (4, .int y4), (7, .long y7)] [.int z0] 197 (f_X12_single_197 y4 y7 z0 S) := by
  unfold f_X12_single_197
  refine mw_istore (lv' := [(6, .int z0), (0, .ref (X.2.1 69)), (4, .int y4), (7, .long y7)]) dX12_single_197 (by decide) rfl ?_
  refine mw_goto (tgt := 254) dX12_single_199 (by decide) ?_
  exact mw_sub [1, 2, 0, 3] rfl (w_X12_single_254 X l y4 z0 y7 S)
def f_X12_single_59 (n : Nat) (y2 : Int32) (y4 : Int32) (y6 : Int32) (y7 : Int64) (y9 : Int32) (S : mM) : Option (Unit × mM) := match n with
  | 0 => none
  | n + 1 =>
    if y4 < y9 then
      f_X12_single_110 y4 y6 y7 S
    else
      if y6 = 0 then
        if 0 ≤ (((201 : Int32) * y2) + y9) ∧ (((201 : Int32) * y2) + y9).toNatClampNeg < 804 then
        (bnd (S.1 93 (((201 : Int32) * y2) + y9).toNatClampNeg) fun x1 =>
        if 0 ≤ (((201 : Int32) * y2) + y9) ∧ (((201 : Int32) * y2) + y9).toNatClampNeg < 804 then
        (bnd (y7 + (S.2.1 92 (((201 : Int32) * y2) + y9).toNatClampNeg)) fun x2 =>
        bnd (y9 + (1 : Int32)) fun x3 =>
        f_X12_single_59 n y2 y4 x1 x2 x3 S)
        else none)
        else none
      else
        f_X12_single_110 y4 y6 y7 S
set_option maxRecDepth 100000 in
set_option maxHeartbeats 4000000 in
theorem w_X12_single_59 (X : mX) (l : Launch) (n : Nat) (y2 : Int32) (y4 : Int32) (y6 : Int32) (y7 : Int64) (y9 : Int32) (S : mM) : MW X viV rm_X12_single cX12_single RX12 10 none l S [(0, .ref (X.2.1 69)), (2, .int y2), (4, .int y4), (6, .int y6), (7, .long y7), (9, .int y9)] [] 59 (f_X12_single_59 n y2 y4 y6 y7 y9 S) := by
  induction n generalizing y2 y4 y6 y7 y9 S with
  | zero => exact mw_none
  | succ n ih =>
    unfold f_X12_single_59
    refine mw_iload 5 dX12_single_59 rfl ?_
    refine mw_iload 2 dX12_single_61 rfl ?_
    refine mw_icmp_gt (tgt := 110) dX12_single_63 (by decide) ?_ ?_
    · exact mw_sub [0, 2, 3, 4] rfl (w_X12_single_110 X l y4 y6 y7 S)
    · refine mw_iload 3 dX12_single_66 rfl ?_
      refine mw_if_ne (tgt := 110) dX12_single_68 (by decide) ?_ ?_
      · refine mw_aload_n 0 dX12_single_71 rfl rfl ?_
        refine gf_RX12_91 mk_69 dX12_single_72 ?_
        refine mw_sipush (v := (201 : Int32)) dX12_single_75 (by decide) ?_
        refine mw_iload_n 1 dX12_single_78 rfl rfl ?_
        refine mw_imul dX12_single_79 ?_
        refine mw_iload 5 dX12_single_80 rfl ?_
        refine mw_iadd dX12_single_82 ?_
        refine mw_zaload mk_93 ml_93 dX12_single_83 ?_
        refine mw_bndI (fun x1 => ?_)
        refine mw_istore (lv' := [(6, .int x1), (0, .ref (X.2.1 69)), (2, .int y2), (4, .int y4), (7, .long y7), (9, .int y9)]) dX12_single_84 (by decide) rfl ?_
        refine mw_lload 4 dX12_single_86 rfl ?_
        refine mw_aload_n 1 dX12_single_88 rfl rfl ?_
        refine gf_RX12_87 mk_69 dX12_single_89 ?_
        refine mw_sipush (v := (201 : Int32)) dX12_single_92 (by decide) ?_
        refine mw_iload_n 2 dX12_single_95 rfl rfl ?_
        refine mw_imul dX12_single_96 ?_
        refine mw_iload 5 dX12_single_97 rfl ?_
        refine mw_iadd dX12_single_99 ?_
        refine mw_laload mk_92 ml_92 dX12_single_100 ?_
        refine mw_ladd dX12_single_101 ?_
        refine mw_bndJ (fun x2 => ?_)
        refine mw_lstore (lv' := [(7, .long x2), (6, .int x1), (0, .ref (X.2.1 69)), (2, .int y2), (4, .int y4), (9, .int y9)]) dX12_single_102 (by decide) rfl ?_
        refine mw_iincB (lvf := fun x3 => [(9, .int x3), (7, .long x2), (6, .int x1), (0, .ref (X.2.1 69)), (2, .int y2), (4, .int y4)]) (k := 5) dX12_single_104 rfl (by decide) (by decide) (fun _ => rfl) (fun x3 => ?_)
        refine mw_goto (tgt := 59) dX12_single_107 (by decide) ?_
        exact mw_sub [3, 4, 5, 2, 1, 0] rfl (ih y2 y4 x1 x2 x3 S)
      · exact mw_sub [0, 2, 3, 4] rfl (w_X12_single_110 X l y4 y6 y7 S)
def f_X12_single_146 (y3 : Int32) (y4 : Int32) (y5 : Int32) (y7 : Int64) (z0 : Int32) (S : mM) : Option (Unit × mM) :=
  if z0 = 0 then
    if 0 ≤ (y5 - y3) ∧ (y5 - y3).toNatClampNeg < 804 then
    (f_X12_single_169 y4 z0 (y7 - (S.2.1 92 (y5 - y3).toNatClampNeg)) S)
    else none
  else
    f_X12_single_169 y4 z0 (0 : Int64) S
set_option maxRecDepth 100000 in
set_option maxHeartbeats 4000000 in
theorem w_X12_single_146 (X : mX) (l : Launch) (y3 : Int32) (y4 : Int32) (y5 : Int32) (y7 : Int64) (z0 : Int32) (S : mM) : MW X viV rm_X12_single cX12_single RX12 10 none l S [(0, .ref (X.2.1 69)), (3, .int y3), (4, .int y4), (5, .int y5), (7, .long y7)] [.int z0] 146 (f_X12_single_146 y3 y4 y5 y7 z0 S) := by
  unfold f_X12_single_146
  refine mw_istore (lv' := [(6, .int z0), (0, .ref (X.2.1 69)), (3, .int y3), (4, .int y4), (5, .int y5), (7, .long y7)]) dX12_single_146 (by decide) rfl ?_
  refine mw_iload 0 dX12_single_148 rfl ?_
  refine mw_if_eq (tgt := 157) dX12_single_150 (by decide) ?_ ?_
  · refine mw_lload 5 dX12_single_157 rfl ?_
    refine mw_aload_n 1 dX12_single_159 rfl rfl ?_
    refine gf_RX12_87 mk_69 dX12_single_160 ?_
    refine mw_iload 4 dX12_single_163 rfl ?_
    refine mw_iload_n 2 dX12_single_165 rfl rfl ?_
    refine mw_isub dX12_single_166 ?_
    refine mw_laload mk_92 ml_92 dX12_single_167 ?_
    refine mw_lsub dX12_single_168 ?_
    exact mw_sub [1, 3, 0] rfl (w_X12_single_169 X l y4 z0 (y7 - (S.2.1 92 (y5 - y3).toNatClampNeg)) S)
  · refine mw_lconst (v := (0 : Int64)) dX12_single_153 (by decide) ?_
    refine mw_goto (tgt := 169) dX12_single_154 (by decide) ?_
    exact mw_sub [1, 3, 0] rfl (w_X12_single_169 X l y4 z0 (0 : Int64) S)
def f_X12_single_192 (y4 : Int32) (y7 : Int64) (S : mM) : Option (Unit × mM) :=
  f_X12_single_197 y4 y7 (1 : Int32) S
set_option maxRecDepth 100000 in
set_option maxHeartbeats 4000000 in
theorem w_X12_single_192 (X : mX) (l : Launch) (y4 : Int32) (y7 : Int64) (S : mM) : MW X viV rm_X12_single cX12_single RX12 10 none l S [(0, .ref (X.2.1 69)), (4, .int y4), (7, .long y7)] [] 192 (f_X12_single_192 y4 y7 S) := by
  unfold f_X12_single_192
  refine mw_iconst (v := (1 : Int32)) dX12_single_192 (by decide) ?_
  refine mw_goto (tgt := 197) dX12_single_193 (by decide) ?_
  exact mw_sub [0, 1, 2] rfl (w_X12_single_197 X l y4 y7 (1 : Int32) S)
def f_X12_single_46 (y2 : Int32) (y3 : Int32) (y4 : Int32) (z0 : Int32) (S : mM) : Option (Unit × mM) :=
  bnd ((y4 - y3) + (1 : Int32)) fun x1 =>
  f_X12_single_59 mFuel y2 y4 z0 (0 : Int64) x1 S
set_option maxRecDepth 100000 in
set_option maxHeartbeats 4000000 in
theorem w_X12_single_46 (X : mX) (l : Launch) (y2 : Int32) (y3 : Int32) (y4 : Int32) (z0 : Int32) (S : mM) : MW X viV rm_X12_single cX12_single RX12 10 none l S [(0, .ref (X.2.1 69)), (2, .int y2), (3, .int y3), (4, .int y4)] [.int z0] 46 (f_X12_single_46 y2 y3 y4 z0 S) := by
  unfold f_X12_single_46
  refine mw_istore (lv' := [(6, .int z0), (0, .ref (X.2.1 69)), (2, .int y2), (3, .int y3), (4, .int y4)]) dX12_single_46 (by decide) rfl ?_
  refine mw_lconst (v := (0 : Int64)) dX12_single_48 (by decide) ?_
  refine mw_lstore (lv' := [(7, .long (0 : Int64)), (6, .int z0), (0, .ref (X.2.1 69)), (2, .int y2), (3, .int y3), (4, .int y4)]) dX12_single_49 (by decide) rfl ?_
  refine mw_iload 5 dX12_single_51 rfl ?_
  refine mw_iload_n 4 dX12_single_53 rfl rfl ?_
  refine mw_isub dX12_single_54 ?_
  refine mw_iconst (v := (1 : Int32)) dX12_single_55 (by decide) ?_
  refine mw_iadd dX12_single_56 ?_
  refine mw_bndI (fun x1 => ?_)
  refine mw_istore (lv' := [(9, .int x1), (7, .long (0 : Int64)), (6, .int z0), (0, .ref (X.2.1 69)), (2, .int y2), (3, .int y3), (4, .int y4)]) dX12_single_57 (by decide) rfl ?_
  exact mw_sub [3, 4, 6, 2, 1, 0] rfl (w_X12_single_59 X l mFuel y2 y4 z0 (0 : Int64) x1 S)
def f_X12_single_141 (y3 : Int32) (y4 : Int32) (y5 : Int32) (y7 : Int64) (S : mM) : Option (Unit × mM) :=
  f_X12_single_146 y3 y4 y5 y7 (1 : Int32) S
set_option maxRecDepth 100000 in
set_option maxHeartbeats 4000000 in
theorem w_X12_single_141 (X : mX) (l : Launch) (y3 : Int32) (y4 : Int32) (y5 : Int32) (y7 : Int64) (S : mM) : MW X viV rm_X12_single cX12_single RX12 10 none l S [(0, .ref (X.2.1 69)), (3, .int y3), (4, .int y4), (5, .int y5), (7, .long y7)] [] 141 (f_X12_single_141 y3 y4 y5 y7 S) := by
  unfold f_X12_single_141
  refine mw_iconst (v := (1 : Int32)) dX12_single_141 (by decide) ?_
  refine mw_goto (tgt := 146) dX12_single_142 (by decide) ?_
  exact mw_sub [0, 1, 2, 3, 4] rfl (w_X12_single_146 X l y3 y4 y5 y7 (1 : Int32) S)
def f_X12_single (p1 : Int32) (p2 : Int32) (p3 : Int32) (p4 : Int32) (S : mM) : Option (Unit × mM) :=
  bnd (((201 : Int32) * p2) + p4) fun x1 =>
  if 0 ≤ x1 ∧ x1.toNatClampNeg < 804 then
  (bnd (S.1 93 x1.toNatClampNeg) fun x2 =>
  if 0 ≤ x1 ∧ x1.toNatClampNeg < 804 then
  (bnd (S.2.1 92 x1.toNatClampNeg) fun x3 =>
  if p1 = (3 : Int32) then
    if p3 ≤ (p4 + (1 : Int32)) then
      f_X12_single_46 p2 p3 p4 (0 : Int32) S
    else
      f_X12_single_46 p2 p3 p4 (1 : Int32) S
  else
    if p1 = (4 : Int32) then
      if x2 = 0 then
        if p4 < p3 then
          f_X12_single_141 p3 p4 x1 x3 S
        else
          if 0 ≤ (x1 - p3) ∧ (x1 - p3).toNatClampNeg < 804 then
          (if (S.1 93 (x1 - p3).toNatClampNeg) = 0 then
            f_X12_single_146 p3 p4 x1 x3 (0 : Int32) S
          else
            f_X12_single_141 p3 p4 x1 x3 S)
          else none
      else
        f_X12_single_141 p3 p4 x1 x3 S
    else
      if p1 = (5 : Int32) then
        if x2 = 0 then
          if 0 ≤ (lg_cmp x3 p3.toInt64) then
            f_X12_single_197 p4 x3 (0 : Int32) S
          else
            f_X12_single_192 p4 x3 S
        else
          f_X12_single_192 p4 x3 S
      else
        if p1 = (6 : Int32) then
          if x2 = 0 then
            f_X12_single_254 p4 x2 x3 S
          else
            if p4 ≤ 0 then
              f_X12_single_254 p4 x2 x3 S
            else
              if 0 ≤ (p4 - (1 : Int32)) ∧ (p4 - (1 : Int32)).toNatClampNeg < 201 then
              (if (S.1 95 (p4 - (1 : Int32)).toNatClampNeg) = 0 then
                if 0 ≤ (p4 - (1 : Int32)) ∧ (p4 - (1 : Int32)).toNatClampNeg < 201 then
                (bnd (S.2.1 94 (p4 - (1 : Int32)).toNatClampNeg) fun x4 =>
                f_X12_single_254 p4 (0 : Int32) x4 S)
                else none
              else
                f_X12_single_254 p4 x2 x3 S)
              else none
        else
          bnd (p3.toInt64 * x3) fun x5 =>
          f_X12_single_254 p4 x2 x5 S)
  else none)
  else none
set_option maxRecDepth 100000 in
set_option maxHeartbeats 4000000 in
theorem w_X12_single (X : mX) (l : Launch) (p1 : Int32) (p2 : Int32) (p3 : Int32) (p4 : Int32) (S : mM) : MW X viV rm_X12_single cX12_single RX12 10 none l S [(0, .ref (X.2.1 69)), (1, .int p1), (2, .int p2), (3, .int p3), (4, .int p4)] [] 0 (f_X12_single p1 p2 p3 p4 S) := by
  unfold f_X12_single
  refine mw_sipush (v := (201 : Int32)) dX12_single_0 (by decide) ?_
  refine mw_iload_n 2 dX12_single_3 rfl rfl ?_
  refine mw_imul dX12_single_4 ?_
  refine mw_iload 4 dX12_single_5 rfl ?_
  refine mw_iadd dX12_single_7 ?_
  refine mw_bndI (fun x1 => ?_)
  refine mw_istore (lv' := [(5, .int x1), (0, .ref (X.2.1 69)), (1, .int p1), (2, .int p2), (3, .int p3), (4, .int p4)]) dX12_single_8 (by decide) rfl ?_
  refine mw_aload_n 1 dX12_single_10 rfl rfl ?_
  refine gf_RX12_91 mk_69 dX12_single_11 ?_
  refine mw_iload 0 dX12_single_14 rfl ?_
  refine mw_zaload mk_93 ml_93 dX12_single_16 ?_
  refine mw_bndI (fun x2 => ?_)
  refine mw_istore (lv' := [(6, .int x2), (5, .int x1), (0, .ref (X.2.1 69)), (1, .int p1), (2, .int p2), (3, .int p3), (4, .int p4)]) dX12_single_17 (by decide) rfl ?_
  refine mw_aload_n 2 dX12_single_19 rfl rfl ?_
  refine gf_RX12_87 mk_69 dX12_single_20 ?_
  refine mw_iload 1 dX12_single_23 rfl ?_
  refine mw_laload mk_92 ml_92 dX12_single_25 ?_
  refine mw_bndJ (fun x3 => ?_)
  refine mw_lstore (lv' := [(7, .long x3), (6, .int x2), (5, .int x1), (0, .ref (X.2.1 69)), (1, .int p1), (2, .int p2), (3, .int p3), (4, .int p4)]) dX12_single_26 (by decide) rfl ?_
  refine mw_iload_n 4 dX12_single_28 rfl rfl ?_
  refine mw_iconst (v := (3 : Int32)) dX12_single_29 (by decide) ?_
  refine mw_icmp_ne (tgt := 113) dX12_single_30 (by decide) ?_ ?_
  · refine mw_iload 7 dX12_single_33 rfl ?_
    refine mw_iconst (v := (1 : Int32)) dX12_single_35 (by decide) ?_
    refine mw_iadd dX12_single_36 ?_
    refine mw_iload_n 6 dX12_single_37 rfl rfl ?_
    refine mw_icmp_ge (tgt := 45) dX12_single_38 (by decide) ?_ ?_
    · refine mw_iconst (v := (0 : Int32)) dX12_single_45 (by decide) ?_
      exact mw_sub [3, 5, 6, 7] rfl (w_X12_single_46 X l p2 p3 p4 (0 : Int32) S)
    · refine mw_iconst (v := (1 : Int32)) dX12_single_41 (by decide) ?_
      refine mw_goto (tgt := 46) dX12_single_42 (by decide) ?_
      exact mw_sub [3, 5, 6, 7] rfl (w_X12_single_46 X l p2 p3 p4 (1 : Int32) S)
  · refine mw_iload_n 4 dX12_single_113 rfl rfl ?_
    refine mw_iconst (v := (4 : Int32)) dX12_single_114 (by decide) ?_
    refine mw_icmp_ne (tgt := 174) dX12_single_115 (by decide) ?_ ?_
    · refine mw_iload 1 dX12_single_118 rfl ?_
      refine mw_if_ne (tgt := 141) dX12_single_120 (by decide) ?_ ?_
      · refine mw_iload 7 dX12_single_123 rfl ?_
        refine mw_iload_n 6 dX12_single_125 rfl rfl ?_
        refine mw_icmp_lt (tgt := 141) dX12_single_126 (by decide) ?_ ?_
        · exact mw_sub [3, 6, 7, 2, 0] rfl (w_X12_single_141 X l p3 p4 x1 x3 S)
        · refine mw_aload_n 3 dX12_single_129 rfl rfl ?_
          refine gf_RX12_91 mk_69 dX12_single_130 ?_
          refine mw_iload 2 dX12_single_133 rfl ?_
          refine mw_iload_n 6 dX12_single_135 rfl rfl ?_
          refine mw_isub dX12_single_136 ?_
          refine mw_zaload mk_93 ml_93 dX12_single_137 ?_
          refine mw_if_eq (tgt := 145) dX12_single_138 (by decide) ?_ ?_
          · refine mw_iconst (v := (0 : Int32)) dX12_single_145 (by decide) ?_
            exact mw_sub [3, 6, 7, 2, 0] rfl (w_X12_single_146 X l p3 p4 x1 x3 (0 : Int32) S)
          · exact mw_sub [3, 6, 7, 2, 0] rfl (w_X12_single_141 X l p3 p4 x1 x3 S)
      · exact mw_sub [3, 6, 7, 2, 0] rfl (w_X12_single_141 X l p3 p4 x1 x3 S)
    · refine mw_iload_n 4 dX12_single_174 rfl rfl ?_
      refine mw_iconst (v := (5 : Int32)) dX12_single_175 (by decide) ?_
      refine mw_icmp_ne (tgt := 202) dX12_single_176 (by decide) ?_ ?_
      · refine mw_iload 1 dX12_single_179 rfl ?_
        refine mw_if_ne (tgt := 192) dX12_single_181 (by decide) ?_ ?_
        · refine mw_lload 0 dX12_single_184 rfl ?_
          refine mw_iload_n 6 dX12_single_186 rfl rfl ?_
          refine mw_i2l dX12_single_187 ?_
          refine mw_lcmp dX12_single_188 ?_
          refine mw_if_ge (tgt := 196) dX12_single_189 (by decide) ?_ ?_
          · refine mw_iconst (v := (0 : Int32)) dX12_single_196 (by decide) ?_
            exact mw_sub [3, 7, 0] rfl (w_X12_single_197 X l p4 x3 (0 : Int32) S)
          · exact mw_sub [3, 7, 0] rfl (w_X12_single_192 X l p4 x3 S)
        · exact mw_sub [3, 7, 0] rfl (w_X12_single_192 X l p4 x3 S)
      · refine mw_iload_n 4 dX12_single_202 rfl rfl ?_
        refine mw_bipush (v := (6 : Int32)) dX12_single_203 (by decide) ?_
        refine mw_icmp_ne (tgt := 247) dX12_single_205 (by decide) ?_ ?_
        · refine mw_iload 1 dX12_single_208 rfl ?_
          refine mw_if_eq (tgt := 254) dX12_single_210 (by decide) ?_ ?_
          · exact mw_sub [3, 7, 1, 0] rfl (w_X12_single_254 X l p4 x2 x3 S)
          · refine mw_iload 7 dX12_single_213 rfl ?_
            refine mw_if_le (tgt := 254) dX12_single_215 (by decide) ?_ ?_
            · exact mw_sub [3, 7, 1, 0] rfl (w_X12_single_254 X l p4 x2 x3 S)
            · refine mw_aload_n 3 dX12_single_218 rfl rfl ?_
              refine gf_RX12_98 mk_69 dX12_single_219 ?_
              refine mw_iload 7 dX12_single_222 rfl ?_
              refine mw_iconst (v := (1 : Int32)) dX12_single_224 (by decide) ?_
              refine mw_isub dX12_single_225 ?_
              refine mw_zaload mk_95 ml_95 dX12_single_226 ?_
              refine mw_if_ne (tgt := 254) dX12_single_227 (by decide) ?_ ?_
              · refine mw_iconst (v := (0 : Int32)) dX12_single_230 (by decide) ?_
                refine mw_istore (lv' := [(6, .int (0 : Int32)), (7, .long x3), (5, .int x1), (0, .ref (X.2.1 69)), (1, .int p1), (2, .int p2), (3, .int p3), (4, .int p4)]) dX12_single_231 (by decide) rfl ?_
                refine mw_aload_n 3 dX12_single_233 rfl rfl ?_
                refine gf_RX12_95 mk_69 dX12_single_234 ?_
                refine mw_iload 7 dX12_single_237 rfl ?_
                refine mw_iconst (v := (1 : Int32)) dX12_single_239 (by decide) ?_
                refine mw_isub dX12_single_240 ?_
                refine mw_laload mk_94 ml_94 dX12_single_241 ?_
                refine mw_bndJ (fun x4 => ?_)
                refine mw_lstore (lv' := [(7, .long x4), (6, .int (0 : Int32)), (5, .int x1), (0, .ref (X.2.1 69)), (1, .int p1), (2, .int p2), (3, .int p3), (4, .int p4)]) dX12_single_242 (by decide) rfl ?_
                refine mw_goto (tgt := 254) dX12_single_244 (by decide) ?_
                exact mw_sub [3, 7, 1, 0] rfl (w_X12_single_254 X l p4 (0 : Int32) x4 S)
              · exact mw_sub [3, 7, 1, 0] rfl (w_X12_single_254 X l p4 x2 x3 S)
        · refine mw_iload_n 6 dX12_single_247 rfl rfl ?_
          refine mw_i2l dX12_single_248 ?_
          refine mw_lload 0 dX12_single_249 rfl ?_
          refine mw_lmul dX12_single_251 ?_
          refine mw_bndJ (fun x5 => ?_)
          refine mw_lstore (lv' := [(7, .long x5), (6, .int x2), (5, .int x1), (0, .ref (X.2.1 69)), (1, .int p1), (2, .int p2), (3, .int p3), (4, .int p4)]) dX12_single_252 (by decide) rfl ?_
          exact mw_sub [3, 7, 1, 0] rfl (w_X12_single_254 X l p4 x2 x5 S)
theorem t_X12_single (X : mX) (l : Launch) (p1 : Int32) (p2 : Int32) (p3 : Int32) (p4 : Int32) (S : mM) : mMet X viV yX12_single cX12_single 10 none rm_X12_single [.ref (X.2.1 69), .int p1, .int p2, .int p3, .int p4] l S (f_X12_single p1 p2 p3 p4 S) :=
  mMet_of (by decide +kernel) rfl (Nat.le_of_ble_eq_true rfl) (w_X12_single X l p1 p2 p3 p4 S )
/-! TraceBenchModel.reckon(IIIII)I -/
def f_X12_reckon_260 (k135 : Int32 → Int32 → Int32 → Int32 → Int32 → Int32 → Int32 → mM → Option (Int32 × mM)) (y1 : Int32) (y2 : Int32) (y3 : Int32) (y4 : Int32) (y5 : Int32) (y6 : Int32) (y7 : Int32) (z0 : Int64) (S : mM) : Option (Int32 × mM) :=
  if 0 ≤ y7 ∧ y7.toNatClampNeg < 201 then
  (if (S.1 95 y7.toNatClampNeg) = 0 then
    if 0 ≤ y7 ∧ y7.toNatClampNeg < 201 then
    (bnd (setJ S 94 y7.toNatClampNeg z0) fun S1 =>
    bnd (y7 + (1 : Int32)) fun x2 =>
    k135 y1 y2 y3 y4 y5 y6 x2 S1)
    else none
  else
    if 0 ≤ y7 ∧ y7.toNatClampNeg < 201 then
    (bnd (setJ S 94 y7.toNatClampNeg (0 : Int64)) fun S3 =>
    bnd (y7 + (1 : Int32)) fun x4 =>
    k135 y1 y2 y3 y4 y5 y6 x4 S3)
    else none)
  else none
set_option maxRecDepth 100000 in
set_option maxHeartbeats 4000000 in
theorem w_X12_reckon_260 (X : mX) (l : Launch) (k135 : Int32 → Int32 → Int32 → Int32 → Int32 → Int32 → Int32 → mM → Option (Int32 × mM)) (hk135 : ∀ (y1 : Int32) (y2 : Int32) (y3 : Int32) (y4 : Int32) (y5 : Int32) (y6 : Int32) (y7 : Int32) (S : mM), MW X viI rm_X12_reckon cX12_reckon RX12 12 (some .int) l S [(0, .ref (X.2.1 69)), (1, .int y1), (2, .int y2), (3, .int y3), (4, .int y4), (5, .int y5), (6, .int y6), (7, .int y7)] [] 135 (k135 y1 y2 y3 y4 y5 y6 y7 S)) (y1 : Int32) (y2 : Int32) (y3 : Int32) (y4 : Int32) (y5 : Int32) (y6 : Int32) (y7 : Int32) (z0 : Int64) (S : mM) : MW X viI rm_X12_reckon cX12_reckon RX12 12 (some .int) l S [(0, .ref (X.2.1 69)), (1, .int y1), (2, .int y2), (3, .int y3), (4, .int y4), (5, .int y5), (6, .int y6), (7, .int y7)] [.long z0] 260 (f_X12_reckon_260 k135 y1 y2 y3 y4 y5 y6 y7 z0 S) := by
  unfold f_X12_reckon_260
  refine mw_lstore (lv' := [(10, .long z0), (0, .ref (X.2.1 69)), (1, .int y1), (2, .int y2), (3, .int y3), (4, .int y4), (5, .int y5), (6, .int y6), (7, .int y7)]) dX12_reckon_260 (by decide) rfl ?_
  refine mw_aload_n 1 dX12_reckon_262 rfl rfl ?_
  refine gf_RX12_95 mk_69 dX12_reckon_263 ?_
  refine mw_iload 8 dX12_reckon_266 rfl ?_
  refine mw_aload_n 1 dX12_reckon_268 rfl rfl ?_
  refine gf_RX12_98 mk_69 dX12_reckon_269 ?_
  refine mw_iload 8 dX12_reckon_272 rfl ?_
  refine mw_zaload mk_95 ml_95 dX12_reckon_274 ?_
  refine mw_if_eq (tgt := 282) dX12_reckon_275 (by decide) ?_ ?_
  · refine mw_lload 0 dX12_reckon_282 rfl ?_
    refine mw_lastore mk_94 ml_94 dX12_reckon_284 ?_
    refine mw_bndS (fun S1 => ?_)
    refine mw_goto (tgt := 298) dX12_reckon_285 (by decide) ?_
    refine mw_iincB (lvf := fun x2 => [(7, .int x2), (10, .long z0), (0, .ref (X.2.1 69)), (1, .int y1), (2, .int y2), (3, .int y3), (4, .int y4), (5, .int y5), (6, .int y6)]) (k := 8) dX12_reckon_298 rfl (by decide) (by decide) (fun _ => rfl) (fun x2 => ?_)
    refine mw_goto (tgt := 135) dX12_reckon_301 (by decide) ?_
    exact mw_sub [2, 3, 4, 5, 6, 7, 8, 0] rfl (hk135 y1 y2 y3 y4 y5 y6 x2 S1)
  · refine mw_lconst (v := (0 : Int64)) dX12_reckon_278 (by decide) ?_
    refine mw_goto (tgt := 284) dX12_reckon_279 (by decide) ?_
    refine mw_lastore mk_94 ml_94 dX12_reckon_284 ?_
    refine mw_bndS (fun S3 => ?_)
    refine mw_goto (tgt := 298) dX12_reckon_285 (by decide) ?_
    refine mw_iincB (lvf := fun x4 => [(7, .int x4), (10, .long z0), (0, .ref (X.2.1 69)), (1, .int y1), (2, .int y2), (3, .int y3), (4, .int y4), (5, .int y5), (6, .int y6)]) (k := 8) dX12_reckon_298 rfl (by decide) (by decide) (fun _ => rfl) (fun x4 => ?_)
    refine mw_goto (tgt := 135) dX12_reckon_301 (by decide) ?_
    exact mw_sub [2, 3, 4, 5, 6, 7, 8, 0] rfl (hk135 y1 y2 y3 y4 y5 y6 x4 S3)
def f_X12_reckon_307 (n : Nat) (y1 : Int32) (y6 : Int32) (y7 : Int32) (S : mM) : Option (Int32 × mM) := match n with
  | 0 => none
  | n + 1 =>
    if y6 ≤ y7 then
      if 0 ≤ y1 ∧ y1.toNatClampNeg < 4 then
      (bnd (setI S 91 y1.toNatClampNeg y6) fun S1 =>
      some (y6, S1))
      else none
    else
      if 0 ≤ y7 ∧ y7.toNatClampNeg < 201 then
      (if 0 ≤ (((201 : Int32) * y1) + y7) ∧ (((201 : Int32) * y1) + y7).toNatClampNeg < 804 then
      (bnd (setJ S 92 (((201 : Int32) * y1) + y7).toNatClampNeg (S.2.1 94 y7.toNatClampNeg)) fun S2 =>
      if 0 ≤ y7 ∧ y7.toNatClampNeg < 201 then
      (if 0 ≤ (((201 : Int32) * y1) + y7) ∧ (((201 : Int32) * y1) + y7).toNatClampNeg < 804 then
      (bnd (setI S2 93 (((201 : Int32) * y1) + y7).toNatClampNeg (vp_nar .boolean (S2.1 95 y7.toNatClampNeg))) fun S3 =>
      bnd (y7 + (1 : Int32)) fun x4 =>
      f_X12_reckon_307 n y1 y6 x4 S3)
      else none)
      else none)
      else none)
      else none
set_option maxRecDepth 100000 in
set_option maxHeartbeats 4000000 in
theorem w_X12_reckon_307 (X : mX) (l : Launch) (n : Nat) (y1 : Int32) (y6 : Int32) (y7 : Int32) (S : mM) : MW X viI rm_X12_reckon cX12_reckon RX12 12 (some .int) l S [(0, .ref (X.2.1 69)), (1, .int y1), (6, .int y6), (7, .int y7)] [] 307 (f_X12_reckon_307 n y1 y6 y7 S) := by
  induction n generalizing y1 y6 y7 S with
  | zero => exact mw_none
  | succ n ih =>
    unfold f_X12_reckon_307
    refine mw_iload 3 dX12_reckon_307 rfl ?_
    refine mw_iload 2 dX12_reckon_309 rfl ?_
    refine mw_icmp_ge (tgt := 360) dX12_reckon_311 (by decide) ?_ ?_
    · refine mw_aload_n 0 dX12_reckon_360 rfl rfl ?_
      refine gf_RX12_84 mk_69 dX12_reckon_361 ?_
      refine mw_iload_n 1 dX12_reckon_364 rfl rfl ?_
      refine mw_iload 2 dX12_reckon_365 rfl ?_
      refine mw_iastore mk_91 ml_91 dX12_reckon_367 ?_
      refine mw_bndS (fun S1 => ?_)
      refine mw_iload 2 dX12_reckon_368 rfl ?_
      exact mw_ireturn dX12_reckon_370
    · refine mw_aload_n 0 dX12_reckon_314 rfl rfl ?_
      refine gf_RX12_87 mk_69 dX12_reckon_315 ?_
      refine mw_sipush (v := (201 : Int32)) dX12_reckon_318 (by decide) ?_
      refine mw_iload_n 1 dX12_reckon_321 rfl rfl ?_
      refine mw_imul dX12_reckon_322 ?_
      refine mw_iload 3 dX12_reckon_323 rfl ?_
      refine mw_iadd dX12_reckon_325 ?_
      refine mw_aload_n 0 dX12_reckon_326 rfl rfl ?_
      refine gf_RX12_95 mk_69 dX12_reckon_327 ?_
      refine mw_iload 3 dX12_reckon_330 rfl ?_
      refine mw_laload mk_94 ml_94 dX12_reckon_332 ?_
      refine mw_lastore mk_92 ml_92 dX12_reckon_333 ?_
      refine mw_bndS (fun S2 => ?_)
      refine mw_aload_n 0 dX12_reckon_334 rfl rfl ?_
      refine gf_RX12_91 mk_69 dX12_reckon_335 ?_
      refine mw_sipush (v := (201 : Int32)) dX12_reckon_338 (by decide) ?_
      refine mw_iload_n 1 dX12_reckon_341 rfl rfl ?_
      refine mw_imul dX12_reckon_342 ?_
      refine mw_iload 3 dX12_reckon_343 rfl ?_
      refine mw_iadd dX12_reckon_345 ?_
      refine mw_aload_n 0 dX12_reckon_346 rfl rfl ?_
      refine gf_RX12_98 mk_69 dX12_reckon_347 ?_
      refine mw_iload 3 dX12_reckon_350 rfl ?_
      refine mw_zaload mk_95 ml_95 dX12_reckon_352 ?_
      refine mw_zastore mk_93 ml_93 dX12_reckon_353 ?_
      refine mw_bndS (fun S3 => ?_)
      refine mw_iincB (lvf := fun x4 => [(7, .int x4), (0, .ref (X.2.1 69)), (1, .int y1), (6, .int y6)]) (k := 3) dX12_reckon_354 rfl (by decide) (by decide) (fun _ => rfl) (fun x4 => ?_)
      refine mw_goto (tgt := 307) dX12_reckon_357 (by decide) ?_
      exact mw_sub [1, 2, 3, 0] rfl (ih y1 y6 x4 S3)
def f_X12_reckon_199 (k135 : Int32 → Int32 → Int32 → Int32 → Int32 → Int32 → Int32 → mM → Option (Int32 × mM)) (y1 : Int32) (y2 : Int32) (y3 : Int32) (y4 : Int32) (y5 : Int32) (y6 : Int32) (y7 : Int32) (y8 : Int32) (y9 : Int32) (z0 : Int32) (z1 : Int32) (S : mM) : Option (Int32 × mM) :=
  if 0 ≤ z1 ∧ z1.toNatClampNeg < 201 then
  (bnd (setI S 95 z1.toNatClampNeg (vp_nar .boolean z0)) fun S1 =>
  if y2 = 0 then
    if 0 ≤ y8 ∧ y8.toNatClampNeg < 804 then
    (if 0 ≤ y9 ∧ y9.toNatClampNeg < 804 then
    (f_X12_reckon_260 k135 y1 y2 y3 y4 y5 y6 y7 ((S1.2.1 92 y8.toNatClampNeg) + (S1.2.1 92 y9.toNatClampNeg)) S1)
    else none)
    else none
  else
    if y2 = (1 : Int32) then
      if 0 ≤ y8 ∧ y8.toNatClampNeg < 804 then
      (if 0 ≤ y9 ∧ y9.toNatClampNeg < 804 then
      (f_X12_reckon_260 k135 y1 y2 y3 y4 y5 y6 y7 ((S1.2.1 92 y8.toNatClampNeg) - (S1.2.1 92 y9.toNatClampNeg)) S1)
      else none)
      else none
    else
      if 0 ≤ y8 ∧ y8.toNatClampNeg < 804 then
      (if 0 ≤ y9 ∧ y9.toNatClampNeg < 804 then
      (f_X12_reckon_260 k135 y1 y2 y3 y4 y5 y6 y7 ((S1.2.1 92 y8.toNatClampNeg) * (S1.2.1 92 y9.toNatClampNeg)) S1)
      else none)
      else none)
  else none
set_option maxRecDepth 100000 in
set_option maxHeartbeats 4000000 in
theorem w_X12_reckon_199 (X : mX) (l : Launch) (k135 : Int32 → Int32 → Int32 → Int32 → Int32 → Int32 → Int32 → mM → Option (Int32 × mM)) (hk135 : ∀ (y1 : Int32) (y2 : Int32) (y3 : Int32) (y4 : Int32) (y5 : Int32) (y6 : Int32) (y7 : Int32) (S : mM), MW X viI rm_X12_reckon cX12_reckon RX12 12 (some .int) l S [(0, .ref (X.2.1 69)), (1, .int y1), (2, .int y2), (3, .int y3), (4, .int y4), (5, .int y5), (6, .int y6), (7, .int y7)] [] 135 (k135 y1 y2 y3 y4 y5 y6 y7 S)) (y1 : Int32) (y2 : Int32) (y3 : Int32) (y4 : Int32) (y5 : Int32) (y6 : Int32) (y7 : Int32) (y8 : Int32) (y9 : Int32) (z0 : Int32) (z1 : Int32) (S : mM) : MW X viI rm_X12_reckon cX12_reckon RX12 12 (some .int) l S [(0, .ref (X.2.1 69)), (1, .int y1), (2, .int y2), (3, .int y3), (4, .int y4), (5, .int y5), (6, .int y6), (7, .int y7), (8, .int y8), (9, .int y9)] [.int z0, .int z1, .ref (X.2.1 95)] 199 (f_X12_reckon_199 k135 y1 y2 y3 y4 y5 y6 y7 y8 y9 z0 z1 S) := by
  unfold f_X12_reckon_199
  refine mw_zastore mk_95 ml_95 dX12_reckon_199 ?_
  refine mw_bndS (fun S1 => ?_)
  refine mw_iload_n 2 dX12_reckon_200 rfl rfl ?_
  refine mw_if_ne (tgt := 222) dX12_reckon_201 (by decide) ?_ ?_
  · refine mw_aload_n 0 dX12_reckon_204 rfl rfl ?_
    refine gf_RX12_87 mk_69 dX12_reckon_205 ?_
    refine mw_iload 8 dX12_reckon_208 rfl ?_
    refine mw_laload mk_92 ml_92 dX12_reckon_210 ?_
    refine mw_aload_n 0 dX12_reckon_211 rfl rfl ?_
    refine gf_RX12_87 mk_69 dX12_reckon_212 ?_
    refine mw_iload 9 dX12_reckon_215 rfl ?_
    refine mw_laload mk_92 ml_92 dX12_reckon_217 ?_
    refine mw_ladd dX12_reckon_218 ?_
    refine mw_goto (tgt := 260) dX12_reckon_219 (by decide) ?_
    exact mw_sub [0, 1, 2, 3, 4, 5, 6, 7] rfl (w_X12_reckon_260 X l k135 hk135 y1 y2 y3 y4 y5 y6 y7 ((S1.2.1 92 y8.toNatClampNeg) + (S1.2.1 92 y9.toNatClampNeg)) S1)
  · refine mw_iload_n 2 dX12_reckon_222 rfl rfl ?_
    refine mw_iconst (v := (1 : Int32)) dX12_reckon_223 (by decide) ?_
    refine mw_icmp_ne (tgt := 245) dX12_reckon_224 (by decide) ?_ ?_
    · refine mw_aload_n 0 dX12_reckon_227 rfl rfl ?_
      refine gf_RX12_87 mk_69 dX12_reckon_228 ?_
      refine mw_iload 8 dX12_reckon_231 rfl ?_
      refine mw_laload mk_92 ml_92 dX12_reckon_233 ?_
      refine mw_aload_n 0 dX12_reckon_234 rfl rfl ?_
      refine gf_RX12_87 mk_69 dX12_reckon_235 ?_
      refine mw_iload 9 dX12_reckon_238 rfl ?_
      refine mw_laload mk_92 ml_92 dX12_reckon_240 ?_
      refine mw_lsub dX12_reckon_241 ?_
      refine mw_goto (tgt := 260) dX12_reckon_242 (by decide) ?_
      exact mw_sub [0, 1, 2, 3, 4, 5, 6, 7] rfl (w_X12_reckon_260 X l k135 hk135 y1 y2 y3 y4 y5 y6 y7 ((S1.2.1 92 y8.toNatClampNeg) - (S1.2.1 92 y9.toNatClampNeg)) S1)
    · refine mw_aload_n 0 dX12_reckon_245 rfl rfl ?_
      refine gf_RX12_87 mk_69 dX12_reckon_246 ?_
      refine mw_iload 8 dX12_reckon_249 rfl ?_
      refine mw_laload mk_92 ml_92 dX12_reckon_251 ?_
      refine mw_aload_n 0 dX12_reckon_252 rfl rfl ?_
      refine gf_RX12_87 mk_69 dX12_reckon_253 ?_
      refine mw_iload 9 dX12_reckon_256 rfl ?_
      refine mw_laload mk_92 ml_92 dX12_reckon_258 ?_
      refine mw_lmul dX12_reckon_259 ?_
      exact mw_sub [0, 1, 2, 3, 4, 5, 6, 7] rfl (w_X12_reckon_260 X l k135 hk135 y1 y2 y3 y4 y5 y6 y7 ((S1.2.1 92 y8.toNatClampNeg) * (S1.2.1 92 y9.toNatClampNeg)) S1)
def f_X12_reckon_194 (k135 : Int32 → Int32 → Int32 → Int32 → Int32 → Int32 → Int32 → mM → Option (Int32 × mM)) (y1 : Int32) (y2 : Int32) (y3 : Int32) (y4 : Int32) (y5 : Int32) (y6 : Int32) (y7 : Int32) (y8 : Int32) (y9 : Int32) (z0 : Int32) (S : mM) : Option (Int32 × mM) :=
  f_X12_reckon_199 k135 y1 y2 y3 y4 y5 y6 y7 y8 y9 (1 : Int32) z0 S
set_option maxRecDepth 100000 in
set_option maxHeartbeats 4000000 in
theorem w_X12_reckon_194 (X : mX) (l : Launch) (k135 : Int32 → Int32 → Int32 → Int32 → Int32 → Int32 → Int32 → mM → Option (Int32 × mM)) (hk135 : ∀ (y1 : Int32) (y2 : Int32) (y3 : Int32) (y4 : Int32) (y5 : Int32) (y6 : Int32) (y7 : Int32) (S : mM), MW X viI rm_X12_reckon cX12_reckon RX12 12 (some .int) l S [(0, .ref (X.2.1 69)), (1, .int y1), (2, .int y2), (3, .int y3), (4, .int y4), (5, .int y5), (6, .int y6), (7, .int y7)] [] 135 (k135 y1 y2 y3 y4 y5 y6 y7 S)) (y1 : Int32) (y2 : Int32) (y3 : Int32) (y4 : Int32) (y5 : Int32) (y6 : Int32) (y7 : Int32) (y8 : Int32) (y9 : Int32) (z0 : Int32) (S : mM) : MW X viI rm_X12_reckon cX12_reckon RX12 12 (some .int) l S [(0, .ref (X.2.1 69)), (1, .int y1), (2, .int y2), (3, .int y3), (4, .int y4), (5, .int y5), (6, .int y6), (7, .int y7), (8, .int y8), (9, .int y9)] [.int z0, .ref (X.2.1 95)] 194 (f_X12_reckon_194 k135 y1 y2 y3 y4 y5 y6 y7 y8 y9 z0 S) := by
  unfold f_X12_reckon_194
  refine mw_iconst (v := (1 : Int32)) dX12_reckon_194 (by decide) ?_
  refine mw_goto (tgt := 199) dX12_reckon_195 (by decide) ?_
  exact mw_sub [0, 1, 2, 3, 4, 5, 6, 7, 8, 9] rfl (w_X12_reckon_199 X l k135 hk135 y1 y2 y3 y4 y5 y6 y7 y8 y9 (1 : Int32) z0 S)
def f_X12_reckon_135 (n : Nat) (y1 : Int32) (y2 : Int32) (y3 : Int32) (y4 : Int32) (y5 : Int32) (y6 : Int32) (y7 : Int32) (S : mM) : Option (Int32 × mM) := match n with
  | 0 => none
  | n + 1 =>
    if y6 ≤ y7 then
      f_X12_reckon_307 mFuel y1 y6 (0 : Int32) S
    else
      if (3 : Int32) ≤ y2 then
        mBind (f_X12_single y2 y3 y5 y7 S) fun r1 S2 =>
        bnd (y7 + (1 : Int32)) fun x3 =>
        f_X12_reckon_135 n y1 y2 y3 y4 y5 y6 x3 S2
      else
        bnd (((201 : Int32) * y3) + y7) fun x4 =>
        bnd (((201 : Int32) * y4) + y7) fun x5 =>
        if 0 ≤ x4 ∧ x4.toNatClampNeg < 804 then
        (if (S.1 93 x4.toNatClampNeg) = 0 then
          if 0 ≤ x5 ∧ x5.toNatClampNeg < 804 then
          (if (S.1 93 x5.toNatClampNeg) = 0 then
            f_X12_reckon_199 (f_X12_reckon_135 n) y1 y2 y3 y4 y5 y6 y7 x4 x5 (0 : Int32) y7 S
          else
            f_X12_reckon_194 (f_X12_reckon_135 n) y1 y2 y3 y4 y5 y6 y7 x4 x5 y7 S)
          else none
        else
          f_X12_reckon_194 (f_X12_reckon_135 n) y1 y2 y3 y4 y5 y6 y7 x4 x5 y7 S)
        else none
set_option maxRecDepth 100000 in
set_option maxHeartbeats 4000000 in
theorem w_X12_reckon_135 (X : mX) (l : Launch) (n : Nat) (y1 : Int32) (y2 : Int32) (y3 : Int32) (y4 : Int32) (y5 : Int32) (y6 : Int32) (y7 : Int32) (S : mM) : MW X viI rm_X12_reckon cX12_reckon RX12 12 (some .int) l S [(0, .ref (X.2.1 69)), (1, .int y1), (2, .int y2), (3, .int y3), (4, .int y4), (5, .int y5), (6, .int y6), (7, .int y7)] [] 135 (f_X12_reckon_135 n y1 y2 y3 y4 y5 y6 y7 S) := by
  induction n generalizing y1 y2 y3 y4 y5 y6 y7 S with
  | zero => exact mw_none
  | succ n ih =>
    unfold f_X12_reckon_135
    refine mw_iload 7 dX12_reckon_135 rfl ?_
    refine mw_iload 6 dX12_reckon_137 rfl ?_
    refine mw_icmp_ge (tgt := 304) dX12_reckon_139 (by decide) ?_ ?_
    · refine mw_iconst (v := (0 : Int32)) dX12_reckon_304 (by decide) ?_
      refine mw_istore (lv' := [(7, .int (0 : Int32)), (0, .ref (X.2.1 69)), (1, .int y1), (2, .int y2), (3, .int y3), (4, .int y4), (5, .int y5), (6, .int y6)]) dX12_reckon_305 (by decide) rfl ?_
      exact mw_sub [1, 2, 7, 0] rfl (w_X12_reckon_307 X l mFuel y1 y6 (0 : Int32) S)
    · refine mw_iload_n 2 dX12_reckon_142 rfl rfl ?_
      refine mw_iconst (v := (3 : Int32)) dX12_reckon_143 (by decide) ?_
      refine mw_icmp_ge (tgt := 288) dX12_reckon_144 (by decide) ?_ ?_
      · refine mw_aload_n 0 dX12_reckon_288 rfl rfl ?_
        refine mw_iload_n 2 dX12_reckon_289 rfl rfl ?_
        refine mw_iload_n 3 dX12_reckon_290 rfl rfl ?_
        refine mw_iload 5 dX12_reckon_291 rfl ?_
        refine mw_iload 7 dX12_reckon_293 rfl ?_
        refine mw_callV (t_X12_single X l y2 y3 y5 y7 S) cd_X12_single lk_RX12_275 im_X12_single se_X12_single in_RX12 de_X12_single ⟨rfl, rfl⟩ ⟨Nat.le_of_ble_eq_true rfl, Nat.le_of_ble_eq_true rfl⟩ (mKind_lt mk_69 (by decide)) (mCell_k mk_69) rfl rfl rfl rfl ⟨Nat.le_of_ble_eq_true rfl, Nat.le_of_ble_eq_true rfl⟩ (Nat.le_of_ble_eq_true rfl) dX12_reckon_295 (fun r1 S2 => ?_)
        refine mw_eq (st' := []) rfl rfl ?_
        refine mw_iincB (lvf := fun x3 => [(7, .int x3), (0, .ref (X.2.1 69)), (1, .int y1), (2, .int y2), (3, .int y3), (4, .int y4), (5, .int y5), (6, .int y6)]) (k := 7) dX12_reckon_298 rfl (by decide) (by decide) (fun _ => rfl) (fun x3 => ?_)
        refine mw_goto (tgt := 135) dX12_reckon_301 (by decide) ?_
        exact mw_sub [1, 2, 3, 4, 5, 6, 7, 0] rfl (ih y1 y2 y3 y4 y5 y6 x3 S2)
      · refine mw_sipush (v := (201 : Int32)) dX12_reckon_147 (by decide) ?_
        refine mw_iload_n 3 dX12_reckon_150 rfl rfl ?_
        refine mw_imul dX12_reckon_151 ?_
        refine mw_iload 7 dX12_reckon_152 rfl ?_
        refine mw_iadd dX12_reckon_154 ?_
        refine mw_bndI (fun x4 => ?_)
        refine mw_istore (lv' := [(8, .int x4), (0, .ref (X.2.1 69)), (1, .int y1), (2, .int y2), (3, .int y3), (4, .int y4), (5, .int y5), (6, .int y6), (7, .int y7)]) dX12_reckon_155 (by decide) rfl ?_
        refine mw_sipush (v := (201 : Int32)) dX12_reckon_157 (by decide) ?_
        refine mw_iload 5 dX12_reckon_160 rfl ?_
        refine mw_imul dX12_reckon_162 ?_
        refine mw_iload 8 dX12_reckon_163 rfl ?_
        refine mw_iadd dX12_reckon_165 ?_
        refine mw_bndI (fun x5 => ?_)
        refine mw_istore (lv' := [(9, .int x5), (8, .int x4), (0, .ref (X.2.1 69)), (1, .int y1), (2, .int y2), (3, .int y3), (4, .int y4), (5, .int y5), (6, .int y6), (7, .int y7)]) dX12_reckon_166 (by decide) rfl ?_
        refine mw_aload_n 2 dX12_reckon_168 rfl rfl ?_
        refine gf_RX12_98 mk_69 dX12_reckon_169 ?_
        refine mw_iload 9 dX12_reckon_172 rfl ?_
        refine mw_aload_n 2 dX12_reckon_174 rfl rfl ?_
        refine gf_RX12_91 mk_69 dX12_reckon_175 ?_
        refine mw_iload 1 dX12_reckon_178 rfl ?_
        refine mw_zaload mk_93 ml_93 dX12_reckon_180 ?_
        refine mw_if_ne (tgt := 194) dX12_reckon_181 (by decide) ?_ ?_
        · refine mw_aload_n 2 dX12_reckon_184 rfl rfl ?_
          refine gf_RX12_91 mk_69 dX12_reckon_185 ?_
          refine mw_iload 0 dX12_reckon_188 rfl ?_
          refine mw_zaload mk_93 ml_93 dX12_reckon_190 ?_
          refine mw_if_eq (tgt := 198) dX12_reckon_191 (by decide) ?_ ?_
          · refine mw_iconst (v := (0 : Int32)) dX12_reckon_198 (by decide) ?_
            exact mw_sub [2, 3, 4, 5, 6, 7, 8, 9, 1, 0] rfl (w_X12_reckon_199 X l (f_X12_reckon_135 n) ih y1 y2 y3 y4 y5 y6 y7 x4 x5 (0 : Int32) y7 S)
          · exact mw_sub [2, 3, 4, 5, 6, 7, 8, 9, 1, 0] rfl (w_X12_reckon_194 X l (f_X12_reckon_135 n) ih y1 y2 y3 y4 y5 y6 y7 x4 x5 y7 S)
        · exact mw_sub [2, 3, 4, 5, 6, 7, 8, 9, 1, 0] rfl (w_X12_reckon_194 X l (f_X12_reckon_135 n) ih y1 y2 y3 y4 y5 y6 y7 x4 x5 y7 S)
def f_X12_reckon_85 (y1 : Int32) (y2 : Int32) (y3 : Int32) (y4 : Int32) (y5 : Int32) (z0 : Int64) (z1 : Int64) (z2 : Int64) (S : mM) : Option (Int32 × mM) :=
  mBind (f_X12_in z2 z1 z0 S) fun r1 S2 =>
  if r1 = 0 then
    some ((-1 : Int32), S2)
  else
    if (3 : Int32) ≤ y2 then
      if 0 ≤ y3 ∧ y3.toNatClampNeg < 4 then
      (bnd (S2.1 91 y3.toNatClampNeg) fun x3 =>
      f_X12_reckon_135 mFuel y1 y2 y3 y4 y5 x3 (0 : Int32) S2)
      else none
    else
      if 0 ≤ y4 ∧ y4.toNatClampNeg < 4 then
      (if 0 ≤ y3 ∧ y3.toNatClampNeg < 4 then
      (if (S2.1 91 y3.toNatClampNeg) ≤ (S2.1 91 y4.toNatClampNeg) then
        if 0 ≤ y3 ∧ y3.toNatClampNeg < 4 then
        (bnd (S2.1 91 y3.toNatClampNeg) fun x4 =>
        f_X12_reckon_135 mFuel y1 y2 y3 y4 y5 x4 (0 : Int32) S2)
        else none
      else
        if 0 ≤ y4 ∧ y4.toNatClampNeg < 4 then
        (bnd (S2.1 91 y4.toNatClampNeg) fun x5 =>
        f_X12_reckon_135 mFuel y1 y2 y3 y4 y5 x5 (0 : Int32) S2)
        else none)
      else none)
      else none
set_option maxRecDepth 100000 in
set_option maxHeartbeats 4000000 in
theorem w_X12_reckon_85 (X : mX) (l : Launch) (y1 : Int32) (y2 : Int32) (y3 : Int32) (y4 : Int32) (y5 : Int32) (z0 : Int64) (z1 : Int64) (z2 : Int64) (S : mM) : MW X viI rm_X12_reckon cX12_reckon RX12 12 (some .int) l S [(0, .ref (X.2.1 69)), (1, .int y1), (2, .int y2), (3, .int y3), (4, .int y4), (5, .int y5)] [.long z0, .long z1, .long z2] 85 (f_X12_reckon_85 y1 y2 y3 y4 y5 z0 z1 z2 S) := by
  unfold f_X12_reckon_85
  refine mw_callS (t_X12_in X l z2 z1 z0 S) cd_X12_in lk_RX12_115 sn_X12_in in_RX12 de_X12_in ⟨rfl, rfl⟩ ⟨Nat.le_of_ble_eq_true rfl, Nat.le_of_ble_eq_true rfl⟩ rfl rfl ⟨Nat.le_of_ble_eq_true rfl, Nat.le_of_ble_eq_true rfl⟩ (Nat.le_of_ble_eq_true rfl) dX12_reckon_85 (fun r1 S2 => ?_)
  refine mw_eq (st' := [.int r1]) rfl rfl ?_
  refine mw_if_ne (tgt := 93) dX12_reckon_88 (by decide) ?_ ?_
  · refine mw_iconst (v := (-1 : Int32)) dX12_reckon_91 (by decide) ?_
    exact mw_ireturn dX12_reckon_92
  · refine mw_iload_n 2 dX12_reckon_93 rfl rfl ?_
    refine mw_iconst (v := (3 : Int32)) dX12_reckon_94 (by decide) ?_
    refine mw_icmp_ge (tgt := 124) dX12_reckon_95 (by decide) ?_ ?_
    · refine mw_aload_n 0 dX12_reckon_124 rfl rfl ?_
      refine gf_RX12_84 mk_69 dX12_reckon_125 ?_
      refine mw_iload_n 3 dX12_reckon_128 rfl rfl ?_
      refine mw_iaload mk_91 ml_91 dX12_reckon_129 ?_
      refine mw_bndI (fun x3 => ?_)
      refine mw_istore (lv' := [(6, .int x3), (0, .ref (X.2.1 69)), (1, .int y1), (2, .int y2), (3, .int y3), (4, .int y4), (5, .int y5)]) dX12_reckon_130 (by decide) rfl ?_
      refine mw_iconst (v := (0 : Int32)) dX12_reckon_132 (by decide) ?_
      refine mw_istore (lv' := [(7, .int (0 : Int32)), (6, .int x3), (0, .ref (X.2.1 69)), (1, .int y1), (2, .int y2), (3, .int y3), (4, .int y4), (5, .int y5)]) dX12_reckon_133 (by decide) rfl ?_
      exact mw_sub [2, 3, 4, 5, 6, 7, 1, 0] rfl (w_X12_reckon_135 X l mFuel y1 y2 y3 y4 y5 x3 (0 : Int32) S2)
    · refine mw_aload_n 0 dX12_reckon_98 rfl rfl ?_
      refine gf_RX12_84 mk_69 dX12_reckon_99 ?_
      refine mw_iload 4 dX12_reckon_102 rfl ?_
      refine mw_iaload mk_91 ml_91 dX12_reckon_104 ?_
      refine mw_aload_n 0 dX12_reckon_105 rfl rfl ?_
      refine gf_RX12_84 mk_69 dX12_reckon_106 ?_
      refine mw_iload_n 3 dX12_reckon_109 rfl rfl ?_
      refine mw_iaload mk_91 ml_91 dX12_reckon_110 ?_
      refine mw_icmp_ge (tgt := 124) dX12_reckon_111 (by decide) ?_ ?_
      · refine mw_aload_n 0 dX12_reckon_124 rfl rfl ?_
        refine gf_RX12_84 mk_69 dX12_reckon_125 ?_
        refine mw_iload_n 3 dX12_reckon_128 rfl rfl ?_
        refine mw_iaload mk_91 ml_91 dX12_reckon_129 ?_
        refine mw_bndI (fun x4 => ?_)
        refine mw_istore (lv' := [(6, .int x4), (0, .ref (X.2.1 69)), (1, .int y1), (2, .int y2), (3, .int y3), (4, .int y4), (5, .int y5)]) dX12_reckon_130 (by decide) rfl ?_
        refine mw_iconst (v := (0 : Int32)) dX12_reckon_132 (by decide) ?_
        refine mw_istore (lv' := [(7, .int (0 : Int32)), (6, .int x4), (0, .ref (X.2.1 69)), (1, .int y1), (2, .int y2), (3, .int y3), (4, .int y4), (5, .int y5)]) dX12_reckon_133 (by decide) rfl ?_
        exact mw_sub [2, 3, 4, 5, 6, 7, 1, 0] rfl (w_X12_reckon_135 X l mFuel y1 y2 y3 y4 y5 x4 (0 : Int32) S2)
      · refine mw_aload_n 0 dX12_reckon_114 rfl rfl ?_
        refine gf_RX12_84 mk_69 dX12_reckon_115 ?_
        refine mw_iload 4 dX12_reckon_118 rfl ?_
        refine mw_iaload mk_91 ml_91 dX12_reckon_120 ?_
        refine mw_goto (tgt := 130) dX12_reckon_121 (by decide) ?_
        refine mw_bndI (fun x5 => ?_)
        refine mw_istore (lv' := [(6, .int x5), (0, .ref (X.2.1 69)), (1, .int y1), (2, .int y2), (3, .int y3), (4, .int y4), (5, .int y5)]) dX12_reckon_130 (by decide) rfl ?_
        refine mw_iconst (v := (0 : Int32)) dX12_reckon_132 (by decide) ?_
        refine mw_istore (lv' := [(7, .int (0 : Int32)), (6, .int x5), (0, .ref (X.2.1 69)), (1, .int y1), (2, .int y2), (3, .int y3), (4, .int y4), (5, .int y5)]) dX12_reckon_133 (by decide) rfl ?_
        exact mw_sub [2, 3, 4, 5, 6, 7, 1, 0] rfl (w_X12_reckon_135 X l mFuel y1 y2 y3 y4 y5 x5 (0 : Int32) S2)
def f_X12_reckon_76 (y1 : Int32) (y2 : Int32) (y3 : Int32) (y4 : Int32) (y5 : Int32) (z0 : Int64) (z1 : Int64) (S : mM) : Option (Int32 × mM) :=
  f_X12_reckon_85 y1 y2 y3 y4 y5 (64 : Int64) z0 z1 S
set_option maxRecDepth 100000 in
set_option maxHeartbeats 4000000 in
theorem w_X12_reckon_76 (X : mX) (l : Launch) (y1 : Int32) (y2 : Int32) (y3 : Int32) (y4 : Int32) (y5 : Int32) (z0 : Int64) (z1 : Int64) (S : mM) : MW X viI rm_X12_reckon cX12_reckon RX12 12 (some .int) l S [(0, .ref (X.2.1 69)), (1, .int y1), (2, .int y2), (3, .int y3), (4, .int y4), (5, .int y5)] [.long z0, .long z1] 76 (f_X12_reckon_76 y1 y2 y3 y4 y5 z0 z1 S) := by
  unfold f_X12_reckon_76
  refine mw_ldc2 cl_RX12_259 dX12_reckon_76 ?_
  refine mw_goto (tgt := 85) dX12_reckon_79 (by decide) ?_
  exact mw_sub [0, 1, 2, 3, 4, 5] rfl (w_X12_reckon_85 X l y1 y2 y3 y4 y5 (64 : Int64) z0 z1 S)
def f_X12_reckon_66 (y1 : Int32) (y2 : Int32) (y3 : Int32) (y4 : Int32) (y5 : Int32) (z0 : Int64) (z1 : Int64) (S : mM) : Option (Int32 × mM) :=
  if y2 = (3 : Int32) then
    f_X12_reckon_76 y1 y2 y3 y4 y5 z0 z1 S
  else
    if y2 = (4 : Int32) then
      f_X12_reckon_76 y1 y2 y3 y4 y5 z0 z1 S
    else
      f_X12_reckon_85 y1 y2 y3 y4 y5 (1000 : Int64) z0 z1 S
set_option maxRecDepth 100000 in
set_option maxHeartbeats 4000000 in
theorem w_X12_reckon_66 (X : mX) (l : Launch) (y1 : Int32) (y2 : Int32) (y3 : Int32) (y4 : Int32) (y5 : Int32) (z0 : Int64) (z1 : Int64) (S : mM) : MW X viI rm_X12_reckon cX12_reckon RX12 12 (some .int) l S [(0, .ref (X.2.1 69)), (1, .int y1), (2, .int y2), (3, .int y3), (4, .int y4), (5, .int y5)] [.long z0, .long z1] 66 (f_X12_reckon_66 y1 y2 y3 y4 y5 z0 z1 S) := by
  unfold f_X12_reckon_66
  refine mw_iload_n 2 dX12_reckon_66 rfl rfl ?_
  refine mw_iconst (v := (3 : Int32)) dX12_reckon_67 (by decide) ?_
  refine mw_icmp_eq (tgt := 76) dX12_reckon_68 (by decide) ?_ ?_
  · exact mw_sub [0, 1, 2, 3, 4, 5] rfl (w_X12_reckon_76 X l y1 y2 y3 y4 y5 z0 z1 S)
  · refine mw_iload_n 2 dX12_reckon_71 rfl rfl ?_
    refine mw_iconst (v := (4 : Int32)) dX12_reckon_72 (by decide) ?_
    refine mw_icmp_ne (tgt := 82) dX12_reckon_73 (by decide) ?_ ?_
    · exact mw_sub [0, 1, 2, 3, 4, 5] rfl (w_X12_reckon_76 X l y1 y2 y3 y4 y5 z0 z1 S)
    · refine mw_ldc2 cl_RX12_273 dX12_reckon_82 ?_
      exact mw_sub [0, 1, 2, 3, 4, 5] rfl (w_X12_reckon_85 X l y1 y2 y3 y4 y5 (1000 : Int64) z0 z1 S)
def f_X12_reckon_59 (y1 : Int32) (y2 : Int32) (y3 : Int32) (y4 : Int32) (y5 : Int32) (z0 : Int64) (S : mM) : Option (Int32 × mM) :=
  f_X12_reckon_66 y1 y2 y3 y4 y5 (1 : Int64) z0 S
set_option maxRecDepth 100000 in
set_option maxHeartbeats 4000000 in
theorem w_X12_reckon_59 (X : mX) (l : Launch) (y1 : Int32) (y2 : Int32) (y3 : Int32) (y4 : Int32) (y5 : Int32) (z0 : Int64) (S : mM) : MW X viI rm_X12_reckon cX12_reckon RX12 12 (some .int) l S [(0, .ref (X.2.1 69)), (1, .int y1), (2, .int y2), (3, .int y3), (4, .int y4), (5, .int y5)] [.long z0] 59 (f_X12_reckon_59 y1 y2 y3 y4 y5 z0 S) := by
  unfold f_X12_reckon_59
  refine mw_lconst (v := (1 : Int64)) dX12_reckon_59 (by decide) ?_
  refine mw_goto (tgt := 66) dX12_reckon_60 (by decide) ?_
  exact mw_sub [0, 1, 2, 3, 4, 5] rfl (w_X12_reckon_66 X l y1 y2 y3 y4 y5 (1 : Int64) z0 S)
def f_X12_reckon_46 (y1 : Int32) (y2 : Int32) (y3 : Int32) (y4 : Int32) (y5 : Int32) (S : mM) : Option (Int32 × mM) :=
  if y2 = (3 : Int32) then
    f_X12_reckon_59 y1 y2 y3 y4 y5 y5.toInt64 S
  else
    if y2 = (4 : Int32) then
      f_X12_reckon_59 y1 y2 y3 y4 y5 y5.toInt64 S
    else
      f_X12_reckon_66 y1 y2 y3 y4 y5 (-1000 : Int64) y5.toInt64 S
set_option maxRecDepth 100000 in
set_option maxHeartbeats 4000000 in
theorem w_X12_reckon_46 (X : mX) (l : Launch) (y1 : Int32) (y2 : Int32) (y3 : Int32) (y4 : Int32) (y5 : Int32) (S : mM) : MW X viI rm_X12_reckon cX12_reckon RX12 12 (some .int) l S [(0, .ref (X.2.1 69)), (1, .int y1), (2, .int y2), (3, .int y3), (4, .int y4), (5, .int y5)] [] 46 (f_X12_reckon_46 y1 y2 y3 y4 y5 S) := by
  unfold f_X12_reckon_46
  refine mw_iload 5 dX12_reckon_46 rfl ?_
  refine mw_i2l dX12_reckon_48 ?_
  refine mw_iload_n 2 dX12_reckon_49 rfl rfl ?_
  refine mw_iconst (v := (3 : Int32)) dX12_reckon_50 (by decide) ?_
  refine mw_icmp_eq (tgt := 59) dX12_reckon_51 (by decide) ?_ ?_
  · exact mw_sub [0, 1, 2, 3, 4, 5] rfl (w_X12_reckon_59 X l y1 y2 y3 y4 y5 y5.toInt64 S)
  · refine mw_iload_n 2 dX12_reckon_54 rfl rfl ?_
    refine mw_iconst (v := (4 : Int32)) dX12_reckon_55 (by decide) ?_
    refine mw_icmp_ne (tgt := 63) dX12_reckon_56 (by decide) ?_ ?_
    · exact mw_sub [0, 1, 2, 3, 4, 5] rfl (w_X12_reckon_59 X l y1 y2 y3 y4 y5 y5.toInt64 S)
    · refine mw_ldc2 cl_RX12_271 dX12_reckon_63 ?_
      exact mw_sub [0, 1, 2, 3, 4, 5] rfl (w_X12_reckon_66 X l y1 y2 y3 y4 y5 (-1000 : Int64) y5.toInt64 S)
def f_X12_reckon (p1 : Int32) (p2 : Int32) (p3 : Int32) (p4 : Int32) (p5 : Int32) (S : mM) : Option (Int32 × mM) :=
  mBind (f_X12_in p1.toInt64 (0 : Int64) (3 : Int64) S) fun r1 S2 =>
  if r1 = 0 then
    some ((-1 : Int32), S2)
  else
    mBind (f_X12_in p2.toInt64 (0 : Int64) (7 : Int64) S2) fun r3 S4 =>
    if r3 = 0 then
      some ((-1 : Int32), S4)
    else
      mBind (f_X12_isRow p3 S4) fun r5 S6 =>
      if r5 = 0 then
        some ((-1 : Int32), S6)
      else
        if (3 : Int32) ≤ p2 then
          f_X12_reckon_46 p1 p2 p3 p4 p5 S6
        else
          mBind (f_X12_isRow p4 S6) fun r7 S8 =>
          if r7 = 0 then
            some ((-1 : Int32), S8)
          else
            f_X12_reckon_46 p1 p2 p3 p4 p5 S8
set_option maxRecDepth 100000 in
set_option maxHeartbeats 4000000 in
theorem w_X12_reckon (X : mX) (l : Launch) (p1 : Int32) (p2 : Int32) (p3 : Int32) (p4 : Int32) (p5 : Int32) (S : mM) : MW X viI rm_X12_reckon cX12_reckon RX12 12 (some .int) l S [(0, .ref (X.2.1 69)), (1, .int p1), (2, .int p2), (3, .int p3), (4, .int p4), (5, .int p5)] [] 0 (f_X12_reckon p1 p2 p3 p4 p5 S) := by
  unfold f_X12_reckon
  refine mw_iload_n 1 dX12_reckon_0 rfl rfl ?_
  refine mw_i2l dX12_reckon_1 ?_
  refine mw_lconst (v := (0 : Int64)) dX12_reckon_2 (by decide) ?_
  refine mw_ldc2 cl_RX12_257 dX12_reckon_3 ?_
  refine mw_callS (t_X12_in X l p1.toInt64 (0 : Int64) (3 : Int64) S) cd_X12_in lk_RX12_115 sn_X12_in in_RX12 de_X12_in ⟨rfl, rfl⟩ ⟨Nat.le_of_ble_eq_true rfl, Nat.le_of_ble_eq_true rfl⟩ rfl rfl ⟨Nat.le_of_ble_eq_true rfl, Nat.le_of_ble_eq_true rfl⟩ (Nat.le_of_ble_eq_true rfl) dX12_reckon_6 (fun r1 S2 => ?_)
  refine mw_eq (st' := [.int r1]) rfl rfl ?_
  refine mw_if_eq (tgt := 91) dX12_reckon_9 (by decide) ?_ ?_
  · refine mw_iconst (v := (-1 : Int32)) dX12_reckon_91 (by decide) ?_
    exact mw_ireturn dX12_reckon_92
  · refine mw_iload_n 2 dX12_reckon_12 rfl rfl ?_
    refine mw_i2l dX12_reckon_13 ?_
    refine mw_lconst (v := (0 : Int64)) dX12_reckon_14 (by decide) ?_
    refine mw_ldc2 cl_RX12_269 dX12_reckon_15 ?_
    refine mw_callS (t_X12_in X l p2.toInt64 (0 : Int64) (7 : Int64) S2) cd_X12_in lk_RX12_115 sn_X12_in in_RX12 de_X12_in ⟨rfl, rfl⟩ ⟨Nat.le_of_ble_eq_true rfl, Nat.le_of_ble_eq_true rfl⟩ rfl rfl ⟨Nat.le_of_ble_eq_true rfl, Nat.le_of_ble_eq_true rfl⟩ (Nat.le_of_ble_eq_true rfl) dX12_reckon_18 (fun r3 S4 => ?_)
    refine mw_eq (st' := [.int r3]) rfl rfl ?_
    refine mw_if_eq (tgt := 91) dX12_reckon_21 (by decide) ?_ ?_
    · refine mw_iconst (v := (-1 : Int32)) dX12_reckon_91 (by decide) ?_
      exact mw_ireturn dX12_reckon_92
    · refine mw_aload_n 0 dX12_reckon_24 rfl rfl ?_
      refine mw_iload_n 3 dX12_reckon_25 rfl rfl ?_
      refine mw_callV (t_X12_isRow X l p3 S4) cd_X12_isRow lk_RX12_254 im_X12_isRow se_X12_isRow in_RX12 de_X12_isRow ⟨rfl, rfl⟩ ⟨Nat.le_of_ble_eq_true rfl, Nat.le_of_ble_eq_true rfl⟩ (mKind_lt mk_69 (by decide)) (mCell_k mk_69) rfl rfl rfl rfl ⟨Nat.le_of_ble_eq_true rfl, Nat.le_of_ble_eq_true rfl⟩ (Nat.le_of_ble_eq_true rfl) dX12_reckon_26 (fun r5 S6 => ?_)
      refine mw_eq (st' := [.int r5]) rfl rfl ?_
      refine mw_if_eq (tgt := 91) dX12_reckon_29 (by decide) ?_ ?_
      · refine mw_iconst (v := (-1 : Int32)) dX12_reckon_91 (by decide) ?_
        exact mw_ireturn dX12_reckon_92
      · refine mw_iload_n 2 dX12_reckon_32 rfl rfl ?_
        refine mw_iconst (v := (3 : Int32)) dX12_reckon_33 (by decide) ?_
        refine mw_icmp_ge (tgt := 46) dX12_reckon_34 (by decide) ?_ ?_
        · exact mw_sub [0, 1, 2, 3, 4, 5] rfl (w_X12_reckon_46 X l p1 p2 p3 p4 p5 S6)
        · refine mw_aload_n 0 dX12_reckon_37 rfl rfl ?_
          refine mw_iload 4 dX12_reckon_38 rfl ?_
          refine mw_callV (t_X12_isRow X l p4 S6) cd_X12_isRow lk_RX12_254 im_X12_isRow se_X12_isRow in_RX12 de_X12_isRow ⟨rfl, rfl⟩ ⟨Nat.le_of_ble_eq_true rfl, Nat.le_of_ble_eq_true rfl⟩ (mKind_lt mk_69 (by decide)) (mCell_k mk_69) rfl rfl rfl rfl ⟨Nat.le_of_ble_eq_true rfl, Nat.le_of_ble_eq_true rfl⟩ (Nat.le_of_ble_eq_true rfl) dX12_reckon_40 (fun r7 S8 => ?_)
          refine mw_eq (st' := [.int r7]) rfl rfl ?_
          refine mw_if_eq (tgt := 91) dX12_reckon_43 (by decide) ?_ ?_
          · refine mw_iconst (v := (-1 : Int32)) dX12_reckon_91 (by decide) ?_
            exact mw_ireturn dX12_reckon_92
          · exact mw_sub [0, 1, 2, 3, 4, 5] rfl (w_X12_reckon_46 X l p1 p2 p3 p4 p5 S8)
theorem t_X12_reckon (X : mX) (l : Launch) (p1 : Int32) (p2 : Int32) (p3 : Int32) (p4 : Int32) (p5 : Int32) (S : mM) : mMet X viI yX12_reckon cX12_reckon 12 (some .int) rm_X12_reckon [.ref (X.2.1 69), .int p1, .int p2, .int p3, .int p4, .int p5] l S (f_X12_reckon p1 p2 p3 p4 p5 S) :=
  mMet_of (by decide +kernel) rfl (Nat.le_of_ble_eq_true rfl) (w_X12_reckon X l p1 p2 p3 p4 p5 S )
/-! TraceBenchModel.row(III)I -/
def f_X12_row_49 (n : Nat) (y1 : Int32) (y2 : Int32) (y3 : Int32) (y4 : Int32) (S : mM) : Option (Int32 × mM) := match n with
  | 0 => none
  | n + 1 =>
    if 0 ≤ y2 ∧ y2.toNatClampNeg < 8 then
    (if (S.1 85 y2.toNatClampNeg) ≤ y4 then
      if 0 ≤ y1 ∧ y1.toNatClampNeg < 4 then
      (some ((S.1 91 y1.toNatClampNeg), S))
      else none
    else
      mBind (f_X12_valueAt y2 y3 y4 S) fun r1 S2 =>
      if 0 ≤ (((201 : Int32) * y1) + y4) ∧ (((201 : Int32) * y1) + y4).toNatClampNeg < 804 then
      (bnd (setJ S2 92 (((201 : Int32) * y1) + y4).toNatClampNeg r1.toInt64) fun S3 =>
      if 0 ≤ (((201 : Int32) * y1) + y4) ∧ (((201 : Int32) * y1) + y4).toNatClampNeg < 804 then
      (bnd (setI S3 93 (((201 : Int32) * y1) + y4).toNatClampNeg (vp_nar .boolean (0 : Int32))) fun S4 =>
      bnd (y4 + (1 : Int32)) fun x5 =>
      f_X12_row_49 n y1 y2 y3 x5 S4)
      else none)
      else none)
    else none
set_option maxRecDepth 100000 in
set_option maxHeartbeats 4000000 in
theorem w_X12_row_49 (X : mX) (l : Launch) (n : Nat) (y1 : Int32) (y2 : Int32) (y3 : Int32) (y4 : Int32) (S : mM) : MW X viI rm_X12_row cX12_row RX12 5 (some .int) l S [(0, .ref (X.2.1 69)), (1, .int y1), (2, .int y2), (3, .int y3), (4, .int y4)] [] 49 (f_X12_row_49 n y1 y2 y3 y4 S) := by
  induction n generalizing y1 y2 y3 y4 S with
  | zero => exact mw_none
  | succ n ih =>
    unfold f_X12_row_49
    refine mw_iload 4 dX12_row_49 rfl ?_
    refine mw_aload_n 0 dX12_row_51 rfl rfl ?_
    refine gf_RX12_63 mk_69 dX12_row_52 ?_
    refine mw_iload_n 2 dX12_row_55 rfl rfl ?_
    refine mw_iaload mk_85 ml_85 dX12_row_56 ?_
    refine mw_icmp_ge (tgt := 102) dX12_row_57 (by decide) ?_ ?_
    · refine mw_aload_n 0 dX12_row_102 rfl rfl ?_
      refine gf_RX12_84 mk_69 dX12_row_103 ?_
      refine mw_iload_n 1 dX12_row_106 rfl rfl ?_
      refine mw_iaload mk_91 ml_91 dX12_row_107 ?_
      exact mw_ireturn dX12_row_108
    · refine mw_aload_n 0 dX12_row_60 rfl rfl ?_
      refine gf_RX12_87 mk_69 dX12_row_61 ?_
      refine mw_sipush (v := (201 : Int32)) dX12_row_64 (by decide) ?_
      refine mw_iload_n 1 dX12_row_67 rfl rfl ?_
      refine mw_imul dX12_row_68 ?_
      refine mw_iload 4 dX12_row_69 rfl ?_
      refine mw_iadd dX12_row_71 ?_
      refine mw_aload_n 0 dX12_row_72 rfl rfl ?_
      refine mw_iload_n 2 dX12_row_73 rfl rfl ?_
      refine mw_iload_n 3 dX12_row_74 rfl rfl ?_
      refine mw_iload 4 dX12_row_75 rfl ?_
      refine mw_callV (t_X12_valueAt X l y2 y3 y4 S) cd_X12_valueAt lk_RX12_266 im_X12_valueAt se_X12_valueAt in_RX12 de_X12_valueAt ⟨rfl, rfl⟩ ⟨Nat.le_of_ble_eq_true rfl, Nat.le_of_ble_eq_true rfl⟩ (mKind_lt mk_69 (by decide)) (mCell_k mk_69) rfl rfl rfl rfl ⟨Nat.le_of_ble_eq_true rfl, Nat.le_of_ble_eq_true rfl⟩ (Nat.le_of_ble_eq_true rfl) dX12_row_77 (fun r1 S2 => ?_)
      refine mw_eq (st' := [.int r1, .int (((201 : Int32) * y1) + y4), .ref (X.2.1 92)]) rfl rfl ?_
      refine mw_i2l dX12_row_80 ?_
      refine mw_lastore mk_92 ml_92 dX12_row_81 ?_
      refine mw_bndS (fun S3 => ?_)
      refine mw_aload_n 0 dX12_row_82 rfl rfl ?_
      refine gf_RX12_91 mk_69 dX12_row_83 ?_
      refine mw_sipush (v := (201 : Int32)) dX12_row_86 (by decide) ?_
      refine mw_iload_n 1 dX12_row_89 rfl rfl ?_
      refine mw_imul dX12_row_90 ?_
      refine mw_iload 4 dX12_row_91 rfl ?_
      refine mw_iadd dX12_row_93 ?_
      refine mw_iconst (v := (0 : Int32)) dX12_row_94 (by decide) ?_
      refine mw_zastore mk_93 ml_93 dX12_row_95 ?_
      refine mw_bndS (fun S4 => ?_)
      refine mw_iincB (lvf := fun x5 => [(4, .int x5), (0, .ref (X.2.1 69)), (1, .int y1), (2, .int y2), (3, .int y3)]) (k := 4) dX12_row_96 rfl (by decide) (by decide) (fun _ => rfl) (fun x5 => ?_)
      refine mw_goto (tgt := 49) dX12_row_99 (by decide) ?_
      exact mw_sub [1, 2, 3, 4, 0] rfl (ih y1 y2 y3 x5 S4)
def f_X12_row (p1 : Int32) (p2 : Int32) (p3 : Int32) (S : mM) : Option (Int32 × mM) :=
  mBind (f_X12_in p1.toInt64 (0 : Int64) (3 : Int64) S) fun r1 S2 =>
  if r1 = 0 then
    some ((-1 : Int32), S2)
  else
    mBind (f_X12_isSegment p2 S2) fun r3 S4 =>
    if r3 = 0 then
      some ((-1 : Int32), S4)
    else
      mBind (f_X12_in p3.toInt64 (0 : Int64) (3 : Int64) S4) fun r5 S6 =>
      if r5 = 0 then
        some ((-1 : Int32), S6)
      else
        if 0 ≤ p2 ∧ p2.toNatClampNeg < 8 then
        (if 0 ≤ p1 ∧ p1.toNatClampNeg < 4 then
        (bnd (setI S6 91 p1.toNatClampNeg (S6.1 85 p2.toNatClampNeg)) fun S7 =>
        f_X12_row_49 mFuel p1 p2 p3 (0 : Int32) S7)
        else none)
        else none
set_option maxRecDepth 100000 in
set_option maxHeartbeats 4000000 in
theorem w_X12_row (X : mX) (l : Launch) (p1 : Int32) (p2 : Int32) (p3 : Int32) (S : mM) : MW X viI rm_X12_row cX12_row RX12 5 (some .int) l S [(0, .ref (X.2.1 69)), (1, .int p1), (2, .int p2), (3, .int p3)] [] 0 (f_X12_row p1 p2 p3 S) := by
  unfold f_X12_row
  refine mw_iload_n 1 dX12_row_0 rfl rfl ?_
  refine mw_i2l dX12_row_1 ?_
  refine mw_lconst (v := (0 : Int64)) dX12_row_2 (by decide) ?_
  refine mw_ldc2 cl_RX12_257 dX12_row_3 ?_
  refine mw_callS (t_X12_in X l p1.toInt64 (0 : Int64) (3 : Int64) S) cd_X12_in lk_RX12_115 sn_X12_in in_RX12 de_X12_in ⟨rfl, rfl⟩ ⟨Nat.le_of_ble_eq_true rfl, Nat.le_of_ble_eq_true rfl⟩ rfl rfl ⟨Nat.le_of_ble_eq_true rfl, Nat.le_of_ble_eq_true rfl⟩ (Nat.le_of_ble_eq_true rfl) dX12_row_6 (fun r1 S2 => ?_)
  refine mw_eq (st' := [.int r1]) rfl rfl ?_
  refine mw_if_eq (tgt := 32) dX12_row_9 (by decide) ?_ ?_
  · refine mw_iconst (v := (-1 : Int32)) dX12_row_32 (by decide) ?_
    exact mw_ireturn dX12_row_33
  · refine mw_aload_n 0 dX12_row_12 rfl rfl ?_
    refine mw_iload_n 2 dX12_row_13 rfl rfl ?_
    refine mw_callV (t_X12_isSegment X l p2 S2) cd_X12_isSegment lk_RX12_261 im_X12_isSegment se_X12_isSegment in_RX12 de_X12_isSegment ⟨rfl, rfl⟩ ⟨Nat.le_of_ble_eq_true rfl, Nat.le_of_ble_eq_true rfl⟩ (mKind_lt mk_69 (by decide)) (mCell_k mk_69) rfl rfl rfl rfl ⟨Nat.le_of_ble_eq_true rfl, Nat.le_of_ble_eq_true rfl⟩ (Nat.le_of_ble_eq_true rfl) dX12_row_14 (fun r3 S4 => ?_)
    refine mw_eq (st' := [.int r3]) rfl rfl ?_
    refine mw_if_eq (tgt := 32) dX12_row_17 (by decide) ?_ ?_
    · refine mw_iconst (v := (-1 : Int32)) dX12_row_32 (by decide) ?_
      exact mw_ireturn dX12_row_33
    · refine mw_iload_n 3 dX12_row_20 rfl rfl ?_
      refine mw_i2l dX12_row_21 ?_
      refine mw_lconst (v := (0 : Int64)) dX12_row_22 (by decide) ?_
      refine mw_ldc2 cl_RX12_257 dX12_row_23 ?_
      refine mw_callS (t_X12_in X l p3.toInt64 (0 : Int64) (3 : Int64) S4) cd_X12_in lk_RX12_115 sn_X12_in in_RX12 de_X12_in ⟨rfl, rfl⟩ ⟨Nat.le_of_ble_eq_true rfl, Nat.le_of_ble_eq_true rfl⟩ rfl rfl ⟨Nat.le_of_ble_eq_true rfl, Nat.le_of_ble_eq_true rfl⟩ (Nat.le_of_ble_eq_true rfl) dX12_row_26 (fun r5 S6 => ?_)
      refine mw_eq (st' := [.int r5]) rfl rfl ?_
      refine mw_if_ne (tgt := 34) dX12_row_29 (by decide) ?_ ?_
      · refine mw_iconst (v := (-1 : Int32)) dX12_row_32 (by decide) ?_
        exact mw_ireturn dX12_row_33
      · refine mw_aload_n 0 dX12_row_34 rfl rfl ?_
        refine gf_RX12_84 mk_69 dX12_row_35 ?_
        refine mw_iload_n 1 dX12_row_38 rfl rfl ?_
        refine mw_aload_n 0 dX12_row_39 rfl rfl ?_
        refine gf_RX12_63 mk_69 dX12_row_40 ?_
        refine mw_iload_n 2 dX12_row_43 rfl rfl ?_
        refine mw_iaload mk_85 ml_85 dX12_row_44 ?_
        refine mw_iastore mk_91 ml_91 dX12_row_45 ?_
        refine mw_bndS (fun S7 => ?_)
        refine mw_iconst (v := (0 : Int32)) dX12_row_46 (by decide) ?_
        refine mw_istore (lv' := [(4, .int (0 : Int32)), (0, .ref (X.2.1 69)), (1, .int p1), (2, .int p2), (3, .int p3)]) dX12_row_47 (by decide) rfl ?_
        exact mw_sub [1, 2, 3, 4, 0] rfl (w_X12_row_49 X l mFuel p1 p2 p3 (0 : Int32) S7)
theorem t_X12_row (X : mX) (l : Launch) (p1 : Int32) (p2 : Int32) (p3 : Int32) (S : mM) : mMet X viI yX12_row cX12_row 5 (some .int) rm_X12_row [.ref (X.2.1 69), .int p1, .int p2, .int p3] l S (f_X12_row p1 p2 p3 S) :=
  mMet_of (by decide +kernel) rfl (Nat.le_of_ble_eq_true rfl) (w_X12_row X l p1 p2 p3 S )
/-! TraceBenchModel.sample(II)I -/
def f_X12_sample (p1 : Int32) (p2 : Int32) (S : mM) : Option (Int32 × mM) :=
  mBind (f_X12_in p2.toInt64 (0 : Int64) (3 : Int64) S) fun r1 S2 =>
  if r1 = 0 then
    some ((1000 : Int32), S2)
  else
    if p1 < 0 then
      some ((1000 : Int32), S2)
    else
      if p1 < ((S2.1 69 3) - (256 : Int32)) then
        some ((1000 : Int32), S2)
      else
        if (S2.1 69 3) ≤ p1 then
          some ((1000 : Int32), S2)
        else
          mBind (f_X12_of p1 p2 S2) fun r3 S4 =>
          some (r3, S4)
set_option maxRecDepth 100000 in
set_option maxHeartbeats 4000000 in
theorem w_X12_sample (X : mX) (l : Launch) (p1 : Int32) (p2 : Int32) (S : mM) : MW X viI rm_X12_sample cX12_sample RX12 3 (some .int) l S [(0, .ref (X.2.1 69)), (1, .int p1), (2, .int p2)] [] 0 (f_X12_sample p1 p2 S) := by
  unfold f_X12_sample
  refine mw_iload_n 2 dX12_sample_0 rfl rfl ?_
  refine mw_i2l dX12_sample_1 ?_
  refine mw_lconst (v := (0 : Int64)) dX12_sample_2 (by decide) ?_
  refine mw_ldc2 cl_RX12_257 dX12_sample_3 ?_
  refine mw_callS (t_X12_in X l p2.toInt64 (0 : Int64) (3 : Int64) S) cd_X12_in lk_RX12_115 sn_X12_in in_RX12 de_X12_in ⟨rfl, rfl⟩ ⟨Nat.le_of_ble_eq_true rfl, Nat.le_of_ble_eq_true rfl⟩ rfl rfl ⟨Nat.le_of_ble_eq_true rfl, Nat.le_of_ble_eq_true rfl⟩ (Nat.le_of_ble_eq_true rfl) dX12_sample_6 (fun r1 S2 => ?_)
  refine mw_eq (st' := [.int r1]) rfl rfl ?_
  refine mw_if_eq (tgt := 45) dX12_sample_9 (by decide) ?_ ?_
  · refine mw_sipush (v := (1000 : Int32)) dX12_sample_45 (by decide) ?_
    exact mw_ireturn dX12_sample_48
  · refine mw_iload_n 1 dX12_sample_12 rfl rfl ?_
    refine mw_if_lt (tgt := 45) dX12_sample_13 (by decide) ?_ ?_
    · refine mw_sipush (v := (1000 : Int32)) dX12_sample_45 (by decide) ?_
      exact mw_ireturn dX12_sample_48
    · refine mw_iload_n 1 dX12_sample_16 rfl rfl ?_
      refine mw_aload_n 0 dX12_sample_17 rfl rfl ?_
      refine gf_RX12_203 mk_69 dX12_sample_18 ?_
      refine mw_sipush (v := (256 : Int32)) dX12_sample_21 (by decide) ?_
      refine mw_isub dX12_sample_24 ?_
      refine mw_icmp_lt (tgt := 45) dX12_sample_25 (by decide) ?_ ?_
      · refine mw_sipush (v := (1000 : Int32)) dX12_sample_45 (by decide) ?_
        exact mw_ireturn dX12_sample_48
      · refine mw_iload_n 1 dX12_sample_28 rfl rfl ?_
        refine mw_aload_n 0 dX12_sample_29 rfl rfl ?_
        refine gf_RX12_203 mk_69 dX12_sample_30 ?_
        refine mw_icmp_ge (tgt := 45) dX12_sample_33 (by decide) ?_ ?_
        · refine mw_sipush (v := (1000 : Int32)) dX12_sample_45 (by decide) ?_
          exact mw_ireturn dX12_sample_48
        · refine mw_aload_n 0 dX12_sample_36 rfl rfl ?_
          refine mw_iload_n 1 dX12_sample_37 rfl rfl ?_
          refine mw_iload_n 2 dX12_sample_38 rfl rfl ?_
          refine mw_callV (t_X12_of X l p1 p2 S2) cd_X12_of lk_RX12_227 im_X12_of se_X12_of in_RX12 de_X12_of ⟨rfl, rfl⟩ ⟨Nat.le_of_ble_eq_true rfl, Nat.le_of_ble_eq_true rfl⟩ (mKind_lt mk_69 (by decide)) (mCell_k mk_69) rfl rfl rfl rfl ⟨Nat.le_of_ble_eq_true rfl, Nat.le_of_ble_eq_true rfl⟩ (Nat.le_of_ble_eq_true rfl) dX12_sample_39 (fun r3 S4 => ?_)
          refine mw_eq (st' := [.int r3]) rfl rfl ?_
          refine mw_goto (tgt := 48) dX12_sample_42 (by decide) ?_
          exact mw_ireturn dX12_sample_48
theorem t_X12_sample (X : mX) (l : Launch) (p1 : Int32) (p2 : Int32) (S : mM) : mMet X viI yX12_sample cX12_sample 3 (some .int) rm_X12_sample [.ref (X.2.1 69), .int p1, .int p2] l S (f_X12_sample p1 p2 S) :=
  mMet_of (by decide +kernel) rfl (Nat.le_of_ble_eq_true rfl) (w_X12_sample X l p1 p2 S )
/-! TraceBenchModel.segment(II)I -/
def f_X12_segment (p1 : Int32) (p2 : Int32) (S : mM) : Option (Int32 × mM) :=
  mBind (f_X12_isSegment p1 S) fun r1 S2 =>
  if r1 = 0 then
    some ((-1 : Int32), S2)
  else
    mBind (f_X12_in p2.toInt64 (0 : Int64) (2 : Int64) S2) fun r3 S4 =>
    if r3 = 0 then
      some ((-1 : Int32), S4)
    else
      if p2 = 0 then
        if 0 ≤ p1 ∧ p1.toNatClampNeg < 8 then
        (some ((S4.1 84 p1.toNatClampNeg), S4))
        else none
      else
        if p2 = (1 : Int32) then
          if 0 ≤ p1 ∧ p1.toNatClampNeg < 8 then
          (some ((S4.1 85 p1.toNatClampNeg), S4))
          else none
        else
          if 0 ≤ p1 ∧ p1.toNatClampNeg < 8 then
          (some ((S4.1 86 p1.toNatClampNeg), S4))
          else none
set_option maxRecDepth 100000 in
set_option maxHeartbeats 4000000 in
theorem w_X12_segment (X : mX) (l : Launch) (p1 : Int32) (p2 : Int32) (S : mM) : MW X viI rm_X12_segment cX12_segment RX12 3 (some .int) l S [(0, .ref (X.2.1 69)), (1, .int p1), (2, .int p2)] [] 0 (f_X12_segment p1 p2 S) := by
  unfold f_X12_segment
  refine mw_aload_n 0 dX12_segment_0 rfl rfl ?_
  refine mw_iload_n 1 dX12_segment_1 rfl rfl ?_
  refine mw_callV (t_X12_isSegment X l p1 S) cd_X12_isSegment lk_RX12_261 im_X12_isSegment se_X12_isSegment in_RX12 de_X12_isSegment ⟨rfl, rfl⟩ ⟨Nat.le_of_ble_eq_true rfl, Nat.le_of_ble_eq_true rfl⟩ (mKind_lt mk_69 (by decide)) (mCell_k mk_69) rfl rfl rfl rfl ⟨Nat.le_of_ble_eq_true rfl, Nat.le_of_ble_eq_true rfl⟩ (Nat.le_of_ble_eq_true rfl) dX12_segment_2 (fun r1 S2 => ?_)
  refine mw_eq (st' := [.int r1]) rfl rfl ?_
  refine mw_if_eq (tgt := 20) dX12_segment_5 (by decide) ?_ ?_
  · refine mw_iconst (v := (-1 : Int32)) dX12_segment_20 (by decide) ?_
    exact mw_ireturn dX12_segment_21
  · refine mw_iload_n 2 dX12_segment_8 rfl rfl ?_
    refine mw_i2l dX12_segment_9 ?_
    refine mw_lconst (v := (0 : Int64)) dX12_segment_10 (by decide) ?_
    refine mw_ldc2 cl_RX12_264 dX12_segment_11 ?_
    refine mw_callS (t_X12_in X l p2.toInt64 (0 : Int64) (2 : Int64) S2) cd_X12_in lk_RX12_115 sn_X12_in in_RX12 de_X12_in ⟨rfl, rfl⟩ ⟨Nat.le_of_ble_eq_true rfl, Nat.le_of_ble_eq_true rfl⟩ rfl rfl ⟨Nat.le_of_ble_eq_true rfl, Nat.le_of_ble_eq_true rfl⟩ (Nat.le_of_ble_eq_true rfl) dX12_segment_14 (fun r3 S4 => ?_)
    refine mw_eq (st' := [.int r3]) rfl rfl ?_
    refine mw_if_ne (tgt := 22) dX12_segment_17 (by decide) ?_ ?_
    · refine mw_iconst (v := (-1 : Int32)) dX12_segment_20 (by decide) ?_
      exact mw_ireturn dX12_segment_21
    · refine mw_iload_n 2 dX12_segment_22 rfl rfl ?_
      refine mw_if_ne (tgt := 35) dX12_segment_23 (by decide) ?_ ?_
      · refine mw_aload_n 0 dX12_segment_26 rfl rfl ?_
        refine gf_RX12_60 mk_69 dX12_segment_27 ?_
        refine mw_iload_n 1 dX12_segment_30 rfl rfl ?_
        refine mw_iaload mk_84 ml_84 dX12_segment_31 ?_
        refine mw_goto (tgt := 55) dX12_segment_32 (by decide) ?_
        exact mw_ireturn dX12_segment_55
      · refine mw_iload_n 2 dX12_segment_35 rfl rfl ?_
        refine mw_iconst (v := (1 : Int32)) dX12_segment_36 (by decide) ?_
        refine mw_icmp_ne (tgt := 49) dX12_segment_37 (by decide) ?_ ?_
        · refine mw_aload_n 0 dX12_segment_40 rfl rfl ?_
          refine gf_RX12_63 mk_69 dX12_segment_41 ?_
          refine mw_iload_n 1 dX12_segment_44 rfl rfl ?_
          refine mw_iaload mk_85 ml_85 dX12_segment_45 ?_
          refine mw_goto (tgt := 55) dX12_segment_46 (by decide) ?_
          exact mw_ireturn dX12_segment_55
        · refine mw_aload_n 0 dX12_segment_49 rfl rfl ?_
          refine gf_RX12_66 mk_69 dX12_segment_50 ?_
          refine mw_iload_n 1 dX12_segment_53 rfl rfl ?_
          refine mw_iaload mk_86 ml_86 dX12_segment_54 ?_
          exact mw_ireturn dX12_segment_55
theorem t_X12_segment (X : mX) (l : Launch) (p1 : Int32) (p2 : Int32) (S : mM) : mMet X viI yX12_segment cX12_segment 3 (some .int) rm_X12_segment [.ref (X.2.1 69), .int p1, .int p2] l S (f_X12_segment p1 p2 S) :=
  mMet_of (by decide +kernel) rfl (Nat.le_of_ble_eq_true rfl) (w_X12_segment X l p1 p2 S )
/-! TraceBenchModel.sheet(III)I -/
def f_X12_sheet_56 (n : Nat) (y1 : Int32) (y4 : Int32) (S : mM) : Option (Int32 × mM) := match n with
  | 0 => none
  | n + 1 =>
    if (64 : Int32) ≤ y4 then
      some ((1 : Int32), S)
    else
      if 0 ≤ (((64 : Int32) * y1) + y4) ∧ (((64 : Int32) * y1) + y4).toNatClampNeg < 256 then
      (bnd (setI S 90 (((64 : Int32) * y1) + y4).toNatClampNeg (0 : Int32)) fun S1 =>
      bnd (y4 + (1 : Int32)) fun x2 =>
      f_X12_sheet_56 n y1 x2 S1)
      else none
set_option maxRecDepth 100000 in
set_option maxHeartbeats 4000000 in
theorem w_X12_sheet_56 (X : mX) (l : Launch) (n : Nat) (y1 : Int32) (y4 : Int32) (S : mM) : MW X viI rm_X12_sheet cX12_sheet RX12 5 (some .int) l S [(0, .ref (X.2.1 69)), (1, .int y1), (4, .int y4)] [] 56 (f_X12_sheet_56 n y1 y4 S) := by
  induction n generalizing y1 y4 S with
  | zero => exact mw_none
  | succ n ih =>
    unfold f_X12_sheet_56
    refine mw_iload 2 dX12_sheet_56 rfl ?_
    refine mw_bipush (v := (64 : Int32)) dX12_sheet_58 (by decide) ?_
    refine mw_icmp_ge (tgt := 82) dX12_sheet_60 (by decide) ?_ ?_
    · refine mw_iconst (v := (1 : Int32)) dX12_sheet_82 (by decide) ?_
      exact mw_ireturn dX12_sheet_83
    · refine mw_aload_n 0 dX12_sheet_63 rfl rfl ?_
      refine gf_RX12_78 mk_69 dX12_sheet_64 ?_
      refine mw_bipush (v := (64 : Int32)) dX12_sheet_67 (by decide) ?_
      refine mw_iload_n 1 dX12_sheet_69 rfl rfl ?_
      refine mw_imul dX12_sheet_70 ?_
      refine mw_iload 2 dX12_sheet_71 rfl ?_
      refine mw_iadd dX12_sheet_73 ?_
      refine mw_iconst (v := (0 : Int32)) dX12_sheet_74 (by decide) ?_
      refine mw_iastore mk_90 ml_90 dX12_sheet_75 ?_
      refine mw_bndS (fun S1 => ?_)
      refine mw_iincB (lvf := fun x2 => [(4, .int x2), (0, .ref (X.2.1 69)), (1, .int y1)]) (k := 2) dX12_sheet_76 rfl (by decide) (by decide) (fun _ => rfl) (fun x2 => ?_)
      refine mw_goto (tgt := 56) dX12_sheet_79 (by decide) ?_
      exact mw_sub [1, 2, 0] rfl (ih y1 x2 S1)
def f_X12_sheet (p1 : Int32) (p2 : Int32) (p3 : Int32) (S : mM) : Option (Int32 × mM) :=
  mBind (f_X12_in p1.toInt64 (0 : Int64) (3 : Int64) S) fun r1 S2 =>
  if r1 = 0 then
    some ((-1 : Int32), S2)
  else
    mBind (f_X12_in p2.toInt64 (0 : Int64) (2 : Int64) S2) fun r3 S4 =>
    if r3 = 0 then
      some ((-1 : Int32), S4)
    else
      if p3 ≤ (64 : Int32) then
        if 0 ≤ p3 then
          if 0 ≤ p1 ∧ p1.toNatClampNeg < 4 then
          (bnd (setI S4 88 p1.toNatClampNeg p2) fun S5 =>
          if 0 ≤ p1 ∧ p1.toNatClampNeg < 4 then
          (bnd (setI S5 89 p1.toNatClampNeg p3) fun S6 =>
          f_X12_sheet_56 mFuel p1 (0 : Int32) S6)
          else none)
          else none
        else
          some ((-14 : Int32), S4)
      else
        some ((-1 : Int32), S4)
set_option maxRecDepth 100000 in
set_option maxHeartbeats 4000000 in
theorem w_X12_sheet (X : mX) (l : Launch) (p1 : Int32) (p2 : Int32) (p3 : Int32) (S : mM) : MW X viI rm_X12_sheet cX12_sheet RX12 5 (some .int) l S [(0, .ref (X.2.1 69)), (1, .int p1), (2, .int p2), (3, .int p3)] [] 0 (f_X12_sheet p1 p2 p3 S) := by
  unfold f_X12_sheet
  refine mw_iload_n 1 dX12_sheet_0 rfl rfl ?_
  refine mw_i2l dX12_sheet_1 ?_
  refine mw_lconst (v := (0 : Int64)) dX12_sheet_2 (by decide) ?_
  refine mw_ldc2 cl_RX12_257 dX12_sheet_3 ?_
  refine mw_callS (t_X12_in X l p1.toInt64 (0 : Int64) (3 : Int64) S) cd_X12_in lk_RX12_115 sn_X12_in in_RX12 de_X12_in ⟨rfl, rfl⟩ ⟨Nat.le_of_ble_eq_true rfl, Nat.le_of_ble_eq_true rfl⟩ rfl rfl ⟨Nat.le_of_ble_eq_true rfl, Nat.le_of_ble_eq_true rfl⟩ (Nat.le_of_ble_eq_true rfl) dX12_sheet_6 (fun r1 S2 => ?_)
  refine mw_eq (st' := [.int r1]) rfl rfl ?_
  refine mw_if_eq (tgt := 30) dX12_sheet_9 (by decide) ?_ ?_
  · refine mw_iconst (v := (-1 : Int32)) dX12_sheet_30 (by decide) ?_
    exact mw_ireturn dX12_sheet_31
  · refine mw_iload_n 2 dX12_sheet_12 rfl rfl ?_
    refine mw_i2l dX12_sheet_13 ?_
    refine mw_lconst (v := (0 : Int64)) dX12_sheet_14 (by decide) ?_
    refine mw_ldc2 cl_RX12_264 dX12_sheet_15 ?_
    refine mw_callS (t_X12_in X l p2.toInt64 (0 : Int64) (2 : Int64) S2) cd_X12_in lk_RX12_115 sn_X12_in in_RX12 de_X12_in ⟨rfl, rfl⟩ ⟨Nat.le_of_ble_eq_true rfl, Nat.le_of_ble_eq_true rfl⟩ rfl rfl ⟨Nat.le_of_ble_eq_true rfl, Nat.le_of_ble_eq_true rfl⟩ (Nat.le_of_ble_eq_true rfl) dX12_sheet_18 (fun r3 S4 => ?_)
    refine mw_eq (st' := [.int r3]) rfl rfl ?_
    refine mw_if_eq (tgt := 30) dX12_sheet_21 (by decide) ?_ ?_
    · refine mw_iconst (v := (-1 : Int32)) dX12_sheet_30 (by decide) ?_
      exact mw_ireturn dX12_sheet_31
    · refine mw_iload_n 3 dX12_sheet_24 rfl rfl ?_
      refine mw_bipush (v := (64 : Int32)) dX12_sheet_25 (by decide) ?_
      refine mw_icmp_le (tgt := 32) dX12_sheet_27 (by decide) ?_ ?_
      · refine mw_iload_n 3 dX12_sheet_32 rfl rfl ?_
        refine mw_if_ge (tgt := 39) dX12_sheet_33 (by decide) ?_ ?_
        · refine mw_aload_n 0 dX12_sheet_39 rfl rfl ?_
          refine gf_RX12_72 mk_69 dX12_sheet_40 ?_
          refine mw_iload_n 1 dX12_sheet_43 rfl rfl ?_
          refine mw_iload_n 2 dX12_sheet_44 rfl rfl ?_
          refine mw_iastore mk_88 ml_88 dX12_sheet_45 ?_
          refine mw_bndS (fun S5 => ?_)
          refine mw_aload_n 0 dX12_sheet_46 rfl rfl ?_
          refine gf_RX12_75 mk_69 dX12_sheet_47 ?_
          refine mw_iload_n 1 dX12_sheet_50 rfl rfl ?_
          refine mw_iload_n 3 dX12_sheet_51 rfl rfl ?_
          refine mw_iastore mk_89 ml_89 dX12_sheet_52 ?_
          refine mw_bndS (fun S6 => ?_)
          refine mw_iconst (v := (0 : Int32)) dX12_sheet_53 (by decide) ?_
          refine mw_istore (lv' := [(4, .int (0 : Int32)), (0, .ref (X.2.1 69)), (1, .int p1), (2, .int p2), (3, .int p3)]) dX12_sheet_54 (by decide) rfl ?_
          exact mw_sub [1, 2, 0] rfl (w_X12_sheet_56 X l mFuel p1 (0 : Int32) S6)
        · refine mw_bipush (v := (-14 : Int32)) dX12_sheet_36 (by decide) ?_
          exact mw_ireturn dX12_sheet_38
      · refine mw_iconst (v := (-1 : Int32)) dX12_sheet_30 (by decide) ?_
        exact mw_ireturn dX12_sheet_31
theorem t_X12_sheet (X : mX) (l : Launch) (p1 : Int32) (p2 : Int32) (p3 : Int32) (S : mM) : mMet X viI yX12_sheet cX12_sheet 5 (some .int) rm_X12_sheet [.ref (X.2.1 69), .int p1, .int p2, .int p3] l S (f_X12_sheet p1 p2 p3 S) :=
  mMet_of (by decide +kernel) rfl (Nat.le_of_ble_eq_true rfl) (w_X12_sheet X l p1 p2 p3 S )
/-! TraceBenchModel.told(I)I -/
def f_X12_told (p1 : Int32) (S : mM) : Option (Int32 × mM) :=
  if p1 = (0 : Int32) then
    some ((S.1 69 25), S)
  else
    if p1 = (1 : Int32) then
      if (S.1 69 25) = (1 : Int32) then
        some ((S.1 69 29), S)
      else
        some ((-4 : Int32), S)
    else
      if p1 = (2 : Int32) then
        if (S.1 69 25) = (1 : Int32) then
          some ((S.1 69 30), S)
        else
          some ((-4 : Int32), S)
      else
        if p1 = (3 : Int32) then
          if (S.1 69 25) = (1 : Int32) then
            some ((S.1 69 31), S)
          else
            some ((-4 : Int32), S)
        else
          if p1 = (4 : Int32) then
            some ((S.1 69 3), S)
          else
            if p1 = (5 : Int32) then
              some ((S.1 69 34), S)
            else
              if p1 = (6 : Int32) then
                some ((S.1 69 26), S)
              else
                if p1 = (7 : Int32) then
                  some ((S.1 69 27), S)
                else
                  if p1 = (8 : Int32) then
                    some ((S.1 69 4), S)
                  else
                    if p1 = (9 : Int32) then
                      some ((S.1 69 32), S)
                    else
                      some ((-1 : Int32), S)
set_option maxRecDepth 100000 in
set_option maxHeartbeats 4000000 in
theorem w_X12_told (X : mX) (l : Launch) (p1 : Int32) (S : mM) : MW X viI rm_X12_told cX12_told RX12 2 (some .int) l S [(0, .ref (X.2.1 69)), (1, .int p1)] [] 0 (f_X12_told p1 S) := by
  unfold f_X12_told
  refine mw_iload_n 1 dX12_told_0 rfl rfl ?_
  refine mw_ite (fun h1 => ?_) (fun h1 => ?_)
  · refine mw_tab (tgt := 56) h1 dX12_told_1 (by decide) (by decide) rfl (by decide) ?_
    refine mw_aload_n 0 dX12_told_56 rfl rfl ?_
    refine gf_RX12_198 mk_69 dX12_told_57 ?_
    exact mw_ireturn dX12_told_60
  · refine mw_ite (fun h2 => ?_) (fun h2 => ?_)
    · refine mw_tab (tgt := 61) h2 dX12_told_1 (by decide) (by decide) rfl (by decide) ?_
      refine mw_aload_n 0 dX12_told_61 rfl rfl ?_
      refine gf_RX12_198 mk_69 dX12_told_62 ?_
      refine mw_iconst (v := (1 : Int32)) dX12_told_65 (by decide) ?_
      refine mw_icmp_ne (tgt := 76) dX12_told_66 (by decide) ?_ ?_
      · refine mw_aload_n 0 dX12_told_69 rfl rfl ?_
        refine gf_RX12_209 mk_69 dX12_told_70 ?_
        refine mw_goto (tgt := 78) dX12_told_73 (by decide) ?_
        exact mw_ireturn dX12_told_78
      · refine mw_bipush (v := (-4 : Int32)) dX12_told_76 (by decide) ?_
        exact mw_ireturn dX12_told_78
    · refine mw_ite (fun h3 => ?_) (fun h3 => ?_)
      · refine mw_tab (tgt := 79) h3 dX12_told_1 (by decide) (by decide) rfl (by decide) ?_
        refine mw_aload_n 0 dX12_told_79 rfl rfl ?_
        refine gf_RX12_198 mk_69 dX12_told_80 ?_
        refine mw_iconst (v := (1 : Int32)) dX12_told_83 (by decide) ?_
        refine mw_icmp_ne (tgt := 94) dX12_told_84 (by decide) ?_ ?_
        · refine mw_aload_n 0 dX12_told_87 rfl rfl ?_
          refine gf_RX12_212 mk_69 dX12_told_88 ?_
          refine mw_goto (tgt := 96) dX12_told_91 (by decide) ?_
          exact mw_ireturn dX12_told_96
        · refine mw_bipush (v := (-4 : Int32)) dX12_told_94 (by decide) ?_
          exact mw_ireturn dX12_told_96
      · refine mw_ite (fun h4 => ?_) (fun h4 => ?_)
        · refine mw_tab (tgt := 97) h4 dX12_told_1 (by decide) (by decide) rfl (by decide) ?_
          refine mw_aload_n 0 dX12_told_97 rfl rfl ?_
          refine gf_RX12_198 mk_69 dX12_told_98 ?_
          refine mw_iconst (v := (1 : Int32)) dX12_told_101 (by decide) ?_
          refine mw_icmp_ne (tgt := 112) dX12_told_102 (by decide) ?_ ?_
          · refine mw_aload_n 0 dX12_told_105 rfl rfl ?_
            refine gf_RX12_215 mk_69 dX12_told_106 ?_
            refine mw_goto (tgt := 114) dX12_told_109 (by decide) ?_
            exact mw_ireturn dX12_told_114
          · refine mw_bipush (v := (-4 : Int32)) dX12_told_112 (by decide) ?_
            exact mw_ireturn dX12_told_114
        · refine mw_ite (fun h5 => ?_) (fun h5 => ?_)
          · refine mw_tab (tgt := 115) h5 dX12_told_1 (by decide) (by decide) rfl (by decide) ?_
            refine mw_aload_n 0 dX12_told_115 rfl rfl ?_
            refine gf_RX12_203 mk_69 dX12_told_116 ?_
            exact mw_ireturn dX12_told_119
          · refine mw_ite (fun h6 => ?_) (fun h6 => ?_)
            · refine mw_tab (tgt := 120) h6 dX12_told_1 (by decide) (by decide) rfl (by decide) ?_
              refine mw_aload_n 0 dX12_told_120 rfl rfl ?_
              refine gf_RX12_221 mk_69 dX12_told_121 ?_
              exact mw_ireturn dX12_told_124
            · refine mw_ite (fun h7 => ?_) (fun h7 => ?_)
              · refine mw_tab (tgt := 125) h7 dX12_told_1 (by decide) (by decide) rfl (by decide) ?_
                refine mw_aload_n 0 dX12_told_125 rfl rfl ?_
                refine gf_RX12_53 mk_69 dX12_told_126 ?_
                exact mw_ireturn dX12_told_129
              · refine mw_ite (fun h8 => ?_) (fun h8 => ?_)
                · refine mw_tab (tgt := 130) h8 dX12_told_1 (by decide) (by decide) rfl (by decide) ?_
                  refine mw_aload_n 0 dX12_told_130 rfl rfl ?_
                  refine gf_RX12_57 mk_69 dX12_told_131 ?_
                  exact mw_ireturn dX12_told_134
                · refine mw_ite (fun h9 => ?_) (fun h9 => ?_)
                  · refine mw_tab (tgt := 135) h9 dX12_told_1 (by decide) (by decide) rfl (by decide) ?_
                    refine mw_aload_n 0 dX12_told_135 rfl rfl ?_
                    refine gf_RX12_195 mk_69 dX12_told_136 ?_
                    exact mw_ireturn dX12_told_139
                  · refine mw_ite (fun h10 => ?_) (fun h10 => ?_)
                    · refine mw_tab (tgt := 140) h10 dX12_told_1 (by decide) (by decide) rfl (by decide) ?_
                      refine mw_aload_n 0 dX12_told_140 rfl rfl ?_
                      refine gf_RX12_218 mk_69 dX12_told_141 ?_
                      exact mw_ireturn dX12_told_144
                    · refine mw_tabD (tgt := 145) dX12_told_1 (by have eh1 : ¬ p1.toInt = 0 := fun q => h1 (Int32.toInt_inj.mp (q.trans (by decide))); have eh2 : ¬ p1.toInt = 1 := fun q => h2 (Int32.toInt_inj.mp (q.trans (by decide))); have eh3 : ¬ p1.toInt = 2 := fun q => h3 (Int32.toInt_inj.mp (q.trans (by decide))); have eh4 : ¬ p1.toInt = 3 := fun q => h4 (Int32.toInt_inj.mp (q.trans (by decide))); have eh5 : ¬ p1.toInt = 4 := fun q => h5 (Int32.toInt_inj.mp (q.trans (by decide))); have eh6 : ¬ p1.toInt = 5 := fun q => h6 (Int32.toInt_inj.mp (q.trans (by decide))); have eh7 : ¬ p1.toInt = 6 := fun q => h7 (Int32.toInt_inj.mp (q.trans (by decide))); have eh8 : ¬ p1.toInt = 7 := fun q => h8 (Int32.toInt_inj.mp (q.trans (by decide))); have eh9 : ¬ p1.toInt = 8 := fun q => h9 (Int32.toInt_inj.mp (q.trans (by decide))); have eh10 : ¬ p1.toInt = 9 := fun q => h10 (Int32.toInt_inj.mp (q.trans (by decide))); omega) (by decide) ?_
                      refine mw_iconst (v := (-1 : Int32)) dX12_told_145 (by decide) ?_
                      exact mw_ireturn dX12_told_146
theorem t_X12_told (X : mX) (l : Launch) (p1 : Int32) (S : mM) : mMet X viI yX12_told cX12_told 2 (some .int) rm_X12_told [.ref (X.2.1 69), .int p1] l S (f_X12_told p1 S) :=
  mMet_of (by decide +kernel) rfl (Nat.le_of_ble_eq_true rfl) (w_X12_told X l p1 S )
/-! TraceBenchModel.total(I)J -/
def f_X12_total_5 (n : Nat) (y1 : Int32) (y2 : Int64) (y4 : Int32) (S : mM) : Option (Int64 × mM) := match n with
  | 0 => none
  | n + 1 =>
    mBind (f_X12_isRow y1 S) fun r1 S2 =>
    if r1 = 0 then
      some (y2, S2)
    else
      if 0 ≤ y1 ∧ y1.toNatClampNeg < 4 then
      (if (S2.1 91 y1.toNatClampNeg) ≤ y4 then
        some (y2, S2)
      else
        if 0 ≤ (((201 : Int32) * y1) + y4) ∧ (((201 : Int32) * y1) + y4).toNatClampNeg < 804 then
        (if (S2.1 93 (((201 : Int32) * y1) + y4).toNatClampNeg) = 0 then
          if 0 ≤ (((201 : Int32) * y1) + y4) ∧ (((201 : Int32) * y1) + y4).toNatClampNeg < 804 then
          (bnd (y2 + (S2.2.1 92 (((201 : Int32) * y1) + y4).toNatClampNeg)) fun x3 =>
          bnd (y4 + (1 : Int32)) fun x4 =>
          f_X12_total_5 n y1 x3 x4 S2)
          else none
        else
          bnd (y2 + (0 : Int64)) fun x5 =>
          bnd (y4 + (1 : Int32)) fun x6 =>
          f_X12_total_5 n y1 x5 x6 S2)
        else none)
      else none
set_option maxRecDepth 100000 in
set_option maxHeartbeats 4000000 in
theorem w_X12_total_5 (X : mX) (l : Launch) (n : Nat) (y1 : Int32) (y2 : Int64) (y4 : Int32) (S : mM) : MW X viJ rm_X12_total cX12_total RX12 5 (some .long) l S [(0, .ref (X.2.1 69)), (1, .int y1), (2, .long y2), (4, .int y4)] [] 5 (f_X12_total_5 n y1 y2 y4 S) := by
  induction n generalizing y1 y2 y4 S with
  | zero => exact mw_none
  | succ n ih =>
    unfold f_X12_total_5
    refine mw_aload_n 0 dX12_total_5 rfl rfl ?_
    refine mw_iload_n 1 dX12_total_6 rfl rfl ?_
    refine mw_callV (t_X12_isRow X l y1 S) cd_X12_isRow lk_RX12_254 im_X12_isRow se_X12_isRow in_RX12 de_X12_isRow ⟨rfl, rfl⟩ ⟨Nat.le_of_ble_eq_true rfl, Nat.le_of_ble_eq_true rfl⟩ (mKind_lt mk_69 (by decide)) (mCell_k mk_69) rfl rfl rfl rfl ⟨Nat.le_of_ble_eq_true rfl, Nat.le_of_ble_eq_true rfl⟩ (Nat.le_of_ble_eq_true rfl) dX12_total_7 (fun r1 S2 => ?_)
    refine mw_eq (st' := [.int r1]) rfl rfl ?_
    refine mw_if_eq (tgt := 66) dX12_total_10 (by decide) ?_ ?_
    · refine mw_lload_n 2 dX12_total_66 rfl rfl ?_
      exact mw_lreturn dX12_total_67
    · refine mw_iload 3 dX12_total_13 rfl ?_
      refine mw_aload_n 0 dX12_total_15 rfl rfl ?_
      refine gf_RX12_84 mk_69 dX12_total_16 ?_
      refine mw_iload_n 1 dX12_total_19 rfl rfl ?_
      refine mw_iaload mk_91 ml_91 dX12_total_20 ?_
      refine mw_icmp_ge (tgt := 66) dX12_total_21 (by decide) ?_ ?_
      · refine mw_lload_n 2 dX12_total_66 rfl rfl ?_
        exact mw_lreturn dX12_total_67
      · refine mw_lload_n 2 dX12_total_24 rfl rfl ?_
        refine mw_aload_n 0 dX12_total_25 rfl rfl ?_
        refine gf_RX12_91 mk_69 dX12_total_26 ?_
        refine mw_sipush (v := (201 : Int32)) dX12_total_29 (by decide) ?_
        refine mw_iload_n 1 dX12_total_32 rfl rfl ?_
        refine mw_imul dX12_total_33 ?_
        refine mw_iload 3 dX12_total_34 rfl ?_
        refine mw_iadd dX12_total_36 ?_
        refine mw_zaload mk_93 ml_93 dX12_total_37 ?_
        refine mw_if_eq (tgt := 45) dX12_total_38 (by decide) ?_ ?_
        · refine mw_aload_n 0 dX12_total_45 rfl rfl ?_
          refine gf_RX12_87 mk_69 dX12_total_46 ?_
          refine mw_sipush (v := (201 : Int32)) dX12_total_49 (by decide) ?_
          refine mw_iload_n 1 dX12_total_52 rfl rfl ?_
          refine mw_imul dX12_total_53 ?_
          refine mw_iload 3 dX12_total_54 rfl ?_
          refine mw_iadd dX12_total_56 ?_
          refine mw_laload mk_92 ml_92 dX12_total_57 ?_
          refine mw_ladd dX12_total_58 ?_
          refine mw_bndJ (fun x3 => ?_)
          refine mw_lstore_n (lv' := [(2, .long x3), (0, .ref (X.2.1 69)), (1, .int y1), (4, .int y4)]) dX12_total_59 rfl (by decide) rfl ?_
          refine mw_iincB (lvf := fun x4 => [(4, .int x4), (2, .long x3), (0, .ref (X.2.1 69)), (1, .int y1)]) (k := 3) dX12_total_60 rfl (by decide) (by decide) (fun _ => rfl) (fun x4 => ?_)
          refine mw_goto (tgt := 5) dX12_total_63 (by decide) ?_
          exact mw_sub [2, 3, 1, 0] rfl (ih y1 x3 x4 S2)
        · refine mw_lconst (v := (0 : Int64)) dX12_total_41 (by decide) ?_
          refine mw_goto (tgt := 58) dX12_total_42 (by decide) ?_
          refine mw_ladd dX12_total_58 ?_
          refine mw_bndJ (fun x5 => ?_)
          refine mw_lstore_n (lv' := [(2, .long x5), (0, .ref (X.2.1 69)), (1, .int y1), (4, .int y4)]) dX12_total_59 rfl (by decide) rfl ?_
          refine mw_iincB (lvf := fun x6 => [(4, .int x6), (2, .long x5), (0, .ref (X.2.1 69)), (1, .int y1)]) (k := 3) dX12_total_60 rfl (by decide) (by decide) (fun _ => rfl) (fun x6 => ?_)
          refine mw_goto (tgt := 5) dX12_total_63 (by decide) ?_
          exact mw_sub [2, 3, 1, 0] rfl (ih y1 x5 x6 S2)
def f_X12_total (p1 : Int32) (S : mM) : Option (Int64 × mM) :=
  f_X12_total_5 mFuel p1 (0 : Int64) (0 : Int32) S
set_option maxRecDepth 100000 in
set_option maxHeartbeats 4000000 in
theorem w_X12_total (X : mX) (l : Launch) (p1 : Int32) (S : mM) : MW X viJ rm_X12_total cX12_total RX12 5 (some .long) l S [(0, .ref (X.2.1 69)), (1, .int p1)] [] 0 (f_X12_total p1 S) := by
  unfold f_X12_total
  refine mw_lconst (v := (0 : Int64)) dX12_total_0 (by decide) ?_
  refine mw_lstore_n (lv' := [(2, .long (0 : Int64)), (0, .ref (X.2.1 69)), (1, .int p1)]) dX12_total_1 rfl (by decide) rfl ?_
  refine mw_iconst (v := (0 : Int32)) dX12_total_2 (by decide) ?_
  refine mw_istore (lv' := [(4, .int (0 : Int32)), (2, .long (0 : Int64)), (0, .ref (X.2.1 69)), (1, .int p1)]) dX12_total_3 (by decide) rfl ?_
  exact mw_sub [2, 3, 1, 0] rfl (w_X12_total_5 X l mFuel p1 (0 : Int64) (0 : Int32) S)
theorem t_X12_total (X : mX) (l : Launch) (p1 : Int32) (S : mM) : mMet X viJ yX12_total cX12_total 5 (some .long) rm_X12_total [.ref (X.2.1 69), .int p1] l S (f_X12_total p1 S) :=
  mMet_of (by decide +kernel) rfl (Nat.le_of_ble_eq_true rfl) (w_X12_total X l p1 S )
/-! TraceBenchModel.trigger()I -/
def f_X12_trigger_39 (n : Nat) (y1 : Int32) (S : mM) : Option (Int32 × mM) := match n with
  | 0 => none
  | n + 1 =>
    if (S.1 69 4) ≤ y1 then
      bnd (setI S 69 25 (0 : Int32)) fun S1 =>
      some ((S1.1 69 4), S1)
    else
      if 0 ≤ y1 ∧ y1.toNatClampNeg < 6 then
      (if 0 ≤ y1 ∧ y1.toNatClampNeg < 6 then
      (bnd (setI S 72 y1.toNatClampNeg (S.1 78 y1.toNatClampNeg)) fun S2 =>
      if 0 ≤ y1 ∧ y1.toNatClampNeg < 6 then
      (if 0 ≤ y1 ∧ y1.toNatClampNeg < 6 then
      (bnd (setI S2 73 y1.toNatClampNeg (S2.1 79 y1.toNatClampNeg)) fun S3 =>
      if 0 ≤ y1 ∧ y1.toNatClampNeg < 6 then
      (if 0 ≤ y1 ∧ y1.toNatClampNeg < 6 then
      (bnd (setI S3 74 y1.toNatClampNeg (S3.1 80 y1.toNatClampNeg)) fun S4 =>
      if 0 ≤ y1 ∧ y1.toNatClampNeg < 6 then
      (if 0 ≤ y1 ∧ y1.toNatClampNeg < 6 then
      (bnd (setI S4 75 y1.toNatClampNeg (S4.1 81 y1.toNatClampNeg)) fun S5 =>
      if 0 ≤ y1 ∧ y1.toNatClampNeg < 6 then
      (if 0 ≤ y1 ∧ y1.toNatClampNeg < 6 then
      (bnd (setI S5 76 y1.toNatClampNeg (S5.1 82 y1.toNatClampNeg)) fun S6 =>
      if 0 ≤ y1 ∧ y1.toNatClampNeg < 6 then
      (if 0 ≤ y1 ∧ y1.toNatClampNeg < 6 then
      (bnd (setI S6 77 y1.toNatClampNeg (S6.1 83 y1.toNatClampNeg)) fun S7 =>
      bnd (y1 + (1 : Int32)) fun x8 =>
      f_X12_trigger_39 n x8 S7)
      else none)
      else none)
      else none)
      else none)
      else none)
      else none)
      else none)
      else none)
      else none)
      else none)
      else none)
      else none
set_option maxRecDepth 100000 in
set_option maxHeartbeats 4000000 in
theorem w_X12_trigger_39 (X : mX) (l : Launch) (n : Nat) (y1 : Int32) (S : mM) : MW X viI rm_X12_trigger cX12_trigger RX12 2 (some .int) l S [(0, .ref (X.2.1 69)), (1, .int y1)] [] 39 (f_X12_trigger_39 n y1 S) := by
  induction n generalizing y1 S with
  | zero => exact mw_none
  | succ n ih =>
    unfold f_X12_trigger_39
    refine mw_iload_n 1 dX12_trigger_39 rfl rfl ?_
    refine mw_aload_n 0 dX12_trigger_40 rfl rfl ?_
    refine gf_RX12_195 mk_69 dX12_trigger_41 ?_
    refine mw_icmp_ge (tgt := 125) dX12_trigger_44 (by decide) ?_ ?_
    · refine mw_aload_n 0 dX12_trigger_125 rfl rfl ?_
      refine mw_iconst (v := (0 : Int32)) dX12_trigger_126 (by decide) ?_
      refine pf_RX12_198 mk_69 dX12_trigger_127 ?_
      refine mw_bndS (fun S1 => ?_)
      refine mw_aload_n 0 dX12_trigger_130 rfl rfl ?_
      refine gf_RX12_195 mk_69 dX12_trigger_131 ?_
      exact mw_ireturn dX12_trigger_134
    · refine mw_aload_n 0 dX12_trigger_47 rfl rfl ?_
      refine gf_RX12_17 mk_69 dX12_trigger_48 ?_
      refine mw_iload_n 1 dX12_trigger_51 rfl rfl ?_
      refine mw_aload_n 0 dX12_trigger_52 rfl rfl ?_
      refine gf_RX12_35 mk_69 dX12_trigger_53 ?_
      refine mw_iload_n 1 dX12_trigger_56 rfl rfl ?_
      refine mw_iaload mk_78 ml_78 dX12_trigger_57 ?_
      refine mw_iastore mk_72 ml_72 dX12_trigger_58 ?_
      refine mw_bndS (fun S2 => ?_)
      refine mw_aload_n 0 dX12_trigger_59 rfl rfl ?_
      refine gf_RX12_20 mk_69 dX12_trigger_60 ?_
      refine mw_iload_n 1 dX12_trigger_63 rfl rfl ?_
      refine mw_aload_n 0 dX12_trigger_64 rfl rfl ?_
      refine gf_RX12_38 mk_69 dX12_trigger_65 ?_
      refine mw_iload_n 1 dX12_trigger_68 rfl rfl ?_
      refine mw_iaload mk_79 ml_79 dX12_trigger_69 ?_
      refine mw_iastore mk_73 ml_73 dX12_trigger_70 ?_
      refine mw_bndS (fun S3 => ?_)
      refine mw_aload_n 0 dX12_trigger_71 rfl rfl ?_
      refine gf_RX12_23 mk_69 dX12_trigger_72 ?_
      refine mw_iload_n 1 dX12_trigger_75 rfl rfl ?_
      refine mw_aload_n 0 dX12_trigger_76 rfl rfl ?_
      refine gf_RX12_41 mk_69 dX12_trigger_77 ?_
      refine mw_iload_n 1 dX12_trigger_80 rfl rfl ?_
      refine mw_iaload mk_80 ml_80 dX12_trigger_81 ?_
      refine mw_iastore mk_74 ml_74 dX12_trigger_82 ?_
      refine mw_bndS (fun S4 => ?_)
      refine mw_aload_n 0 dX12_trigger_83 rfl rfl ?_
      refine gf_RX12_26 mk_69 dX12_trigger_84 ?_
      refine mw_iload_n 1 dX12_trigger_87 rfl rfl ?_
      refine mw_aload_n 0 dX12_trigger_88 rfl rfl ?_
      refine gf_RX12_44 mk_69 dX12_trigger_89 ?_
      refine mw_iload_n 1 dX12_trigger_92 rfl rfl ?_
      refine mw_iaload mk_81 ml_81 dX12_trigger_93 ?_
      refine mw_iastore mk_75 ml_75 dX12_trigger_94 ?_
      refine mw_bndS (fun S5 => ?_)
      refine mw_aload_n 0 dX12_trigger_95 rfl rfl ?_
      refine gf_RX12_29 mk_69 dX12_trigger_96 ?_
      refine mw_iload_n 1 dX12_trigger_99 rfl rfl ?_
      refine mw_aload_n 0 dX12_trigger_100 rfl rfl ?_
      refine gf_RX12_47 mk_69 dX12_trigger_101 ?_
      refine mw_iload_n 1 dX12_trigger_104 rfl rfl ?_
      refine mw_iaload mk_82 ml_82 dX12_trigger_105 ?_
      refine mw_iastore mk_76 ml_76 dX12_trigger_106 ?_
      refine mw_bndS (fun S6 => ?_)
      refine mw_aload_n 0 dX12_trigger_107 rfl rfl ?_
      refine gf_RX12_32 mk_69 dX12_trigger_108 ?_
      refine mw_iload_n 1 dX12_trigger_111 rfl rfl ?_
      refine mw_aload_n 0 dX12_trigger_112 rfl rfl ?_
      refine gf_RX12_50 mk_69 dX12_trigger_113 ?_
      refine mw_iload_n 1 dX12_trigger_116 rfl rfl ?_
      refine mw_iaload mk_83 ml_83 dX12_trigger_117 ?_
      refine mw_iastore mk_77 ml_77 dX12_trigger_118 ?_
      refine mw_bndS (fun S7 => ?_)
      refine mw_iincB (lvf := fun x8 => [(1, .int x8), (0, .ref (X.2.1 69))]) (k := 1) dX12_trigger_119 rfl (by decide) (by decide) (fun _ => rfl) (fun x8 => ?_)
      refine mw_goto (tgt := 39) dX12_trigger_122 (by decide) ?_
      exact mw_sub [1, 0] rfl (ih x8 S7)
def f_X12_trigger (S : mM) : Option (Int32 × mM) :=
  bnd (setI S 69 18 (0 : Int32)) fun S1 =>
  mBind (f_X12_readTrigger S1) fun r2 S3 =>
  bnd (setI S3 69 1 (0 : Int32)) fun S4 =>
  if (S4.1 69 18) ≤ 0 then
    bnd (setI S4 69 4 (S4.1 69 11)) fun S5 =>
    f_X12_trigger_39 mFuel (0 : Int32) S5
  else
    some (((-10 : Int32) - (S4.1 69 19)), S4)
set_option maxRecDepth 100000 in
set_option maxHeartbeats 4000000 in
theorem w_X12_trigger (X : mX) (l : Launch) (S : mM) : MW X viI rm_X12_trigger cX12_trigger RX12 2 (some .int) l S [(0, .ref (X.2.1 69))] [] 0 (f_X12_trigger  S) := by
  unfold f_X12_trigger
  refine mw_aload_n 0 dX12_trigger_0 rfl rfl ?_
  refine mw_iconst (v := (0 : Int32)) dX12_trigger_1 (by decide) ?_
  refine pf_RX12_119 mk_69 dX12_trigger_2 ?_
  refine mw_bndS (fun S1 => ?_)
  refine mw_aload_n 0 dX12_trigger_5 rfl rfl ?_
  refine mw_callV (t_X12_readTrigger X l S1) cd_X12_readTrigger lk_RX12_192 im_X12_readTrigger se_X12_readTrigger in_RX12 de_X12_readTrigger ⟨rfl, rfl⟩ ⟨Nat.le_of_ble_eq_true rfl, Nat.le_of_ble_eq_true rfl⟩ (mKind_lt mk_69 (by decide)) (mCell_k mk_69) rfl rfl rfl rfl ⟨Nat.le_of_ble_eq_true rfl, Nat.le_of_ble_eq_true rfl⟩ (Nat.le_of_ble_eq_true rfl) dX12_trigger_6 (fun r2 S3 => ?_)
  refine mw_eq (st' := []) rfl rfl ?_
  refine mw_aload_n 0 dX12_trigger_9 rfl rfl ?_
  refine mw_iconst (v := (0 : Int32)) dX12_trigger_10 (by decide) ?_
  refine pf_RX12_110 mk_69 dX12_trigger_11 ?_
  refine mw_bndS (fun S4 => ?_)
  refine mw_aload_n 0 dX12_trigger_14 rfl rfl ?_
  refine gf_RX12_119 mk_69 dX12_trigger_15 ?_
  refine mw_if_le (tgt := 29) dX12_trigger_18 (by decide) ?_ ?_
  · refine mw_aload_n 0 dX12_trigger_29 rfl rfl ?_
    refine mw_aload_n 0 dX12_trigger_30 rfl rfl ?_
    refine gf_RX12_182 mk_69 dX12_trigger_31 ?_
    refine pf_RX12_195 mk_69 dX12_trigger_34 ?_
    refine mw_bndS (fun S5 => ?_)
    refine mw_iconst (v := (0 : Int32)) dX12_trigger_37 (by decide) ?_
    refine mw_istore_n (lv' := [(1, .int (0 : Int32)), (0, .ref (X.2.1 69))]) dX12_trigger_38 rfl (by decide) rfl ?_
    exact mw_sub [1, 0] rfl (w_X12_trigger_39 X l mFuel (0 : Int32) S5)
  · refine mw_bipush (v := (-10 : Int32)) dX12_trigger_21 (by decide) ?_
    refine mw_aload_n 0 dX12_trigger_23 rfl rfl ?_
    refine gf_RX12_122 mk_69 dX12_trigger_24 ?_
    refine mw_isub dX12_trigger_27 ?_
    exact mw_ireturn dX12_trigger_28
theorem t_X12_trigger (X : mX) (l : Launch) (S : mM) : mMet X viI yX12_trigger cX12_trigger 2 (some .int) rm_X12_trigger [.ref (X.2.1 69)] l S (f_X12_trigger  S) :=
  mMet_of (by decide +kernel) rfl (Nat.le_of_ble_eq_true rfl) (w_X12_trigger X l  S )
/-! TraceBenchModel.turns(IJI)I -/
def f_X12_turns_204 (k48 : Int32 → Int64 → Int32 → Int32 → Int32 → Int32 → Int32 → Int32 → Int32 → Int32 → Int32 → mM → Option (Int32 × mM)) (y1 : Int32) (y2 : Int64) (y4 : Int32) (y5 : Int32) (y6 : Int32) (y7 : Int32) (y8 : Int32) (y9 : Int32) (y10 : Int32) (y11 : Int32) (y12 : Int32) (y13 : Int32) (S : mM) : Option (Int32 × mM) :=
  if 0 ≤ y13 ∧ y13.toNatClampNeg < 804 then
  (if (lg_cmp (S.2.1 92 y13.toNatClampNeg) y2) < 0 then
    bnd (y11 + (0 : Int32)) fun x1 =>
    bnd (y12 + (1 : Int32)) fun x2 =>
    k48 y1 y2 y4 y5 y6 y7 y8 y9 y10 x1 x2 S
  else
    bnd (y11 + (1 : Int32)) fun x3 =>
    bnd (y12 + (1 : Int32)) fun x4 =>
    k48 y1 y2 y4 y5 y6 y7 y8 y9 y10 x3 x4 S)
  else none
set_option maxRecDepth 100000 in
set_option maxHeartbeats 4000000 in
theorem w_X12_turns_204 (X : mX) (l : Launch) (k48 : Int32 → Int64 → Int32 → Int32 → Int32 → Int32 → Int32 → Int32 → Int32 → Int32 → Int32 → mM → Option (Int32 × mM)) (hk48 : ∀ (y1 : Int32) (y2 : Int64) (y4 : Int32) (y5 : Int32) (y6 : Int32) (y7 : Int32) (y8 : Int32) (y9 : Int32) (y10 : Int32) (y11 : Int32) (y12 : Int32) (S : mM), MW X viI rm_X12_turns cX12_turns RX12 15 (some .int) l S [(0, .ref (X.2.1 69)), (1, .int y1), (2, .long y2), (4, .int y4), (5, .int y5), (6, .int y6), (7, .int y7), (8, .int y8), (9, .int y9), (10, .int y10), (11, .int y11), (12, .int y12)] [] 48 (k48 y1 y2 y4 y5 y6 y7 y8 y9 y10 y11 y12 S)) (y1 : Int32) (y2 : Int64) (y4 : Int32) (y5 : Int32) (y6 : Int32) (y7 : Int32) (y8 : Int32) (y9 : Int32) (y10 : Int32) (y11 : Int32) (y12 : Int32) (y13 : Int32) (S : mM) : MW X viI rm_X12_turns cX12_turns RX12 15 (some .int) l S [(0, .ref (X.2.1 69)), (1, .int y1), (2, .long y2), (4, .int y4), (5, .int y5), (6, .int y6), (7, .int y7), (8, .int y8), (9, .int y9), (10, .int y10), (11, .int y11), (12, .int y12), (13, .int y13)] [] 204 (f_X12_turns_204 k48 y1 y2 y4 y5 y6 y7 y8 y9 y10 y11 y12 y13 S) := by
  unfold f_X12_turns_204
  refine mw_iload 10 dX12_turns_204 rfl ?_
  refine mw_aload_n 0 dX12_turns_206 rfl rfl ?_
  refine gf_RX12_87 mk_69 dX12_turns_207 ?_
  refine mw_iload 12 dX12_turns_210 rfl ?_
  refine mw_laload mk_92 ml_92 dX12_turns_212 ?_
  refine mw_lload_n 2 dX12_turns_213 rfl rfl ?_
  refine mw_lcmp dX12_turns_214 ?_
  refine mw_if_lt (tgt := 222) dX12_turns_215 (by decide) ?_ ?_
  · refine mw_iconst (v := (0 : Int32)) dX12_turns_222 (by decide) ?_
    refine mw_iadd dX12_turns_223 ?_
    refine mw_bndI (fun x1 => ?_)
    refine mw_istore (lv' := [(11, .int x1), (0, .ref (X.2.1 69)), (1, .int y1), (2, .long y2), (4, .int y4), (5, .int y5), (6, .int y6), (7, .int y7), (8, .int y8), (9, .int y9), (10, .int y10), (12, .int y12), (13, .int y13)]) dX12_turns_224 (by decide) rfl ?_
    refine mw_iincB (lvf := fun x2 => [(12, .int x2), (11, .int x1), (0, .ref (X.2.1 69)), (1, .int y1), (2, .long y2), (4, .int y4), (5, .int y5), (6, .int y6), (7, .int y7), (8, .int y8), (9, .int y9), (10, .int y10), (13, .int y13)]) (k := 11) dX12_turns_226 rfl (by decide) (by decide) (fun _ => rfl) (fun x2 => ?_)
    refine mw_goto (tgt := 48) dX12_turns_229 (by decide) ?_
    exact mw_sub [2, 3, 4, 5, 6, 7, 8, 9, 10, 11, 1, 0] rfl (hk48 y1 y2 y4 y5 y6 y7 y8 y9 y10 x1 x2 S)
  · refine mw_iconst (v := (1 : Int32)) dX12_turns_218 (by decide) ?_
    refine mw_goto (tgt := 223) dX12_turns_219 (by decide) ?_
    refine mw_iadd dX12_turns_223 ?_
    refine mw_bndI (fun x3 => ?_)
    refine mw_istore (lv' := [(11, .int x3), (0, .ref (X.2.1 69)), (1, .int y1), (2, .long y2), (4, .int y4), (5, .int y5), (6, .int y6), (7, .int y7), (8, .int y8), (9, .int y9), (10, .int y10), (12, .int y12), (13, .int y13)]) dX12_turns_224 (by decide) rfl ?_
    refine mw_iincB (lvf := fun x4 => [(12, .int x4), (11, .int x3), (0, .ref (X.2.1 69)), (1, .int y1), (2, .long y2), (4, .int y4), (5, .int y5), (6, .int y6), (7, .int y7), (8, .int y8), (9, .int y9), (10, .int y10), (13, .int y13)]) (k := 11) dX12_turns_226 rfl (by decide) (by decide) (fun _ => rfl) (fun x4 => ?_)
    refine mw_goto (tgt := 48) dX12_turns_229 (by decide) ?_
    exact mw_sub [2, 3, 4, 5, 6, 7, 8, 9, 10, 11, 1, 0] rfl (hk48 y1 y2 y4 y5 y6 y7 y8 y9 y10 x3 x4 S)
def f_X12_turns_197 (k48 : Int32 → Int64 → Int32 → Int32 → Int32 → Int32 → Int32 → Int32 → Int32 → Int32 → Int32 → mM → Option (Int32 × mM)) (y1 : Int32) (y2 : Int64) (y4 : Int32) (y5 : Int32) (y6 : Int32) (y7 : Int32) (y8 : Int32) (y9 : Int32) (y12 : Int32) (y13 : Int32) (S : mM) : Option (Int32 × mM) :=
  f_X12_turns_204 k48 y1 y2 y4 y5 y6 y7 y8 y9 y12 (0 : Int32) y12 y13 S
set_option maxRecDepth 100000 in
set_option maxHeartbeats 4000000 in
theorem w_X12_turns_197 (X : mX) (l : Launch) (k48 : Int32 → Int64 → Int32 → Int32 → Int32 → Int32 → Int32 → Int32 → Int32 → Int32 → Int32 → mM → Option (Int32 × mM)) (hk48 : ∀ (y1 : Int32) (y2 : Int64) (y4 : Int32) (y5 : Int32) (y6 : Int32) (y7 : Int32) (y8 : Int32) (y9 : Int32) (y10 : Int32) (y11 : Int32) (y12 : Int32) (S : mM), MW X viI rm_X12_turns cX12_turns RX12 15 (some .int) l S [(0, .ref (X.2.1 69)), (1, .int y1), (2, .long y2), (4, .int y4), (5, .int y5), (6, .int y6), (7, .int y7), (8, .int y8), (9, .int y9), (10, .int y10), (11, .int y11), (12, .int y12)] [] 48 (k48 y1 y2 y4 y5 y6 y7 y8 y9 y10 y11 y12 S)) (y1 : Int32) (y2 : Int64) (y4 : Int32) (y5 : Int32) (y6 : Int32) (y7 : Int32) (y8 : Int32) (y9 : Int32) (y12 : Int32) (y13 : Int32) (S : mM) : MW X viI rm_X12_turns cX12_turns RX12 15 (some .int) l S [(0, .ref (X.2.1 69)), (1, .int y1), (2, .long y2), (4, .int y4), (5, .int y5), (6, .int y6), (7, .int y7), (8, .int y8), (9, .int y9), (12, .int y12), (13, .int y13)] [] 197 (f_X12_turns_197 k48 y1 y2 y4 y5 y6 y7 y8 y9 y12 y13 S) := by
  unfold f_X12_turns_197
  refine mw_iload 9 dX12_turns_197 rfl ?_
  refine mw_istore (lv' := [(10, .int y12), (0, .ref (X.2.1 69)), (1, .int y1), (2, .long y2), (4, .int y4), (5, .int y5), (6, .int y6), (7, .int y7), (8, .int y8), (9, .int y9), (12, .int y12), (13, .int y13)]) dX12_turns_199 (by decide) rfl ?_
  refine mw_iconst (v := (0 : Int32)) dX12_turns_201 (by decide) ?_
  refine mw_istore (lv' := [(11, .int (0 : Int32)), (10, .int y12), (0, .ref (X.2.1 69)), (1, .int y1), (2, .long y2), (4, .int y4), (5, .int y5), (6, .int y6), (7, .int y7), (8, .int y8), (9, .int y9), (12, .int y12), (13, .int y13)]) dX12_turns_202 (by decide) rfl ?_
  exact mw_sub [2, 3, 4, 5, 6, 7, 8, 9, 10, 1, 0, 11, 12] rfl (w_X12_turns_204 X l k48 hk48 y1 y2 y4 y5 y6 y7 y8 y9 y12 (0 : Int32) y12 y13 S)
def f_X12_turns_178 (k48 : Int32 → Int64 → Int32 → Int32 → Int32 → Int32 → Int32 → Int32 → Int32 → Int32 → Int32 → mM → Option (Int32 × mM)) (y1 : Int32) (y2 : Int64) (y4 : Int32) (y5 : Int32) (y6 : Int32) (y8 : Int32) (y9 : Int32) (y11 : Int32) (y12 : Int32) (y13 : Int32) (y14 : Int32) (z0 : Int32) (S : mM) : Option (Int32 × mM) :=
  bnd (y5 + (1 : Int32)) fun x1 =>
  bnd (y8 + y14) fun x2 =>
  bnd (y9 + y11) fun x3 =>
  f_X12_turns_197 k48 y1 y2 y4 x1 y6 z0 x2 x3 y12 y13 S
set_option maxRecDepth 100000 in
set_option maxHeartbeats 4000000 in
theorem w_X12_turns_178 (X : mX) (l : Launch) (k48 : Int32 → Int64 → Int32 → Int32 → Int32 → Int32 → Int32 → Int32 → Int32 → Int32 → Int32 → mM → Option (Int32 × mM)) (hk48 : ∀ (y1 : Int32) (y2 : Int64) (y4 : Int32) (y5 : Int32) (y6 : Int32) (y7 : Int32) (y8 : Int32) (y9 : Int32) (y10 : Int32) (y11 : Int32) (y12 : Int32) (S : mM), MW X viI rm_X12_turns cX12_turns RX12 15 (some .int) l S [(0, .ref (X.2.1 69)), (1, .int y1), (2, .long y2), (4, .int y4), (5, .int y5), (6, .int y6), (7, .int y7), (8, .int y8), (9, .int y9), (10, .int y10), (11, .int y11), (12, .int y12)] [] 48 (k48 y1 y2 y4 y5 y6 y7 y8 y9 y10 y11 y12 S)) (y1 : Int32) (y2 : Int64) (y4 : Int32) (y5 : Int32) (y6 : Int32) (y8 : Int32) (y9 : Int32) (y11 : Int32) (y12 : Int32) (y13 : Int32) (y14 : Int32) (z0 : Int32) (S : mM) : MW X viI rm_X12_turns cX12_turns RX12 15 (some .int) l S [(0, .ref (X.2.1 69)), (1, .int y1), (2, .long y2), (4, .int y4), (5, .int y5), (6, .int y6), (8, .int y8), (9, .int y9), (11, .int y11), (12, .int y12), (13, .int y13), (14, .int y14)] [.int z0] 178 (f_X12_turns_178 k48 y1 y2 y4 y5 y6 y8 y9 y11 y12 y13 y14 z0 S) := by
  unfold f_X12_turns_178
  refine mw_istore (lv' := [(7, .int z0), (0, .ref (X.2.1 69)), (1, .int y1), (2, .long y2), (4, .int y4), (5, .int y5), (6, .int y6), (8, .int y8), (9, .int y9), (11, .int y11), (12, .int y12), (13, .int y13), (14, .int y14)]) dX12_turns_178 (by decide) rfl ?_
  refine mw_iincB (lvf := fun x1 => [(5, .int x1), (7, .int z0), (0, .ref (X.2.1 69)), (1, .int y1), (2, .long y2), (4, .int y4), (6, .int y6), (8, .int y8), (9, .int y9), (11, .int y11), (12, .int y12), (13, .int y13), (14, .int y14)]) (k := 5) dX12_turns_180 rfl (by decide) (by decide) (fun _ => rfl) (fun x1 => ?_)
  refine mw_iload 7 dX12_turns_183 rfl ?_
  refine mw_iload 12 dX12_turns_185 rfl ?_
  refine mw_iadd dX12_turns_187 ?_
  refine mw_bndI (fun x2 => ?_)
  refine mw_istore (lv' := [(8, .int x2), (5, .int x1), (7, .int z0), (0, .ref (X.2.1 69)), (1, .int y1), (2, .long y2), (4, .int y4), (6, .int y6), (9, .int y9), (11, .int y11), (12, .int y12), (13, .int y13), (14, .int y14)]) dX12_turns_188 (by decide) rfl ?_
  refine mw_iload 8 dX12_turns_190 rfl ?_
  refine mw_iload 9 dX12_turns_192 rfl ?_
  refine mw_iadd dX12_turns_194 ?_
  refine mw_bndI (fun x3 => ?_)
  refine mw_istore (lv' := [(9, .int x3), (8, .int x2), (5, .int x1), (7, .int z0), (0, .ref (X.2.1 69)), (1, .int y1), (2, .long y2), (4, .int y4), (6, .int y6), (11, .int y11), (12, .int y12), (13, .int y13), (14, .int y14)]) dX12_turns_195 (by decide) rfl ?_
  exact mw_sub [4, 5, 6, 7, 2, 8, 3, 1, 0, 10, 11] rfl (w_X12_turns_197 X l k48 hk48 y1 y2 y4 x1 y6 z0 x2 x3 y12 y13 S)
def f_X12_turns_162 (k48 : Int32 → Int64 → Int32 → Int32 → Int32 → Int32 → Int32 → Int32 → Int32 → Int32 → Int32 → mM → Option (Int32 × mM)) (y1 : Int32) (y2 : Int64) (y4 : Int32) (y5 : Int32) (y7 : Int32) (y8 : Int32) (y9 : Int32) (y11 : Int32) (y12 : Int32) (y13 : Int32) (y14 : Int32) (z0 : Int32) (S : mM) : Option (Int32 × mM) :=
  if y14 ≤ y7 then
    f_X12_turns_178 k48 y1 y2 y4 y5 z0 y8 y9 y11 y12 y13 y14 y7 S
  else
    f_X12_turns_178 k48 y1 y2 y4 y5 z0 y8 y9 y11 y12 y13 y14 y14 S
set_option maxRecDepth 100000 in
set_option maxHeartbeats 4000000 in
theorem w_X12_turns_162 (X : mX) (l : Launch) (k48 : Int32 → Int64 → Int32 → Int32 → Int32 → Int32 → Int32 → Int32 → Int32 → Int32 → Int32 → mM → Option (Int32 × mM)) (hk48 : ∀ (y1 : Int32) (y2 : Int64) (y4 : Int32) (y5 : Int32) (y6 : Int32) (y7 : Int32) (y8 : Int32) (y9 : Int32) (y10 : Int32) (y11 : Int32) (y12 : Int32) (S : mM), MW X viI rm_X12_turns cX12_turns RX12 15 (some .int) l S [(0, .ref (X.2.1 69)), (1, .int y1), (2, .long y2), (4, .int y4), (5, .int y5), (6, .int y6), (7, .int y7), (8, .int y8), (9, .int y9), (10, .int y10), (11, .int y11), (12, .int y12)] [] 48 (k48 y1 y2 y4 y5 y6 y7 y8 y9 y10 y11 y12 S)) (y1 : Int32) (y2 : Int64) (y4 : Int32) (y5 : Int32) (y7 : Int32) (y8 : Int32) (y9 : Int32) (y11 : Int32) (y12 : Int32) (y13 : Int32) (y14 : Int32) (z0 : Int32) (S : mM) : MW X viI rm_X12_turns cX12_turns RX12 15 (some .int) l S [(0, .ref (X.2.1 69)), (1, .int y1), (2, .long y2), (4, .int y4), (5, .int y5), (7, .int y7), (8, .int y8), (9, .int y9), (11, .int y11), (12, .int y12), (13, .int y13), (14, .int y14)] [.int z0] 162 (f_X12_turns_162 k48 y1 y2 y4 y5 y7 y8 y9 y11 y12 y13 y14 z0 S) := by
  unfold f_X12_turns_162
  refine mw_istore (lv' := [(6, .int z0), (0, .ref (X.2.1 69)), (1, .int y1), (2, .long y2), (4, .int y4), (5, .int y5), (7, .int y7), (8, .int y8), (9, .int y9), (11, .int y11), (12, .int y12), (13, .int y13), (14, .int y14)]) dX12_turns_162 (by decide) rfl ?_
  refine mw_iload 12 dX12_turns_164 rfl ?_
  refine mw_iload 6 dX12_turns_166 rfl ?_
  refine mw_icmp_le (tgt := 176) dX12_turns_168 (by decide) ?_ ?_
  · refine mw_iload 6 dX12_turns_176 rfl ?_
    exact mw_sub [1, 2, 3, 4, 5, 0, 7, 8, 9, 10, 11, 12] rfl (w_X12_turns_178 X l k48 hk48 y1 y2 y4 y5 z0 y8 y9 y11 y12 y13 y14 y7 S)
  · refine mw_iload 12 dX12_turns_171 rfl ?_
    refine mw_goto (tgt := 178) dX12_turns_173 (by decide) ?_
    exact mw_sub [1, 2, 3, 4, 5, 0, 7, 8, 9, 10, 11, 12] rfl (w_X12_turns_178 X l k48 hk48 y1 y2 y4 y5 z0 y8 y9 y11 y12 y13 y14 y14 S)
def f_X12_turns_155 (k48 : Int32 → Int64 → Int32 → Int32 → Int32 → Int32 → Int32 → Int32 → Int32 → Int32 → Int32 → mM → Option (Int32 × mM)) (y1 : Int32) (y2 : Int64) (y4 : Int32) (y5 : Int32) (y7 : Int32) (y8 : Int32) (y9 : Int32) (y11 : Int32) (y12 : Int32) (y13 : Int32) (y14 : Int32) (S : mM) : Option (Int32 × mM) :=
  f_X12_turns_162 k48 y1 y2 y4 y5 y7 y8 y9 y11 y12 y13 y14 y14 S
set_option maxRecDepth 100000 in
set_option maxHeartbeats 4000000 in
theorem w_X12_turns_155 (X : mX) (l : Launch) (k48 : Int32 → Int64 → Int32 → Int32 → Int32 → Int32 → Int32 → Int32 → Int32 → Int32 → Int32 → mM → Option (Int32 × mM)) (hk48 : ∀ (y1 : Int32) (y2 : Int64) (y4 : Int32) (y5 : Int32) (y6 : Int32) (y7 : Int32) (y8 : Int32) (y9 : Int32) (y10 : Int32) (y11 : Int32) (y12 : Int32) (S : mM), MW X viI rm_X12_turns cX12_turns RX12 15 (some .int) l S [(0, .ref (X.2.1 69)), (1, .int y1), (2, .long y2), (4, .int y4), (5, .int y5), (6, .int y6), (7, .int y7), (8, .int y8), (9, .int y9), (10, .int y10), (11, .int y11), (12, .int y12)] [] 48 (k48 y1 y2 y4 y5 y6 y7 y8 y9 y10 y11 y12 S)) (y1 : Int32) (y2 : Int64) (y4 : Int32) (y5 : Int32) (y7 : Int32) (y8 : Int32) (y9 : Int32) (y11 : Int32) (y12 : Int32) (y13 : Int32) (y14 : Int32) (S : mM) : MW X viI rm_X12_turns cX12_turns RX12 15 (some .int) l S [(0, .ref (X.2.1 69)), (1, .int y1), (2, .long y2), (4, .int y4), (5, .int y5), (7, .int y7), (8, .int y8), (9, .int y9), (11, .int y11), (12, .int y12), (13, .int y13), (14, .int y14)] [] 155 (f_X12_turns_155 k48 y1 y2 y4 y5 y7 y8 y9 y11 y12 y13 y14 S) := by
  unfold f_X12_turns_155
  refine mw_iload 11 dX12_turns_155 rfl ?_
  refine mw_goto (tgt := 162) dX12_turns_157 (by decide) ?_
  exact mw_sub [0, 1, 2, 3, 4, 5, 6, 7, 8, 9, 10, 11] rfl (w_X12_turns_162 X l k48 hk48 y1 y2 y4 y5 y7 y8 y9 y11 y12 y13 y14 y14 S)
def f_X12_turns_48 (n : Nat) (y1 : Int32) (y2 : Int64) (y4 : Int32) (y5 : Int32) (y6 : Int32) (y7 : Int32) (y8 : Int32) (y9 : Int32) (y10 : Int32) (y11 : Int32) (y12 : Int32) (S : mM) : Option (Int32 × mM) := match n with
  | 0 => none
  | n + 1 =>
    if 0 ≤ y1 ∧ y1.toNatClampNeg < 4 then
    (if (S.1 91 y1.toNatClampNeg) ≤ y12 then
      if y4 = 0 then
        some (y5, S)
      else
        if y4 = (1 : Int32) then
          some (y6, S)
        else
          if y4 = (2 : Int32) then
            some (y7, S)
          else
            if y4 = (3 : Int32) then
              some (y8, S)
            else
              some (y9, S)
    else
      bnd (((201 : Int32) * y1) + y12) fun x1 =>
      if 0 ≤ x1 ∧ x1.toNatClampNeg < 804 then
      (if (S.1 93 x1.toNatClampNeg) = 0 then
        if y12 ≤ 0 then
          f_X12_turns_204 (f_X12_turns_48 n) y1 y2 y4 y5 y6 y7 y8 y9 y10 y11 y12 x1 S
        else
          if 0 ≤ (x1 - (1 : Int32)) ∧ (x1 - (1 : Int32)).toNatClampNeg < 804 then
          (if (S.1 93 (x1 - (1 : Int32)).toNatClampNeg) = 0 then
            if 0 ≤ (x1 - (1 : Int32)) ∧ (x1 - (1 : Int32)).toNatClampNeg < 804 then
            (if 0 ≤ (lg_cmp (S.2.1 92 (x1 - (1 : Int32)).toNatClampNeg) y2) then
              f_X12_turns_204 (f_X12_turns_48 n) y1 y2 y4 y5 y6 y7 y8 y9 y10 y11 y12 x1 S
            else
              if 0 ≤ x1 ∧ x1.toNatClampNeg < 804 then
              (if (lg_cmp (S.2.1 92 x1.toNatClampNeg) y2) < 0 then
                f_X12_turns_204 (f_X12_turns_48 n) y1 y2 y4 y5 y6 y7 y8 y9 y10 y11 y12 x1 S
              else
                if y10 = (-4 : Int32) then
                  f_X12_turns_197 (f_X12_turns_48 n) y1 y2 y4 y5 y6 y7 y8 y9 y12 x1 S
                else
                  bnd (y12 - y10) fun x2 =>
                  if y5 = 0 then
                    f_X12_turns_155 (f_X12_turns_48 n) y1 y2 y4 y5 y7 y8 y9 y11 y12 x1 x2 S
                  else
                    if y6 ≤ x2 then
                      f_X12_turns_162 (f_X12_turns_48 n) y1 y2 y4 y5 y7 y8 y9 y11 y12 x1 x2 y6 S
                    else
                      f_X12_turns_155 (f_X12_turns_48 n) y1 y2 y4 y5 y7 y8 y9 y11 y12 x1 x2 S)
              else none)
            else none
          else
            f_X12_turns_204 (f_X12_turns_48 n) y1 y2 y4 y5 y6 y7 y8 y9 y10 y11 y12 x1 S)
          else none
      else
        bnd (y12 + (1 : Int32)) fun x3 =>
        f_X12_turns_48 n y1 y2 y4 y5 y6 y7 y8 y9 (-4 : Int32) y11 x3 S)
      else none)
    else none
set_option maxRecDepth 100000 in
set_option maxHeartbeats 4000000 in
theorem w_X12_turns_48 (X : mX) (l : Launch) (n : Nat) (y1 : Int32) (y2 : Int64) (y4 : Int32) (y5 : Int32) (y6 : Int32) (y7 : Int32) (y8 : Int32) (y9 : Int32) (y10 : Int32) (y11 : Int32) (y12 : Int32) (S : mM) : MW X viI rm_X12_turns cX12_turns RX12 15 (some .int) l S [(0, .ref (X.2.1 69)), (1, .int y1), (2, .long y2), (4, .int y4), (5, .int y5), (6, .int y6), (7, .int y7), (8, .int y8), (9, .int y9), (10, .int y10), (11, .int y11), (12, .int y12)] [] 48 (f_X12_turns_48 n y1 y2 y4 y5 y6 y7 y8 y9 y10 y11 y12 S) := by
  induction n generalizing y1 y2 y4 y5 y6 y7 y8 y9 y10 y11 y12 S with
  | zero => exact mw_none
  | succ n ih =>
    unfold f_X12_turns_48
    refine mw_iload 11 dX12_turns_48 rfl ?_
    refine mw_aload_n 0 dX12_turns_50 rfl rfl ?_
    refine gf_RX12_84 mk_69 dX12_turns_51 ?_
    refine mw_iload_n 1 dX12_turns_54 rfl rfl ?_
    refine mw_iaload mk_91 ml_91 dX12_turns_55 ?_
    refine mw_icmp_ge (tgt := 232) dX12_turns_56 (by decide) ?_ ?_
    · refine mw_iload 3 dX12_turns_232 rfl ?_
      refine mw_if_ne (tgt := 242) dX12_turns_234 (by decide) ?_ ?_
      · refine mw_iload 4 dX12_turns_237 rfl ?_
        refine mw_goto (tgt := 277) dX12_turns_239 (by decide) ?_
        exact mw_ireturn dX12_turns_277
      · refine mw_iload 3 dX12_turns_242 rfl ?_
        refine mw_iconst (v := (1 : Int32)) dX12_turns_244 (by decide) ?_
        refine mw_icmp_ne (tgt := 253) dX12_turns_245 (by decide) ?_ ?_
        · refine mw_iload 5 dX12_turns_248 rfl ?_
          refine mw_goto (tgt := 277) dX12_turns_250 (by decide) ?_
          exact mw_ireturn dX12_turns_277
        · refine mw_iload 3 dX12_turns_253 rfl ?_
          refine mw_iconst (v := (2 : Int32)) dX12_turns_255 (by decide) ?_
          refine mw_icmp_ne (tgt := 264) dX12_turns_256 (by decide) ?_ ?_
          · refine mw_iload 6 dX12_turns_259 rfl ?_
            refine mw_goto (tgt := 277) dX12_turns_261 (by decide) ?_
            exact mw_ireturn dX12_turns_277
          · refine mw_iload 3 dX12_turns_264 rfl ?_
            refine mw_iconst (v := (3 : Int32)) dX12_turns_266 (by decide) ?_
            refine mw_icmp_ne (tgt := 275) dX12_turns_267 (by decide) ?_ ?_
            · refine mw_iload 7 dX12_turns_270 rfl ?_
              refine mw_goto (tgt := 277) dX12_turns_272 (by decide) ?_
              exact mw_ireturn dX12_turns_277
            · refine mw_iload 8 dX12_turns_275 rfl ?_
              exact mw_ireturn dX12_turns_277
    · refine mw_sipush (v := (201 : Int32)) dX12_turns_59 (by decide) ?_
      refine mw_iload_n 1 dX12_turns_62 rfl rfl ?_
      refine mw_imul dX12_turns_63 ?_
      refine mw_iload 11 dX12_turns_64 rfl ?_
      refine mw_iadd dX12_turns_66 ?_
      refine mw_bndI (fun x1 => ?_)
      refine mw_istore (lv' := [(13, .int x1), (0, .ref (X.2.1 69)), (1, .int y1), (2, .long y2), (4, .int y4), (5, .int y5), (6, .int y6), (7, .int y7), (8, .int y8), (9, .int y9), (10, .int y10), (11, .int y11), (12, .int y12)]) dX12_turns_67 (by decide) rfl ?_
      refine mw_aload_n 1 dX12_turns_69 rfl rfl ?_
      refine gf_RX12_91 mk_69 dX12_turns_70 ?_
      refine mw_iload 0 dX12_turns_73 rfl ?_
      refine mw_zaload mk_93 ml_93 dX12_turns_75 ?_
      refine mw_if_eq (tgt := 86) dX12_turns_76 (by decide) ?_ ?_
      · refine mw_iload 12 dX12_turns_86 rfl ?_
        refine mw_if_le (tgt := 204) dX12_turns_88 (by decide) ?_ ?_
        · exact mw_sub [1, 2, 3, 4, 5, 6, 7, 8, 9, 10, 11, 12, 0] rfl (w_X12_turns_204 X l (f_X12_turns_48 n) ih y1 y2 y4 y5 y6 y7 y8 y9 y10 y11 y12 x1 S)
        · refine mw_aload_n 1 dX12_turns_91 rfl rfl ?_
          refine gf_RX12_91 mk_69 dX12_turns_92 ?_
          refine mw_iload 0 dX12_turns_95 rfl ?_
          refine mw_iconst (v := (1 : Int32)) dX12_turns_97 (by decide) ?_
          refine mw_isub dX12_turns_98 ?_
          refine mw_zaload mk_93 ml_93 dX12_turns_99 ?_
          refine mw_if_ne (tgt := 204) dX12_turns_100 (by decide) ?_ ?_
          · refine mw_aload_n 1 dX12_turns_103 rfl rfl ?_
            refine gf_RX12_87 mk_69 dX12_turns_104 ?_
            refine mw_iload 0 dX12_turns_107 rfl ?_
            refine mw_iconst (v := (1 : Int32)) dX12_turns_109 (by decide) ?_
            refine mw_isub dX12_turns_110 ?_
            refine mw_laload mk_92 ml_92 dX12_turns_111 ?_
            refine mw_lload_n 3 dX12_turns_112 rfl rfl ?_
            refine mw_lcmp dX12_turns_113 ?_
            refine mw_if_ge (tgt := 204) dX12_turns_114 (by decide) ?_ ?_
            · exact mw_sub [1, 2, 3, 4, 5, 6, 7, 8, 9, 10, 11, 12, 0] rfl (w_X12_turns_204 X l (f_X12_turns_48 n) ih y1 y2 y4 y5 y6 y7 y8 y9 y10 y11 y12 x1 S)
            · refine mw_aload_n 1 dX12_turns_117 rfl rfl ?_
              refine gf_RX12_87 mk_69 dX12_turns_118 ?_
              refine mw_iload 0 dX12_turns_121 rfl ?_
              refine mw_laload mk_92 ml_92 dX12_turns_123 ?_
              refine mw_lload_n 3 dX12_turns_124 rfl rfl ?_
              refine mw_lcmp dX12_turns_125 ?_
              refine mw_if_lt (tgt := 204) dX12_turns_126 (by decide) ?_ ?_
              · exact mw_sub [1, 2, 3, 4, 5, 6, 7, 8, 9, 10, 11, 12, 0] rfl (w_X12_turns_204 X l (f_X12_turns_48 n) ih y1 y2 y4 y5 y6 y7 y8 y9 y10 y11 y12 x1 S)
              · refine mw_iload 10 dX12_turns_129 rfl ?_
                refine mw_bipush (v := (-4 : Int32)) dX12_turns_131 (by decide) ?_
                refine mw_icmp_eq (tgt := 197) dX12_turns_133 (by decide) ?_ ?_
                · exact mw_sub [1, 2, 3, 4, 5, 6, 7, 8, 9, 12, 0] rfl (w_X12_turns_197 X l (f_X12_turns_48 n) ih y1 y2 y4 y5 y6 y7 y8 y9 y12 x1 S)
                · refine mw_iload 12 dX12_turns_136 rfl ?_
                  refine mw_iload 10 dX12_turns_138 rfl ?_
                  refine mw_isub dX12_turns_140 ?_
                  refine mw_bndI (fun x2 => ?_)
                  refine mw_istore (lv' := [(14, .int x2), (13, .int x1), (0, .ref (X.2.1 69)), (1, .int y1), (2, .long y2), (4, .int y4), (5, .int y5), (6, .int y6), (7, .int y7), (8, .int y8), (9, .int y9), (10, .int y10), (11, .int y11), (12, .int y12)]) dX12_turns_141 (by decide) rfl ?_
                  refine mw_iload 6 dX12_turns_143 rfl ?_
                  refine mw_if_eq (tgt := 155) dX12_turns_145 (by decide) ?_ ?_
                  · exact mw_sub [2, 3, 4, 5, 6, 8, 9, 10, 12, 13, 1, 0] rfl (w_X12_turns_155 X l (f_X12_turns_48 n) ih y1 y2 y4 y5 y7 y8 y9 y11 y12 x1 x2 S)
                  · refine mw_iload 0 dX12_turns_148 rfl ?_
                    refine mw_iload 7 dX12_turns_150 rfl ?_
                    refine mw_icmp_ge (tgt := 160) dX12_turns_152 (by decide) ?_ ?_
                    · refine mw_iload 7 dX12_turns_160 rfl ?_
                      exact mw_sub [2, 3, 4, 5, 6, 8, 9, 10, 12, 13, 1, 0] rfl (w_X12_turns_162 X l (f_X12_turns_48 n) ih y1 y2 y4 y5 y7 y8 y9 y11 y12 x1 x2 y6 S)
                    · exact mw_sub [2, 3, 4, 5, 6, 8, 9, 10, 12, 13, 1, 0] rfl (w_X12_turns_155 X l (f_X12_turns_48 n) ih y1 y2 y4 y5 y7 y8 y9 y11 y12 x1 x2 S)
          · exact mw_sub [1, 2, 3, 4, 5, 6, 7, 8, 9, 10, 11, 12, 0] rfl (w_X12_turns_204 X l (f_X12_turns_48 n) ih y1 y2 y4 y5 y6 y7 y8 y9 y10 y11 y12 x1 S)
      · refine mw_bipush (v := (-4 : Int32)) dX12_turns_79 (by decide) ?_
        refine mw_istore (lv' := [(10, .int (-4 : Int32)), (13, .int x1), (0, .ref (X.2.1 69)), (1, .int y1), (2, .long y2), (4, .int y4), (5, .int y5), (6, .int y6), (7, .int y7), (8, .int y8), (9, .int y9), (11, .int y11), (12, .int y12)]) dX12_turns_81 (by decide) rfl ?_
        refine mw_goto (tgt := 226) dX12_turns_83 (by decide) ?_
        refine mw_iincB (lvf := fun x3 => [(12, .int x3), (10, .int (-4 : Int32)), (13, .int x1), (0, .ref (X.2.1 69)), (1, .int y1), (2, .long y2), (4, .int y4), (5, .int y5), (6, .int y6), (7, .int y7), (8, .int y8), (9, .int y9), (11, .int y11)]) (k := 12) dX12_turns_226 rfl (by decide) (by decide) (fun _ => rfl) (fun x3 => ?_)
        refine mw_goto (tgt := 48) dX12_turns_229 (by decide) ?_
        exact mw_sub [3, 4, 5, 6, 7, 8, 9, 10, 11, 1, 12, 0] rfl (ih y1 y2 y4 y5 y6 y7 y8 y9 (-4 : Int32) y11 x3 S)
def f_X12_turns (p1 : Int32) (p2 : Int64) (p4 : Int32) (S : mM) : Option (Int32 × mM) :=
  mBind (f_X12_isRow p1 S) fun r1 S2 =>
  if r1 = 0 then
    some ((-1 : Int32), S2)
  else
    mBind (f_X12_in p4.toInt64 (0 : Int64) (4 : Int64) S2) fun r3 S4 =>
    if r3 = 0 then
      some ((-1 : Int32), S4)
    else
      f_X12_turns_48 mFuel p1 p2 p4 (0 : Int32) (0 : Int32) (0 : Int32) (0 : Int32) (0 : Int32) (-4 : Int32) (0 : Int32) (0 : Int32) S4
set_option maxRecDepth 100000 in
set_option maxHeartbeats 4000000 in
theorem w_X12_turns (X : mX) (l : Launch) (p1 : Int32) (p2 : Int64) (p4 : Int32) (S : mM) : MW X viI rm_X12_turns cX12_turns RX12 15 (some .int) l S [(0, .ref (X.2.1 69)), (1, .int p1), (2, .long p2), (4, .int p4)] [] 0 (f_X12_turns p1 p2 p4 S) := by
  unfold f_X12_turns
  refine mw_aload_n 0 dX12_turns_0 rfl rfl ?_
  refine mw_iload_n 1 dX12_turns_1 rfl rfl ?_
  refine mw_callV (t_X12_isRow X l p1 S) cd_X12_isRow lk_RX12_254 im_X12_isRow se_X12_isRow in_RX12 de_X12_isRow ⟨rfl, rfl⟩ ⟨Nat.le_of_ble_eq_true rfl, Nat.le_of_ble_eq_true rfl⟩ (mKind_lt mk_69 (by decide)) (mCell_k mk_69) rfl rfl rfl rfl ⟨Nat.le_of_ble_eq_true rfl, Nat.le_of_ble_eq_true rfl⟩ (Nat.le_of_ble_eq_true rfl) dX12_turns_2 (fun r1 S2 => ?_)
  refine mw_eq (st' := [.int r1]) rfl rfl ?_
  refine mw_if_eq (tgt := 21) dX12_turns_5 (by decide) ?_ ?_
  · refine mw_iconst (v := (-1 : Int32)) dX12_turns_21 (by decide) ?_
    exact mw_ireturn dX12_turns_22
  · refine mw_iload 3 dX12_turns_8 rfl ?_
    refine mw_i2l dX12_turns_10 ?_
    refine mw_lconst (v := (0 : Int64)) dX12_turns_11 (by decide) ?_
    refine mw_ldc2 cl_RX12_279 dX12_turns_12 ?_
    refine mw_callS (t_X12_in X l p4.toInt64 (0 : Int64) (4 : Int64) S2) cd_X12_in lk_RX12_115 sn_X12_in in_RX12 de_X12_in ⟨rfl, rfl⟩ ⟨Nat.le_of_ble_eq_true rfl, Nat.le_of_ble_eq_true rfl⟩ rfl rfl ⟨Nat.le_of_ble_eq_true rfl, Nat.le_of_ble_eq_true rfl⟩ (Nat.le_of_ble_eq_true rfl) dX12_turns_15 (fun r3 S4 => ?_)
    refine mw_eq (st' := [.int r3]) rfl rfl ?_
    refine mw_if_ne (tgt := 23) dX12_turns_18 (by decide) ?_ ?_
    · refine mw_iconst (v := (-1 : Int32)) dX12_turns_21 (by decide) ?_
      exact mw_ireturn dX12_turns_22
    · refine mw_iconst (v := (0 : Int32)) dX12_turns_23 (by decide) ?_
      refine mw_istore (lv' := [(5, .int (0 : Int32)), (0, .ref (X.2.1 69)), (1, .int p1), (2, .long p2), (4, .int p4)]) dX12_turns_24 (by decide) rfl ?_
      refine mw_iconst (v := (0 : Int32)) dX12_turns_26 (by decide) ?_
      refine mw_istore (lv' := [(6, .int (0 : Int32)), (5, .int (0 : Int32)), (0, .ref (X.2.1 69)), (1, .int p1), (2, .long p2), (4, .int p4)]) dX12_turns_27 (by decide) rfl ?_
      refine mw_iconst (v := (0 : Int32)) dX12_turns_29 (by decide) ?_
      refine mw_istore (lv' := [(7, .int (0 : Int32)), (6, .int (0 : Int32)), (5, .int (0 : Int32)), (0, .ref (X.2.1 69)), (1, .int p1), (2, .long p2), (4, .int p4)]) dX12_turns_30 (by decide) rfl ?_
      refine mw_iconst (v := (0 : Int32)) dX12_turns_32 (by decide) ?_
      refine mw_istore (lv' := [(8, .int (0 : Int32)), (7, .int (0 : Int32)), (6, .int (0 : Int32)), (5, .int (0 : Int32)), (0, .ref (X.2.1 69)), (1, .int p1), (2, .long p2), (4, .int p4)]) dX12_turns_33 (by decide) rfl ?_
      refine mw_iconst (v := (0 : Int32)) dX12_turns_35 (by decide) ?_
      refine mw_istore (lv' := [(9, .int (0 : Int32)), (8, .int (0 : Int32)), (7, .int (0 : Int32)), (6, .int (0 : Int32)), (5, .int (0 : Int32)), (0, .ref (X.2.1 69)), (1, .int p1), (2, .long p2), (4, .int p4)]) dX12_turns_36 (by decide) rfl ?_
      refine mw_bipush (v := (-4 : Int32)) dX12_turns_38 (by decide) ?_
      refine mw_istore (lv' := [(10, .int (-4 : Int32)), (9, .int (0 : Int32)), (8, .int (0 : Int32)), (7, .int (0 : Int32)), (6, .int (0 : Int32)), (5, .int (0 : Int32)), (0, .ref (X.2.1 69)), (1, .int p1), (2, .long p2), (4, .int p4)]) dX12_turns_40 (by decide) rfl ?_
      refine mw_iconst (v := (0 : Int32)) dX12_turns_42 (by decide) ?_
      refine mw_istore (lv' := [(11, .int (0 : Int32)), (10, .int (-4 : Int32)), (9, .int (0 : Int32)), (8, .int (0 : Int32)), (7, .int (0 : Int32)), (6, .int (0 : Int32)), (5, .int (0 : Int32)), (0, .ref (X.2.1 69)), (1, .int p1), (2, .long p2), (4, .int p4)]) dX12_turns_43 (by decide) rfl ?_
      refine mw_iconst (v := (0 : Int32)) dX12_turns_45 (by decide) ?_
      refine mw_istore (lv' := [(12, .int (0 : Int32)), (11, .int (0 : Int32)), (10, .int (-4 : Int32)), (9, .int (0 : Int32)), (8, .int (0 : Int32)), (7, .int (0 : Int32)), (6, .int (0 : Int32)), (5, .int (0 : Int32)), (0, .ref (X.2.1 69)), (1, .int p1), (2, .long p2), (4, .int p4)]) dX12_turns_46 (by decide) rfl ?_
      exact mw_sub [8, 9, 10, 11, 7, 6, 5, 4, 3, 2, 1, 0] rfl (w_X12_turns_48 X l mFuel p1 p2 p4 (0 : Int32) (0 : Int32) (0 : Int32) (0 : Int32) (0 : Int32) (-4 : Int32) (0 : Int32) (0 : Int32) S4)
theorem t_X12_turns (X : mX) (l : Launch) (p1 : Int32) (p2 : Int64) (p4 : Int32) (S : mM) : mMet X viI yX12_turns cX12_turns 15 (some .int) rm_X12_turns [.ref (X.2.1 69), .int p1, .long p2, .int p4] l S (f_X12_turns p1 p2 p4 S) :=
  mMet_of (by decide +kernel) rfl (Nat.le_of_ble_eq_true rfl) (w_X12_turns X l p1 p2 p4 S )
/-! TraceBenchModel.when(I)I -/
def f_X12_when (p1 : Int32) (S : mM) : Option (Int32 × mM) :=
  if p1 = (-1 : Int32) then
    some ((S.1 69 51), S)
  else
    mBind (f_X12_in p1.toInt64 (0 : Int64) (((S.1 69 48) - (1 : Int32)).toInt64) S) fun r1 S2 =>
    if r1 = 0 then
      some ((-1 : Int32), S2)
    else
      if 0 ≤ p1 ∧ p1.toNatClampNeg < 20 then
      (some ((S2.1 97 p1.toNatClampNeg), S2))
      else none
set_option maxRecDepth 100000 in
set_option maxHeartbeats 4000000 in
theorem w_X12_when (X : mX) (l : Launch) (p1 : Int32) (S : mM) : MW X viI rm_X12_when cX12_when RX12 2 (some .int) l S [(0, .ref (X.2.1 69)), (1, .int p1)] [] 0 (f_X12_when p1 S) := by
  unfold f_X12_when
  refine mw_iload_n 1 dX12_when_0 rfl rfl ?_
  refine mw_iconst (v := (-1 : Int32)) dX12_when_1 (by decide) ?_
  refine mw_icmp_ne (tgt := 12) dX12_when_2 (by decide) ?_ ?_
  · refine mw_aload_n 0 dX12_when_5 rfl rfl ?_
    refine gf_RX12_107 mk_69 dX12_when_6 ?_
    refine mw_goto (tgt := 38) dX12_when_9 (by decide) ?_
    exact mw_ireturn dX12_when_38
  · refine mw_iload_n 1 dX12_when_12 rfl rfl ?_
    refine mw_i2l dX12_when_13 ?_
    refine mw_lconst (v := (0 : Int64)) dX12_when_14 (by decide) ?_
    refine mw_aload_n 0 dX12_when_15 rfl rfl ?_
    refine gf_RX12_289 mk_69 dX12_when_16 ?_
    refine mw_iconst (v := (1 : Int32)) dX12_when_19 (by decide) ?_
    refine mw_isub dX12_when_20 ?_
    refine mw_i2l dX12_when_21 ?_
    refine mw_callS (t_X12_in X l p1.toInt64 (0 : Int64) (((S.1 69 48) - (1 : Int32)).toInt64) S) cd_X12_in lk_RX12_115 sn_X12_in in_RX12 de_X12_in ⟨rfl, rfl⟩ ⟨Nat.le_of_ble_eq_true rfl, Nat.le_of_ble_eq_true rfl⟩ rfl rfl ⟨Nat.le_of_ble_eq_true rfl, Nat.le_of_ble_eq_true rfl⟩ (Nat.le_of_ble_eq_true rfl) dX12_when_22 (fun r1 S2 => ?_)
    refine mw_eq (st' := [.int r1]) rfl rfl ?_
    refine mw_if_eq (tgt := 37) dX12_when_25 (by decide) ?_ ?_
    · refine mw_iconst (v := (-1 : Int32)) dX12_when_37 (by decide) ?_
      exact mw_ireturn dX12_when_38
    · refine mw_aload_n 0 dX12_when_28 rfl rfl ?_
      refine gf_RX12_104 mk_69 dX12_when_29 ?_
      refine mw_iload_n 1 dX12_when_32 rfl rfl ?_
      refine mw_iaload mk_97 ml_97 dX12_when_33 ?_
      refine mw_goto (tgt := 38) dX12_when_34 (by decide) ?_
      exact mw_ireturn dX12_when_38
theorem t_X12_when (X : mX) (l : Launch) (p1 : Int32) (S : mM) : mMet X viI yX12_when cX12_when 2 (some .int) rm_X12_when [.ref (X.2.1 69), .int p1] l S (f_X12_when p1 S) :=
  mMet_of (by decide +kernel) rfl (Nat.le_of_ble_eq_true rfl) (w_X12_when X l p1 S )
/-! TraceBenchModel.wires(III)I -/
def f_X12_wires_199 (k65 : Int32 → Int32 → Int32 → Int32 → Int32 → Int32 → Int32 → Int32 → mM → Option (Int32 × mM)) (y1 : Int32) (y2 : Int32) (y3 : Int32) (y5 : Int32) (y6 : Int32) (y7 : Int32) (y8 : Int32) (S : mM) : Option (Int32 × mM) :=
  bnd (setI S 69 51 y8) fun S1 =>
  bnd (y8 + (1 : Int32)) fun x2 =>
  k65 y1 y2 y3 (0 : Int32) y5 y6 y7 x2 S1
set_option maxRecDepth 100000 in
set_option maxHeartbeats 4000000 in
theorem w_X12_wires_199 (X : mX) (l : Launch) (k65 : Int32 → Int32 → Int32 → Int32 → Int32 → Int32 → Int32 → Int32 → mM → Option (Int32 × mM)) (hk65 : ∀ (y1 : Int32) (y2 : Int32) (y3 : Int32) (y4 : Int32) (y5 : Int32) (y6 : Int32) (y7 : Int32) (y8 : Int32) (S : mM), MW X viI rm_X12_wires cX12_wires RX12 13 (some .int) l S [(0, .ref (X.2.1 69)), (1, .int y1), (2, .int y2), (3, .int y3), (4, .int y4), (5, .int y5), (6, .int y6), (7, .int y7), (8, .int y8)] [] 65 (k65 y1 y2 y3 y4 y5 y6 y7 y8 S)) (y1 : Int32) (y2 : Int32) (y3 : Int32) (y5 : Int32) (y6 : Int32) (y7 : Int32) (y8 : Int32) (S : mM) : MW X viI rm_X12_wires cX12_wires RX12 13 (some .int) l S [(0, .ref (X.2.1 69)), (1, .int y1), (2, .int y2), (3, .int y3), (5, .int y5), (6, .int y6), (7, .int y7), (8, .int y8)] [] 199 (f_X12_wires_199 k65 y1 y2 y3 y5 y6 y7 y8 S) := by
  unfold f_X12_wires_199
  refine mw_aload_n 0 dX12_wires_199 rfl rfl ?_
  refine mw_iload 7 dX12_wires_200 rfl ?_
  refine pf_RX12_107 mk_69 dX12_wires_202 ?_
  refine mw_bndS (fun S1 => ?_)
  refine mw_iconst (v := (0 : Int32)) dX12_wires_205 (by decide) ?_
  refine mw_istore (lv' := [(4, .int (0 : Int32)), (0, .ref (X.2.1 69)), (1, .int y1), (2, .int y2), (3, .int y3), (5, .int y5), (6, .int y6), (7, .int y7), (8, .int y8)]) dX12_wires_206 (by decide) rfl ?_
  refine mw_goto (tgt := 284) dX12_wires_208 (by decide) ?_
  refine mw_iincB (lvf := fun x2 => [(8, .int x2), (4, .int (0 : Int32)), (0, .ref (X.2.1 69)), (1, .int y1), (2, .int y2), (3, .int y3), (5, .int y5), (6, .int y6), (7, .int y7)]) (k := 8) dX12_wires_284 rfl (by decide) (by decide) (fun _ => rfl) (fun x2 => ?_)
  refine mw_goto (tgt := 65) dX12_wires_287 (by decide) ?_
  exact mw_sub [2, 3, 4, 5, 1, 6, 7, 8, 0] rfl (hk65 y1 y2 y3 (0 : Int32) y5 y6 y7 x2 S1)
def f_X12_wires_239 (k65 : Int32 → Int32 → Int32 → Int32 → Int32 → Int32 → Int32 → Int32 → mM → Option (Int32 × mM)) (y1 : Int32) (y2 : Int32) (y3 : Int32) (y4 : Int32) (y5 : Int32) (y6 : Int32) (y8 : Int32) (y11 : Int32) (z0 : Int32) (S : mM) : Option (Int32 × mM) :=
  if (8 : Int32) ≤ y5 then
    mBind (f_X12_gets (y6 + ((256 : Int32) * y11)) z0 S) fun r1 S2 =>
    bnd (y8 + (1 : Int32)) fun x3 =>
    k65 y1 y2 y3 y4 (0 : Int32) (0 : Int32) z0 x3 S2
  else
    bnd ((y6 <<< ((1 : Int32) &&& 31)) ||| y11) fun x4 =>
    bnd (y5 + (1 : Int32)) fun x5 =>
    bnd (y8 + (1 : Int32)) fun x6 =>
    k65 y1 y2 y3 y4 x5 x4 z0 x6 S
set_option maxRecDepth 100000 in
set_option maxHeartbeats 4000000 in
theorem w_X12_wires_239 (X : mX) (l : Launch) (k65 : Int32 → Int32 → Int32 → Int32 → Int32 → Int32 → Int32 → Int32 → mM → Option (Int32 × mM)) (hk65 : ∀ (y1 : Int32) (y2 : Int32) (y3 : Int32) (y4 : Int32) (y5 : Int32) (y6 : Int32) (y7 : Int32) (y8 : Int32) (S : mM), MW X viI rm_X12_wires cX12_wires RX12 13 (some .int) l S [(0, .ref (X.2.1 69)), (1, .int y1), (2, .int y2), (3, .int y3), (4, .int y4), (5, .int y5), (6, .int y6), (7, .int y7), (8, .int y8)] [] 65 (k65 y1 y2 y3 y4 y5 y6 y7 y8 S)) (y1 : Int32) (y2 : Int32) (y3 : Int32) (y4 : Int32) (y5 : Int32) (y6 : Int32) (y8 : Int32) (y11 : Int32) (z0 : Int32) (S : mM) : MW X viI rm_X12_wires cX12_wires RX12 13 (some .int) l S [(0, .ref (X.2.1 69)), (1, .int y1), (2, .int y2), (3, .int y3), (4, .int y4), (5, .int y5), (6, .int y6), (8, .int y8), (11, .int y11)] [.int z0] 239 (f_X12_wires_239 k65 y1 y2 y3 y4 y5 y6 y8 y11 z0 S) := by
  unfold f_X12_wires_239
  refine mw_istore (lv' := [(7, .int z0), (0, .ref (X.2.1 69)), (1, .int y1), (2, .int y2), (3, .int y3), (4, .int y4), (5, .int y5), (6, .int y6), (8, .int y8), (11, .int y11)]) dX12_wires_239 (by decide) rfl ?_
  refine mw_iload 6 dX12_wires_241 rfl ?_
  refine mw_bipush (v := (8 : Int32)) dX12_wires_243 (by decide) ?_
  refine mw_icmp_ge (tgt := 263) dX12_wires_245 (by decide) ?_ ?_
  · refine mw_aload_n 1 dX12_wires_263 rfl rfl ?_
    refine mw_iload 7 dX12_wires_264 rfl ?_
    refine mw_sipush (v := (256 : Int32)) dX12_wires_266 (by decide) ?_
    refine mw_iload 9 dX12_wires_269 rfl ?_
    refine mw_imul dX12_wires_271 ?_
    refine mw_iadd dX12_wires_272 ?_
    refine mw_iload 0 dX12_wires_273 rfl ?_
    refine mw_callV (t_X12_gets X l (y6 + ((256 : Int32) * y11)) z0 S) cd_X12_gets lk_RX12_297 im_X12_gets se_X12_gets in_RX12 de_X12_gets ⟨rfl, rfl⟩ ⟨Nat.le_of_ble_eq_true rfl, Nat.le_of_ble_eq_true rfl⟩ (mKind_lt mk_69 (by decide)) (mCell_k mk_69) rfl rfl rfl rfl ⟨Nat.le_of_ble_eq_true rfl, Nat.le_of_ble_eq_true rfl⟩ (Nat.le_of_ble_eq_true rfl) dX12_wires_275 (fun r1 S2 => ?_)
    refine mw_eq (st' := []) rfl rfl ?_
    refine mw_iconst (v := (0 : Int32)) dX12_wires_278 (by decide) ?_
    refine mw_istore (lv' := [(5, .int (0 : Int32)), (7, .int z0), (0, .ref (X.2.1 69)), (1, .int y1), (2, .int y2), (3, .int y3), (4, .int y4), (6, .int y6), (8, .int y8), (11, .int y11)]) dX12_wires_279 (by decide) rfl ?_
    refine mw_iconst (v := (0 : Int32)) dX12_wires_281 (by decide) ?_
    refine mw_istore (lv' := [(6, .int (0 : Int32)), (5, .int (0 : Int32)), (7, .int z0), (0, .ref (X.2.1 69)), (1, .int y1), (2, .int y2), (3, .int y3), (4, .int y4), (8, .int y8), (11, .int y11)]) dX12_wires_282 (by decide) rfl ?_
    refine mw_iincB (lvf := fun x3 => [(8, .int x3), (6, .int (0 : Int32)), (5, .int (0 : Int32)), (7, .int z0), (0, .ref (X.2.1 69)), (1, .int y1), (2, .int y2), (3, .int y3), (4, .int y4), (11, .int y11)]) (k := 8) dX12_wires_284 rfl (by decide) (by decide) (fun _ => rfl) (fun x3 => ?_)
    refine mw_goto (tgt := 65) dX12_wires_287 (by decide) ?_
    exact mw_sub [4, 5, 6, 7, 8, 2, 1, 3, 0] rfl (hk65 y1 y2 y3 y4 (0 : Int32) (0 : Int32) z0 x3 S2)
  · refine mw_iload 7 dX12_wires_248 rfl ?_
    refine mw_iconst (v := (1 : Int32)) dX12_wires_250 (by decide) ?_
    refine mw_ishl dX12_wires_251 ?_
    refine mw_iload 9 dX12_wires_252 rfl ?_
    refine mw_ior dX12_wires_254 ?_
    refine mw_bndI (fun x4 => ?_)
    refine mw_istore (lv' := [(6, .int x4), (7, .int z0), (0, .ref (X.2.1 69)), (1, .int y1), (2, .int y2), (3, .int y3), (4, .int y4), (5, .int y5), (8, .int y8), (11, .int y11)]) dX12_wires_255 (by decide) rfl ?_
    refine mw_iincB (lvf := fun x5 => [(5, .int x5), (6, .int x4), (7, .int z0), (0, .ref (X.2.1 69)), (1, .int y1), (2, .int y2), (3, .int y3), (4, .int y4), (8, .int y8), (11, .int y11)]) (k := 7) dX12_wires_257 rfl (by decide) (by decide) (fun _ => rfl) (fun x5 => ?_)
    refine mw_goto (tgt := 284) dX12_wires_260 (by decide) ?_
    refine mw_iincB (lvf := fun x6 => [(8, .int x6), (5, .int x5), (6, .int x4), (7, .int z0), (0, .ref (X.2.1 69)), (1, .int y1), (2, .int y2), (3, .int y3), (4, .int y4), (11, .int y11)]) (k := 8) dX12_wires_284 rfl (by decide) (by decide) (fun _ => rfl) (fun x6 => ?_)
    refine mw_goto (tgt := 65) dX12_wires_287 (by decide) ?_
    exact mw_sub [4, 5, 6, 7, 8, 1, 2, 3, 0] rfl (hk65 y1 y2 y3 y4 x5 x4 z0 x6 S)
def f_X12_wires_211 (k65 : Int32 → Int32 → Int32 → Int32 → Int32 → Int32 → Int32 → Int32 → mM → Option (Int32 × mM)) (y1 : Int32) (y2 : Int32) (y3 : Int32) (y4 : Int32) (y5 : Int32) (y6 : Int32) (y7 : Int32) (y8 : Int32) (y9 : Int32) (y10 : Int32) (y11 : Int32) (S : mM) : Option (Int32 × mM) :=
  if y9 = (1 : Int32) then
    if y10 = 0 then
      if y4 = 0 then
        bnd (y8 + (1 : Int32)) fun x1 =>
        k65 y1 y2 y3 y4 y5 y6 y7 x1 S
      else
        if y5 = 0 then
          f_X12_wires_239 k65 y1 y2 y3 y4 y5 y6 y8 y11 y8 S
        else
          f_X12_wires_239 k65 y1 y2 y3 y4 y5 y6 y8 y11 y7 S
    else
      bnd (y8 + (1 : Int32)) fun x2 =>
      k65 y1 y2 y3 y4 y5 y6 y7 x2 S
  else
    bnd (y8 + (1 : Int32)) fun x3 =>
    k65 y1 y2 y3 y4 y5 y6 y7 x3 S
set_option maxRecDepth 100000 in
set_option maxHeartbeats 4000000 in
theorem w_X12_wires_211 (X : mX) (l : Launch) (k65 : Int32 → Int32 → Int32 → Int32 → Int32 → Int32 → Int32 → Int32 → mM → Option (Int32 × mM)) (hk65 : ∀ (y1 : Int32) (y2 : Int32) (y3 : Int32) (y4 : Int32) (y5 : Int32) (y6 : Int32) (y7 : Int32) (y8 : Int32) (S : mM), MW X viI rm_X12_wires cX12_wires RX12 13 (some .int) l S [(0, .ref (X.2.1 69)), (1, .int y1), (2, .int y2), (3, .int y3), (4, .int y4), (5, .int y5), (6, .int y6), (7, .int y7), (8, .int y8)] [] 65 (k65 y1 y2 y3 y4 y5 y6 y7 y8 S)) (y1 : Int32) (y2 : Int32) (y3 : Int32) (y4 : Int32) (y5 : Int32) (y6 : Int32) (y7 : Int32) (y8 : Int32) (y9 : Int32) (y10 : Int32) (y11 : Int32) (S : mM) : MW X viI rm_X12_wires cX12_wires RX12 13 (some .int) l S [(0, .ref (X.2.1 69)), (1, .int y1), (2, .int y2), (3, .int y3), (4, .int y4), (5, .int y5), (6, .int y6), (7, .int y7), (8, .int y8), (9, .int y9), (10, .int y10), (11, .int y11)] [] 211 (f_X12_wires_211 k65 y1 y2 y3 y4 y5 y6 y7 y8 y9 y10 y11 S) := by
  unfold f_X12_wires_211
  refine mw_iload 9 dX12_wires_211 rfl ?_
  refine mw_iconst (v := (1 : Int32)) dX12_wires_213 (by decide) ?_
  refine mw_icmp_ne (tgt := 284) dX12_wires_214 (by decide) ?_ ?_
  · refine mw_iload 10 dX12_wires_217 rfl ?_
    refine mw_if_ne (tgt := 284) dX12_wires_219 (by decide) ?_ ?_
    · refine mw_iload 4 dX12_wires_222 rfl ?_
      refine mw_if_eq (tgt := 284) dX12_wires_224 (by decide) ?_ ?_
      · refine mw_iincB (lvf := fun x1 => [(8, .int x1), (0, .ref (X.2.1 69)), (1, .int y1), (2, .int y2), (3, .int y3), (4, .int y4), (5, .int y5), (6, .int y6), (7, .int y7), (9, .int y9), (10, .int y10), (11, .int y11)]) (k := 8) dX12_wires_284 rfl (by decide) (by decide) (fun _ => rfl) (fun x1 => ?_)
        refine mw_goto (tgt := 65) dX12_wires_287 (by decide) ?_
        exact mw_sub [1, 2, 3, 4, 5, 6, 7, 8, 0] rfl (hk65 y1 y2 y3 y4 y5 y6 y7 x1 S)
      · refine mw_iload 5 dX12_wires_227 rfl ?_
        refine mw_if_ne (tgt := 237) dX12_wires_229 (by decide) ?_ ?_
        · refine mw_iload 8 dX12_wires_232 rfl ?_
          refine mw_goto (tgt := 239) dX12_wires_234 (by decide) ?_
          exact mw_sub [0, 1, 2, 3, 4, 5, 6, 8, 11] rfl (w_X12_wires_239 X l k65 hk65 y1 y2 y3 y4 y5 y6 y8 y11 y8 S)
        · refine mw_iload 7 dX12_wires_237 rfl ?_
          exact mw_sub [0, 1, 2, 3, 4, 5, 6, 8, 11] rfl (w_X12_wires_239 X l k65 hk65 y1 y2 y3 y4 y5 y6 y8 y11 y7 S)
    · refine mw_iincB (lvf := fun x2 => [(8, .int x2), (0, .ref (X.2.1 69)), (1, .int y1), (2, .int y2), (3, .int y3), (4, .int y4), (5, .int y5), (6, .int y6), (7, .int y7), (9, .int y9), (10, .int y10), (11, .int y11)]) (k := 8) dX12_wires_284 rfl (by decide) (by decide) (fun _ => rfl) (fun x2 => ?_)
      refine mw_goto (tgt := 65) dX12_wires_287 (by decide) ?_
      exact mw_sub [1, 2, 3, 4, 5, 6, 7, 8, 0] rfl (hk65 y1 y2 y3 y4 y5 y6 y7 x2 S)
  · refine mw_iincB (lvf := fun x3 => [(8, .int x3), (0, .ref (X.2.1 69)), (1, .int y1), (2, .int y2), (3, .int y3), (4, .int y4), (5, .int y5), (6, .int y6), (7, .int y7), (9, .int y9), (10, .int y10), (11, .int y11)]) (k := 8) dX12_wires_284 rfl (by decide) (by decide) (fun _ => rfl) (fun x3 => ?_)
    refine mw_goto (tgt := 65) dX12_wires_287 (by decide) ?_
    exact mw_sub [1, 2, 3, 4, 5, 6, 7, 8, 0] rfl (hk65 y1 y2 y3 y4 y5 y6 y7 x3 S)
def f_X12_wires_169 (k65 : Int32 → Int32 → Int32 → Int32 → Int32 → Int32 → Int32 → Int32 → mM → Option (Int32 × mM)) (y1 : Int32) (y2 : Int32) (y3 : Int32) (y4 : Int32) (y5 : Int32) (y6 : Int32) (y7 : Int32) (y8 : Int32) (y9 : Int32) (y10 : Int32) (y11 : Int32) (y12 : Int32) (S : mM) : Option (Int32 × mM) :=
  if y9 = (1 : Int32) then
    if y10 = (1 : Int32) then
      if y11 ≤ y12 then
        f_X12_wires_211 k65 y1 y2 y3 y4 y5 y6 y7 y8 y9 y10 y11 S
      else
        if y4 = 0 then
          f_X12_wires_199 k65 y1 y2 y3 y5 y6 y7 y8 S
        else
          if y5 ≤ (1 : Int32) then
            bnd (y8 + (1 : Int32)) fun x1 =>
            k65 y1 y2 y3 (0 : Int32) y5 y6 y7 x1 S
          else
            f_X12_wires_199 k65 y1 y2 y3 y5 y6 y7 y8 S
    else
      f_X12_wires_211 k65 y1 y2 y3 y4 y5 y6 y7 y8 y9 y10 y11 S
  else
    f_X12_wires_211 k65 y1 y2 y3 y4 y5 y6 y7 y8 y9 y10 y11 S
set_option maxRecDepth 100000 in
set_option maxHeartbeats 4000000 in
theorem w_X12_wires_169 (X : mX) (l : Launch) (k65 : Int32 → Int32 → Int32 → Int32 → Int32 → Int32 → Int32 → Int32 → mM → Option (Int32 × mM)) (hk65 : ∀ (y1 : Int32) (y2 : Int32) (y3 : Int32) (y4 : Int32) (y5 : Int32) (y6 : Int32) (y7 : Int32) (y8 : Int32) (S : mM), MW X viI rm_X12_wires cX12_wires RX12 13 (some .int) l S [(0, .ref (X.2.1 69)), (1, .int y1), (2, .int y2), (3, .int y3), (4, .int y4), (5, .int y5), (6, .int y6), (7, .int y7), (8, .int y8)] [] 65 (k65 y1 y2 y3 y4 y5 y6 y7 y8 S)) (y1 : Int32) (y2 : Int32) (y3 : Int32) (y4 : Int32) (y5 : Int32) (y6 : Int32) (y7 : Int32) (y8 : Int32) (y9 : Int32) (y10 : Int32) (y11 : Int32) (y12 : Int32) (S : mM) : MW X viI rm_X12_wires cX12_wires RX12 13 (some .int) l S [(0, .ref (X.2.1 69)), (1, .int y1), (2, .int y2), (3, .int y3), (4, .int y4), (5, .int y5), (6, .int y6), (7, .int y7), (8, .int y8), (9, .int y9), (10, .int y10), (11, .int y11), (12, .int y12)] [] 169 (f_X12_wires_169 k65 y1 y2 y3 y4 y5 y6 y7 y8 y9 y10 y11 y12 S) := by
  unfold f_X12_wires_169
  refine mw_iload 9 dX12_wires_169 rfl ?_
  refine mw_iconst (v := (1 : Int32)) dX12_wires_171 (by decide) ?_
  refine mw_icmp_ne (tgt := 211) dX12_wires_172 (by decide) ?_ ?_
  · refine mw_iload 10 dX12_wires_175 rfl ?_
    refine mw_iconst (v := (1 : Int32)) dX12_wires_177 (by decide) ?_
    refine mw_icmp_ne (tgt := 211) dX12_wires_178 (by decide) ?_ ?_
    · refine mw_iload 11 dX12_wires_181 rfl ?_
      refine mw_iload 12 dX12_wires_183 rfl ?_
      refine mw_icmp_le (tgt := 211) dX12_wires_185 (by decide) ?_ ?_
      · exact mw_sub [0, 1, 2, 3, 4, 5, 6, 7, 8, 9, 10, 11] rfl (w_X12_wires_211 X l k65 hk65 y1 y2 y3 y4 y5 y6 y7 y8 y9 y10 y11 S)
      · refine mw_iload 4 dX12_wires_188 rfl ?_
        refine mw_if_eq (tgt := 199) dX12_wires_190 (by decide) ?_ ?_
        · exact mw_sub [0, 1, 2, 3, 5, 6, 7, 8] rfl (w_X12_wires_199 X l k65 hk65 y1 y2 y3 y5 y6 y7 y8 S)
        · refine mw_iload 5 dX12_wires_193 rfl ?_
          refine mw_iconst (v := (1 : Int32)) dX12_wires_195 (by decide) ?_
          refine mw_icmp_le (tgt := 205) dX12_wires_196 (by decide) ?_ ?_
          · refine mw_iconst (v := (0 : Int32)) dX12_wires_205 (by decide) ?_
            refine mw_istore (lv' := [(4, .int (0 : Int32)), (0, .ref (X.2.1 69)), (1, .int y1), (2, .int y2), (3, .int y3), (5, .int y5), (6, .int y6), (7, .int y7), (8, .int y8), (9, .int y9), (10, .int y10), (11, .int y11), (12, .int y12)]) dX12_wires_206 (by decide) rfl ?_
            refine mw_goto (tgt := 284) dX12_wires_208 (by decide) ?_
            refine mw_iincB (lvf := fun x1 => [(8, .int x1), (4, .int (0 : Int32)), (0, .ref (X.2.1 69)), (1, .int y1), (2, .int y2), (3, .int y3), (5, .int y5), (6, .int y6), (7, .int y7), (9, .int y9), (10, .int y10), (11, .int y11), (12, .int y12)]) (k := 8) dX12_wires_284 rfl (by decide) (by decide) (fun _ => rfl) (fun x1 => ?_)
            refine mw_goto (tgt := 65) dX12_wires_287 (by decide) ?_
            exact mw_sub [2, 3, 4, 5, 1, 6, 7, 8, 0] rfl (hk65 y1 y2 y3 (0 : Int32) y5 y6 y7 x1 S)
          · exact mw_sub [0, 1, 2, 3, 5, 6, 7, 8] rfl (w_X12_wires_199 X l k65 hk65 y1 y2 y3 y5 y6 y7 y8 S)
    · exact mw_sub [0, 1, 2, 3, 4, 5, 6, 7, 8, 9, 10, 11] rfl (w_X12_wires_211 X l k65 hk65 y1 y2 y3 y4 y5 y6 y7 y8 y9 y10 y11 S)
  · exact mw_sub [0, 1, 2, 3, 4, 5, 6, 7, 8, 9, 10, 11] rfl (w_X12_wires_211 X l k65 hk65 y1 y2 y3 y4 y5 y6 y7 y8 y9 y10 y11 S)
def f_X12_wires_65 (n : Nat) (y1 : Int32) (y2 : Int32) (y3 : Int32) (y4 : Int32) (y5 : Int32) (y6 : Int32) (y7 : Int32) (y8 : Int32) (S : mM) : Option (Int32 × mM) := match n with
  | 0 => none
  | n + 1 =>
    if 0 ≤ y1 ∧ y1.toNatClampNeg < 8 then
    (if (S.1 85 y1.toNatClampNeg) ≤ y8 then
      some ((S.1 69 48), S)
    else
      if (20 : Int32) ≤ (S.1 69 48) then
        some ((S.1 69 48), S)
      else
        if (S.1 69 51) = (-4 : Int32) then
          mBind (f_X12_bit y1 y2 y8 S) fun r1 S2 =>
          mBind (f_X12_bit y1 y2 (y8 - (1 : Int32)) S2) fun r3 S4 =>
          mBind (f_X12_bit y1 y3 y8 S4) fun r5 S6 =>
          mBind (f_X12_bit y1 y3 (y8 - (1 : Int32)) S6) fun r7 S8 =>
          if r1 = (1 : Int32) then
            if r3 = (1 : Int32) then
              if r7 ≤ r5 then
                f_X12_wires_169 (f_X12_wires_65 n) y1 y2 y3 y4 y5 y6 y7 y8 r1 r3 r5 r7 S8
              else
                bnd (y8 + (1 : Int32)) fun x9 =>
                f_X12_wires_65 n y1 y2 y3 (1 : Int32) (0 : Int32) (0 : Int32) y7 x9 S8
            else
              f_X12_wires_169 (f_X12_wires_65 n) y1 y2 y3 y4 y5 y6 y7 y8 r1 r3 r5 r7 S8
          else
            f_X12_wires_169 (f_X12_wires_65 n) y1 y2 y3 y4 y5 y6 y7 y8 r1 r3 r5 r7 S8
        else
          some ((S.1 69 48), S))
    else none
set_option maxRecDepth 100000 in
set_option maxHeartbeats 4000000 in
theorem w_X12_wires_65 (X : mX) (l : Launch) (n : Nat) (y1 : Int32) (y2 : Int32) (y3 : Int32) (y4 : Int32) (y5 : Int32) (y6 : Int32) (y7 : Int32) (y8 : Int32) (S : mM) : MW X viI rm_X12_wires cX12_wires RX12 13 (some .int) l S [(0, .ref (X.2.1 69)), (1, .int y1), (2, .int y2), (3, .int y3), (4, .int y4), (5, .int y5), (6, .int y6), (7, .int y7), (8, .int y8)] [] 65 (f_X12_wires_65 n y1 y2 y3 y4 y5 y6 y7 y8 S) := by
  induction n generalizing y1 y2 y3 y4 y5 y6 y7 y8 S with
  | zero => exact mw_none
  | succ n ih =>
    unfold f_X12_wires_65
    refine mw_iload 8 dX12_wires_65 rfl ?_
    refine mw_aload_n 0 dX12_wires_67 rfl rfl ?_
    refine gf_RX12_63 mk_69 dX12_wires_68 ?_
    refine mw_iload_n 1 dX12_wires_71 rfl rfl ?_
    refine mw_iaload mk_85 ml_85 dX12_wires_72 ?_
    refine mw_icmp_ge (tgt := 290) dX12_wires_73 (by decide) ?_ ?_
    · refine mw_aload_n 0 dX12_wires_290 rfl rfl ?_
      refine gf_RX12_289 mk_69 dX12_wires_291 ?_
      exact mw_ireturn dX12_wires_294
    · refine mw_aload_n 0 dX12_wires_76 rfl rfl ?_
      refine gf_RX12_289 mk_69 dX12_wires_77 ?_
      refine mw_bipush (v := (20 : Int32)) dX12_wires_80 (by decide) ?_
      refine mw_icmp_ge (tgt := 290) dX12_wires_82 (by decide) ?_ ?_
      · refine mw_aload_n 0 dX12_wires_290 rfl rfl ?_
        refine gf_RX12_289 mk_69 dX12_wires_291 ?_
        exact mw_ireturn dX12_wires_294
      · refine mw_aload_n 0 dX12_wires_85 rfl rfl ?_
        refine gf_RX12_107 mk_69 dX12_wires_86 ?_
        refine mw_bipush (v := (-4 : Int32)) dX12_wires_89 (by decide) ?_
        refine mw_icmp_ne (tgt := 290) dX12_wires_91 (by decide) ?_ ?_
        · refine mw_aload_n 0 dX12_wires_94 rfl rfl ?_
          refine mw_iload_n 1 dX12_wires_95 rfl rfl ?_
          refine mw_iload_n 2 dX12_wires_96 rfl rfl ?_
          refine mw_iload 8 dX12_wires_97 rfl ?_
          refine mw_callV (t_X12_bit X l y1 y2 y8 S) cd_X12_bit lk_RX12_294 im_X12_bit se_X12_bit in_RX12 de_X12_bit ⟨rfl, rfl⟩ ⟨Nat.le_of_ble_eq_true rfl, Nat.le_of_ble_eq_true rfl⟩ (mKind_lt mk_69 (by decide)) (mCell_k mk_69) rfl rfl rfl rfl ⟨Nat.le_of_ble_eq_true rfl, Nat.le_of_ble_eq_true rfl⟩ (Nat.le_of_ble_eq_true rfl) dX12_wires_99 (fun r1 S2 => ?_)
          refine mw_eq (st' := [.int r1]) rfl rfl ?_
          refine mw_istore (lv' := [(9, .int r1), (0, .ref (X.2.1 69)), (1, .int y1), (2, .int y2), (3, .int y3), (4, .int y4), (5, .int y5), (6, .int y6), (7, .int y7), (8, .int y8)]) dX12_wires_102 (by decide) rfl ?_
          refine mw_aload_n 1 dX12_wires_104 rfl rfl ?_
          refine mw_iload_n 2 dX12_wires_105 rfl rfl ?_
          refine mw_iload_n 3 dX12_wires_106 rfl rfl ?_
          refine mw_iload 9 dX12_wires_107 rfl ?_
          refine mw_iconst (v := (1 : Int32)) dX12_wires_109 (by decide) ?_
          refine mw_isub dX12_wires_110 ?_
          refine mw_callV (t_X12_bit X l y1 y2 (y8 - (1 : Int32)) S2) cd_X12_bit lk_RX12_294 im_X12_bit se_X12_bit in_RX12 de_X12_bit ⟨rfl, rfl⟩ ⟨Nat.le_of_ble_eq_true rfl, Nat.le_of_ble_eq_true rfl⟩ (mKind_lt mk_69 (by decide)) (mCell_k mk_69) rfl rfl rfl rfl ⟨Nat.le_of_ble_eq_true rfl, Nat.le_of_ble_eq_true rfl⟩ (Nat.le_of_ble_eq_true rfl) dX12_wires_111 (fun r3 S4 => ?_)
          refine mw_eq (st' := [.int r3]) rfl rfl ?_
          refine mw_istore (lv' := [(10, .int r3), (9, .int r1), (0, .ref (X.2.1 69)), (1, .int y1), (2, .int y2), (3, .int y3), (4, .int y4), (5, .int y5), (6, .int y6), (7, .int y7), (8, .int y8)]) dX12_wires_114 (by decide) rfl ?_
          refine mw_aload_n 2 dX12_wires_116 rfl rfl ?_
          refine mw_iload_n 3 dX12_wires_117 rfl rfl ?_
          refine mw_iload_n 5 dX12_wires_118 rfl rfl ?_
          refine mw_iload 10 dX12_wires_119 rfl ?_
          refine mw_callV (t_X12_bit X l y1 y3 y8 S4) cd_X12_bit lk_RX12_294 im_X12_bit se_X12_bit in_RX12 de_X12_bit ⟨rfl, rfl⟩ ⟨Nat.le_of_ble_eq_true rfl, Nat.le_of_ble_eq_true rfl⟩ (mKind_lt mk_69 (by decide)) (mCell_k mk_69) rfl rfl rfl rfl ⟨Nat.le_of_ble_eq_true rfl, Nat.le_of_ble_eq_true rfl⟩ (Nat.le_of_ble_eq_true rfl) dX12_wires_121 (fun r5 S6 => ?_)
          refine mw_eq (st' := [.int r5]) rfl rfl ?_
          refine mw_istore (lv' := [(11, .int r5), (10, .int r3), (9, .int r1), (0, .ref (X.2.1 69)), (1, .int y1), (2, .int y2), (3, .int y3), (4, .int y4), (5, .int y5), (6, .int y6), (7, .int y7), (8, .int y8)]) dX12_wires_124 (by decide) rfl ?_
          refine mw_aload_n 3 dX12_wires_126 rfl rfl ?_
          refine mw_iload_n 4 dX12_wires_127 rfl rfl ?_
          refine mw_iload_n 6 dX12_wires_128 rfl rfl ?_
          refine mw_iload 11 dX12_wires_129 rfl ?_
          refine mw_iconst (v := (1 : Int32)) dX12_wires_131 (by decide) ?_
          refine mw_isub dX12_wires_132 ?_
          refine mw_callV (t_X12_bit X l y1 y3 (y8 - (1 : Int32)) S6) cd_X12_bit lk_RX12_294 im_X12_bit se_X12_bit in_RX12 de_X12_bit ⟨rfl, rfl⟩ ⟨Nat.le_of_ble_eq_true rfl, Nat.le_of_ble_eq_true rfl⟩ (mKind_lt mk_69 (by decide)) (mCell_k mk_69) rfl rfl rfl rfl ⟨Nat.le_of_ble_eq_true rfl, Nat.le_of_ble_eq_true rfl⟩ (Nat.le_of_ble_eq_true rfl) dX12_wires_133 (fun r7 S8 => ?_)
          refine mw_eq (st' := [.int r7]) rfl rfl ?_
          refine mw_istore (lv' := [(12, .int r7), (11, .int r5), (10, .int r3), (9, .int r1), (0, .ref (X.2.1 69)), (1, .int y1), (2, .int y2), (3, .int y3), (4, .int y4), (5, .int y5), (6, .int y6), (7, .int y7), (8, .int y8)]) dX12_wires_136 (by decide) rfl ?_
          refine mw_iload 3 dX12_wires_138 rfl ?_
          refine mw_iconst (v := (1 : Int32)) dX12_wires_140 (by decide) ?_
          refine mw_icmp_ne (tgt := 169) dX12_wires_141 (by decide) ?_ ?_
          · refine mw_iload 2 dX12_wires_144 rfl ?_
            refine mw_iconst (v := (1 : Int32)) dX12_wires_146 (by decide) ?_
            refine mw_icmp_ne (tgt := 169) dX12_wires_147 (by decide) ?_ ?_
            · refine mw_iload 1 dX12_wires_150 rfl ?_
              refine mw_iload 0 dX12_wires_152 rfl ?_
              refine mw_icmp_ge (tgt := 169) dX12_wires_154 (by decide) ?_ ?_
              · exact mw_sub [4, 5, 6, 7, 8, 9, 10, 11, 12, 3, 2, 1, 0] rfl (w_X12_wires_169 X l (f_X12_wires_65 n) ih y1 y2 y3 y4 y5 y6 y7 y8 r1 r3 r5 r7 S8)
              · refine mw_iconst (v := (1 : Int32)) dX12_wires_157 (by decide) ?_
                refine mw_istore (lv' := [(4, .int (1 : Int32)), (12, .int r7), (11, .int r5), (10, .int r3), (9, .int r1), (0, .ref (X.2.1 69)), (1, .int y1), (2, .int y2), (3, .int y3), (5, .int y5), (6, .int y6), (7, .int y7), (8, .int y8)]) dX12_wires_158 (by decide) rfl ?_
                refine mw_iconst (v := (0 : Int32)) dX12_wires_160 (by decide) ?_
                refine mw_istore (lv' := [(5, .int (0 : Int32)), (4, .int (1 : Int32)), (12, .int r7), (11, .int r5), (10, .int r3), (9, .int r1), (0, .ref (X.2.1 69)), (1, .int y1), (2, .int y2), (3, .int y3), (6, .int y6), (7, .int y7), (8, .int y8)]) dX12_wires_161 (by decide) rfl ?_
                refine mw_iconst (v := (0 : Int32)) dX12_wires_163 (by decide) ?_
                refine mw_istore (lv' := [(6, .int (0 : Int32)), (5, .int (0 : Int32)), (4, .int (1 : Int32)), (12, .int r7), (11, .int r5), (10, .int r3), (9, .int r1), (0, .ref (X.2.1 69)), (1, .int y1), (2, .int y2), (3, .int y3), (7, .int y7), (8, .int y8)]) dX12_wires_164 (by decide) rfl ?_
                refine mw_goto (tgt := 284) dX12_wires_166 (by decide) ?_
                refine mw_iincB (lvf := fun x9 => [(8, .int x9), (6, .int (0 : Int32)), (5, .int (0 : Int32)), (4, .int (1 : Int32)), (12, .int r7), (11, .int r5), (10, .int r3), (9, .int r1), (0, .ref (X.2.1 69)), (1, .int y1), (2, .int y2), (3, .int y3), (7, .int y7)]) (k := 12) dX12_wires_284 rfl (by decide) (by decide) (fun _ => rfl) (fun x9 => ?_)
                refine mw_goto (tgt := 65) dX12_wires_287 (by decide) ?_
                exact mw_sub [8, 9, 10, 11, 3, 2, 1, 12, 0] rfl (ih y1 y2 y3 (1 : Int32) (0 : Int32) (0 : Int32) y7 x9 S8)
            · exact mw_sub [4, 5, 6, 7, 8, 9, 10, 11, 12, 3, 2, 1, 0] rfl (w_X12_wires_169 X l (f_X12_wires_65 n) ih y1 y2 y3 y4 y5 y6 y7 y8 r1 r3 r5 r7 S8)
          · exact mw_sub [4, 5, 6, 7, 8, 9, 10, 11, 12, 3, 2, 1, 0] rfl (w_X12_wires_169 X l (f_X12_wires_65 n) ih y1 y2 y3 y4 y5 y6 y7 y8 r1 r3 r5 r7 S8)
        · refine mw_aload_n 0 dX12_wires_290 rfl rfl ?_
          refine gf_RX12_289 mk_69 dX12_wires_291 ?_
          exact mw_ireturn dX12_wires_294
def f_X12_wires (p1 : Int32) (p2 : Int32) (p3 : Int32) (S : mM) : Option (Int32 × mM) :=
  mBind (f_X12_isSegment p1 S) fun r1 S2 =>
  if r1 = 0 then
    some ((-1 : Int32), S2)
  else
    mBind (f_X12_in p2.toInt64 (0 : Int64) (3 : Int64) S2) fun r3 S4 =>
    if r3 = 0 then
      some ((-1 : Int32), S4)
    else
      mBind (f_X12_in p3.toInt64 (0 : Int64) (3 : Int64) S4) fun r5 S6 =>
      if r5 = 0 then
        some ((-1 : Int32), S6)
      else
        if p2 = p3 then
          some ((-1 : Int32), S6)
        else
          bnd (setI S6 69 48 (0 : Int32)) fun S7 =>
          bnd (setI S7 69 51 (-4 : Int32)) fun S8 =>
          f_X12_wires_65 mFuel p1 p2 p3 (0 : Int32) (0 : Int32) (0 : Int32) (0 : Int32) (1 : Int32) S8
set_option maxRecDepth 100000 in
set_option maxHeartbeats 4000000 in
theorem w_X12_wires (X : mX) (l : Launch) (p1 : Int32) (p2 : Int32) (p3 : Int32) (S : mM) : MW X viI rm_X12_wires cX12_wires RX12 13 (some .int) l S [(0, .ref (X.2.1 69)), (1, .int p1), (2, .int p2), (3, .int p3)] [] 0 (f_X12_wires p1 p2 p3 S) := by
  unfold f_X12_wires
  refine mw_aload_n 0 dX12_wires_0 rfl rfl ?_
  refine mw_iload_n 1 dX12_wires_1 rfl rfl ?_
  refine mw_callV (t_X12_isSegment X l p1 S) cd_X12_isSegment lk_RX12_261 im_X12_isSegment se_X12_isSegment in_RX12 de_X12_isSegment ⟨rfl, rfl⟩ ⟨Nat.le_of_ble_eq_true rfl, Nat.le_of_ble_eq_true rfl⟩ (mKind_lt mk_69 (by decide)) (mCell_k mk_69) rfl rfl rfl rfl ⟨Nat.le_of_ble_eq_true rfl, Nat.le_of_ble_eq_true rfl⟩ (Nat.le_of_ble_eq_true rfl) dX12_wires_2 (fun r1 S2 => ?_)
  refine mw_eq (st' := [.int r1]) rfl rfl ?_
  refine mw_if_eq (tgt := 37) dX12_wires_5 (by decide) ?_ ?_
  · refine mw_iconst (v := (-1 : Int32)) dX12_wires_37 (by decide) ?_
    exact mw_ireturn dX12_wires_38
  · refine mw_iload_n 2 dX12_wires_8 rfl rfl ?_
    refine mw_i2l dX12_wires_9 ?_
    refine mw_lconst (v := (0 : Int64)) dX12_wires_10 (by decide) ?_
    refine mw_ldc2 cl_RX12_257 dX12_wires_11 ?_
    refine mw_callS (t_X12_in X l p2.toInt64 (0 : Int64) (3 : Int64) S2) cd_X12_in lk_RX12_115 sn_X12_in in_RX12 de_X12_in ⟨rfl, rfl⟩ ⟨Nat.le_of_ble_eq_true rfl, Nat.le_of_ble_eq_true rfl⟩ rfl rfl ⟨Nat.le_of_ble_eq_true rfl, Nat.le_of_ble_eq_true rfl⟩ (Nat.le_of_ble_eq_true rfl) dX12_wires_14 (fun r3 S4 => ?_)
    refine mw_eq (st' := [.int r3]) rfl rfl ?_
    refine mw_if_eq (tgt := 37) dX12_wires_17 (by decide) ?_ ?_
    · refine mw_iconst (v := (-1 : Int32)) dX12_wires_37 (by decide) ?_
      exact mw_ireturn dX12_wires_38
    · refine mw_iload_n 3 dX12_wires_20 rfl rfl ?_
      refine mw_i2l dX12_wires_21 ?_
      refine mw_lconst (v := (0 : Int64)) dX12_wires_22 (by decide) ?_
      refine mw_ldc2 cl_RX12_257 dX12_wires_23 ?_
      refine mw_callS (t_X12_in X l p3.toInt64 (0 : Int64) (3 : Int64) S4) cd_X12_in lk_RX12_115 sn_X12_in in_RX12 de_X12_in ⟨rfl, rfl⟩ ⟨Nat.le_of_ble_eq_true rfl, Nat.le_of_ble_eq_true rfl⟩ rfl rfl ⟨Nat.le_of_ble_eq_true rfl, Nat.le_of_ble_eq_true rfl⟩ (Nat.le_of_ble_eq_true rfl) dX12_wires_26 (fun r5 S6 => ?_)
      refine mw_eq (st' := [.int r5]) rfl rfl ?_
      refine mw_if_eq (tgt := 37) dX12_wires_29 (by decide) ?_ ?_
      · refine mw_iconst (v := (-1 : Int32)) dX12_wires_37 (by decide) ?_
        exact mw_ireturn dX12_wires_38
      · refine mw_iload_n 2 dX12_wires_32 rfl rfl ?_
        refine mw_iload_n 3 dX12_wires_33 rfl rfl ?_
        refine mw_icmp_ne (tgt := 39) dX12_wires_34 (by decide) ?_ ?_
        · refine mw_iconst (v := (-1 : Int32)) dX12_wires_37 (by decide) ?_
          exact mw_ireturn dX12_wires_38
        · refine mw_aload_n 0 dX12_wires_39 rfl rfl ?_
          refine mw_iconst (v := (0 : Int32)) dX12_wires_40 (by decide) ?_
          refine pf_RX12_289 mk_69 dX12_wires_41 ?_
          refine mw_bndS (fun S7 => ?_)
          refine mw_aload_n 0 dX12_wires_44 rfl rfl ?_
          refine mw_bipush (v := (-4 : Int32)) dX12_wires_45 (by decide) ?_
          refine pf_RX12_107 mk_69 dX12_wires_47 ?_
          refine mw_bndS (fun S8 => ?_)
          refine mw_iconst (v := (0 : Int32)) dX12_wires_50 (by decide) ?_
          refine mw_istore (lv' := [(4, .int (0 : Int32)), (0, .ref (X.2.1 69)), (1, .int p1), (2, .int p2), (3, .int p3)]) dX12_wires_51 (by decide) rfl ?_
          refine mw_iconst (v := (0 : Int32)) dX12_wires_53 (by decide) ?_
          refine mw_istore (lv' := [(5, .int (0 : Int32)), (4, .int (0 : Int32)), (0, .ref (X.2.1 69)), (1, .int p1), (2, .int p2), (3, .int p3)]) dX12_wires_54 (by decide) rfl ?_
          refine mw_iconst (v := (0 : Int32)) dX12_wires_56 (by decide) ?_
          refine mw_istore (lv' := [(6, .int (0 : Int32)), (5, .int (0 : Int32)), (4, .int (0 : Int32)), (0, .ref (X.2.1 69)), (1, .int p1), (2, .int p2), (3, .int p3)]) dX12_wires_57 (by decide) rfl ?_
          refine mw_iconst (v := (0 : Int32)) dX12_wires_59 (by decide) ?_
          refine mw_istore (lv' := [(7, .int (0 : Int32)), (6, .int (0 : Int32)), (5, .int (0 : Int32)), (4, .int (0 : Int32)), (0, .ref (X.2.1 69)), (1, .int p1), (2, .int p2), (3, .int p3)]) dX12_wires_60 (by decide) rfl ?_
          refine mw_iconst (v := (1 : Int32)) dX12_wires_62 (by decide) ?_
          refine mw_istore (lv' := [(8, .int (1 : Int32)), (7, .int (0 : Int32)), (6, .int (0 : Int32)), (5, .int (0 : Int32)), (4, .int (0 : Int32)), (0, .ref (X.2.1 69)), (1, .int p1), (2, .int p2), (3, .int p3)]) dX12_wires_63 (by decide) rfl ?_
          exact mw_sub [5, 6, 7, 8, 4, 3, 2, 1, 0] rfl (w_X12_wires_65 X l mFuel p1 p2 p3 (0 : Int32) (0 : Int32) (0 : Int32) (0 : Int32) (1 : Int32) S8)
theorem t_X12_wires (X : mX) (l : Launch) (p1 : Int32) (p2 : Int32) (p3 : Int32) (S : mM) : mMet X viI yX12_wires cX12_wires 13 (some .int) rm_X12_wires [.ref (X.2.1 69), .int p1, .int p2, .int p3] l S (f_X12_wires p1 p2 p3 S) :=
  mMet_of (by decide +kernel) rfl (Nat.le_of_ble_eq_true rfl) (w_X12_wires X l p1 p2 p3 S )
