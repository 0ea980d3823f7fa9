/-! TraceBench$Stage.followHigh(II)V -/
def f_X7_followHigh (t : Nat) (p1 : Int32) (p2 : Int32) (S : mM) : Option (Unit × mM) :=
  mBind (f_X11_numberOn (S.1 t 3) p1 S) fun r1 S2 =>
  mBind (f_X11_numberOn (S2.1 t 3) p2 S2) fun r3 S4 =>
  if (S4.1 t 5) ≤ r3 then
    if (S4.1 t 5) ≤ r1 then
      if (S4.1 t 8) ≤ 0 then
        some ((), S4)
      else
        bnd (setI S4 t 8 ((S4.1 t 8) + (1 : Int32))) fun S5 =>
        if (S5.1 t 9) = 0 then
          if r3 < (S5.1 t 6) then
            bnd (setI S5 t 9 (0 : Int32)) fun S6 =>
            some ((), S6)
          else
            bnd (setI S5 t 9 (1 : Int32)) fun S7 =>
            some ((), S7)
        else
          bnd (setI S5 t 9 (1 : Int32)) fun S8 =>
          some ((), S8)
    else
      bnd (setI S4 t 8 (1 : Int32)) fun S9 =>
      if r3 < (S9.1 t 6) then
        bnd (setI S9 t 9 (0 : Int32)) fun S10 =>
        some ((), S10)
      else
        bnd (setI S9 t 9 (1 : Int32)) fun S11 =>
        some ((), S11)
  else
    bnd (setI S4 t 8 (0 : Int32)) fun S12 =>
    some ((), S12)
set_option maxRecDepth 100000 in
set_option maxHeartbeats 4000000 in
theorem w_X7_followHigh (X : mX) (l : Launch) (t : Nat) (p1 : Int32) (p2 : Int32) (S : mM) (ht : mKind t = 7) : MW X viV rm_X7_followHigh cX7_followHigh RX7 5 none l S [(0, .ref (X.2.1 t)), (1, .int p1), (2, .int p2)] [] 0 (f_X7_followHigh t p1 p2 S) := by
  unfold f_X7_followHigh
  refine mw_aload_n 0 dX7_followHigh_0 rfl rfl ?_
  refine gf_RX7_9 ht dX7_followHigh_1 ?_
  refine mw_iload_n 1 dX7_followHigh_4 rfl rfl ?_
  refine mw_callSN (t_X11_numberOn X l (S.1 t 3) p1 S) cd_X11_numberOn lk_RX7_15 sn_X11_numberOn in_RX11 de_X11_numberOn ⟨rfl, rfl⟩ ⟨Nat.le_of_ble_eq_true rfl, Nat.le_of_ble_eq_true rfl⟩ rfl rfl ⟨Nat.le_of_ble_eq_true rfl, Nat.le_of_ble_eq_true rfl⟩ (Nat.le_of_ble_eq_true rfl) dX7_followHigh_5 (fun r1 S2 => ?_)
  refine mw_eq (st' := [.int r1]) rfl rfl ?_
  refine mw_istore_n (lv' := [(3, .int r1), (0, .ref (X.2.1 t)), (1, .int p1), (2, .int p2)]) dX7_followHigh_8 rfl (by decide) rfl ?_
  refine mw_aload_n 1 dX7_followHigh_9 rfl rfl ?_
  refine gf_RX7_9 ht dX7_followHigh_10 ?_
  refine mw_iload_n 3 dX7_followHigh_13 rfl rfl ?_
  refine mw_callSN (t_X11_numberOn X l (S2.1 t 3) p2 S2) cd_X11_numberOn lk_RX7_15 sn_X11_numberOn in_RX11 de_X11_numberOn ⟨rfl, rfl⟩ ⟨Nat.le_of_ble_eq_true rfl, Nat.le_of_ble_eq_true rfl⟩ rfl rfl ⟨Nat.le_of_ble_eq_true rfl, Nat.le_of_ble_eq_true rfl⟩ (Nat.le_of_ble_eq_true rfl) dX7_followHigh_14 (fun r3 S4 => ?_)
  refine mw_eq (st' := [.int r3]) rfl rfl ?_
  refine mw_istore (lv' := [(4, .int r3), (3, .int r1), (0, .ref (X.2.1 t)), (1, .int p1), (2, .int p2)]) dX7_followHigh_17 (by decide) rfl ?_
  refine mw_iload 0 dX7_followHigh_19 rfl ?_
  refine mw_aload_n 2 dX7_followHigh_21 rfl rfl ?_
  refine gf_RX7_22 ht dX7_followHigh_22 ?_
  refine mw_icmp_ge (tgt := 36) dX7_followHigh_25 (by decide) ?_ ?_
  · refine mw_iload_n 1 dX7_followHigh_36 rfl rfl ?_
    refine mw_aload_n 2 dX7_followHigh_37 rfl rfl ?_
    refine gf_RX7_22 ht dX7_followHigh_38 ?_
    refine mw_icmp_ge (tgt := 70) dX7_followHigh_41 (by decide) ?_ ?_
    · refine mw_aload_n 2 dX7_followHigh_70 rfl rfl ?_
      refine gf_RX7_19 ht dX7_followHigh_71 ?_
      refine mw_if_le (tgt := 112) dX7_followHigh_74 (by decide) ?_ ?_
      · exact mw_return dX7_followHigh_112
      · refine mw_aload_n 2 dX7_followHigh_77 rfl rfl ?_
        refine mw_dup dX7_followHigh_78 rfl ?_
        refine gf_RX7_19 ht dX7_followHigh_79 ?_
        refine mw_iconst (v := (1 : Int32)) dX7_followHigh_82 (by decide) ?_
        refine mw_iadd dX7_followHigh_83 ?_
        refine pf_RX7_19 ht dX7_followHigh_84 ?_
        refine mw_bndS (fun S5 => ?_)
        refine mw_aload_n 2 dX7_followHigh_87 rfl rfl ?_
        refine mw_aload_n 2 dX7_followHigh_88 rfl rfl ?_
        refine gf_RX7_31 ht dX7_followHigh_89 ?_
        refine mw_if_ne (tgt := 104) dX7_followHigh_92 (by decide) ?_ ?_
        · refine mw_iload 0 dX7_followHigh_95 rfl ?_
          refine mw_aload_n 2 dX7_followHigh_97 rfl rfl ?_
          refine gf_RX7_35 ht dX7_followHigh_98 ?_
          refine mw_icmp_lt (tgt := 108) dX7_followHigh_101 (by decide) ?_ ?_
          · refine mw_iconst (v := (0 : Int32)) dX7_followHigh_108 (by decide) ?_
            refine pf_RX7_31 ht (by decide) dX7_followHigh_109 ?_
            refine mw_bndS (fun S6 => ?_)
            exact mw_return dX7_followHigh_112
          · refine mw_iconst (v := (1 : Int32)) dX7_followHigh_104 (by decide) ?_
            refine mw_goto (tgt := 109) dX7_followHigh_105 (by decide) ?_
            refine pf_RX7_31 ht (by decide) dX7_followHigh_109 ?_
            refine mw_bndS (fun S7 => ?_)
            exact mw_return dX7_followHigh_112
        · refine mw_iconst (v := (1 : Int32)) dX7_followHigh_104 (by decide) ?_
          refine mw_goto (tgt := 109) dX7_followHigh_105 (by decide) ?_
          refine pf_RX7_31 ht (by decide) dX7_followHigh_109 ?_
          refine mw_bndS (fun S8 => ?_)
          exact mw_return dX7_followHigh_112
    · refine mw_aload_n 2 dX7_followHigh_44 rfl rfl ?_
      refine mw_iconst (v := (1 : Int32)) dX7_followHigh_45 (by decide) ?_
      refine pf_RX7_19 ht dX7_followHigh_46 ?_
      refine mw_bndS (fun S9 => ?_)
      refine mw_aload_n 2 dX7_followHigh_49 rfl rfl ?_
      refine mw_iload 0 dX7_followHigh_50 rfl ?_
      refine mw_aload_n 2 dX7_followHigh_52 rfl rfl ?_
      refine gf_RX7_35 ht dX7_followHigh_53 ?_
      refine mw_icmp_lt (tgt := 63) dX7_followHigh_56 (by decide) ?_ ?_
      · refine mw_iconst (v := (0 : Int32)) dX7_followHigh_63 (by decide) ?_
        refine pf_RX7_31 ht (by decide) dX7_followHigh_64 ?_
        refine mw_bndS (fun S10 => ?_)
        refine mw_goto (tgt := 112) dX7_followHigh_67 (by decide) ?_
        exact mw_return dX7_followHigh_112
      · refine mw_iconst (v := (1 : Int32)) dX7_followHigh_59 (by decide) ?_
        refine mw_goto (tgt := 64) dX7_followHigh_60 (by decide) ?_
        refine pf_RX7_31 ht (by decide) dX7_followHigh_64 ?_
        refine mw_bndS (fun S11 => ?_)
        refine mw_goto (tgt := 112) dX7_followHigh_67 (by decide) ?_
        exact mw_return dX7_followHigh_112
  · refine mw_aload_n 2 dX7_followHigh_28 rfl rfl ?_
    refine mw_iconst (v := (0 : Int32)) dX7_followHigh_29 (by decide) ?_
    refine pf_RX7_19 ht dX7_followHigh_30 ?_
    refine mw_bndS (fun S12 => ?_)
    refine mw_goto (tgt := 112) dX7_followHigh_33 (by decide) ?_
    exact mw_return dX7_followHigh_112
theorem t_X7_followHigh (X : mX) (l : Launch) (t : Nat) (p1 : Int32) (p2 : Int32) (S : mM) (ht : mKind t = 7) : mMet X viV yX7_followHigh cX7_followHigh 5 none rm_X7_followHigh [.ref (X.2.1 t), .int p1, .int p2] l S (f_X7_followHigh t p1 p2 S) :=
  mMet_of (by decide +kernel) rfl (Nat.le_of_ble_eq_true rfl) (w_X7_followHigh X l t p1 p2 S ht)
/-! TraceBench$Stage.happens(II)Z -/
def f_X7_happens_40 (y0 : Nat) (y1 : Int32) (y2 : Int32) (y3 : Int32) (y4 : Int32) (z0 : Int32) (S : mM) : Option (Int32 × mM) :=
  if (S.1 y0 0) = (0 : Int32) then
    if (S.1 y0 5) ≤ y3 then
      some ((0 : Int32), S)
    else
      if y4 < (S.1 y0 5) then
        some ((0 : Int32), S)
      else
        some ((1 : Int32), S)
  else
    if (S.1 y0 0) = (1 : Int32) then
      if y3 < (S.1 y0 5) then
        some ((0 : Int32), S)
      else
        if (S.1 y0 5) ≤ y4 then
          some ((0 : Int32), S)
        else
          some ((1 : Int32), S)
    else
      if (S.1 y0 0) = (2 : Int32) then
        if z0 = 0 then
          some ((0 : Int32), S)
        else
          if (S.1 y0 8) < (S.1 y0 7) then
            some ((0 : Int32), S)
          else
            some ((1 : Int32), S)
      else
        if (S.1 y0 0) = (3 : Int32) then
          if z0 = 0 then
            some ((0 : Int32), S)
          else
            if (S.1 y0 7) ≤ (S.1 y0 8) then
              some ((0 : Int32), S)
            else
              some ((1 : Int32), S)
        else
          if (S.1 y0 0) = (4 : Int32) then
            if z0 = 0 then
              some ((0 : Int32), S)
            else
              if (S.1 y0 9) = 0 then
                some ((1 : Int32), S)
              else
                some ((0 : Int32), S)
          else
            if (S.1 y0 0) = (5 : Int32) then
              mBind (f_X11_isIn y4 (S.1 y0 5) (S.1 y0 6) S) fun r7 S8 =>
              if r7 = 0 then
                some ((0 : Int32), S8)
              else
                mBind (f_X11_isIn y3 (S8.1 y0 5) (S8.1 y0 6) S8) fun r9 S10 =>
                if r9 = 0 then
                  some ((1 : Int32), S10)
                else
                  some ((0 : Int32), S10)
            else
              if (S.1 y0 0) = (6 : Int32) then
                mBind (f_X11_isIn y3 (S.1 y0 5) (S.1 y0 6) S) fun r12 S13 =>
                if r12 = 0 then
                  some ((0 : Int32), S13)
                else
                  mBind (f_X11_isIn y4 (S13.1 y0 5) (S13.1 y0 6) S13) fun r14 S15 =>
                  if r14 = 0 then
                    some ((1 : Int32), S15)
                  else
                    some ((0 : Int32), S15)
              else
                if (S.1 y0 0) = (7 : Int32) then
                  mBind (f_X11_numberOn (S.1 y0 4) y2 S) fun r17 S18 =>
                  if y4 = r17 then
                    mBind (f_X11_numberOn (S18.1 y0 4) y1 S18) fun r19 S20 =>
                    if y3 = r19 then
                      some ((0 : Int32), S20)
                    else
                      some ((1 : Int32), S20)
                  else
                    some ((0 : Int32), S18)
                else
                  some ((0 : Int32), S)
set_option maxRecDepth 100000 in
set_option maxHeartbeats 4000000 in
theorem w_X7_happens_40 (X : mX) (l : Launch) (y0 : Nat) (y1 : Int32) (y2 : Int32) (y3 : Int32) (y4 : Int32) (z0 : Int32) (S : mM) (hy0 : mKind y0 = 7) : MW X viI rm_X7_happens cX7_happens RX7 6 (some .boolean) l S [(0, .ref (X.2.1 y0)), (1, .int y1), (2, .int y2), (3, .int y3), (4, .int y4)] [.int z0] 40 (f_X7_happens_40 y0 y1 y2 y3 y4 z0 S) := by
  unfold f_X7_happens_40
  refine mw_istore (lv' := [(5, .int z0), (0, .ref (X.2.1 y0)), (1, .int y1), (2, .int y2), (3, .int y3), (4, .int y4)]) dX7_happens_40 (by decide) rfl ?_
  refine mw_aload_n 1 dX7_happens_42 rfl rfl ?_
  refine gf_RX7_25 hy0 dX7_happens_43 ?_
  refine mw_ite (fun h1 => ?_) (fun h1 => ?_)
  · refine mw_tab (tgt := 92) h1 dX7_happens_46 (by decide) (by decide) rfl (by decide) ?_
    refine mw_iload_n 4 dX7_happens_92 rfl rfl ?_
    refine mw_aload_n 1 dX7_happens_93 rfl rfl ?_
    refine gf_RX7_22 hy0 dX7_happens_94 ?_
    refine mw_icmp_ge (tgt := 113) dX7_happens_97 (by decide) ?_ ?_
    · refine mw_iconst (v := (0 : Int32)) dX7_happens_113 (by decide) ?_
      exact mw_zret (by decide) dX7_happens_114
    · refine mw_iload 5 dX7_happens_100 rfl ?_
      refine mw_aload_n 1 dX7_happens_102 rfl rfl ?_
      refine gf_RX7_22 hy0 dX7_happens_103 ?_
      refine mw_icmp_lt (tgt := 113) dX7_happens_106 (by decide) ?_ ?_
      · refine mw_iconst (v := (0 : Int32)) dX7_happens_113 (by decide) ?_
        exact mw_zret (by decide) dX7_happens_114
      · refine mw_iconst (v := (1 : Int32)) dX7_happens_109 (by decide) ?_
        refine mw_goto (tgt := 114) dX7_happens_110 (by decide) ?_
        exact mw_zret (by decide) dX7_happens_114
  · refine mw_ite (fun h2 => ?_) (fun h2 => ?_)
    · refine mw_tab (tgt := 115) h2 dX7_happens_46 (by decide) (by decide) rfl (by decide) ?_
      refine mw_iload_n 4 dX7_happens_115 rfl rfl ?_
      refine mw_aload_n 1 dX7_happens_116 rfl rfl ?_
      refine gf_RX7_22 hy0 dX7_happens_117 ?_
      refine mw_icmp_lt (tgt := 136) dX7_happens_120 (by decide) ?_ ?_
      · refine mw_iconst (v := (0 : Int32)) dX7_happens_136 (by decide) ?_
        exact mw_zret (by decide) dX7_happens_137
      · refine mw_iload 5 dX7_happens_123 rfl ?_
        refine mw_aload_n 1 dX7_happens_125 rfl rfl ?_
        refine gf_RX7_22 hy0 dX7_happens_126 ?_
        refine mw_icmp_ge (tgt := 136) dX7_happens_129 (by decide) ?_ ?_
        · refine mw_iconst (v := (0 : Int32)) dX7_happens_136 (by decide) ?_
          exact mw_zret (by decide) dX7_happens_137
        · refine mw_iconst (v := (1 : Int32)) dX7_happens_132 (by decide) ?_
          refine mw_goto (tgt := 137) dX7_happens_133 (by decide) ?_
          exact mw_zret (by decide) dX7_happens_137
    · refine mw_ite (fun h3 => ?_) (fun h3 => ?_)
      · refine mw_tab (tgt := 138) h3 dX7_happens_46 (by decide) (by decide) rfl (by decide) ?_
        refine mw_iload 0 dX7_happens_138 rfl ?_
        refine mw_if_eq (tgt := 158) dX7_happens_140 (by decide) ?_ ?_
        · refine mw_iconst (v := (0 : Int32)) dX7_happens_158 (by decide) ?_
          exact mw_zret (by decide) dX7_happens_159
        · refine mw_aload_n 1 dX7_happens_143 rfl rfl ?_
          refine gf_RX7_19 hy0 dX7_happens_144 ?_
          refine mw_aload_n 1 dX7_happens_147 rfl rfl ?_
          refine gf_RX7_28 hy0 dX7_happens_148 ?_
          refine mw_icmp_lt (tgt := 158) dX7_happens_151 (by decide) ?_ ?_
          · refine mw_iconst (v := (0 : Int32)) dX7_happens_158 (by decide) ?_
            exact mw_zret (by decide) dX7_happens_159
          · refine mw_iconst (v := (1 : Int32)) dX7_happens_154 (by decide) ?_
            refine mw_goto (tgt := 159) dX7_happens_155 (by decide) ?_
            exact mw_zret (by decide) dX7_happens_159
      · refine mw_ite (fun h4 => ?_) (fun h4 => ?_)
        · refine mw_tab (tgt := 160) h4 dX7_happens_46 (by decide) (by decide) rfl (by decide) ?_
          refine mw_iload 0 dX7_happens_160 rfl ?_
          refine mw_if_eq (tgt := 180) dX7_happens_162 (by decide) ?_ ?_
          · refine mw_iconst (v := (0 : Int32)) dX7_happens_180 (by decide) ?_
            exact mw_zret (by decide) dX7_happens_181
          · refine mw_aload_n 1 dX7_happens_165 rfl rfl ?_
            refine gf_RX7_19 hy0 dX7_happens_166 ?_
            refine mw_aload_n 1 dX7_happens_169 rfl rfl ?_
            refine gf_RX7_28 hy0 dX7_happens_170 ?_
            refine mw_icmp_ge (tgt := 180) dX7_happens_173 (by decide) ?_ ?_
            · refine mw_iconst (v := (0 : Int32)) dX7_happens_180 (by decide) ?_
              exact mw_zret (by decide) dX7_happens_181
            · refine mw_iconst (v := (1 : Int32)) dX7_happens_176 (by decide) ?_
              refine mw_goto (tgt := 181) dX7_happens_177 (by decide) ?_
              exact mw_zret (by decide) dX7_happens_181
        · refine mw_ite (fun h5 => ?_) (fun h5 => ?_)
          · refine mw_tab (tgt := 182) h5 dX7_happens_46 (by decide) (by decide) rfl (by decide) ?_
            refine mw_iload 0 dX7_happens_182 rfl ?_
            refine mw_if_eq (tgt := 198) dX7_happens_184 (by decide) ?_ ?_
            · refine mw_iconst (v := (0 : Int32)) dX7_happens_198 (by decide) ?_
              exact mw_zret (by decide) dX7_happens_199
            · refine mw_aload_n 1 dX7_happens_187 rfl rfl ?_
              refine gf_RX7_31 hy0 dX7_happens_188 ?_
              refine mw_if_ne (tgt := 198) dX7_happens_191 (by decide) ?_ ?_
              · refine mw_iconst (v := (1 : Int32)) dX7_happens_194 (by decide) ?_
                refine mw_goto (tgt := 199) dX7_happens_195 (by decide) ?_
                exact mw_zret (by decide) dX7_happens_199
              · refine mw_iconst (v := (0 : Int32)) dX7_happens_198 (by decide) ?_
                exact mw_zret (by decide) dX7_happens_199
          · refine mw_ite (fun h6 => ?_) (fun h6 => ?_)
            · refine mw_tab (tgt := 200) h6 dX7_happens_46 (by decide) (by decide) rfl (by decide) ?_
              refine mw_iload 5 dX7_happens_200 rfl ?_
              refine mw_aload_n 1 dX7_happens_202 rfl rfl ?_
              refine gf_RX7_22 hy0 dX7_happens_203 ?_
              refine mw_aload_n 1 dX7_happens_206 rfl rfl ?_
              refine gf_RX7_35 hy0 dX7_happens_207 ?_
              refine mw_callSN (t_X11_isIn X l y4 (S.1 y0 5) (S.1 y0 6) S) cd_X11_isIn lk_RX7_38 sn_X11_isIn in_RX11 de_X11_isIn ⟨rfl, rfl⟩ ⟨Nat.le_of_ble_eq_true rfl, Nat.le_of_ble_eq_true rfl⟩ rfl rfl ⟨Nat.le_of_ble_eq_true rfl, Nat.le_of_ble_eq_true rfl⟩ (Nat.le_of_ble_eq_true rfl) dX7_happens_210 (fun r7 S8 => ?_)
              refine mw_eq (st' := [.int r7]) rfl rfl ?_
              refine mw_if_eq (tgt := 235) dX7_happens_213 (by decide) ?_ ?_
              · refine mw_iconst (v := (0 : Int32)) dX7_happens_235 (by decide) ?_
                exact mw_zret (by decide) dX7_happens_236
              · refine mw_iload_n 4 dX7_happens_216 rfl rfl ?_
                refine mw_aload_n 1 dX7_happens_217 rfl rfl ?_
                refine gf_RX7_22 hy0 dX7_happens_218 ?_
                refine mw_aload_n 1 dX7_happens_221 rfl rfl ?_
                refine gf_RX7_35 hy0 dX7_happens_222 ?_
                refine mw_callSN (t_X11_isIn X l y3 (S8.1 y0 5) (S8.1 y0 6) S8) cd_X11_isIn lk_RX7_38 sn_X11_isIn in_RX11 de_X11_isIn ⟨rfl, rfl⟩ ⟨Nat.le_of_ble_eq_true rfl, Nat.le_of_ble_eq_true rfl⟩ rfl rfl ⟨Nat.le_of_ble_eq_true rfl, Nat.le_of_ble_eq_true rfl⟩ (Nat.le_of_ble_eq_true rfl) dX7_happens_225 (fun r9 S10 => ?_)
                refine mw_eq (st' := [.int r9]) rfl rfl ?_
                refine mw_if_ne (tgt := 235) dX7_happens_228 (by decide) ?_ ?_
                · refine mw_iconst (v := (1 : Int32)) dX7_happens_231 (by decide) ?_
                  refine mw_goto (tgt := 236) dX7_happens_232 (by decide) ?_
                  exact mw_zret (by decide) dX7_happens_236
                · refine mw_iconst (v := (0 : Int32)) dX7_happens_235 (by decide) ?_
                  exact mw_zret (by decide) dX7_happens_236
            · refine mw_ite (fun h11 => ?_) (fun h11 => ?_)
              · refine mw_tab (tgt := 237) h11 dX7_happens_46 (by decide) (by decide) rfl (by decide) ?_
                refine mw_iload_n 4 dX7_happens_237 rfl rfl ?_
                refine mw_aload_n 1 dX7_happens_238 rfl rfl ?_
                refine gf_RX7_22 hy0 dX7_happens_239 ?_
                refine mw_aload_n 1 dX7_happens_242 rfl rfl ?_
                refine gf_RX7_35 hy0 dX7_happens_243 ?_
                refine mw_callSN (t_X11_isIn X l y3 (S.1 y0 5) (S.1 y0 6) S) cd_X11_isIn lk_RX7_38 sn_X11_isIn in_RX11 de_X11_isIn ⟨rfl, rfl⟩ ⟨Nat.le_of_ble_eq_true rfl, Nat.le_of_ble_eq_true rfl⟩ rfl rfl ⟨Nat.le_of_ble_eq_true rfl, Nat.le_of_ble_eq_true rfl⟩ (Nat.le_of_ble_eq_true rfl) dX7_happens_246 (fun r12 S13 => ?_)
                refine mw_eq (st' := [.int r12]) rfl rfl ?_
                refine mw_if_eq (tgt := 272) dX7_happens_249 (by decide) ?_ ?_
                · refine mw_iconst (v := (0 : Int32)) dX7_happens_272 (by decide) ?_
                  exact mw_zret (by decide) dX7_happens_273
                · refine mw_iload 5 dX7_happens_252 rfl ?_
                  refine mw_aload_n 1 dX7_happens_254 rfl rfl ?_
                  refine gf_RX7_22 hy0 dX7_happens_255 ?_
                  refine mw_aload_n 1 dX7_happens_258 rfl rfl ?_
                  refine gf_RX7_35 hy0 dX7_happens_259 ?_
                  refine mw_callSN (t_X11_isIn X l y4 (S13.1 y0 5) (S13.1 y0 6) S13) cd_X11_isIn lk_RX7_38 sn_X11_isIn in_RX11 de_X11_isIn ⟨rfl, rfl⟩ ⟨Nat.le_of_ble_eq_true rfl, Nat.le_of_ble_eq_true rfl⟩ rfl rfl ⟨Nat.le_of_ble_eq_true rfl, Nat.le_of_ble_eq_true rfl⟩ (Nat.le_of_ble_eq_true rfl) dX7_happens_262 (fun r14 S15 => ?_)
                  refine mw_eq (st' := [.int r14]) rfl rfl ?_
                  refine mw_if_ne (tgt := 272) dX7_happens_265 (by decide) ?_ ?_
                  · refine mw_iconst (v := (1 : Int32)) dX7_happens_268 (by decide) ?_
                    refine mw_goto (tgt := 273) dX7_happens_269 (by decide) ?_
                    exact mw_zret (by decide) dX7_happens_273
                  · refine mw_iconst (v := (0 : Int32)) dX7_happens_272 (by decide) ?_
                    exact mw_zret (by decide) dX7_happens_273
              · refine mw_ite (fun h16 => ?_) (fun h16 => ?_)
                · refine mw_tab (tgt := 274) h16 dX7_happens_46 (by decide) (by decide) rfl (by decide) ?_
                  refine mw_iload 5 dX7_happens_274 rfl ?_
                  refine mw_aload_n 1 dX7_happens_276 rfl rfl ?_
                  refine gf_RX7_42 hy0 dX7_happens_277 ?_
                  refine mw_iload_n 3 dX7_happens_280 rfl rfl ?_
                  refine mw_callSN (t_X11_numberOn X l (S.1 y0 4) y2 S) cd_X11_numberOn lk_RX7_15 sn_X11_numberOn in_RX11 de_X11_numberOn ⟨rfl, rfl⟩ ⟨Nat.le_of_ble_eq_true rfl, Nat.le_of_ble_eq_true rfl⟩ rfl rfl ⟨Nat.le_of_ble_eq_true rfl, Nat.le_of_ble_eq_true rfl⟩ (Nat.le_of_ble_eq_true rfl) dX7_happens_281 (fun r17 S18 => ?_)
                  refine mw_eq (st' := [.int r17, .int y4]) rfl rfl ?_
                  refine mw_icmp_ne (tgt := 303) dX7_happens_284 (by decide) ?_ ?_
                  · refine mw_iload_n 4 dX7_happens_287 rfl rfl ?_
                    refine mw_aload_n 1 dX7_happens_288 rfl rfl ?_
                    refine gf_RX7_42 hy0 dX7_happens_289 ?_
                    refine mw_iload_n 2 dX7_happens_292 rfl rfl ?_
                    refine mw_callSN (t_X11_numberOn X l (S18.1 y0 4) y1 S18) cd_X11_numberOn lk_RX7_15 sn_X11_numberOn in_RX11 de_X11_numberOn ⟨rfl, rfl⟩ ⟨Nat.le_of_ble_eq_true rfl, Nat.le_of_ble_eq_true rfl⟩ rfl rfl ⟨Nat.le_of_ble_eq_true rfl, Nat.le_of_ble_eq_true rfl⟩ (Nat.le_of_ble_eq_true rfl) dX7_happens_293 (fun r19 S20 => ?_)
                    refine mw_eq (st' := [.int r19, .int y3]) rfl rfl ?_
                    refine mw_icmp_eq (tgt := 303) dX7_happens_296 (by decide) ?_ ?_
                    · refine mw_iconst (v := (0 : Int32)) dX7_happens_303 (by decide) ?_
                      exact mw_zret (by decide) dX7_happens_304
                    · refine mw_iconst (v := (1 : Int32)) dX7_happens_299 (by decide) ?_
                      refine mw_goto (tgt := 304) dX7_happens_300 (by decide) ?_
                      exact mw_zret (by decide) dX7_happens_304
                  · refine mw_iconst (v := (0 : Int32)) dX7_happens_303 (by decide) ?_
                    exact mw_zret (by decide) dX7_happens_304
                · refine mw_tabD (tgt := 305) dX7_happens_46 (by have eh1 : ¬ (S.1 y0 0).toInt = 0 := fun q => h1 (Int32.toInt_inj.mp (q.trans (by decide))); have eh2 : ¬ (S.1 y0 0).toInt = 1 := fun q => h2 (Int32.toInt_inj.mp (q.trans (by decide))); have eh3 : ¬ (S.1 y0 0).toInt = 2 := fun q => h3 (Int32.toInt_inj.mp (q.trans (by decide))); have eh4 : ¬ (S.1 y0 0).toInt = 3 := fun q => h4 (Int32.toInt_inj.mp (q.trans (by decide))); have eh5 : ¬ (S.1 y0 0).toInt = 4 := fun q => h5 (Int32.toInt_inj.mp (q.trans (by decide))); have eh6 : ¬ (S.1 y0 0).toInt = 5 := fun q => h6 (Int32.toInt_inj.mp (q.trans (by decide))); have eh11 : ¬ (S.1 y0 0).toInt = 6 := fun q => h11 (Int32.toInt_inj.mp (q.trans (by decide))); have eh16 : ¬ (S.1 y0 0).toInt = 7 := fun q => h16 (Int32.toInt_inj.mp (q.trans (by decide))); omega) (by decide) ?_
                  refine mw_iconst (v := (0 : Int32)) dX7_happens_305 (by decide) ?_
                  exact mw_zret (by decide) dX7_happens_306
def f_X7_happens_39 (y0 : Nat) (y1 : Int32) (y2 : Int32) (y3 : Int32) (y4 : Int32) (S : mM) : Option (Int32 × mM) :=
  f_X7_happens_40 y0 y1 y2 y3 y4 (0 : Int32) S
set_option maxRecDepth 100000 in
set_option maxHeartbeats 4000000 in
theorem w_X7_happens_39 (X : mX) (l : Launch) (y0 : Nat) (y1 : Int32) (y2 : Int32) (y3 : Int32) (y4 : Int32) (S : mM) (hy0 : mKind y0 = 7) : MW X viI rm_X7_happens cX7_happens RX7 6 (some .boolean) l S [(0, .ref (X.2.1 y0)), (1, .int y1), (2, .int y2), (3, .int y3), (4, .int y4)] [] 39 (f_X7_happens_39 y0 y1 y2 y3 y4 S) := by
  unfold f_X7_happens_39
  refine mw_iconst (v := (0 : Int32)) dX7_happens_39 (by decide) ?_
  exact mw_sub [0, 1, 2, 3, 4] rfl (w_X7_happens_40 X l y0 y1 y2 y3 y4 (0 : Int32) S hy0)
def f_X7_happens (t : Nat) (p1 : Int32) (p2 : Int32) (S : mM) : Option (Int32 × mM) :=
  mBind (f_X11_numberOn (S.1 t 3) p1 S) fun r1 S2 =>
  mBind (f_X11_numberOn (S2.1 t 3) p2 S2) fun r3 S4 =>
  if (S4.1 t 8) ≤ 0 then
    f_X7_happens_39 t p1 p2 r1 r3 S4
  else
    if (S4.1 t 5) ≤ r3 then
      f_X7_happens_39 t p1 p2 r1 r3 S4
    else
      f_X7_happens_40 t p1 p2 r1 r3 (1 : Int32) S4
set_option maxRecDepth 100000 in
set_option maxHeartbeats 4000000 in
theorem w_X7_happens (X : mX) (l : Launch) (t : Nat) (p1 : Int32) (p2 : Int32) (S : mM) (ht : mKind t = 7) : MW X viI rm_X7_happens cX7_happens RX7 6 (some .boolean) l S [(0, .ref (X.2.1 t)), (1, .int p1), (2, .int p2)] [] 0 (f_X7_happens t p1 p2 S) := by
  unfold f_X7_happens
  refine mw_aload_n 0 dX7_happens_0 rfl rfl ?_
  refine gf_RX7_9 ht dX7_happens_1 ?_
  refine mw_iload_n 1 dX7_happens_4 rfl rfl ?_
  refine mw_callSN (t_X11_numberOn X l (S.1 t 3) p1 S) cd_X11_numberOn lk_RX7_15 sn_X11_numberOn in_RX11 de_X11_numberOn ⟨rfl, rfl⟩ ⟨Nat.le_of_ble_eq_true rfl, Nat.le_of_ble_eq_true rfl⟩ rfl rfl ⟨Nat.le_of_ble_eq_true rfl, Nat.le_of_ble_eq_true rfl⟩ (Nat.le_of_ble_eq_true rfl) dX7_happens_5 (fun r1 S2 => ?_)
  refine mw_eq (st' := [.int r1]) rfl rfl ?_
  refine mw_istore_n (lv' := [(3, .int r1), (0, .ref (X.2.1 t)), (1, .int p1), (2, .int p2)]) dX7_happens_8 rfl (by decide) rfl ?_
  refine mw_aload_n 1 dX7_happens_9 rfl rfl ?_
  refine gf_RX7_9 ht dX7_happens_10 ?_
  refine mw_iload_n 3 dX7_happens_13 rfl rfl ?_
  refine mw_callSN (t_X11_numberOn X l (S2.1 t 3) p2 S2) cd_X11_numberOn lk_RX7_15 sn_X11_numberOn in_RX11 de_X11_numberOn ⟨rfl, rfl⟩ ⟨Nat.le_of_ble_eq_true rfl, Nat.le_of_ble_eq_true rfl⟩ rfl rfl ⟨Nat.le_of_ble_eq_true rfl, Nat.le_of_ble_eq_true rfl⟩ (Nat.le_of_ble_eq_true rfl) dX7_happens_14 (fun r3 S4 => ?_)
  refine mw_eq (st' := [.int r3]) rfl rfl ?_
  refine mw_istore (lv' := [(4, .int r3), (3, .int r1), (0, .ref (X.2.1 t)), (1, .int p1), (2, .int p2)]) dX7_happens_17 (by decide) rfl ?_
  refine mw_aload_n 2 dX7_happens_19 rfl rfl ?_
  refine gf_RX7_19 ht dX7_happens_20 ?_
  refine mw_if_le (tgt := 39) dX7_happens_23 (by decide) ?_ ?_
  · exact mw_sub [2, 3, 4, 1, 0] rfl (w_X7_happens_39 X l t p1 p2 r1 r3 S4 ht)
  · refine mw_iload 0 dX7_happens_26 rfl ?_
    refine mw_aload_n 2 dX7_happens_28 rfl rfl ?_
    refine gf_RX7_22 ht dX7_happens_29 ?_
    refine mw_icmp_ge (tgt := 39) dX7_happens_32 (by decide) ?_ ?_
    · exact mw_sub [2, 3, 4, 1, 0] rfl (w_X7_happens_39 X l t p1 p2 r1 r3 S4 ht)
    · refine mw_iconst (v := (1 : Int32)) dX7_happens_35 (by decide) ?_
      refine mw_goto (tgt := 40) dX7_happens_36 (by decide) ?_
      exact mw_sub [2, 3, 4, 1, 0] rfl (w_X7_happens_40 X l t p1 p2 r1 r3 (1 : Int32) S4 ht)
theorem t_X7_happens (X : mX) (l : Launch) (t : Nat) (p1 : Int32) (p2 : Int32) (S : mM) (ht : mKind t = 7) : mMet X viI yX7_happens cX7_happens 6 (some .boolean) rm_X7_happens [.ref (X.2.1 t), .int p1, .int p2] l S (f_X7_happens t p1 p2 S) :=
  mMet_of (by decide +kernel) rfl (Nat.le_of_ble_eq_true rfl) (w_X7_happens X l t p1 p2 S ht)
