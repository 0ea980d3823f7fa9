theorem mk_0 : mKind 0 = 11 := rfl
theorem ml_0 : mLen 0 = 0 := rfl
theorem mk_1 : mKind 1 = 9 := rfl
theorem ml_1 : mLen 1 = 0 := rfl
theorem mk_2 : mKind 2 = 20 := rfl
theorem ml_2 : mLen 2 = 200 := rfl
theorem mk_3 : mKind 3 = 21 := rfl
theorem ml_3 : mLen 3 = 201 := rfl
theorem mk_4 : mKind 4 = 21 := rfl
theorem ml_4 : mLen 4 = 201 := rfl
theorem mk_5 : mKind 5 = 21 := rfl
theorem ml_5 : mLen 5 = 201 := rfl
theorem mk_6 : mKind 6 = 1 := rfl
theorem ml_6 : mLen 6 = 0 := rfl
theorem mk_7 : mKind 7 = 4 := rfl
theorem ml_7 : mLen 7 = 0 := rfl
theorem mk_8 : mKind 8 = 2 := rfl
theorem ml_8 : mLen 8 = 0 := rfl
theorem mk_9 : mKind 9 = 21 := rfl
theorem ml_9 : mLen 9 = 256 := rfl
theorem mk_10 : mKind 10 = 8 := rfl
theorem ml_10 : mLen 10 = 0 := rfl
theorem mk_11 : mKind 11 = 25 := rfl
theorem ml_11 : mLen 11 = 8 := rfl
theorem mk_12 : mKind 12 = 5 := rfl
theorem ml_12 : mLen 12 = 0 := rfl
theorem mk_13 : mKind 13 = 21 := rfl
theorem ml_13 : mLen 13 = 201 := rfl
theorem mk_14 : mKind 14 = 5 := rfl
theorem ml_14 : mLen 14 = 0 := rfl
theorem mk_15 : mKind 15 = 21 := rfl
theorem ml_15 : mLen 15 = 201 := rfl
theorem mk_16 : mKind 16 = 5 := rfl
theorem ml_16 : mLen 16 = 0 := rfl
theorem mk_17 : mKind 17 = 21 := rfl
theorem ml_17 : mLen 17 = 201 := rfl
theorem mk_18 : mKind 18 = 5 := rfl
theorem ml_18 : mLen 18 = 0 := rfl
theorem mk_19 : mKind 19 = 21 := rfl
theorem ml_19 : mLen 19 = 201 := rfl
theorem mk_20 : mKind 20 = 5 := rfl
theorem ml_20 : mLen 20 = 0 := rfl
theorem mk_21 : mKind 21 = 21 := rfl
theorem ml_21 : mLen 21 = 201 := rfl
theorem mk_22 : mKind 22 = 5 := rfl
theorem ml_22 : mLen 22 = 0 := rfl
theorem mk_23 : mKind 23 = 21 := rfl
theorem ml_23 : mLen 23 = 201 := rfl
theorem mk_24 : mKind 24 = 5 := rfl
theorem ml_24 : mLen 24 = 0 := rfl
theorem mk_25 : mKind 25 = 21 := rfl
theorem ml_25 : mLen 25 = 201 := rfl
theorem mk_26 : mKind 26 = 5 := rfl
theorem ml_26 : mLen 26 = 0 := rfl
theorem mk_27 : mKind 27 = 21 := rfl
theorem ml_27 : mLen 27 = 201 := rfl
theorem mk_28 : mKind 28 = 0 := rfl
theorem ml_28 : mLen 28 = 0 := rfl
theorem mk_29 : mKind 29 = 27 := rfl
theorem ml_29 : mLen 29 = 6 := rfl
theorem mk_30 : mKind 30 = 7 := rfl
theorem ml_30 : mLen 30 = 0 := rfl
theorem mk_31 : mKind 31 = 7 := rfl
theorem ml_31 : mLen 31 = 0 := rfl
theorem mk_32 : mKind 32 = 7 := rfl
theorem ml_32 : mLen 32 = 0 := rfl
theorem mk_33 : mKind 33 = 7 := rfl
theorem ml_33 : mLen 33 = 0 := rfl
theorem mk_34 : mKind 34 = 7 := rfl
theorem ml_34 : mLen 34 = 0 := rfl
theorem mk_35 : mKind 35 = 7 := rfl
theorem ml_35 : mLen 35 = 0 := rfl
theorem mk_36 : mKind 36 = 0 := rfl
theorem ml_36 : mLen 36 = 0 := rfl
theorem mk_37 : mKind 37 = 27 := rfl
theorem ml_37 : mLen 37 = 6 := rfl
theorem mk_38 : mKind 38 = 7 := rfl
theorem ml_38 : mLen 38 = 0 := rfl
theorem mk_39 : mKind 39 = 7 := rfl
theorem ml_39 : mLen 39 = 0 := rfl
theorem mk_40 : mKind 40 = 7 := rfl
theorem ml_40 : mLen 40 = 0 := rfl
theorem mk_41 : mKind 41 = 7 := rfl
theorem ml_41 : mLen 41 = 0 := rfl
theorem mk_42 : mKind 42 = 7 := rfl
theorem ml_42 : mLen 42 = 0 := rfl
theorem mk_43 : mKind 43 = 7 := rfl
theorem ml_43 : mLen 43 = 0 := rfl
theorem mk_44 : mKind 44 = 26 := rfl
theorem ml_44 : mLen 44 = 4 := rfl
theorem mk_45 : mKind 45 = 6 := rfl
theorem ml_45 : mLen 45 = 0 := rfl
theorem mk_46 : mKind 46 = 21 := rfl
theorem ml_46 : mLen 46 = 64 := rfl
theorem mk_47 : mKind 47 = 6 := rfl
theorem ml_47 : mLen 47 = 0 := rfl
theorem mk_48 : mKind 48 = 21 := rfl
theorem ml_48 : mLen 48 = 64 := rfl
theorem mk_49 : mKind 49 = 6 := rfl
theorem ml_49 : mLen 49 = 0 := rfl
theorem mk_50 : mKind 50 = 21 := rfl
theorem ml_50 : mLen 50 = 64 := rfl
theorem mk_51 : mKind 51 = 6 := rfl
theorem ml_51 : mLen 51 = 0 := rfl
theorem mk_52 : mKind 52 = 21 := rfl
theorem ml_52 : mLen 52 = 64 := rfl
theorem mk_53 : mKind 53 = 24 := rfl
theorem ml_53 : mLen 53 = 4 := rfl
theorem mk_54 : mKind 54 = 3 := rfl
theorem ml_54 : mLen 54 = 0 := rfl
theorem mk_55 : mKind 55 = 22 := rfl
theorem ml_55 : mLen 55 = 201 := rfl
theorem mk_56 : mKind 56 = 23 := rfl
theorem ml_56 : mLen 56 = 201 := rfl
theorem mk_57 : mKind 57 = 3 := rfl
theorem ml_57 : mLen 57 = 0 := rfl
theorem mk_58 : mKind 58 = 22 := rfl
theorem ml_58 : mLen 58 = 201 := rfl
theorem mk_59 : mKind 59 = 23 := rfl
theorem ml_59 : mLen 59 = 201 := rfl
theorem mk_60 : mKind 60 = 3 := rfl
theorem ml_60 : mLen 60 = 0 := rfl
theorem mk_61 : mKind 61 = 22 := rfl
theorem ml_61 : mLen 61 = 201 := rfl
theorem mk_62 : mKind 62 = 23 := rfl
theorem ml_62 : mLen 62 = 201 := rfl
theorem mk_63 : mKind 63 = 3 := rfl
theorem ml_63 : mLen 63 = 0 := rfl
theorem mk_64 : mKind 64 = 22 := rfl
theorem ml_64 : mLen 64 = 201 := rfl
theorem mk_65 : mKind 65 = 23 := rfl
theorem ml_65 : mLen 65 = 201 := rfl
theorem mk_66 : mKind 66 = 10 := rfl
theorem ml_66 : mLen 66 = 0 := rfl
theorem mk_67 : mKind 67 = 21 := rfl
theorem ml_67 : mLen 67 = 20 := rfl
theorem mk_68 : mKind 68 = 21 := rfl
theorem ml_68 : mLen 68 = 20 := rfl
theorem mk_69 : mKind 69 = 12 := rfl
theorem ml_69 : mLen 69 = 0 := rfl
theorem mk_70 : mKind 70 = 21 := rfl
theorem ml_70 : mLen 70 = 200 := rfl
theorem mk_71 : mKind 71 = 21 := rfl
theorem ml_71 : mLen 71 = 33000 := rfl
theorem mk_72 : mKind 72 = 21 := rfl
theorem ml_72 : mLen 72 = 6 := rfl
theorem mk_73 : mKind 73 = 21 := rfl
theorem ml_73 : mLen 73 = 6 := rfl
theorem mk_74 : mKind 74 = 21 := rfl
theorem ml_74 : mLen 74 = 6 := rfl
theorem mk_75 : mKind 75 = 21 := rfl
theorem ml_75 : mLen 75 = 6 := rfl
theorem mk_76 : mKind 76 = 21 := rfl
theorem ml_76 : mLen 76 = 6 := rfl
theorem mk_77 : mKind 77 = 21 := rfl
theorem ml_77 : mLen 77 = 6 := rfl
theorem mk_78 : mKind 78 = 21 := rfl
theorem ml_78 : mLen 78 = 6 := rfl
theorem mk_79 : mKind 79 = 21 := rfl
theorem ml_79 : mLen 79 = 6 := rfl
theorem mk_80 : mKind 80 = 21 := rfl
theorem ml_80 : mLen 80 = 6 := rfl
theorem mk_81 : mKind 81 = 21 := rfl
theorem ml_81 : mLen 81 = 6 := rfl
theorem mk_82 : mKind 82 = 21 := rfl
theorem ml_82 : mLen 82 = 6 := rfl
theorem mk_83 : mKind 83 = 21 := rfl
theorem ml_83 : mLen 83 = 6 := rfl
theorem mk_84 : mKind 84 = 21 := rfl
theorem ml_84 : mLen 84 = 8 := rfl
theorem mk_85 : mKind 85 = 21 := rfl
theorem ml_85 : mLen 85 = 8 := rfl
theorem mk_86 : mKind 86 = 21 := rfl
theorem ml_86 : mLen 86 = 8 := rfl
theorem mk_87 : mKind 87 = 21 := rfl
theorem ml_87 : mLen 87 = 1608 := rfl
theorem mk_88 : mKind 88 = 21 := rfl
theorem ml_88 : mLen 88 = 4 := rfl
theorem mk_89 : mKind 89 = 21 := rfl
theorem ml_89 : mLen 89 = 4 := rfl
theorem mk_90 : mKind 90 = 21 := rfl
theorem ml_90 : mLen 90 = 256 := rfl
theorem mk_91 : mKind 91 = 21 := rfl
theorem ml_91 : mLen 91 = 4 := rfl
theorem mk_92 : mKind 92 = 22 := rfl
theorem ml_92 : mLen 92 = 804 := rfl
theorem mk_93 : mKind 93 = 23 := rfl
theorem ml_93 : mLen 93 = 804 := rfl
theorem mk_94 : mKind 94 = 22 := rfl
theorem ml_94 : mLen 94 = 201 := rfl
theorem mk_95 : mKind 95 = 23 := rfl
theorem ml_95 : mLen 95 = 201 := rfl
theorem mk_96 : mKind 96 = 21 := rfl
theorem ml_96 : mLen 96 = 20 := rfl
theorem mk_97 : mKind 97 = 21 := rfl
theorem ml_97 : mLen 97 = 20 := rfl
theorem ko_0_0 {a : Nat} (h : mKind a = 0) : mKind (a + 1) = 27 := (by decide : ∀ a, a < 98 → mKind a = 0 → mKind (a + 1) = 27) a (mKind_lt h (by decide)) h
theorem lo_0_0 {a : Nat} (h : mKind a = 0) : mLen (a + 1) = 6 := (by decide : ∀ a, a < 98 → mKind a = 0 → mLen (a + 1) = 6) a (mKind_lt h (by decide)) h
theorem ko_3_0 {a : Nat} (h : mKind a = 3) : mKind (a + 1) = 22 := (by decide : ∀ a, a < 98 → mKind a = 3 → mKind (a + 1) = 22) a (mKind_lt h (by decide)) h
theorem lo_3_0 {a : Nat} (h : mKind a = 3) : mLen (a + 1) = 201 := (by decide : ∀ a, a < 98 → mKind a = 3 → mLen (a + 1) = 201) a (mKind_lt h (by decide)) h
theorem ko_3_1 {a : Nat} (h : mKind a = 3) : mKind (a + 2) = 23 := (by decide : ∀ a, a < 98 → mKind a = 3 → mKind (a + 2) = 23) a (mKind_lt h (by decide)) h
theorem lo_3_1 {a : Nat} (h : mKind a = 3) : mLen (a + 2) = 201 := (by decide : ∀ a, a < 98 → mKind a = 3 → mLen (a + 2) = 201) a (mKind_lt h (by decide)) h
theorem ko_5_0 {a : Nat} (h : mKind a = 5) : mKind (a + 1) = 21 := (by decide : ∀ a, a < 98 → mKind a = 5 → mKind (a + 1) = 21) a (mKind_lt h (by decide)) h
theorem lo_5_0 {a : Nat} (h : mKind a = 5) : mLen (a + 1) = 201 := (by decide : ∀ a, a < 98 → mKind a = 5 → mLen (a + 1) = 201) a (mKind_lt h (by decide)) h
theorem ko_6_0 {a : Nat} (h : mKind a = 6) : mKind (a + 1) = 21 := (by decide : ∀ a, a < 98 → mKind a = 6 → mKind (a + 1) = 21) a (mKind_lt h (by decide)) h
theorem lo_6_0 {a : Nat} (h : mKind a = 6) : mLen (a + 1) = 64 := (by decide : ∀ a, a < 98 → mKind a = 6 → mLen (a + 1) = 64) a (mKind_lt h (by decide)) h
theorem kr_24 {X : mX} {S : mM} {a : Nat} (h : mKind a = 24) (hn : mLen a = 4) : mRow X 24 a (S.1 a) (S.2.1 a) (S.2.2 a) = .inl (X.2.2.1 4, 4, .inr (.inr (.inr (.inr (fun i => some (X.2.1 (a + 1 + 3 * i))))))) := by simp only [mRow, hn]
theorem ke_24 {a i : Nat} (h : mKind a = 24) (hi : i < 4) : mKind (a + 1 + 3 * i) = 3 := (by decide : ∀ a, a < 98 → mKind a = 24 → ∀ i, i < 4 → mKind (a + 1 + 3 * i) = 3) a (mKind_lt h (by decide)) h i hi
theorem kr_25 {X : mX} {S : mM} {a : Nat} (h : mKind a = 25) (hn : mLen a = 8) : mRow X 25 a (S.1 a) (S.2.1 a) (S.2.2 a) = .inl (X.2.2.1 5, 8, .inr (.inr (.inr (.inr (fun i => some (X.2.1 (a + 1 + 2 * i))))))) := by simp only [mRow, hn]
theorem ke_25 {a i : Nat} (h : mKind a = 25) (hi : i < 8) : mKind (a + 1 + 2 * i) = 5 := (by decide : ∀ a, a < 98 → mKind a = 25 → ∀ i, i < 8 → mKind (a + 1 + 2 * i) = 5) a (mKind_lt h (by decide)) h i hi
theorem kr_26 {X : mX} {S : mM} {a : Nat} (h : mKind a = 26) (hn : mLen a = 4) : mRow X 26 a (S.1 a) (S.2.1 a) (S.2.2 a) = .inl (X.2.2.1 6, 4, .inr (.inr (.inr (.inr (fun i => some (X.2.1 (a + 1 + 2 * i))))))) := by simp only [mRow, hn]
theorem ke_26 {a i : Nat} (h : mKind a = 26) (hi : i < 4) : mKind (a + 1 + 2 * i) = 6 := (by decide : ∀ a, a < 98 → mKind a = 26 → ∀ i, i < 4 → mKind (a + 1 + 2 * i) = 6) a (mKind_lt h (by decide)) h i hi
theorem kr_27 {X : mX} {S : mM} {a : Nat} (h : mKind a = 27) (hn : mLen a = 6) : mRow X 27 a (S.1 a) (S.2.1 a) (S.2.2 a) = .inl (X.2.2.1 7, 6, .inr (.inr (.inr (.inr (fun i => some (X.2.1 (a + 1 + i))))))) := by simp only [mRow, hn]
theorem ke_27 {a i : Nat} (h : mKind a = 27) (hi : i < 6) : mKind (a + 1 + i) = 7 := (by decide : ∀ a, a < 98 → mKind a = 27 → ∀ i, i < 6 → mKind (a + 1 + i) = 7) a (mKind_lt h (by decide)) h i hi
def mFuel : Nat := 100000
theorem inW_0 : ∀ w ∈ u_ws RX0 TX0 2, w ∈ mW := fun w h => mW_of ((by decide +kernel : ∀ w ∈ u_ws RX0 TX0 2, w ∈ lw_tbl) w h) ((by decide +kernel : ∀ w ∈ u_ws RX0 TX0 2, goodWord w = true) w h)
theorem inW_1 : ∀ w ∈ u_ws RX1 TX1 5, w ∈ mW := fun w h => mW_of ((by decide +kernel : ∀ w ∈ u_ws RX1 TX1 5, w ∈ lw_tbl) w h) ((by decide +kernel : ∀ w ∈ u_ws RX1 TX1 5, goodWord w = true) w h)
theorem inW_2 : ∀ w ∈ u_ws RX2 TX2 2, w ∈ mW := fun w h => mW_of ((by decide +kernel : ∀ w ∈ u_ws RX2 TX2 2, w ∈ lw_tbl) w h) ((by decide +kernel : ∀ w ∈ u_ws RX2 TX2 2, goodWord w = true) w h)
theorem inW_3 : ∀ w ∈ u_ws RX3 TX3 3, w ∈ mW := fun w h => mW_of ((by decide +kernel : ∀ w ∈ u_ws RX3 TX3 3, w ∈ lw_tbl) w h) ((by decide +kernel : ∀ w ∈ u_ws RX3 TX3 3, goodWord w = true) w h)
theorem inW_4 : ∀ w ∈ u_ws RX4 TX4 13, w ∈ mW := fun w h => mW_of ((by decide +kernel : ∀ w ∈ u_ws RX4 TX4 13, w ∈ lw_tbl) w h) ((by decide +kernel : ∀ w ∈ u_ws RX4 TX4 13, goodWord w = true) w h)
theorem inW_5 : ∀ w ∈ u_ws RX5 TX5 4, w ∈ mW := fun w h => mW_of ((by decide +kernel : ∀ w ∈ u_ws RX5 TX5 4, w ∈ lw_tbl) w h) ((by decide +kernel : ∀ w ∈ u_ws RX5 TX5 4, goodWord w = true) w h)
theorem inW_6 : ∀ w ∈ u_ws RX6 TX6 3, w ∈ mW := fun w h => mW_of ((by decide +kernel : ∀ w ∈ u_ws RX6 TX6 3, w ∈ lw_tbl) w h) ((by decide +kernel : ∀ w ∈ u_ws RX6 TX6 3, goodWord w = true) w h)
theorem inW_7 : ∀ w ∈ u_ws RX7 TX7 10, w ∈ mW := fun w h => mW_of ((by decide +kernel : ∀ w ∈ u_ws RX7 TX7 10, w ∈ lw_tbl) w h) ((by decide +kernel : ∀ w ∈ u_ws RX7 TX7 10, goodWord w = true) w h)
theorem inW_8 : ∀ w ∈ u_ws RX8 TX8 2, w ∈ mW := fun w h => mW_of ((by decide +kernel : ∀ w ∈ u_ws RX8 TX8 2, w ∈ lw_tbl) w h) ((by decide +kernel : ∀ w ∈ u_ws RX8 TX8 2, goodWord w = true) w h)
theorem inW_9 : ∀ w ∈ u_ws RX9 TX9 6, w ∈ mW := fun w h => mW_of ((by decide +kernel : ∀ w ∈ u_ws RX9 TX9 6, w ∈ lw_tbl) w h) ((by decide +kernel : ∀ w ∈ u_ws RX9 TX9 6, goodWord w = true) w h)
theorem inW_10 : ∀ w ∈ u_ws RX10 TX10 8, w ∈ mW := fun w h => mW_of ((by decide +kernel : ∀ w ∈ u_ws RX10 TX10 8, w ∈ lw_tbl) w h) ((by decide +kernel : ∀ w ∈ u_ws RX10 TX10 8, goodWord w = true) w h)
theorem inW_11 : ∀ w ∈ u_ws RX11 TX11 7, w ∈ mW := fun w h => mW_of ((by decide +kernel : ∀ w ∈ u_ws RX11 TX11 7, w ∈ lw_tbl) w h) ((by decide +kernel : ∀ w ∈ u_ws RX11 TX11 7, goodWord w = true) w h)
theorem inW_12 : ∀ w ∈ u_ws RX12 TX12 52, w ∈ mW := fun w h => mW_of ((by decide +kernel : ∀ w ∈ u_ws RX12 TX12 52, w ∈ lw_tbl) w h) ((by decide +kernel : ∀ w ∈ u_ws RX12 TX12 52, goodWord w = true) w h)
theorem in_RX11 : Cond.initialized RX11 ∈ mW := mW_of (List.mem_append_right _ (List.mem_of_getElem? (i := 1) (by decide +kernel))) (by decide +kernel)
theorem in_RX0 : Cond.initialized RX0 ∈ mW := mW_of (List.mem_append_right _ (List.mem_of_getElem? (i := 8) (by decide +kernel))) (by decide +kernel)
theorem in_RX1 : Cond.initialized RX1 ∈ mW := mW_of (List.mem_append_right _ (List.mem_of_getElem? (i := 3) (by decide +kernel))) (by decide +kernel)
theorem in_RX2 : Cond.initialized RX2 ∈ mW := mW_of (List.mem_append_right _ (List.mem_of_getElem? (i := 5) (by decide +kernel))) (by decide +kernel)
theorem in_RX3 : Cond.initialized RX3 ∈ mW := mW_of (List.mem_append_right _ (List.mem_of_getElem? (i := 11) (by decide +kernel))) (by decide +kernel)
theorem in_RX4 : Cond.initialized RX4 ∈ mW := mW_of (List.mem_append_right _ (List.mem_of_getElem? (i := 4) (by decide +kernel))) (by decide +kernel)
theorem in_RX5 : Cond.initialized RX5 ∈ mW := mW_of (List.mem_append_right _ (List.mem_of_getElem? (i := 7) (by decide +kernel))) (by decide +kernel)
theorem in_RX6 : Cond.initialized RX6 ∈ mW := mW_of (List.mem_append_right _ (List.mem_of_getElem? (i := 10) (by decide +kernel))) (by decide +kernel)
theorem in_RX7 : Cond.initialized RX7 ∈ mW := mW_of (List.mem_append_right _ (List.mem_of_getElem? (i := 9) (by decide +kernel))) (by decide +kernel)
theorem in_RX8 : Cond.initialized RX8 ∈ mW := mW_of (List.mem_append_right _ (List.mem_of_getElem? (i := 6) (by decide +kernel))) (by decide +kernel)
theorem in_RX9 : Cond.initialized RX9 ∈ mW := mW_of (List.mem_append_right _ (List.mem_of_getElem? (i := 2) (by decide +kernel))) (by decide +kernel)
theorem in_RX10 : Cond.initialized RX10 ∈ mW := mW_of (List.mem_append_right _ (List.mem_of_getElem? (i := 12) (by decide +kernel))) (by decide +kernel)
theorem in_RX12 : Cond.initialized RX12 ∈ mW := mW_of (List.mem_append_right _ (List.mem_of_getElem? (i := 13) (by decide +kernel))) (by decide +kernel)
theorem in_RJ9 : Cond.initialized RJ9 ∈ mW := mW_of (List.mem_append_right _ (List.mem_of_getElem? (i := 18) (by decide +kernel))) (by decide +kernel)
theorem cd_X11_isIn : Cond.code yX11_isIn cX11_isIn 3 (some .boolean) ∈ mW := mW_of (List.mem_append_right _ (List.mem_of_getElem? (i := 371) (by decide +kernel))) (by decide +kernel)
theorem sn_X11_isIn : Cond.static yX11_isIn ∈ mW := mW_of (List.mem_append_right _ (List.mem_of_getElem? (i := 370) (by decide +kernel))) (by decide +kernel)
theorem de_X11_isIn : mDesc yX11_isIn 3 := by decide +kernel
abbrev rm_X11_isIn : Room := { frames := 0, cells := 0, slots := 0, locals := 0 }
theorem cd_X11_isFilled : Cond.code yX11_isFilled cX11_isFilled 2 (some .boolean) ∈ mW := mW_of (List.mem_append_right _ (List.mem_of_getElem? (i := 743) (by decide +kernel))) (by decide +kernel)
theorem im_X11_isFilled : Cond.instanceMethod yX11_isFilled ∈ mW := mW_of (List.mem_append_right _ (List.mem_of_getElem? (i := 742) (by decide +kernel))) (by decide +kernel)
theorem se_X11_isFilled : Cond.selects yX11_isFilled.cls yX11_isFilled yX11_isFilled ∈ mW := mW_of (List.mem_append_left _ (List.mem_of_getElem? (i := 21) (by decide +kernel))) (by decide +kernel)
theorem de_X11_isFilled : mDesc yX11_isFilled 1 := by decide +kernel
abbrev rm_X11_isFilled : Room := { frames := 1, cells := 0, slots := 0, locals := 22 }
theorem cd_X3_countGaps : Cond.code yX3_countGaps cX3_countGaps 3 (some .int) ∈ mW := mW_of (List.mem_append_right _ (List.mem_of_getElem? (i := 793) (by decide +kernel))) (by decide +kernel)
theorem im_X3_countGaps : Cond.instanceMethod yX3_countGaps ∈ mW := mW_of (List.mem_append_right _ (List.mem_of_getElem? (i := 791) (by decide +kernel))) (by decide +kernel)
theorem se_X3_countGaps : Cond.selects yX3_countGaps.cls yX3_countGaps yX3_countGaps ∈ mW := mW_of (List.mem_append_right _ (List.mem_of_getElem? (i := 792) (by decide +kernel))) (by decide +kernel)
theorem de_X3_countGaps : mDesc yX3_countGaps 0 := by decide +kernel
abbrev rm_X3_countGaps : Room := { frames := 0, cells := 0, slots := 0, locals := 0 }
theorem cd_X3_firstGap : Cond.code yX3_firstGap cX3_firstGap 2 (some .int) ∈ mW := mW_of (List.mem_append_right _ (List.mem_of_getElem? (i := 805) (by decide +kernel))) (by decide +kernel)
theorem im_X3_firstGap : Cond.instanceMethod yX3_firstGap ∈ mW := mW_of (List.mem_append_right _ (List.mem_of_getElem? (i := 803) (by decide +kernel))) (by decide +kernel)
theorem se_X3_firstGap : Cond.selects yX3_firstGap.cls yX3_firstGap yX3_firstGap ∈ mW := mW_of (List.mem_append_right _ (List.mem_of_getElem? (i := 804) (by decide +kernel))) (by decide +kernel)
theorem de_X3_firstGap : mDesc yX3_firstGap 0 := by decide +kernel
abbrev rm_X3_firstGap : Room := { frames := 0, cells := 0, slots := 0, locals := 0 }
theorem cd_X3_placeOfGreatest : Cond.code yX3_placeOfGreatest cX3_placeOfGreatest 3 (some .int) ∈ mW := mW_of (List.mem_append_right _ (List.mem_of_getElem? (i := 801) (by decide +kernel))) (by decide +kernel)
theorem im_X3_placeOfGreatest : Cond.instanceMethod yX3_placeOfGreatest ∈ mW := mW_of (List.mem_append_right _ (List.mem_of_getElem? (i := 799) (by decide +kernel))) (by decide +kernel)
theorem se_X3_placeOfGreatest : Cond.selects yX3_placeOfGreatest.cls yX3_placeOfGreatest yX3_placeOfGreatest ∈ mW := mW_of (List.mem_append_right _ (List.mem_of_getElem? (i := 800) (by decide +kernel))) (by decide +kernel)
theorem de_X3_placeOfGreatest : mDesc yX3_placeOfGreatest 0 := by decide +kernel
abbrev rm_X3_placeOfGreatest : Room := { frames := 0, cells := 0, slots := 0, locals := 0 }
theorem cd_X3_placeOfLeast : Cond.code yX3_placeOfLeast cX3_placeOfLeast 3 (some .int) ∈ mW := mW_of (List.mem_append_right _ (List.mem_of_getElem? (i := 797) (by decide +kernel))) (by decide +kernel)
theorem im_X3_placeOfLeast : Cond.instanceMethod yX3_placeOfLeast ∈ mW := mW_of (List.mem_append_right _ (List.mem_of_getElem? (i := 795) (by decide +kernel))) (by decide +kernel)
theorem se_X3_placeOfLeast : Cond.selects yX3_placeOfLeast.cls yX3_placeOfLeast yX3_placeOfLeast ∈ mW := mW_of (List.mem_append_right _ (List.mem_of_getElem? (i := 796) (by decide +kernel))) (by decide +kernel)
theorem de_X3_placeOfLeast : mDesc yX3_placeOfLeast 0 := by decide +kernel
abbrev rm_X3_placeOfLeast : Room := { frames := 0, cells := 0, slots := 0, locals := 0 }
theorem cd_X11_about : Cond.code yX11_about cX11_about 3 (some .int) ∈ mW := mW_of (List.mem_append_right _ (List.mem_of_getElem? (i := 789) (by decide +kernel))) (by decide +kernel)
theorem im_X11_about : Cond.instanceMethod yX11_about ∈ mW := mW_of (List.mem_append_right _ (List.mem_of_getElem? (i := 787) (by decide +kernel))) (by decide +kernel)
theorem se_X11_about : Cond.selects yX11_about.cls yX11_about yX11_about ∈ mW := mW_of (List.mem_append_right _ (List.mem_of_getElem? (i := 788) (by decide +kernel))) (by decide +kernel)
theorem de_X11_about : mDesc yX11_about 2 := by decide +kernel
abbrev rm_X11_about : Room := { frames := 2, cells := 0, slots := 0, locals := 43 }
theorem cd_X0_forgetHighs : Cond.code yX0_forgetHighs cX0_forgetHighs 2 none ∈ mW := mW_of (List.mem_append_right _ (List.mem_of_getElem? (i := 533) (by decide +kernel))) (by decide +kernel)
theorem im_X0_forgetHighs : Cond.instanceMethod yX0_forgetHighs ∈ mW := mW_of (List.mem_append_right _ (List.mem_of_getElem? (i := 531) (by decide +kernel))) (by decide +kernel)
theorem se_X0_forgetHighs : Cond.selects yX0_forgetHighs.cls yX0_forgetHighs yX0_forgetHighs ∈ mW := mW_of (List.mem_append_right _ (List.mem_of_getElem? (i := 532) (by decide +kernel))) (by decide +kernel)
theorem de_X0_forgetHighs : mDesc yX0_forgetHighs 0 := by decide +kernel
abbrev rm_X0_forgetHighs : Room := { frames := 0, cells := 0, slots := 0, locals := 0 }
theorem cd_X4_beginFirstStage : Cond.code yX4_beginFirstStage cX4_beginFirstStage 2 none ∈ mW := mW_of (List.mem_append_right _ (List.mem_of_getElem? (i := 537) (by decide +kernel))) (by decide +kernel)
theorem im_X4_beginFirstStage : Cond.instanceMethod yX4_beginFirstStage ∈ mW := mW_of (List.mem_append_right _ (List.mem_of_getElem? (i := 536) (by decide +kernel))) (by decide +kernel)
theorem se_X4_beginFirstStage : Cond.selects yX4_beginFirstStage.cls yX4_beginFirstStage yX4_beginFirstStage ∈ mW := mW_of (List.mem_append_left _ (List.mem_of_getElem? (i := 15) (by decide +kernel))) (by decide +kernel)
theorem de_X4_beginFirstStage : mDesc yX4_beginFirstStage 1 := by decide +kernel
abbrev rm_X4_beginFirstStage : Room := { frames := 0, cells := 0, slots := 0, locals := 0 }
theorem cd_X4_beginAnew : Cond.code yX4_beginAnew cX4_beginAnew 1 none ∈ mW := mW_of (List.mem_append_right _ (List.mem_of_getElem? (i := 529) (by decide +kernel))) (by decide +kernel)
theorem im_X4_beginAnew : Cond.instanceMethod yX4_beginAnew ∈ mW := mW_of (List.mem_append_right _ (List.mem_of_getElem? (i := 527) (by decide +kernel))) (by decide +kernel)
theorem se_X4_beginAnew : Cond.selects yX4_beginAnew.cls yX4_beginAnew yX4_beginAnew ∈ mW := mW_of (List.mem_append_right _ (List.mem_of_getElem? (i := 528) (by decide +kernel))) (by decide +kernel)
theorem de_X4_beginAnew : mDesc yX4_beginAnew 0 := by decide +kernel
abbrev rm_X4_beginAnew : Room := { frames := 1, cells := 0, slots := 0, locals := 21 }
theorem cd_X8_isFull : Cond.code yX8_isFull cX8_isFull 1 (some .boolean) ∈ mW := mW_of (List.mem_append_right _ (List.mem_of_getElem? (i := 525) (by decide +kernel))) (by decide +kernel)
theorem im_X8_isFull : Cond.instanceMethod yX8_isFull ∈ mW := mW_of (List.mem_append_right _ (List.mem_of_getElem? (i := 523) (by decide +kernel))) (by decide +kernel)
theorem se_X8_isFull : Cond.selects yX8_isFull.cls yX8_isFull yX8_isFull ∈ mW := mW_of (List.mem_append_right _ (List.mem_of_getElem? (i := 524) (by decide +kernel))) (by decide +kernel)
theorem de_X8_isFull : mDesc yX8_isFull 0 := by decide +kernel
abbrev rm_X8_isFull : Room := { frames := 0, cells := 0, slots := 0, locals := 0 }
theorem cd_X11_arm : Cond.code yX11_arm cX11_arm 1 (some .int) ∈ mW := mW_of (List.mem_append_right _ (List.mem_of_getElem? (i := 521) (by decide +kernel))) (by decide +kernel)
theorem im_X11_arm : Cond.instanceMethod yX11_arm ∈ mW := mW_of (List.mem_append_right _ (List.mem_of_getElem? (i := 519) (by decide +kernel))) (by decide +kernel)
theorem se_X11_arm : Cond.selects yX11_arm.cls yX11_arm yX11_arm ∈ mW := mW_of (List.mem_append_right _ (List.mem_of_getElem? (i := 520) (by decide +kernel))) (by decide +kernel)
theorem de_X11_arm : mDesc yX11_arm 0 := by decide +kernel
abbrev rm_X11_arm : Room := { frames := 2, cells := 0, slots := 0, locals := 41 }
theorem cd_X11_isTrace : Cond.code yX11_isTrace cX11_isTrace 1 (some .boolean) ∈ mW := mW_of (List.mem_append_right _ (List.mem_of_getElem? (i := 613) (by decide +kernel))) (by decide +kernel)
theorem sn_X11_isTrace : Cond.static yX11_isTrace ∈ mW := mW_of (List.mem_append_right _ (List.mem_of_getElem? (i := 612) (by decide +kernel))) (by decide +kernel)
theorem de_X11_isTrace : mDesc yX11_isTrace 1 := by decide +kernel
abbrev rm_X11_isTrace : Room := { frames := 1, cells := 0, slots := 0, locals := 22 }
theorem cd_X8_has : Cond.code yX8_has cX8_has 2 (some .boolean) ∈ mW := mW_of (List.mem_append_right _ (List.mem_of_getElem? (i := 645) (by decide +kernel))) (by decide +kernel)
theorem im_X8_has : Cond.instanceMethod yX8_has ∈ mW := mW_of (List.mem_append_right _ (List.mem_of_getElem? (i := 643) (by decide +kernel))) (by decide +kernel)
theorem se_X8_has : Cond.selects yX8_has.cls yX8_has yX8_has ∈ mW := mW_of (List.mem_append_right _ (List.mem_of_getElem? (i := 644) (by decide +kernel))) (by decide +kernel)
theorem de_X8_has : mDesc yX8_has 1 := by decide +kernel
abbrev rm_X8_has : Room := { frames := 1, cells := 0, slots := 0, locals := 22 }
theorem cd_X11_hasTrace : Cond.code yX11_hasTrace cX11_hasTrace 3 (some .boolean) ∈ mW := mW_of (List.mem_append_right _ (List.mem_of_getElem? (i := 659) (by decide +kernel))) (by decide +kernel)
theorem im_X11_hasTrace : Cond.instanceMethod yX11_hasTrace ∈ mW := mW_of (List.mem_append_right _ (List.mem_of_getElem? (i := 658) (by decide +kernel))) (by decide +kernel)
theorem se_X11_hasTrace : Cond.selects yX11_hasTrace.cls yX11_hasTrace yX11_hasTrace ∈ mW := mW_of (List.mem_append_left _ (List.mem_of_getElem? (i := 19) (by decide +kernel))) (by decide +kernel)
theorem de_X11_hasTrace : mDesc yX11_hasTrace 2 := by decide +kernel
abbrev rm_X11_hasTrace : Room := { frames := 2, cells := 0, slots := 0, locals := 43 }
theorem cd_X5_has : Cond.code yX5_has cX5_has 2 (some .boolean) ∈ mW := mW_of (List.mem_append_right _ (List.mem_of_getElem? (i := 663) (by decide +kernel))) (by decide +kernel)
theorem im_X5_has : Cond.instanceMethod yX5_has ∈ mW := mW_of (List.mem_append_right _ (List.mem_of_getElem? (i := 661) (by decide +kernel))) (by decide +kernel)
theorem se_X5_has : Cond.selects yX5_has.cls yX5_has yX5_has ∈ mW := mW_of (List.mem_append_right _ (List.mem_of_getElem? (i := 662) (by decide +kernel))) (by decide +kernel)
theorem de_X5_has : mDesc yX5_has 1 := by decide +kernel
abbrev rm_X5_has : Room := { frames := 1, cells := 0, slots := 0, locals := 22 }
theorem cd_X11_numberOn : Cond.code yX11_numberOn cX11_numberOn 2 (some .int) ∈ mW := mW_of (List.mem_append_right _ (List.mem_of_getElem? (i := 568) (by decide +kernel))) (by decide +kernel)
theorem sn_X11_numberOn : Cond.static yX11_numberOn ∈ mW := mW_of (List.mem_append_right _ (List.mem_of_getElem? (i := 567) (by decide +kernel))) (by decide +kernel)
theorem de_X11_numberOn : mDesc yX11_numberOn 2 := by decide +kernel
abbrev rm_X11_numberOn : Room := { frames := 0, cells := 0, slots := 0, locals := 0 }
theorem cd_X5_numberAt : Cond.code yX5_numberAt cX5_numberAt 3 (some .int) ∈ mW := mW_of (List.mem_append_right _ (List.mem_of_getElem? (i := 668) (by decide +kernel))) (by decide +kernel)
theorem im_X5_numberAt : Cond.instanceMethod yX5_numberAt ∈ mW := mW_of (List.mem_append_right _ (List.mem_of_getElem? (i := 666) (by decide +kernel))) (by decide +kernel)
theorem se_X5_numberAt : Cond.selects yX5_numberAt.cls yX5_numberAt yX5_numberAt ∈ mW := mW_of (List.mem_append_right _ (List.mem_of_getElem? (i := 667) (by decide +kernel))) (by decide +kernel)
theorem de_X5_numberAt : mDesc yX5_numberAt 2 := by decide +kernel
abbrev rm_X5_numberAt : Room := { frames := 2, cells := 0, slots := 0, locals := 43 }
theorem cd_X8_get : Cond.code yX8_get cX8_get 2 (some (.object "TraceBench$Segment")) ∈ mW := mW_of (List.mem_append_right _ (List.mem_of_getElem? (i := 650) (by decide +kernel))) (by decide +kernel)
theorem im_X8_get : Cond.instanceMethod yX8_get ∈ mW := mW_of (List.mem_append_right _ (List.mem_of_getElem? (i := 648) (by decide +kernel))) (by decide +kernel)
theorem se_X8_get : Cond.selects yX8_get.cls yX8_get yX8_get ∈ mW := mW_of (List.mem_append_right _ (List.mem_of_getElem? (i := 649) (by decide +kernel))) (by decide +kernel)
theorem de_X8_get : mDesc yX8_get 1 := by decide +kernel
abbrev rm_X8_get : Room := { frames := 2, cells := 0, slots := 0, locals := 43 }
theorem cd_X11_at : Cond.code yX11_at cX11_at 5 (some .int) ∈ mW := mW_of (List.mem_append_right _ (List.mem_of_getElem? (i := 655) (by decide +kernel))) (by decide +kernel)
theorem im_X11_at : Cond.instanceMethod yX11_at ∈ mW := mW_of (List.mem_append_right _ (List.mem_of_getElem? (i := 653) (by decide +kernel))) (by decide +kernel)
theorem se_X11_at : Cond.selects yX11_at.cls yX11_at yX11_at ∈ mW := mW_of (List.mem_append_right _ (List.mem_of_getElem? (i := 654) (by decide +kernel))) (by decide +kernel)
theorem de_X11_at : mDesc yX11_at 3 := by decide +kernel
abbrev rm_X11_at : Room := { frames := 3, cells := 0, slots := 0, locals := 65 }
theorem cd_X5_isOne : Cond.code yX5_isOne cX5_isOne 3 (some .boolean) ∈ mW := mW_of (List.mem_append_right _ (List.mem_of_getElem? (i := 852) (by decide +kernel))) (by decide +kernel)
theorem im_X5_isOne : Cond.instanceMethod yX5_isOne ∈ mW := mW_of (List.mem_append_right _ (List.mem_of_getElem? (i := 850) (by decide +kernel))) (by decide +kernel)
theorem se_X5_isOne : Cond.selects yX5_isOne.cls yX5_isOne yX5_isOne ∈ mW := mW_of (List.mem_append_right _ (List.mem_of_getElem? (i := 851) (by decide +kernel))) (by decide +kernel)
theorem de_X5_isOne : mDesc yX5_isOne 2 := by decide +kernel
abbrev rm_X5_isOne : Room := { frames := 3, cells := 0, slots := 0, locals := 65 }
theorem cd_X10_add : Cond.code yX10_add cX10_add 3 none ∈ mW := mW_of (List.mem_append_right _ (List.mem_of_getElem? (i := 860) (by decide +kernel))) (by decide +kernel)
theorem im_X10_add : Cond.instanceMethod yX10_add ∈ mW := mW_of (List.mem_append_right _ (List.mem_of_getElem? (i := 859) (by decide +kernel))) (by decide +kernel)
theorem se_X10_add : Cond.selects yX10_add.cls yX10_add yX10_add ∈ mW := mW_of (List.mem_append_left _ (List.mem_of_getElem? (i := 29) (by decide +kernel))) (by decide +kernel)
theorem de_X10_add : mDesc yX10_add 2 := by decide +kernel
abbrev rm_X10_add : Room := { frames := 0, cells := 0, slots := 0, locals := 0 }
theorem cd_X10_beginsByte : Cond.code yX10_beginsByte cX10_beginsByte 5 (some .boolean) ∈ mW := mW_of (List.mem_append_right _ (List.mem_of_getElem? (i := 848) (by decide +kernel))) (by decide +kernel)
theorem sn_X10_beginsByte : Cond.static yX10_beginsByte ∈ mW := mW_of (List.mem_append_right _ (List.mem_of_getElem? (i := 847) (by decide +kernel))) (by decide +kernel)
theorem de_X10_beginsByte : mDesc yX10_beginsByte 4 := by decide +kernel
abbrev rm_X10_beginsByte : Room := { frames := 4, cells := 0, slots := 0, locals := 87 }
theorem cd_X10_byteBehind : Cond.code yX10_byteBehind cX10_byteBehind 6 (some .int) ∈ mW := mW_of (List.mem_append_right _ (List.mem_of_getElem? (i := 856) (by decide +kernel))) (by decide +kernel)
theorem sn_X10_byteBehind : Cond.static yX10_byteBehind ∈ mW := mW_of (List.mem_append_right _ (List.mem_of_getElem? (i := 855) (by decide +kernel))) (by decide +kernel)
theorem de_X10_byteBehind : mDesc yX10_byteBehind 4 := by decide +kernel
abbrev rm_X10_byteBehind : Room := { frames := 4, cells := 0, slots := 0, locals := 87 }
theorem cd_X10_clear : Cond.code yX10_clear cX10_clear 1 none ∈ mW := mW_of (List.mem_append_right _ (List.mem_of_getElem? (i := 845) (by decide +kernel))) (by decide +kernel)
theorem im_X10_clear : Cond.instanceMethod yX10_clear ∈ mW := mW_of (List.mem_append_right _ (List.mem_of_getElem? (i := 844) (by decide +kernel))) (by decide +kernel)
theorem se_X10_clear : Cond.selects yX10_clear.cls yX10_clear yX10_clear ∈ mW := mW_of (List.mem_append_left _ (List.mem_of_getElem? (i := 28) (by decide +kernel))) (by decide +kernel)
theorem de_X10_clear : mDesc yX10_clear 0 := by decide +kernel
abbrev rm_X10_clear : Room := { frames := 0, cells := 0, slots := 0, locals := 0 }
theorem cd_X10_readOne : Cond.code yX10_readOne cX10_readOne 7 none ∈ mW := mW_of (List.mem_append_right _ (List.mem_of_getElem? (i := 841) (by decide +kernel))) (by decide +kernel)
theorem im_X10_readOne : Cond.instanceMethod yX10_readOne ∈ mW := mW_of (List.mem_append_right _ (List.mem_of_getElem? (i := 839) (by decide +kernel))) (by decide +kernel)
theorem se_X10_readOne : Cond.selects yX10_readOne.cls yX10_readOne yX10_readOne ∈ mW := mW_of (List.mem_append_right _ (List.mem_of_getElem? (i := 840) (by decide +kernel))) (by decide +kernel)
theorem de_X10_readOne : mDesc yX10_readOne 3 := by decide +kernel
abbrev rm_X10_readOne : Room := { frames := 5, cells := 0, slots := 0, locals := 112 }
theorem cd_X11_bytes : Cond.code yX11_bytes cX11_bytes 4 (some .int) ∈ mW := mW_of (List.mem_append_right _ (List.mem_of_getElem? (i := 837) (by decide +kernel))) (by decide +kernel)
theorem im_X11_bytes : Cond.instanceMethod yX11_bytes ∈ mW := mW_of (List.mem_append_right _ (List.mem_of_getElem? (i := 835) (by decide +kernel))) (by decide +kernel)
theorem se_X11_bytes : Cond.selects yX11_bytes.cls yX11_bytes yX11_bytes ∈ mW := mW_of (List.mem_append_right _ (List.mem_of_getElem? (i := 836) (by decide +kernel))) (by decide +kernel)
theorem de_X11_bytes : mDesc yX11_bytes 3 := by decide +kernel
abbrev rm_X11_bytes : Room := { frames := 6, cells := 0, slots := 0, locals := 138 }
theorem cd_J9_floorMod_7cf53 : Cond.code yJ9_floorMod_7cf53 cJ9_floorMod_7cf53 3 (some .int) ∈ mW := mW_of (List.mem_append_right _ (List.mem_of_getElem? (i := 552) (by decide +kernel))) (by decide +kernel)
theorem sn_J9_floorMod_7cf53 : Cond.static yJ9_floorMod_7cf53 ∈ mW := mW_of (List.mem_append_right _ (List.mem_of_getElem? (i := 551) (by decide +kernel))) (by decide +kernel)
theorem de_J9_floorMod_7cf53 : mDesc yJ9_floorMod_7cf53 2 := by decide +kernel
abbrev rm_J9_floorMod_7cf53 : Room := { frames := 0, cells := 0, slots := 0, locals := 0 }
theorem cd_X2_add : Cond.code yX2_add cX2_add 2 none ∈ mW := mW_of (List.mem_append_right _ (List.mem_of_getElem? (i := 556) (by decide +kernel))) (by decide +kernel)
theorem im_X2_add : Cond.instanceMethod yX2_add ∈ mW := mW_of (List.mem_append_right _ (List.mem_of_getElem? (i := 554) (by decide +kernel))) (by decide +kernel)
theorem se_X2_add : Cond.selects yX2_add.cls yX2_add yX2_add ∈ mW := mW_of (List.mem_append_right _ (List.mem_of_getElem? (i := 555) (by decide +kernel))) (by decide +kernel)
theorem de_X2_add : mDesc yX2_add 1 := by decide +kernel
abbrev rm_X2_add : Room := { frames := 1, cells := 0, slots := 0, locals := 22 }
theorem cd_X2_get : Cond.code yX2_get cX2_get 2 (some .int) ∈ mW := mW_of (List.mem_append_right _ (List.mem_of_getElem? (i := 549) (by decide +kernel))) (by decide +kernel)
theorem im_X2_get : Cond.instanceMethod yX2_get ∈ mW := mW_of (List.mem_append_right _ (List.mem_of_getElem? (i := 547) (by decide +kernel))) (by decide +kernel)
theorem se_X2_get : Cond.selects yX2_get.cls yX2_get yX2_get ∈ mW := mW_of (List.mem_append_right _ (List.mem_of_getElem? (i := 548) (by decide +kernel))) (by decide +kernel)
theorem de_X2_get : mDesc yX2_get 1 := by decide +kernel
abbrev rm_X2_get : Room := { frames := 1, cells := 0, slots := 0, locals := 22 }
theorem cd_X7_followHigh : Cond.code yX7_followHigh cX7_followHigh 5 none ∈ mW := mW_of (List.mem_append_right _ (List.mem_of_getElem? (i := 577) (by decide +kernel))) (by decide +kernel)
theorem im_X7_followHigh : Cond.instanceMethod yX7_followHigh ∈ mW := mW_of (List.mem_append_right _ (List.mem_of_getElem? (i := 575) (by decide +kernel))) (by decide +kernel)
theorem se_X7_followHigh : Cond.selects yX7_followHigh.cls yX7_followHigh yX7_followHigh ∈ mW := mW_of (List.mem_append_right _ (List.mem_of_getElem? (i := 576) (by decide +kernel))) (by decide +kernel)
theorem de_X7_followHigh : mDesc yX7_followHigh 2 := by decide +kernel
abbrev rm_X7_followHigh : Room := { frames := 1, cells := 0, slots := 0, locals := 21 }
theorem cd_X0_followHighs : Cond.code yX0_followHighs cX0_followHighs 4 none ∈ mW := mW_of (List.mem_append_right _ (List.mem_of_getElem? (i := 573) (by decide +kernel))) (by decide +kernel)
theorem im_X0_followHighs : Cond.instanceMethod yX0_followHighs ∈ mW := mW_of (List.mem_append_right _ (List.mem_of_getElem? (i := 571) (by decide +kernel))) (by decide +kernel)
theorem se_X0_followHighs : Cond.selects yX0_followHighs.cls yX0_followHighs yX0_followHighs ∈ mW := mW_of (List.mem_append_right _ (List.mem_of_getElem? (i := 572) (by decide +kernel))) (by decide +kernel)
theorem de_X0_followHighs : mDesc yX0_followHighs 2 := by decide +kernel
abbrev rm_X0_followHighs : Room := { frames := 2, cells := 0, slots := 0, locals := 45 }
theorem cd_X4_countEvent : Cond.code yX4_countEvent cX4_countEvent 3 none ∈ mW := mW_of (List.mem_append_right _ (List.mem_of_getElem? (i := 581) (by decide +kernel))) (by decide +kernel)
theorem im_X4_countEvent : Cond.instanceMethod yX4_countEvent ∈ mW := mW_of (List.mem_append_right _ (List.mem_of_getElem? (i := 580) (by decide +kernel))) (by decide +kernel)
theorem se_X4_countEvent : Cond.selects yX4_countEvent.cls yX4_countEvent yX4_countEvent ∈ mW := mW_of (List.mem_append_left _ (List.mem_of_getElem? (i := 17) (by decide +kernel))) (by decide +kernel)
theorem de_X4_countEvent : mDesc yX4_countEvent 2 := by decide +kernel
abbrev rm_X4_countEvent : Room := { frames := 0, cells := 0, slots := 0, locals := 0 }
theorem cd_X7_happens : Cond.code yX7_happens cX7_happens 6 (some .boolean) ∈ mW := mW_of (List.mem_append_right _ (List.mem_of_getElem? (i := 565) (by decide +kernel))) (by decide +kernel)
theorem im_X7_happens : Cond.instanceMethod yX7_happens ∈ mW := mW_of (List.mem_append_right _ (List.mem_of_getElem? (i := 563) (by decide +kernel))) (by decide +kernel)
theorem se_X7_happens : Cond.selects yX7_happens.cls yX7_happens yX7_happens ∈ mW := mW_of (List.mem_append_right _ (List.mem_of_getElem? (i := 564) (by decide +kernel))) (by decide +kernel)
theorem de_X7_happens : mDesc yX7_happens 2 := by decide +kernel
abbrev rm_X7_happens : Room := { frames := 1, cells := 0, slots := 0, locals := 22 }
theorem cd_X4_follow : Cond.code yX4_follow cX4_follow 6 none ∈ mW := mW_of (List.mem_append_right _ (List.mem_of_getElem? (i := 560) (by decide +kernel))) (by decide +kernel)
theorem im_X4_follow : Cond.instanceMethod yX4_follow ∈ mW := mW_of (List.mem_append_right _ (List.mem_of_getElem? (i := 559) (by decide +kernel))) (by decide +kernel)
theorem se_X4_follow : Cond.selects yX4_follow.cls yX4_follow yX4_follow ∈ mW := mW_of (List.mem_append_left _ (List.mem_of_getElem? (i := 16) (by decide +kernel))) (by decide +kernel)
theorem de_X4_follow : mDesc yX4_follow 3 := by decide +kernel
abbrev rm_X4_follow : Room := { frames := 3, cells := 0, slots := 0, locals := 68 }
theorem cd_J9_max_7cf53 : Cond.code yJ9_max_7cf53 cJ9_max_7cf53 2 (some .int) ∈ mW := mW_of (List.mem_append_right _ (List.mem_of_getElem? (i := 463) (by decide +kernel))) (by decide +kernel)
theorem sn_J9_max_7cf53 : Cond.static yJ9_max_7cf53 ∈ mW := mW_of (List.mem_append_right _ (List.mem_of_getElem? (i := 462) (by decide +kernel))) (by decide +kernel)
theorem de_J9_max_7cf53 : mDesc yJ9_max_7cf53 2 := by decide +kernel
abbrev rm_J9_max_7cf53 : Room := { frames := 0, cells := 0, slots := 0, locals := 0 }
theorem cd_X2_oldest : Cond.code yX2_oldest cX2_oldest 1 (some .int) ∈ mW := mW_of (List.mem_append_right _ (List.mem_of_getElem? (i := 589) (by decide +kernel))) (by decide +kernel)
theorem im_X2_oldest : Cond.instanceMethod yX2_oldest ∈ mW := mW_of (List.mem_append_right _ (List.mem_of_getElem? (i := 587) (by decide +kernel))) (by decide +kernel)
theorem se_X2_oldest : Cond.selects yX2_oldest.cls yX2_oldest yX2_oldest ∈ mW := mW_of (List.mem_append_right _ (List.mem_of_getElem? (i := 588) (by decide +kernel))) (by decide +kernel)
theorem de_X2_oldest : mDesc yX2_oldest 0 := by decide +kernel
abbrev rm_X2_oldest : Room := { frames := 1, cells := 0, slots := 0, locals := 21 }
theorem cd_J9_min_7cf53 : Cond.code yJ9_min_7cf53 cJ9_min_7cf53 2 (some .int) ∈ mW := mW_of (List.mem_append_right _ (List.mem_of_getElem? (i := 603) (by decide +kernel))) (by decide +kernel)
theorem sn_J9_min_7cf53 : Cond.static yJ9_min_7cf53 ∈ mW := mW_of (List.mem_append_right _ (List.mem_of_getElem? (i := 602) (by decide +kernel))) (by decide +kernel)
theorem de_J9_min_7cf53 : mDesc yJ9_min_7cf53 2 := by decide +kernel
abbrev rm_J9_min_7cf53 : Room := { frames := 0, cells := 0, slots := 0, locals := 0 }
theorem cd_X5_copyOf : Cond.code yX5_copyOf cX5_copyOf 6 none ∈ mW := mW_of (List.mem_append_right _ (List.mem_of_getElem? (i := 600) (by decide +kernel))) (by decide +kernel)
theorem im_X5_copyOf : Cond.instanceMethod yX5_copyOf ∈ mW := mW_of (List.mem_append_right _ (List.mem_of_getElem? (i := 598) (by decide +kernel))) (by decide +kernel)
theorem se_X5_copyOf : Cond.selects yX5_copyOf.cls yX5_copyOf yX5_copyOf ∈ mW := mW_of (List.mem_append_right _ (List.mem_of_getElem? (i := 599) (by decide +kernel))) (by decide +kernel)
theorem de_X5_copyOf : mDesc yX5_copyOf 4 := by decide +kernel
abbrev rm_X5_copyOf : Room := { frames := 2, cells := 0, slots := 0, locals := 43 }
theorem cd_X8_add : Cond.code yX8_add cX8_add 5 none ∈ mW := mW_of (List.mem_append_right _ (List.mem_of_getElem? (i := 595) (by decide +kernel))) (by decide +kernel)
theorem im_X8_add : Cond.instanceMethod yX8_add ∈ mW := mW_of (List.mem_append_right _ (List.mem_of_getElem? (i := 593) (by decide +kernel))) (by decide +kernel)
theorem se_X8_add : Cond.selects yX8_add.cls yX8_add yX8_add ∈ mW := mW_of (List.mem_append_right _ (List.mem_of_getElem? (i := 594) (by decide +kernel))) (by decide +kernel)
theorem de_X8_add : mDesc yX8_add 4 := by decide +kernel
abbrev rm_X8_add : Room := { frames := 3, cells := 0, slots := 0, locals := 68 }
theorem cd_X4_keepSegment : Cond.code yX4_keepSegment cX4_keepSegment 3 none ∈ mW := mW_of (List.mem_append_right _ (List.mem_of_getElem? (i := 585) (by decide +kernel))) (by decide +kernel)
theorem im_X4_keepSegment : Cond.instanceMethod yX4_keepSegment ∈ mW := mW_of (List.mem_append_right _ (List.mem_of_getElem? (i := 584) (by decide +kernel))) (by decide +kernel)
theorem se_X4_keepSegment : Cond.selects yX4_keepSegment.cls yX4_keepSegment yX4_keepSegment ∈ mW := mW_of (List.mem_append_left _ (List.mem_of_getElem? (i := 18) (by decide +kernel))) (by decide +kernel)
theorem de_X4_keepSegment : mDesc yX4_keepSegment 1 := by decide +kernel
abbrev rm_X4_keepSegment : Room := { frames := 4, cells := 0, slots := 0, locals := 92 }
theorem cd_X4_take : Cond.code yX4_take cX4_take 4 none ∈ mW := mW_of (List.mem_append_right _ (List.mem_of_getElem? (i := 545) (by decide +kernel))) (by decide +kernel)
theorem im_X4_take : Cond.instanceMethod yX4_take ∈ mW := mW_of (List.mem_append_right _ (List.mem_of_getElem? (i := 543) (by decide +kernel))) (by decide +kernel)
theorem se_X4_take : Cond.selects yX4_take.cls yX4_take yX4_take ∈ mW := mW_of (List.mem_append_right _ (List.mem_of_getElem? (i := 544) (by decide +kernel))) (by decide +kernel)
theorem de_X4_take : mDesc yX4_take 1 := by decide +kernel
abbrev rm_X4_take : Room := { frames := 5, cells := 0, slots := 0, locals := 114 }
theorem cd_X11_come : Cond.code yX11_come cX11_come 3 (some .int) ∈ mW := mW_of (List.mem_append_right _ (List.mem_of_getElem? (i := 541) (by decide +kernel))) (by decide +kernel)
theorem im_X11_come : Cond.instanceMethod yX11_come ∈ mW := mW_of (List.mem_append_right _ (List.mem_of_getElem? (i := 539) (by decide +kernel))) (by decide +kernel)
theorem se_X11_come : Cond.selects yX11_come.cls yX11_come yX11_come ∈ mW := mW_of (List.mem_append_right _ (List.mem_of_getElem? (i := 540) (by decide +kernel))) (by decide +kernel)
theorem de_X11_come : mDesc yX11_come 1 := by decide +kernel
abbrev rm_X11_come : Room := { frames := 6, cells := 0, slots := 0, locals := 137 }
theorem cd_X8_removeLatest : Cond.code yX8_removeLatest cX8_removeLatest 1 (some .boolean) ∈ mW := mW_of (List.mem_append_right _ (List.mem_of_getElem? (i := 678) (by decide +kernel))) (by decide +kernel)
theorem im_X8_removeLatest : Cond.instanceMethod yX8_removeLatest ∈ mW := mW_of (List.mem_append_right _ (List.mem_of_getElem? (i := 676) (by decide +kernel))) (by decide +kernel)
theorem se_X8_removeLatest : Cond.selects yX8_removeLatest.cls yX8_removeLatest yX8_removeLatest ∈ mW := mW_of (List.mem_append_right _ (List.mem_of_getElem? (i := 677) (by decide +kernel))) (by decide +kernel)
theorem de_X8_removeLatest : mDesc yX8_removeLatest 0 := by decide +kernel
abbrev rm_X8_removeLatest : Room := { frames := 0, cells := 0, slots := 0, locals := 0 }
theorem cd_X11_drop : Cond.code yX11_drop cX11_drop 1 (some .int) ∈ mW := mW_of (List.mem_append_right _ (List.mem_of_getElem? (i := 674) (by decide +kernel))) (by decide +kernel)
theorem im_X11_drop : Cond.instanceMethod yX11_drop ∈ mW := mW_of (List.mem_append_right _ (List.mem_of_getElem? (i := 672) (by decide +kernel))) (by decide +kernel)
theorem se_X11_drop : Cond.selects yX11_drop.cls yX11_drop yX11_drop ∈ mW := mW_of (List.mem_append_right _ (List.mem_of_getElem? (i := 673) (by decide +kernel))) (by decide +kernel)
theorem de_X11_drop : mDesc yX11_drop 0 := by decide +kernel
abbrev rm_X11_drop : Room := { frames := 1, cells := 0, slots := 0, locals := 20 }
theorem cd_X9_cutTo : Cond.code yX9_cutTo cX9_cutTo 2 (some .boolean) ∈ mW := mW_of (List.mem_append_right _ (List.mem_of_getElem? (i := 368) (by decide +kernel))) (by decide +kernel)
theorem im_X9_cutTo : Cond.instanceMethod yX9_cutTo ∈ mW := mW_of (List.mem_append_right _ (List.mem_of_getElem? (i := 366) (by decide +kernel))) (by decide +kernel)
theorem se_X9_cutTo : Cond.selects yX9_cutTo.cls yX9_cutTo yX9_cutTo ∈ mW := mW_of (List.mem_append_right _ (List.mem_of_getElem? (i := 367) (by decide +kernel))) (by decide +kernel)
theorem de_X9_cutTo : mDesc yX9_cutTo 1 := by decide +kernel
abbrev rm_X9_cutTo : Room := { frames := 1, cells := 0, slots := 0, locals := 22 }
theorem cd_X11_end : Cond.code yX11_end cX11_end 3 (some .int) ∈ mW := mW_of (List.mem_append_right _ (List.mem_of_getElem? (i := 364) (by decide +kernel))) (by decide +kernel)
theorem im_X11_end : Cond.instanceMethod yX11_end ∈ mW := mW_of (List.mem_append_right _ (List.mem_of_getElem? (i := 362) (by decide +kernel))) (by decide +kernel)
theorem se_X11_end : Cond.selects yX11_end.cls yX11_end yX11_end ∈ mW := mW_of (List.mem_append_right _ (List.mem_of_getElem? (i := 363) (by decide +kernel))) (by decide +kernel)
theorem de_X11_end : mDesc yX11_end 1 := by decide +kernel
abbrev rm_X11_end : Room := { frames := 2, cells := 0, slots := 0, locals := 43 }
theorem cd_J9_floorDiv_f86c9 : Cond.code yJ9_floorDiv_f86c9 cJ9_floorDiv_f86c9 6 (some .long) ∈ mW := mW_of (List.mem_append_right _ (List.mem_of_getElem? (i := 833) (by decide +kernel))) (by decide +kernel)
theorem sn_J9_floorDiv_f86c9 : Cond.static yJ9_floorDiv_f86c9 ∈ mW := mW_of (List.mem_append_right _ (List.mem_of_getElem? (i := 832) (by decide +kernel))) (by decide +kernel)
theorem de_J9_floorDiv_f86c9 : mDesc yJ9_floorDiv_f86c9 2 := by decide +kernel
abbrev rm_J9_floorDiv_f86c9 : Room := { frames := 0, cells := 0, slots := 0, locals := 0 }
theorem cd_X3_isInBand : Cond.code yX3_isInBand cX3_isInBand 6 (some .boolean) ∈ mW := mW_of (List.mem_append_right _ (List.mem_of_getElem? (i := 830) (by decide +kernel))) (by decide +kernel)
theorem im_X3_isInBand : Cond.instanceMethod yX3_isInBand ∈ mW := mW_of (List.mem_append_right _ (List.mem_of_getElem? (i := 828) (by decide +kernel))) (by decide +kernel)
theorem se_X3_isInBand : Cond.selects yX3_isInBand.cls yX3_isInBand yX3_isInBand ∈ mW := mW_of (List.mem_append_right _ (List.mem_of_getElem? (i := 829) (by decide +kernel))) (by decide +kernel)
theorem de_X3_isInBand : mDesc yX3_isInBand 4 := by decide +kernel
abbrev rm_X3_isInBand : Room := { frames := 1, cells := 0, slots := 0, locals := 25 }
theorem cd_X11_eye : Cond.code yX11_eye cX11_eye 12 (some .int) ∈ mW := mW_of (List.mem_append_right _ (List.mem_of_getElem? (i := 826) (by decide +kernel))) (by decide +kernel)
theorem im_X11_eye : Cond.instanceMethod yX11_eye ∈ mW := mW_of (List.mem_append_right _ (List.mem_of_getElem? (i := 824) (by decide +kernel))) (by decide +kernel)
theorem se_X11_eye : Cond.selects yX11_eye.cls yX11_eye yX11_eye ∈ mW := mW_of (List.mem_append_right _ (List.mem_of_getElem? (i := 825) (by decide +kernel))) (by decide +kernel)
theorem de_X11_eye : mDesc yX11_eye 7 := by decide +kernel
abbrev rm_X11_eye : Room := { frames := 2, cells := 0, slots := 0, locals := 50 }
theorem cd_X11_fault : Cond.code yX11_fault cX11_fault 1 (some .int) ∈ mW := mW_of (List.mem_append_right _ (List.mem_of_getElem? (i := 512) (by decide +kernel))) (by decide +kernel)
theorem im_X11_fault : Cond.instanceMethod yX11_fault ∈ mW := mW_of (List.mem_append_right _ (List.mem_of_getElem? (i := 510) (by decide +kernel))) (by decide +kernel)
theorem se_X11_fault : Cond.selects yX11_fault.cls yX11_fault yX11_fault ∈ mW := mW_of (List.mem_append_right _ (List.mem_of_getElem? (i := 511) (by decide +kernel))) (by decide +kernel)
theorem de_X11_fault : mDesc yX11_fault 0 := by decide +kernel
abbrev rm_X11_fault : Room := { frames := 0, cells := 0, slots := 0, locals := 0 }
theorem cd_X9_append : Cond.code yX9_append cX9_append 4 (some .boolean) ∈ mW := mW_of (List.mem_append_right _ (List.mem_of_getElem? (i := 360) (by decide +kernel))) (by decide +kernel)
theorem im_X9_append : Cond.instanceMethod yX9_append ∈ mW := mW_of (List.mem_append_right _ (List.mem_of_getElem? (i := 358) (by decide +kernel))) (by decide +kernel)
theorem se_X9_append : Cond.selects yX9_append.cls yX9_append yX9_append ∈ mW := mW_of (List.mem_append_right _ (List.mem_of_getElem? (i := 359) (by decide +kernel))) (by decide +kernel)
theorem de_X9_append : mDesc yX9_append 1 := by decide +kernel
abbrev rm_X9_append : Room := { frames := 0, cells := 0, slots := 0, locals := 0 }
theorem cd_X11_feed : Cond.code yX11_feed cX11_feed 3 (some .int) ∈ mW := mW_of (List.mem_append_right _ (List.mem_of_getElem? (i := 356) (by decide +kernel))) (by decide +kernel)
theorem im_X11_feed : Cond.instanceMethod yX11_feed ∈ mW := mW_of (List.mem_append_right _ (List.mem_of_getElem? (i := 354) (by decide +kernel))) (by decide +kernel)
theorem se_X11_feed : Cond.selects yX11_feed.cls yX11_feed yX11_feed ∈ mW := mW_of (List.mem_append_right _ (List.mem_of_getElem? (i := 355) (by decide +kernel))) (by decide +kernel)
theorem de_X11_feed : mDesc yX11_feed 1 := by decide +kernel
abbrev rm_X11_feed : Room := { frames := 1, cells := 0, slots := 0, locals := 23 }
theorem cd_X11_first : Cond.code yX11_first cX11_first 1 (some .int) ∈ mW := mW_of (List.mem_append_right _ (List.mem_of_getElem? (i := 722) (by decide +kernel))) (by decide +kernel)
theorem im_X11_first : Cond.instanceMethod yX11_first ∈ mW := mW_of (List.mem_append_right _ (List.mem_of_getElem? (i := 720) (by decide +kernel))) (by decide +kernel)
theorem se_X11_first : Cond.selects yX11_first.cls yX11_first yX11_first ∈ mW := mW_of (List.mem_append_right _ (List.mem_of_getElem? (i := 721) (by decide +kernel))) (by decide +kernel)
theorem de_X11_first : mDesc yX11_first 0 := by decide +kernel
abbrev rm_X11_first : Room := { frames := 0, cells := 0, slots := 0, locals := 0 }
theorem cd_X10_has : Cond.code yX10_has cX10_has 2 (some .boolean) ∈ mW := mW_of (List.mem_append_right _ (List.mem_of_getElem? (i := 884) (by decide +kernel))) (by decide +kernel)
theorem im_X10_has : Cond.instanceMethod yX10_has ∈ mW := mW_of (List.mem_append_right _ (List.mem_of_getElem? (i := 882) (by decide +kernel))) (by decide +kernel)
theorem se_X10_has : Cond.selects yX10_has.cls yX10_has yX10_has ∈ mW := mW_of (List.mem_append_right _ (List.mem_of_getElem? (i := 883) (by decide +kernel))) (by decide +kernel)
theorem de_X10_has : mDesc yX10_has 1 := by decide +kernel
abbrev rm_X10_has : Room := { frames := 1, cells := 0, slots := 0, locals := 22 }
theorem cd_X10_lowByte : Cond.code yX10_lowByte cX10_lowByte 2 (some .int) ∈ mW := mW_of (List.mem_append_right _ (List.mem_of_getElem? (i := 906) (by decide +kernel))) (by decide +kernel)
theorem im_X10_lowByte : Cond.instanceMethod yX10_lowByte ∈ mW := mW_of (List.mem_append_right _ (List.mem_of_getElem? (i := 905) (by decide +kernel))) (by decide +kernel)
theorem se_X10_lowByte : Cond.selects yX10_lowByte.cls yX10_lowByte yX10_lowByte ∈ mW := mW_of (List.mem_append_left _ (List.mem_of_getElem? (i := 33) (by decide +kernel))) (by decide +kernel)
theorem de_X10_lowByte : mDesc yX10_lowByte 1 := by decide +kernel
abbrev rm_X10_lowByte : Room := { frames := 2, cells := 0, slots := 0, locals := 43 }
theorem cd_X10_beginsFrame : Cond.code yX10_beginsFrame cX10_beginsFrame 5 (some .boolean) ∈ mW := mW_of (List.mem_append_right _ (List.mem_of_getElem? (i := 902) (by decide +kernel))) (by decide +kernel)
theorem im_X10_beginsFrame : Cond.instanceMethod yX10_beginsFrame ∈ mW := mW_of (List.mem_append_right _ (List.mem_of_getElem? (i := 901) (by decide +kernel))) (by decide +kernel)
theorem se_X10_beginsFrame : Cond.selects yX10_beginsFrame.cls yX10_beginsFrame yX10_beginsFrame ∈ mW := mW_of (List.mem_append_left _ (List.mem_of_getElem? (i := 32) (by decide +kernel))) (by decide +kernel)
theorem de_X10_beginsFrame : mDesc yX10_beginsFrame 1 := by decide +kernel
abbrev rm_X10_beginsFrame : Room := { frames := 3, cells := 0, slots := 0, locals := 64 }
theorem cd_X10_findFrame : Cond.code yX10_findFrame cX10_findFrame 3 (some .int) ∈ mW := mW_of (List.mem_append_right _ (List.mem_of_getElem? (i := 897) (by decide +kernel))) (by decide +kernel)
theorem im_X10_findFrame : Cond.instanceMethod yX10_findFrame ∈ mW := mW_of (List.mem_append_right _ (List.mem_of_getElem? (i := 895) (by decide +kernel))) (by decide +kernel)
theorem se_X10_findFrame : Cond.selects yX10_findFrame.cls yX10_findFrame yX10_findFrame ∈ mW := mW_of (List.mem_append_right _ (List.mem_of_getElem? (i := 896) (by decide +kernel))) (by decide +kernel)
theorem de_X10_findFrame : mDesc yX10_findFrame 1 := by decide +kernel
abbrev rm_X10_findFrame : Room := { frames := 4, cells := 0, slots := 0, locals := 88 }
theorem cd_X11_frame : Cond.code yX11_frame cX11_frame 2 (some .int) ∈ mW := mW_of (List.mem_append_right _ (List.mem_of_getElem? (i := 893) (by decide +kernel))) (by decide +kernel)
theorem im_X11_frame : Cond.instanceMethod yX11_frame ∈ mW := mW_of (List.mem_append_right _ (List.mem_of_getElem? (i := 891) (by decide +kernel))) (by decide +kernel)
theorem se_X11_frame : Cond.selects yX11_frame.cls yX11_frame yX11_frame ∈ mW := mW_of (List.mem_append_right _ (List.mem_of_getElem? (i := 892) (by decide +kernel))) (by decide +kernel)
theorem de_X11_frame : mDesc yX11_frame 1 := by decide +kernel
abbrev rm_X11_frame : Room := { frames := 5, cells := 0, slots := 0, locals := 110 }
theorem cd_X11_got : Cond.code yX11_got cX11_got 2 (some .int) ∈ mW := mW_of (List.mem_append_right _ (List.mem_of_getElem? (i := 880) (by decide +kernel))) (by decide +kernel)
theorem im_X11_got : Cond.instanceMethod yX11_got ∈ mW := mW_of (List.mem_append_right _ (List.mem_of_getElem? (i := 878) (by decide +kernel))) (by decide +kernel)
theorem se_X11_got : Cond.selects yX11_got.cls yX11_got yX11_got ∈ mW := mW_of (List.mem_append_right _ (List.mem_of_getElem? (i := 879) (by decide +kernel))) (by decide +kernel)
theorem de_X11_got : mDesc yX11_got 1 := by decide +kernel
abbrev rm_X11_got : Room := { frames := 2, cells := 0, slots := 0, locals := 43 }
theorem cd_X11_keep : Cond.code yX11_keep cX11_keep 3 (some .int) ∈ mW := mW_of (List.mem_append_right _ (List.mem_of_getElem? (i := 516) (by decide +kernel))) (by decide +kernel)
theorem im_X11_keep : Cond.instanceMethod yX11_keep ∈ mW := mW_of (List.mem_append_right _ (List.mem_of_getElem? (i := 514) (by decide +kernel))) (by decide +kernel)
theorem se_X11_keep : Cond.selects yX11_keep.cls yX11_keep yX11_keep ∈ mW := mW_of (List.mem_append_right _ (List.mem_of_getElem? (i := 515) (by decide +kernel))) (by decide +kernel)
theorem de_X11_keep : mDesc yX11_keep 2 := by decide +kernel
abbrev rm_X11_keep : Room := { frames := 1, cells := 0, slots := 0, locals := 22 }
theorem cd_X6_has : Cond.code yX6_has cX6_has 2 (some .boolean) ∈ mW := mW_of (List.mem_append_right _ (List.mem_of_getElem? (i := 699) (by decide +kernel))) (by decide +kernel)
theorem im_X6_has : Cond.instanceMethod yX6_has ∈ mW := mW_of (List.mem_append_right _ (List.mem_of_getElem? (i := 697) (by decide +kernel))) (by decide +kernel)
theorem se_X6_has : Cond.selects yX6_has.cls yX6_has yX6_has ∈ mW := mW_of (List.mem_append_right _ (List.mem_of_getElem? (i := 698) (by decide +kernel))) (by decide +kernel)
theorem de_X6_has : mDesc yX6_has 1 := by decide +kernel
abbrev rm_X6_has : Room := { frames := 1, cells := 0, slots := 0, locals := 22 }
theorem cd_X6_isNothing : Cond.code yX6_isNothing cX6_isNothing 1 (some .boolean) ∈ mW := mW_of (List.mem_append_right _ (List.mem_of_getElem? (i := 695) (by decide +kernel))) (by decide +kernel)
theorem im_X6_isNothing : Cond.instanceMethod yX6_isNothing ∈ mW := mW_of (List.mem_append_right _ (List.mem_of_getElem? (i := 693) (by decide +kernel))) (by decide +kernel)
theorem se_X6_isNothing : Cond.selects yX6_isNothing.cls yX6_isNothing yX6_isNothing ∈ mW := mW_of (List.mem_append_right _ (List.mem_of_getElem? (i := 694) (by decide +kernel))) (by decide +kernel)
theorem de_X6_isNothing : mDesc yX6_isNothing 0 := by decide +kernel
abbrev rm_X6_isNothing : Room := { frames := 0, cells := 0, slots := 0, locals := 0 }
theorem cd_X6_put : Cond.code yX6_put cX6_put 3 none ∈ mW := mW_of (List.mem_append_right _ (List.mem_of_getElem? (i := 704) (by decide +kernel))) (by decide +kernel)
theorem im_X6_put : Cond.instanceMethod yX6_put ∈ mW := mW_of (List.mem_append_right _ (List.mem_of_getElem? (i := 702) (by decide +kernel))) (by decide +kernel)
theorem se_X6_put : Cond.selects yX6_put.cls yX6_put yX6_put ∈ mW := mW_of (List.mem_append_right _ (List.mem_of_getElem? (i := 703) (by decide +kernel))) (by decide +kernel)
theorem de_X6_put : mDesc yX6_put 2 := by decide +kernel
abbrev rm_X6_put : Room := { frames := 2, cells := 0, slots := 0, locals := 43 }
theorem cd_X11_lay : Cond.code yX11_lay cX11_lay 5 (some .int) ∈ mW := mW_of (List.mem_append_right _ (List.mem_of_getElem? (i := 691) (by decide +kernel))) (by decide +kernel)
theorem im_X11_lay : Cond.instanceMethod yX11_lay ∈ mW := mW_of (List.mem_append_right _ (List.mem_of_getElem? (i := 689) (by decide +kernel))) (by decide +kernel)
theorem se_X11_lay : Cond.selects yX11_lay.cls yX11_lay yX11_lay ∈ mW := mW_of (List.mem_append_right _ (List.mem_of_getElem? (i := 690) (by decide +kernel))) (by decide +kernel)
theorem de_X11_lay : mDesc yX11_lay 3 := by decide +kernel
abbrev rm_X11_lay : Room := { frames := 3, cells := 0, slots := 0, locals := 65 }
theorem cd_X6_allows : Cond.code yX6_allows cX6_allows 4 (some .boolean) ∈ mW := mW_of (List.mem_append_right _ (List.mem_of_getElem? (i := 718) (by decide +kernel))) (by decide +kernel)
theorem im_X6_allows : Cond.instanceMethod yX6_allows ∈ mW := mW_of (List.mem_append_right _ (List.mem_of_getElem? (i := 716) (by decide +kernel))) (by decide +kernel)
theorem se_X6_allows : Cond.selects yX6_allows.cls yX6_allows yX6_allows ∈ mW := mW_of (List.mem_append_right _ (List.mem_of_getElem? (i := 717) (by decide +kernel))) (by decide +kernel)
theorem de_X6_allows : mDesc yX6_allows 2 := by decide +kernel
abbrev rm_X6_allows : Room := { frames := 2, cells := 0, slots := 0, locals := 43 }
theorem cd_X6_faultAs : Cond.code yX6_faultAs cX6_faultAs 3 (some .int) ∈ mW := mW_of (List.mem_append_right _ (List.mem_of_getElem? (i := 713) (by decide +kernel))) (by decide +kernel)
theorem im_X6_faultAs : Cond.instanceMethod yX6_faultAs ∈ mW := mW_of (List.mem_append_right _ (List.mem_of_getElem? (i := 711) (by decide +kernel))) (by decide +kernel)
theorem se_X6_faultAs : Cond.selects yX6_faultAs.cls yX6_faultAs yX6_faultAs ∈ mW := mW_of (List.mem_append_right _ (List.mem_of_getElem? (i := 712) (by decide +kernel))) (by decide +kernel)
theorem de_X6_faultAs : mDesc yX6_faultAs 2 := by decide +kernel
abbrev rm_X6_faultAs : Room := { frames := 1, cells := 0, slots := 0, locals := 20 }
theorem cd_X11_mask : Cond.code yX11_mask cX11_mask 13 (some .int) ∈ mW := mW_of (List.mem_append_right _ (List.mem_of_getElem? (i := 709) (by decide +kernel))) (by decide +kernel)
theorem im_X11_mask : Cond.instanceMethod yX11_mask ∈ mW := mW_of (List.mem_append_right _ (List.mem_of_getElem? (i := 707) (by decide +kernel))) (by decide +kernel)
theorem se_X11_mask : Cond.selects yX11_mask.cls yX11_mask yX11_mask ∈ mW := mW_of (List.mem_append_right _ (List.mem_of_getElem? (i := 708) (by decide +kernel))) (by decide +kernel)
theorem de_X11_mask : mDesc yX11_mask 6 := by decide +kernel
abbrev rm_X11_mask : Room := { frames := 3, cells := 0, slots := 0, locals := 66 }
theorem cd_X3_valueAt : Cond.code yX3_valueAt cX3_valueAt 2 (some .long) ∈ mW := mW_of (List.mem_append_right _ (List.mem_of_getElem? (i := 617) (by decide +kernel))) (by decide +kernel)
theorem im_X3_valueAt : Cond.instanceMethod yX3_valueAt ∈ mW := mW_of (List.mem_append_right _ (List.mem_of_getElem? (i := 615) (by decide +kernel))) (by decide +kernel)
theorem se_X3_valueAt : Cond.selects yX3_valueAt.cls yX3_valueAt yX3_valueAt ∈ mW := mW_of (List.mem_append_right _ (List.mem_of_getElem? (i := 616) (by decide +kernel))) (by decide +kernel)
theorem de_X3_valueAt : mDesc yX3_valueAt 1 := by decide +kernel
abbrev rm_X3_valueAt : Room := { frames := 1, cells := 0, slots := 0, locals := 22 }
theorem cd_X11_place : Cond.code yX11_place cX11_place 3 (some .long) ∈ mW := mW_of (List.mem_append_right _ (List.mem_of_getElem? (i := 785) (by decide +kernel))) (by decide +kernel)
theorem im_X11_place : Cond.instanceMethod yX11_place ∈ mW := mW_of (List.mem_append_right _ (List.mem_of_getElem? (i := 783) (by decide +kernel))) (by decide +kernel)
theorem se_X11_place : Cond.selects yX11_place.cls yX11_place yX11_place ∈ mW := mW_of (List.mem_append_right _ (List.mem_of_getElem? (i := 784) (by decide +kernel))) (by decide +kernel)
theorem de_X11_place : mDesc yX11_place 2 := by decide +kernel
abbrev rm_X11_place : Room := { frames := 2, cells := 0, slots := 0, locals := 43 }
theorem cd_X11_sampleOn : Cond.code yX11_sampleOn cX11_sampleOn 2 (some .int) ∈ mW := mW_of (List.mem_append_right _ (List.mem_of_getElem? (i := 621) (by decide +kernel))) (by decide +kernel)
theorem sn_X11_sampleOn : Cond.static yX11_sampleOn ∈ mW := mW_of (List.mem_append_right _ (List.mem_of_getElem? (i := 620) (by decide +kernel))) (by decide +kernel)
theorem de_X11_sampleOn : mDesc yX11_sampleOn 2 := by decide +kernel
abbrev rm_X11_sampleOn : Room := { frames := 0, cells := 0, slots := 0, locals := 0 }
theorem cd_X11_play : Cond.code yX11_play cX11_play 7 (some .int) ∈ mW := mW_of (List.mem_append_right _ (List.mem_of_getElem? (i := 610) (by decide +kernel))) (by decide +kernel)
theorem im_X11_play : Cond.instanceMethod yX11_play ∈ mW := mW_of (List.mem_append_right _ (List.mem_of_getElem? (i := 608) (by decide +kernel))) (by decide +kernel)
theorem se_X11_play : Cond.selects yX11_play.cls yX11_play yX11_play ∈ mW := mW_of (List.mem_append_right _ (List.mem_of_getElem? (i := 609) (by decide +kernel))) (by decide +kernel)
theorem de_X11_play : mDesc yX11_play 4 := by decide +kernel
abbrev rm_X11_play : Room := { frames := 6, cells := 0, slots := 0, locals := 137 }
theorem cd_X3_put : Cond.code yX3_put cX3_put 4 none ∈ mW := mW_of (List.mem_append_right _ (List.mem_of_getElem? (i := 735) (by decide +kernel))) (by decide +kernel)
theorem im_X3_put : Cond.instanceMethod yX3_put ∈ mW := mW_of (List.mem_append_right _ (List.mem_of_getElem? (i := 734) (by decide +kernel))) (by decide +kernel)
theorem se_X3_put : Cond.selects yX3_put.cls yX3_put yX3_put ∈ mW := mW_of (List.mem_append_left _ (List.mem_of_getElem? (i := 20) (by decide +kernel))) (by decide +kernel)
theorem de_X3_put : mDesc yX3_put 2 := by decide +kernel
abbrev rm_X3_put : Room := { frames := 0, cells := 0, slots := 0, locals := 0 }
theorem cd_X3_putGap : Cond.code yX3_putGap cX3_putGap 2 none ∈ mW := mW_of (List.mem_append_right _ (List.mem_of_getElem? (i := 755) (by decide +kernel))) (by decide +kernel)
theorem im_X3_putGap : Cond.instanceMethod yX3_putGap ∈ mW := mW_of (List.mem_append_right _ (List.mem_of_getElem? (i := 754) (by decide +kernel))) (by decide +kernel)
theorem se_X3_putGap : Cond.selects yX3_putGap.cls yX3_putGap yX3_putGap ∈ mW := mW_of (List.mem_append_left _ (List.mem_of_getElem? (i := 23) (by decide +kernel))) (by decide +kernel)
theorem de_X3_putGap : mDesc yX3_putGap 1 := by decide +kernel
abbrev rm_X3_putGap : Room := { frames := 0, cells := 0, slots := 0, locals := 0 }
theorem cd_X3_fillFrom : Cond.code yX3_fillFrom cX3_fillFrom 6 none ∈ mW := mW_of (List.mem_append_right _ (List.mem_of_getElem? (i := 751) (by decide +kernel))) (by decide +kernel)
theorem im_X3_fillFrom : Cond.instanceMethod yX3_fillFrom ∈ mW := mW_of (List.mem_append_right _ (List.mem_of_getElem? (i := 750) (by decide +kernel))) (by decide +kernel)
theorem se_X3_fillFrom : Cond.selects yX3_fillFrom.cls yX3_fillFrom yX3_fillFrom ∈ mW := mW_of (List.mem_append_left _ (List.mem_of_getElem? (i := 22) (by decide +kernel))) (by decide +kernel)
theorem de_X3_fillFrom : mDesc yX3_fillFrom 1 := by decide +kernel
abbrev rm_X3_fillFrom : Room := { frames := 1, cells := 0, slots := 0, locals := 23 }
theorem cd_X3_hasGap : Cond.code yX3_hasGap cX3_hasGap 4 (some .boolean) ∈ mW := mW_of (List.mem_append_right _ (List.mem_of_getElem? (i := 763) (by decide +kernel))) (by decide +kernel)
theorem im_X3_hasGap : Cond.instanceMethod yX3_hasGap ∈ mW := mW_of (List.mem_append_right _ (List.mem_of_getElem? (i := 762) (by decide +kernel))) (by decide +kernel)
theorem se_X3_hasGap : Cond.selects yX3_hasGap.cls yX3_hasGap yX3_hasGap ∈ mW := mW_of (List.mem_append_left _ (List.mem_of_getElem? (i := 25) (by decide +kernel))) (by decide +kernel)
theorem de_X3_hasGap : mDesc yX3_hasGap 2 := by decide +kernel
abbrev rm_X3_hasGap : Room := { frames := 1, cells := 0, slots := 0, locals := 21 }
theorem cd_X3_leavesGap : Cond.code yX3_leavesGap cX3_leavesGap 4 (some .boolean) ∈ mW := mW_of (List.mem_append_right _ (List.mem_of_getElem? (i := 759) (by decide +kernel))) (by decide +kernel)
theorem im_X3_leavesGap : Cond.instanceMethod yX3_leavesGap ∈ mW := mW_of (List.mem_append_right _ (List.mem_of_getElem? (i := 758) (by decide +kernel))) (by decide +kernel)
theorem se_X3_leavesGap : Cond.selects yX3_leavesGap.cls yX3_leavesGap yX3_leavesGap ∈ mW := mW_of (List.mem_append_left _ (List.mem_of_getElem? (i := 24) (by decide +kernel))) (by decide +kernel)
theorem de_X3_leavesGap : mDesc yX3_leavesGap 3 := by decide +kernel
abbrev rm_X3_leavesGap : Room := { frames := 2, cells := 0, slots := 0, locals := 44 }
theorem cd_X3_sum : Cond.code yX3_sum cX3_sum 6 (some .long) ∈ mW := mW_of (List.mem_append_right _ (List.mem_of_getElem? (i := 772) (by decide +kernel))) (by decide +kernel)
theorem im_X3_sum : Cond.instanceMethod yX3_sum ∈ mW := mW_of (List.mem_append_right _ (List.mem_of_getElem? (i := 770) (by decide +kernel))) (by decide +kernel)
theorem se_X3_sum : Cond.selects yX3_sum.cls yX3_sum yX3_sum ∈ mW := mW_of (List.mem_append_right _ (List.mem_of_getElem? (i := 771) (by decide +kernel))) (by decide +kernel)
theorem de_X3_sum : mDesc yX3_sum 2 := by decide +kernel
abbrev rm_X3_sum : Room := { frames := 1, cells := 0, slots := 0, locals := 21 }
theorem cd_X3_reckoned : Cond.code yX3_reckoned cX3_reckoned 4 (some .long) ∈ mW := mW_of (List.mem_append_right _ (List.mem_of_getElem? (i := 768) (by decide +kernel))) (by decide +kernel)
theorem im_X3_reckoned : Cond.instanceMethod yX3_reckoned ∈ mW := mW_of (List.mem_append_right _ (List.mem_of_getElem? (i := 767) (by decide +kernel))) (by decide +kernel)
theorem se_X3_reckoned : Cond.selects yX3_reckoned.cls yX3_reckoned yX3_reckoned ∈ mW := mW_of (List.mem_append_left _ (List.mem_of_getElem? (i := 26) (by decide +kernel))) (by decide +kernel)
theorem de_X3_reckoned : mDesc yX3_reckoned 3 := by decide +kernel
abbrev rm_X3_reckoned : Room := { frames := 2, cells := 0, slots := 0, locals := 46 }
theorem cd_X3_reckonOne : Cond.code yX3_reckonOne cX3_reckonOne 5 none ∈ mW := mW_of (List.mem_append_right _ (List.mem_of_getElem? (i := 747) (by decide +kernel))) (by decide +kernel)
theorem im_X3_reckonOne : Cond.instanceMethod yX3_reckonOne ∈ mW := mW_of (List.mem_append_right _ (List.mem_of_getElem? (i := 745) (by decide +kernel))) (by decide +kernel)
theorem se_X3_reckonOne : Cond.selects yX3_reckonOne.cls yX3_reckonOne yX3_reckonOne ∈ mW := mW_of (List.mem_append_right _ (List.mem_of_getElem? (i := 746) (by decide +kernel))) (by decide +kernel)
theorem de_X3_reckonOne : mDesc yX3_reckonOne 3 := by decide +kernel
abbrev rm_X3_reckonOne : Room := { frames := 3, cells := 0, slots := 0, locals := 69 }
theorem cd_X3_joined : Cond.code yX3_joined cX3_joined 5 (some .long) ∈ mW := mW_of (List.mem_append_right _ (List.mem_of_getElem? (i := 781) (by decide +kernel))) (by decide +kernel)
theorem sn_X3_joined : Cond.static yX3_joined ∈ mW := mW_of (List.mem_append_right _ (List.mem_of_getElem? (i := 780) (by decide +kernel))) (by decide +kernel)
theorem de_X3_joined : mDesc yX3_joined 3 := by decide +kernel
abbrev rm_X3_joined : Room := { frames := 0, cells := 0, slots := 0, locals := 0 }
theorem cd_X3_reckonTwo : Cond.code yX3_reckonTwo cX3_reckonTwo 6 none ∈ mW := mW_of (List.mem_append_right _ (List.mem_of_getElem? (i := 777) (by decide +kernel))) (by decide +kernel)
theorem im_X3_reckonTwo : Cond.instanceMethod yX3_reckonTwo ∈ mW := mW_of (List.mem_append_right _ (List.mem_of_getElem? (i := 775) (by decide +kernel))) (by decide +kernel)
theorem se_X3_reckonTwo : Cond.selects yX3_reckonTwo.cls yX3_reckonTwo yX3_reckonTwo ∈ mW := mW_of (List.mem_append_right _ (List.mem_of_getElem? (i := 776) (by decide +kernel))) (by decide +kernel)
theorem de_X3_reckonTwo : mDesc yX3_reckonTwo 3 := by decide +kernel
abbrev rm_X3_reckonTwo : Room := { frames := 1, cells := 0, slots := 0, locals := 24 }
theorem cd_X11_reckon : Cond.code yX11_reckon cX11_reckon 7 (some .int) ∈ mW := mW_of (List.mem_append_right _ (List.mem_of_getElem? (i := 739) (by decide +kernel))) (by decide +kernel)
theorem im_X11_reckon : Cond.instanceMethod yX11_reckon ∈ mW := mW_of (List.mem_append_right _ (List.mem_of_getElem? (i := 737) (by decide +kernel))) (by decide +kernel)
theorem se_X11_reckon : Cond.selects yX11_reckon.cls yX11_reckon yX11_reckon ∈ mW := mW_of (List.mem_append_right _ (List.mem_of_getElem? (i := 738) (by decide +kernel))) (by decide +kernel)
theorem de_X11_reckon : mDesc yX11_reckon 5 := by decide +kernel
abbrev rm_X11_reckon : Room := { frames := 4, cells := 0, slots := 0, locals := 93 }
theorem cd_X3_copyOf : Cond.code yX3_copyOf cX3_copyOf 4 none ∈ mW := mW_of (List.mem_append_right _ (List.mem_of_getElem? (i := 730) (by decide +kernel))) (by decide +kernel)
theorem im_X3_copyOf : Cond.instanceMethod yX3_copyOf ∈ mW := mW_of (List.mem_append_right _ (List.mem_of_getElem? (i := 728) (by decide +kernel))) (by decide +kernel)
theorem se_X3_copyOf : Cond.selects yX3_copyOf.cls yX3_copyOf yX3_copyOf ∈ mW := mW_of (List.mem_append_right _ (List.mem_of_getElem? (i := 729) (by decide +kernel))) (by decide +kernel)
theorem de_X3_copyOf : mDesc yX3_copyOf 2 := by decide +kernel
abbrev rm_X3_copyOf : Room := { frames := 3, cells := 0, slots := 0, locals := 65 }
theorem cd_X11_row : Cond.code yX11_row cX11_row 4 (some .int) ∈ mW := mW_of (List.mem_append_right _ (List.mem_of_getElem? (i := 726) (by decide +kernel))) (by decide +kernel)
theorem im_X11_row : Cond.instanceMethod yX11_row ∈ mW := mW_of (List.mem_append_right _ (List.mem_of_getElem? (i := 724) (by decide +kernel))) (by decide +kernel)
theorem se_X11_row : Cond.selects yX11_row.cls yX11_row yX11_row ∈ mW := mW_of (List.mem_append_right _ (List.mem_of_getElem? (i := 725) (by decide +kernel))) (by decide +kernel)
theorem de_X11_row : mDesc yX11_row 3 := by decide +kernel
abbrev rm_X11_row : Room := { frames := 4, cells := 0, slots := 0, locals := 88 }
theorem cd_X2_has : Cond.code yX2_has cX2_has 2 (some .boolean) ∈ mW := mW_of (List.mem_append_right _ (List.mem_of_getElem? (i := 629) (by decide +kernel))) (by decide +kernel)
theorem im_X2_has : Cond.instanceMethod yX2_has ∈ mW := mW_of (List.mem_append_right _ (List.mem_of_getElem? (i := 627) (by decide +kernel))) (by decide +kernel)
theorem se_X2_has : Cond.selects yX2_has.cls yX2_has yX2_has ∈ mW := mW_of (List.mem_append_right _ (List.mem_of_getElem? (i := 628) (by decide +kernel))) (by decide +kernel)
theorem de_X2_has : mDesc yX2_has 1 := by decide +kernel
abbrev rm_X2_has : Room := { frames := 2, cells := 0, slots := 0, locals := 41 }
theorem cd_X11_sample : Cond.code yX11_sample cX11_sample 3 (some .int) ∈ mW := mW_of (List.mem_append_right _ (List.mem_of_getElem? (i := 625) (by decide +kernel))) (by decide +kernel)
theorem im_X11_sample : Cond.instanceMethod yX11_sample ∈ mW := mW_of (List.mem_append_right _ (List.mem_of_getElem? (i := 623) (by decide +kernel))) (by decide +kernel)
theorem se_X11_sample : Cond.selects yX11_sample.cls yX11_sample yX11_sample ∈ mW := mW_of (List.mem_append_right _ (List.mem_of_getElem? (i := 624) (by decide +kernel))) (by decide +kernel)
theorem de_X11_sample : mDesc yX11_sample 2 := by decide +kernel
abbrev rm_X11_sample : Room := { frames := 3, cells := 0, slots := 0, locals := 62 }
theorem cd_X11_segment : Cond.code yX11_segment cX11_segment 4 (some .int) ∈ mW := mW_of (List.mem_append_right _ (List.mem_of_getElem? (i := 641) (by decide +kernel))) (by decide +kernel)
theorem im_X11_segment : Cond.instanceMethod yX11_segment ∈ mW := mW_of (List.mem_append_right _ (List.mem_of_getElem? (i := 639) (by decide +kernel))) (by decide +kernel)
theorem se_X11_segment : Cond.selects yX11_segment.cls yX11_segment yX11_segment ∈ mW := mW_of (List.mem_append_right _ (List.mem_of_getElem? (i := 640) (by decide +kernel))) (by decide +kernel)
theorem de_X11_segment : mDesc yX11_segment 2 := by decide +kernel
abbrev rm_X11_segment : Room := { frames := 3, cells := 0, slots := 0, locals := 64 }
theorem cd_X6_renew : Cond.code yX6_renew cX6_renew 4 none ∈ mW := mW_of (List.mem_append_right _ (List.mem_of_getElem? (i := 686) (by decide +kernel))) (by decide +kernel)
theorem im_X6_renew : Cond.instanceMethod yX6_renew ∈ mW := mW_of (List.mem_append_right _ (List.mem_of_getElem? (i := 684) (by decide +kernel))) (by decide +kernel)
theorem se_X6_renew : Cond.selects yX6_renew.cls yX6_renew yX6_renew ∈ mW := mW_of (List.mem_append_right _ (List.mem_of_getElem? (i := 685) (by decide +kernel))) (by decide +kernel)
theorem de_X6_renew : mDesc yX6_renew 2 := by decide +kernel
abbrev rm_X6_renew : Room := { frames := 1, cells := 0, slots := 0, locals := 21 }
theorem cd_X11_sheet : Cond.code yX11_sheet cX11_sheet 4 (some .int) ∈ mW := mW_of (List.mem_append_right _ (List.mem_of_getElem? (i := 682) (by decide +kernel))) (by decide +kernel)
theorem im_X11_sheet : Cond.instanceMethod yX11_sheet ∈ mW := mW_of (List.mem_append_right _ (List.mem_of_getElem? (i := 680) (by decide +kernel))) (by decide +kernel)
theorem se_X11_sheet : Cond.selects yX11_sheet.cls yX11_sheet yX11_sheet ∈ mW := mW_of (List.mem_append_right _ (List.mem_of_getElem? (i := 681) (by decide +kernel))) (by decide +kernel)
theorem de_X11_sheet : mDesc yX11_sheet 3 := by decide +kernel
abbrev rm_X11_sheet : Room := { frames := 2, cells := 0, slots := 0, locals := 44 }
theorem cd_X11_told : Cond.code yX11_told cX11_told 2 (some .int) ∈ mW := mW_of (List.mem_append_right _ (List.mem_of_getElem? (i := 637) (by decide +kernel))) (by decide +kernel)
theorem im_X11_told : Cond.instanceMethod yX11_told ∈ mW := mW_of (List.mem_append_right _ (List.mem_of_getElem? (i := 635) (by decide +kernel))) (by decide +kernel)
theorem se_X11_told : Cond.selects yX11_told.cls yX11_told yX11_told ∈ mW := mW_of (List.mem_append_right _ (List.mem_of_getElem? (i := 636) (by decide +kernel))) (by decide +kernel)
theorem de_X11_told : mDesc yX11_told 1 := by decide +kernel
abbrev rm_X11_told : Room := { frames := 1, cells := 0, slots := 0, locals := 22 }
theorem cd_X11_total : Cond.code yX11_total cX11_total 2 (some .long) ∈ mW := mW_of (List.mem_append_right _ (List.mem_of_getElem? (i := 809) (by decide +kernel))) (by decide +kernel)
theorem im_X11_total : Cond.instanceMethod yX11_total ∈ mW := mW_of (List.mem_append_right _ (List.mem_of_getElem? (i := 807) (by decide +kernel))) (by decide +kernel)
theorem se_X11_total : Cond.selects yX11_total.cls yX11_total yX11_total ∈ mW := mW_of (List.mem_append_right _ (List.mem_of_getElem? (i := 808) (by decide +kernel))) (by decide +kernel)
theorem de_X11_total : mDesc yX11_total 1 := by decide +kernel
abbrev rm_X11_total : Room := { frames := 2, cells := 0, slots := 0, locals := 46 }
theorem cd_X1_refuse : Cond.code yX1_refuse cX1_refuse 2 (some .boolean) ∈ mW := mW_of (List.mem_append_right _ (List.mem_of_getElem? (i := 483) (by decide +kernel))) (by decide +kernel)
theorem im_X1_refuse : Cond.instanceMethod yX1_refuse ∈ mW := mW_of (List.mem_append_right _ (List.mem_of_getElem? (i := 482) (by decide +kernel))) (by decide +kernel)
theorem se_X1_refuse : Cond.selects yX1_refuse.cls yX1_refuse yX1_refuse ∈ mW := mW_of (List.mem_append_left _ (List.mem_of_getElem? (i := 9) (by decide +kernel))) (by decide +kernel)
theorem de_X1_refuse : mDesc yX1_refuse 1 := by decide +kernel
abbrev rm_X1_refuse : Room := { frames := 0, cells := 0, slots := 0, locals := 0 }
theorem cd_X1_sees : Cond.code yX1_sees cX1_sees 2 (some .boolean) ∈ mW := mW_of (List.mem_append_right _ (List.mem_of_getElem? (i := 475) (by decide +kernel))) (by decide +kernel)
theorem im_X1_sees : Cond.instanceMethod yX1_sees ∈ mW := mW_of (List.mem_append_right _ (List.mem_of_getElem? (i := 474) (by decide +kernel))) (by decide +kernel)
theorem se_X1_sees : Cond.selects yX1_sees.cls yX1_sees yX1_sees ∈ mW := mW_of (List.mem_append_left _ (List.mem_of_getElem? (i := 7) (by decide +kernel))) (by decide +kernel)
theorem de_X1_sees : mDesc yX1_sees 1 := by decide +kernel
abbrev rm_X1_sees : Room := { frames := 0, cells := 0, slots := 0, locals := 0 }
theorem cd_X1_takeNumber : Cond.code yX1_takeNumber cX1_takeNumber 5 (some .boolean) ∈ mW := mW_of (List.mem_append_right _ (List.mem_of_getElem? (i := 479) (by decide +kernel))) (by decide +kernel)
theorem im_X1_takeNumber : Cond.instanceMethod yX1_takeNumber ∈ mW := mW_of (List.mem_append_right _ (List.mem_of_getElem? (i := 478) (by decide +kernel))) (by decide +kernel)
theorem se_X1_takeNumber : Cond.selects yX1_takeNumber.cls yX1_takeNumber yX1_takeNumber ∈ mW := mW_of (List.mem_append_left _ (List.mem_of_getElem? (i := 8) (by decide +kernel))) (by decide +kernel)
theorem de_X1_takeNumber : mDesc yX1_takeNumber 3 := by decide +kernel
abbrev rm_X1_takeNumber : Room := { frames := 1, cells := 0, slots := 0, locals := 22 }
theorem cd_X1_readThird : Cond.code yX1_readThird cX1_readThird 3 (some .boolean) ∈ mW := mW_of (List.mem_append_right _ (List.mem_of_getElem? (i := 500) (by decide +kernel))) (by decide +kernel)
theorem im_X1_readThird : Cond.instanceMethod yX1_readThird ∈ mW := mW_of (List.mem_append_right _ (List.mem_of_getElem? (i := 499) (by decide +kernel))) (by decide +kernel)
theorem se_X1_readThird : Cond.selects yX1_readThird.cls yX1_readThird yX1_readThird ∈ mW := mW_of (List.mem_append_left _ (List.mem_of_getElem? (i := 13) (by decide +kernel))) (by decide +kernel)
theorem de_X1_readThird : mDesc yX1_readThird 1 := by decide +kernel
abbrev rm_X1_readThird : Room := { frames := 2, cells := 0, slots := 0, locals := 46 }
theorem cd_X1_readOperands : Cond.code yX1_readOperands cX1_readOperands 3 (some .boolean) ∈ mW := mW_of (List.mem_append_right _ (List.mem_of_getElem? (i := 496) (by decide +kernel))) (by decide +kernel)
theorem im_X1_readOperands : Cond.instanceMethod yX1_readOperands ∈ mW := mW_of (List.mem_append_right _ (List.mem_of_getElem? (i := 495) (by decide +kernel))) (by decide +kernel)
theorem se_X1_readOperands : Cond.selects yX1_readOperands.cls yX1_readOperands yX1_readOperands ∈ mW := mW_of (List.mem_append_left _ (List.mem_of_getElem? (i := 12) (by decide +kernel))) (by decide +kernel)
theorem de_X1_readOperands : mDesc yX1_readOperands 1 := by decide +kernel
abbrev rm_X1_readOperands : Room := { frames := 3, cells := 0, slots := 0, locals := 68 }
theorem cd_X1_seesWithin : Cond.code yX1_seesWithin cX1_seesWithin 1 (some .boolean) ∈ mW := mW_of (List.mem_append_right _ (List.mem_of_getElem? (i := 492) (by decide +kernel))) (by decide +kernel)
theorem im_X1_seesWithin : Cond.instanceMethod yX1_seesWithin ∈ mW := mW_of (List.mem_append_right _ (List.mem_of_getElem? (i := 491) (by decide +kernel))) (by decide +kernel)
theorem se_X1_seesWithin : Cond.selects yX1_seesWithin.cls yX1_seesWithin yX1_seesWithin ∈ mW := mW_of (List.mem_append_left _ (List.mem_of_getElem? (i := 11) (by decide +kernel))) (by decide +kernel)
theorem de_X1_seesWithin : mDesc yX1_seesWithin 0 := by decide +kernel
abbrev rm_X1_seesWithin : Room := { frames := 1, cells := 0, slots := 0, locals := 21 }
theorem cd_X1_readWithin : Cond.code yX1_readWithin cX1_readWithin 3 (some .boolean) ∈ mW := mW_of (List.mem_append_right _ (List.mem_of_getElem? (i := 504) (by decide +kernel))) (by decide +kernel)
theorem im_X1_readWithin : Cond.instanceMethod yX1_readWithin ∈ mW := mW_of (List.mem_append_right _ (List.mem_of_getElem? (i := 503) (by decide +kernel))) (by decide +kernel)
theorem se_X1_readWithin : Cond.selects yX1_readWithin.cls yX1_readWithin yX1_readWithin ∈ mW := mW_of (List.mem_append_left _ (List.mem_of_getElem? (i := 14) (by decide +kernel))) (by decide +kernel)
theorem de_X1_readWithin : mDesc yX1_readWithin 1 := by decide +kernel
abbrev rm_X1_readWithin : Room := { frames := 2, cells := 0, slots := 0, locals := 46 }
theorem cd_X1_take : Cond.code yX1_take cX1_take 2 (some .boolean) ∈ mW := mW_of (List.mem_append_right _ (List.mem_of_getElem? (i := 488) (by decide +kernel))) (by decide +kernel)
theorem im_X1_take : Cond.instanceMethod yX1_take ∈ mW := mW_of (List.mem_append_right _ (List.mem_of_getElem? (i := 487) (by decide +kernel))) (by decide +kernel)
theorem se_X1_take : Cond.selects yX1_take.cls yX1_take yX1_take ∈ mW := mW_of (List.mem_append_left _ (List.mem_of_getElem? (i := 10) (by decide +kernel))) (by decide +kernel)
theorem de_X1_take : mDesc yX1_take 1 := by decide +kernel
abbrev rm_X1_take : Room := { frames := 1, cells := 0, slots := 0, locals := 21 }
theorem cd_X1_readStage : Cond.code yX1_readStage cX1_readStage 2 (some .boolean) ∈ mW := mW_of (List.mem_append_right _ (List.mem_of_getElem? (i := 471) (by decide +kernel))) (by decide +kernel)
theorem im_X1_readStage : Cond.instanceMethod yX1_readStage ∈ mW := mW_of (List.mem_append_right _ (List.mem_of_getElem? (i := 470) (by decide +kernel))) (by decide +kernel)
theorem se_X1_readStage : Cond.selects yX1_readStage.cls yX1_readStage yX1_readStage ∈ mW := mW_of (List.mem_append_left _ (List.mem_of_getElem? (i := 6) (by decide +kernel))) (by decide +kernel)
theorem de_X1_readStage : mDesc yX1_readStage 1 := by decide +kernel
abbrev rm_X1_readStage : Room := { frames := 4, cells := 0, slots := 0, locals := 90 }
theorem cd_X1_readPlan : Cond.code yX1_readPlan cX1_readPlan 3 (some .boolean) ∈ mW := mW_of (List.mem_append_right _ (List.mem_of_getElem? (i := 467) (by decide +kernel))) (by decide +kernel)
theorem im_X1_readPlan : Cond.instanceMethod yX1_readPlan ∈ mW := mW_of (List.mem_append_right _ (List.mem_of_getElem? (i := 465) (by decide +kernel))) (by decide +kernel)
theorem se_X1_readPlan : Cond.selects yX1_readPlan.cls yX1_readPlan yX1_readPlan ∈ mW := mW_of (List.mem_append_right _ (List.mem_of_getElem? (i := 466) (by decide +kernel))) (by decide +kernel)
theorem de_X1_readPlan : mDesc yX1_readPlan 1 := by decide +kernel
abbrev rm_X1_readPlan : Room := { frames := 5, cells := 0, slots := 0, locals := 111 }
theorem cd_X4_takeDraft : Cond.code yX4_takeDraft cX4_takeDraft 2 none ∈ mW := mW_of (List.mem_append_right _ (List.mem_of_getElem? (i := 508) (by decide +kernel))) (by decide +kernel)
theorem im_X4_takeDraft : Cond.instanceMethod yX4_takeDraft ∈ mW := mW_of (List.mem_append_right _ (List.mem_of_getElem? (i := 506) (by decide +kernel))) (by decide +kernel)
theorem se_X4_takeDraft : Cond.selects yX4_takeDraft.cls yX4_takeDraft yX4_takeDraft ∈ mW := mW_of (List.mem_append_right _ (List.mem_of_getElem? (i := 507) (by decide +kernel))) (by decide +kernel)
theorem de_X4_takeDraft : mDesc yX4_takeDraft 0 := by decide +kernel
abbrev rm_X4_takeDraft : Room := { frames := 0, cells := 0, slots := 0, locals := 0 }
theorem cd_X9_put : Cond.code yX9_put cX9_put 4 none ∈ mW := mW_of (List.mem_append_right _ (List.mem_of_getElem? (i := 387) (by decide +kernel))) (by decide +kernel)
theorem im_X9_put : Cond.instanceMethod yX9_put ∈ mW := mW_of (List.mem_append_right _ (List.mem_of_getElem? (i := 386) (by decide +kernel))) (by decide +kernel)
theorem se_X9_put : Cond.selects yX9_put.cls yX9_put yX9_put ∈ mW := mW_of (List.mem_append_left _ (List.mem_of_getElem? (i := 1) (by decide +kernel))) (by decide +kernel)
theorem de_X9_put : mDesc yX9_put 3 := by decide +kernel
abbrev rm_X9_put : Room := { frames := 0, cells := 0, slots := 0, locals := 0 }
theorem cd_X9_addNumber : Cond.code yX9_addNumber cX9_addNumber 7 (some .int) ∈ mW := mW_of (List.mem_append_right _ (List.mem_of_getElem? (i := 460) (by decide +kernel))) (by decide +kernel)
theorem im_X9_addNumber : Cond.instanceMethod yX9_addNumber ∈ mW := mW_of (List.mem_append_right _ (List.mem_of_getElem? (i := 459) (by decide +kernel))) (by decide +kernel)
theorem se_X9_addNumber : Cond.selects yX9_addNumber.cls yX9_addNumber yX9_addNumber ∈ mW := mW_of (List.mem_append_left _ (List.mem_of_getElem? (i := 5) (by decide +kernel))) (by decide +kernel)
theorem de_X9_addNumber : mDesc yX9_addNumber 1 := by decide +kernel
abbrev rm_X9_addNumber : Room := { frames := 1, cells := 0, slots := 0, locals := 23 }
theorem cd_X9_spells : Cond.code yX9_spells cX9_spells 5 (some .boolean) ∈ mW := mW_of (List.mem_append_right _ (List.mem_of_getElem? (i := 400) (by decide +kernel))) (by decide +kernel)
theorem im_X9_spells : Cond.instanceMethod yX9_spells ∈ mW := mW_of (List.mem_append_right _ (List.mem_of_getElem? (i := 399) (by decide +kernel))) (by decide +kernel)
theorem se_X9_spells : Cond.selects yX9_spells.cls yX9_spells yX9_spells ∈ mW := mW_of (List.mem_append_left _ (List.mem_of_getElem? (i := 4) (by decide +kernel))) (by decide +kernel)
theorem de_X9_spells : mDesc yX9_spells 3 := by decide +kernel
abbrev rm_X9_spells : Room := { frames := 4, cells := 0, slots := 0, locals := 100 }
theorem cd_X9_wordOf : Cond.code yX9_wordOf cX9_wordOf 3 (some .int) ∈ mW := mW_of (List.mem_append_right _ (List.mem_of_getElem? (i := 395) (by decide +kernel))) (by decide +kernel)
theorem im_X9_wordOf : Cond.instanceMethod yX9_wordOf ∈ mW := mW_of (List.mem_append_right _ (List.mem_of_getElem? (i := 394) (by decide +kernel))) (by decide +kernel)
theorem se_X9_wordOf : Cond.selects yX9_wordOf.cls yX9_wordOf yX9_wordOf ∈ mW := mW_of (List.mem_append_left _ (List.mem_of_getElem? (i := 3) (by decide +kernel))) (by decide +kernel)
theorem de_X9_wordOf : mDesc yX9_wordOf 2 := by decide +kernel
abbrev rm_X9_wordOf : Room := { frames := 5, cells := 0, slots := 0, locals := 124 }
theorem cd_X9_addWord : Cond.code yX9_addWord cX9_addWord 4 (some .int) ∈ mW := mW_of (List.mem_append_right _ (List.mem_of_getElem? (i := 391) (by decide +kernel))) (by decide +kernel)
theorem im_X9_addWord : Cond.instanceMethod yX9_addWord ∈ mW := mW_of (List.mem_append_right _ (List.mem_of_getElem? (i := 390) (by decide +kernel))) (by decide +kernel)
theorem se_X9_addWord : Cond.selects yX9_addWord.cls yX9_addWord yX9_addWord ∈ mW := mW_of (List.mem_append_left _ (List.mem_of_getElem? (i := 2) (by decide +kernel))) (by decide +kernel)
theorem de_X9_addWord : mDesc yX9_addWord 1 := by decide +kernel
abbrev rm_X9_addWord : Room := { frames := 6, cells := 0, slots := 0, locals := 146 }
theorem cd_X9_addToken : Cond.code yX9_addToken cX9_addToken 3 (some .int) ∈ mW := mW_of (List.mem_append_right _ (List.mem_of_getElem? (i := 383) (by decide +kernel))) (by decide +kernel)
theorem im_X9_addToken : Cond.instanceMethod yX9_addToken ∈ mW := mW_of (List.mem_append_right _ (List.mem_of_getElem? (i := 382) (by decide +kernel))) (by decide +kernel)
theorem se_X9_addToken : Cond.selects yX9_addToken.cls yX9_addToken yX9_addToken ∈ mW := mW_of (List.mem_append_left _ (List.mem_of_getElem? (i := 0) (by decide +kernel))) (by decide +kernel)
theorem de_X9_addToken : mDesc yX9_addToken 1 := by decide +kernel
abbrev rm_X9_addToken : Room := { frames := 7, cells := 0, slots := 0, locals := 169 }
theorem cd_X9_split : Cond.code yX9_split cX9_split 3 none ∈ mW := mW_of (List.mem_append_right _ (List.mem_of_getElem? (i := 379) (by decide +kernel))) (by decide +kernel)
theorem im_X9_split : Cond.instanceMethod yX9_split ∈ mW := mW_of (List.mem_append_right _ (List.mem_of_getElem? (i := 377) (by decide +kernel))) (by decide +kernel)
theorem se_X9_split : Cond.selects yX9_split.cls yX9_split yX9_split ∈ mW := mW_of (List.mem_append_right _ (List.mem_of_getElem? (i := 378) (by decide +kernel))) (by decide +kernel)
theorem de_X9_split : mDesc yX9_split 0 := by decide +kernel
abbrev rm_X9_split : Room := { frames := 8, cells := 0, slots := 0, locals := 191 }
theorem cd_X11_trigger : Cond.code yX11_trigger cX11_trigger 2 (some .int) ∈ mW := mW_of (List.mem_append_right _ (List.mem_of_getElem? (i := 375) (by decide +kernel))) (by decide +kernel)
theorem im_X11_trigger : Cond.instanceMethod yX11_trigger ∈ mW := mW_of (List.mem_append_right _ (List.mem_of_getElem? (i := 373) (by decide +kernel))) (by decide +kernel)
theorem se_X11_trigger : Cond.selects yX11_trigger.cls yX11_trigger yX11_trigger ∈ mW := mW_of (List.mem_append_right _ (List.mem_of_getElem? (i := 374) (by decide +kernel))) (by decide +kernel)
theorem de_X11_trigger : mDesc yX11_trigger 0 := by decide +kernel
abbrev rm_X11_trigger : Room := { frames := 9, cells := 0, slots := 0, locals := 213 }
theorem cd_X3_comesTo : Cond.code yX3_comesTo cX3_comesTo 4 (some .boolean) ∈ mW := mW_of (List.mem_append_right _ (List.mem_of_getElem? (i := 822) (by decide +kernel))) (by decide +kernel)
theorem im_X3_comesTo : Cond.instanceMethod yX3_comesTo ∈ mW := mW_of (List.mem_append_right _ (List.mem_of_getElem? (i := 821) (by decide +kernel))) (by decide +kernel)
theorem se_X3_comesTo : Cond.selects yX3_comesTo.cls yX3_comesTo yX3_comesTo ∈ mW := mW_of (List.mem_append_left _ (List.mem_of_getElem? (i := 27) (by decide +kernel))) (by decide +kernel)
theorem de_X3_comesTo : mDesc yX3_comesTo 2 := by decide +kernel
abbrev rm_X3_comesTo : Room := { frames := 0, cells := 0, slots := 0, locals := 0 }
theorem cd_X3_measureTurns : Cond.code yX3_measureTurns cX3_measureTurns 13 (some .int) ∈ mW := mW_of (List.mem_append_right _ (List.mem_of_getElem? (i := 818) (by decide +kernel))) (by decide +kernel)
theorem im_X3_measureTurns : Cond.instanceMethod yX3_measureTurns ∈ mW := mW_of (List.mem_append_right _ (List.mem_of_getElem? (i := 816) (by decide +kernel))) (by decide +kernel)
theorem se_X3_measureTurns : Cond.selects yX3_measureTurns.cls yX3_measureTurns yX3_measureTurns ∈ mW := mW_of (List.mem_append_right _ (List.mem_of_getElem? (i := 817) (by decide +kernel))) (by decide +kernel)
theorem de_X3_measureTurns : mDesc yX3_measureTurns 2 := by decide +kernel
abbrev rm_X3_measureTurns : Room := { frames := 1, cells := 0, slots := 0, locals := 23 }
theorem cd_X11_turns : Cond.code yX11_turns cX11_turns 5 (some .int) ∈ mW := mW_of (List.mem_append_right _ (List.mem_of_getElem? (i := 814) (by decide +kernel))) (by decide +kernel)
theorem im_X11_turns : Cond.instanceMethod yX11_turns ∈ mW := mW_of (List.mem_append_right _ (List.mem_of_getElem? (i := 812) (by decide +kernel))) (by decide +kernel)
theorem se_X11_turns : Cond.selects yX11_turns.cls yX11_turns yX11_turns ∈ mW := mW_of (List.mem_append_right _ (List.mem_of_getElem? (i := 813) (by decide +kernel))) (by decide +kernel)
theorem de_X11_turns : mDesc yX11_turns 3 := by decide +kernel
abbrev rm_X11_turns : Room := { frames := 2, cells := 0, slots := 0, locals := 55 }
theorem cd_X11_when : Cond.code yX11_when cX11_when 2 (some .int) ∈ mW := mW_of (List.mem_append_right _ (List.mem_of_getElem? (i := 889) (by decide +kernel))) (by decide +kernel)
theorem im_X11_when : Cond.instanceMethod yX11_when ∈ mW := mW_of (List.mem_append_right _ (List.mem_of_getElem? (i := 887) (by decide +kernel))) (by decide +kernel)
theorem se_X11_when : Cond.selects yX11_when.cls yX11_when yX11_when ∈ mW := mW_of (List.mem_append_right _ (List.mem_of_getElem? (i := 888) (by decide +kernel))) (by decide +kernel)
theorem de_X11_when : mDesc yX11_when 1 := by decide +kernel
abbrev rm_X11_when : Room := { frames := 2, cells := 0, slots := 0, locals := 43 }
theorem cd_X10_startOrStop : Cond.code yX10_startOrStop cX10_startOrStop 3 none ∈ mW := mW_of (List.mem_append_right _ (List.mem_of_getElem? (i := 876) (by decide +kernel))) (by decide +kernel)
theorem im_X10_startOrStop : Cond.instanceMethod yX10_startOrStop ∈ mW := mW_of (List.mem_append_right _ (List.mem_of_getElem? (i := 875) (by decide +kernel))) (by decide +kernel)
theorem se_X10_startOrStop : Cond.selects yX10_startOrStop.cls yX10_startOrStop yX10_startOrStop ∈ mW := mW_of (List.mem_append_left _ (List.mem_of_getElem? (i := 31) (by decide +kernel))) (by decide +kernel)
theorem de_X10_startOrStop : mDesc yX10_startOrStop 2 := by decide +kernel
abbrev rm_X10_startOrStop : Room := { frames := 0, cells := 0, slots := 0, locals := 0 }
theorem cd_X10_takeBit : Cond.code yX10_takeBit cX10_takeBit 3 none ∈ mW := mW_of (List.mem_append_right _ (List.mem_of_getElem? (i := 872) (by decide +kernel))) (by decide +kernel)
theorem im_X10_takeBit : Cond.instanceMethod yX10_takeBit ∈ mW := mW_of (List.mem_append_right _ (List.mem_of_getElem? (i := 871) (by decide +kernel))) (by decide +kernel)
theorem se_X10_takeBit : Cond.selects yX10_takeBit.cls yX10_takeBit yX10_takeBit ∈ mW := mW_of (List.mem_append_left _ (List.mem_of_getElem? (i := 30) (by decide +kernel))) (by decide +kernel)
theorem de_X10_takeBit : mDesc yX10_takeBit 2 := by decide +kernel
abbrev rm_X10_takeBit : Room := { frames := 1, cells := 0, slots := 0, locals := 22 }
theorem cd_X10_readTwo : Cond.code yX10_readTwo cX10_readTwo 6 none ∈ mW := mW_of (List.mem_append_right _ (List.mem_of_getElem? (i := 868) (by decide +kernel))) (by decide +kernel)
theorem im_X10_readTwo : Cond.instanceMethod yX10_readTwo ∈ mW := mW_of (List.mem_append_right _ (List.mem_of_getElem? (i := 866) (by decide +kernel))) (by decide +kernel)
theorem se_X10_readTwo : Cond.selects yX10_readTwo.cls yX10_readTwo yX10_readTwo ∈ mW := mW_of (List.mem_append_right _ (List.mem_of_getElem? (i := 867) (by decide +kernel))) (by decide +kernel)
theorem de_X10_readTwo : mDesc yX10_readTwo 3 := by decide +kernel
abbrev rm_X10_readTwo : Room := { frames := 4, cells := 0, slots := 0, locals := 87 }
theorem cd_X11_wires : Cond.code yX11_wires cX11_wires 4 (some .int) ∈ mW := mW_of (List.mem_append_right _ (List.mem_of_getElem? (i := 864) (by decide +kernel))) (by decide +kernel)
theorem im_X11_wires : Cond.instanceMethod yX11_wires ∈ mW := mW_of (List.mem_append_right _ (List.mem_of_getElem? (i := 862) (by decide +kernel))) (by decide +kernel)
theorem se_X11_wires : Cond.selects yX11_wires.cls yX11_wires yX11_wires ∈ mW := mW_of (List.mem_append_right _ (List.mem_of_getElem? (i := 863) (by decide +kernel))) (by decide +kernel)
theorem de_X11_wires : mDesc yX11_wires 3 := by decide +kernel
abbrev rm_X11_wires : Room := { frames := 5, cells := 0, slots := 0, locals := 112 }
theorem cd_X12_in : Cond.code yX12_in cX12_in 6 (some .boolean) ∈ mW := mW_of (List.mem_append_right _ (List.mem_of_getElem? (i := 1083) (by decide +kernel))) (by decide +kernel)
theorem sn_X12_in : Cond.static yX12_in ∈ mW := mW_of (List.mem_append_right _ (List.mem_of_getElem? (i := 1082) (by decide +kernel))) (by decide +kernel)
theorem de_X12_in : mDesc yX12_in 3 := by decide +kernel
abbrev rm_X12_in : Room := { frames := 0, cells := 0, slots := 0, locals := 0 }
theorem cd_X12_isRow : Cond.code yX12_isRow cX12_isRow 2 (some .boolean) ∈ mW := mW_of (List.mem_append_right _ (List.mem_of_getElem? (i := 1187) (by decide +kernel))) (by decide +kernel)
theorem im_X12_isRow : Cond.instanceMethod yX12_isRow ∈ mW := mW_of (List.mem_append_right _ (List.mem_of_getElem? (i := 1186) (by decide +kernel))) (by decide +kernel)
theorem se_X12_isRow : Cond.selects yX12_isRow.cls yX12_isRow yX12_isRow ∈ mW := mW_of (List.mem_append_left _ (List.mem_of_getElem? (i := 49) (by decide +kernel))) (by decide +kernel)
theorem de_X12_isRow : mDesc yX12_isRow 1 := by decide +kernel
abbrev rm_X12_isRow : Room := { frames := 1, cells := 0, slots := 0, locals := 25 }
theorem cd_X12_about : Cond.code yX12_about cX12_about 9 (some .int) ∈ mW := mW_of (List.mem_append_right _ (List.mem_of_getElem? (i := 1257) (by decide +kernel))) (by decide +kernel)
theorem im_X12_about : Cond.instanceMethod yX12_about ∈ mW := mW_of (List.mem_append_right _ (List.mem_of_getElem? (i := 1255) (by decide +kernel))) (by decide +kernel)
theorem se_X12_about : Cond.selects yX12_about.cls yX12_about yX12_about ∈ mW := mW_of (List.mem_append_right _ (List.mem_of_getElem? (i := 1256) (by decide +kernel))) (by decide +kernel)
theorem de_X12_about : mDesc yX12_about 2 := by decide +kernel
abbrev rm_X12_about : Room := { frames := 2, cells := 0, slots := 0, locals := 46 }
theorem cd_X12_arms : Cond.code yX12_arms cX12_arms 1 none ∈ mW := mW_of (List.mem_append_right _ (List.mem_of_getElem? (i := 1147) (by decide +kernel))) (by decide +kernel)
theorem im_X12_arms : Cond.instanceMethod yX12_arms ∈ mW := mW_of (List.mem_append_right _ (List.mem_of_getElem? (i := 1146) (by decide +kernel))) (by decide +kernel)
theorem se_X12_arms : Cond.selects yX12_arms.cls yX12_arms yX12_arms ∈ mW := mW_of (List.mem_append_left _ (List.mem_of_getElem? (i := 41) (by decide +kernel))) (by decide +kernel)
theorem de_X12_arms : mDesc yX12_arms 0 := by decide +kernel
abbrev rm_X12_arms : Room := { frames := 0, cells := 0, slots := 0, locals := 0 }
theorem cd_X12_arm : Cond.code yX12_arm cX12_arm 1 (some .int) ∈ mW := mW_of (List.mem_append_right _ (List.mem_of_getElem? (i := 1143) (by decide +kernel))) (by decide +kernel)
theorem im_X12_arm : Cond.instanceMethod yX12_arm ∈ mW := mW_of (List.mem_append_right _ (List.mem_of_getElem? (i := 1141) (by decide +kernel))) (by decide +kernel)
theorem se_X12_arm : Cond.selects yX12_arm.cls yX12_arm yX12_arm ∈ mW := mW_of (List.mem_append_right _ (List.mem_of_getElem? (i := 1142) (by decide +kernel))) (by decide +kernel)
theorem de_X12_arm : mDesc yX12_arm 0 := by decide +kernel
abbrev rm_X12_arm : Room := { frames := 1, cells := 0, slots := 0, locals := 20 }
theorem cd_X12_isSegment : Cond.code yX12_isSegment cX12_isSegment 2 (some .boolean) ∈ mW := mW_of (List.mem_append_right _ (List.mem_of_getElem? (i := 1205) (by decide +kernel))) (by decide +kernel)
theorem im_X12_isSegment : Cond.instanceMethod yX12_isSegment ∈ mW := mW_of (List.mem_append_right _ (List.mem_of_getElem? (i := 1204) (by decide +kernel))) (by decide +kernel)
theorem se_X12_isSegment : Cond.selects yX12_isSegment.cls yX12_isSegment yX12_isSegment ∈ mW := mW_of (List.mem_append_left _ (List.mem_of_getElem? (i := 50) (by decide +kernel))) (by decide +kernel)
theorem de_X12_isSegment : mDesc yX12_isSegment 1 := by decide +kernel
abbrev rm_X12_isSegment : Room := { frames := 1, cells := 0, slots := 0, locals := 25 }
theorem cd_X12_valueAt : Cond.code yX12_valueAt cX12_valueAt 4 (some .int) ∈ mW := mW_of (List.mem_append_right _ (List.mem_of_getElem? (i := 1214) (by decide +kernel))) (by decide +kernel)
theorem im_X12_valueAt : Cond.instanceMethod yX12_valueAt ∈ mW := mW_of (List.mem_append_right _ (List.mem_of_getElem? (i := 1213) (by decide +kernel))) (by decide +kernel)
theorem se_X12_valueAt : Cond.selects yX12_valueAt.cls yX12_valueAt yX12_valueAt ∈ mW := mW_of (List.mem_append_left _ (List.mem_of_getElem? (i := 51) (by decide +kernel))) (by decide +kernel)
theorem de_X12_valueAt : mDesc yX12_valueAt 3 := by decide +kernel
abbrev rm_X12_valueAt : Room := { frames := 0, cells := 0, slots := 0, locals := 0 }
theorem cd_X12_at : Cond.code yX12_at cX12_at 4 (some .int) ∈ mW := mW_of (List.mem_append_right _ (List.mem_of_getElem? (i := 1210) (by decide +kernel))) (by decide +kernel)
theorem im_X12_at : Cond.instanceMethod yX12_at ∈ mW := mW_of (List.mem_append_right _ (List.mem_of_getElem? (i := 1208) (by decide +kernel))) (by decide +kernel)
theorem se_X12_at : Cond.selects yX12_at.cls yX12_at yX12_at ∈ mW := mW_of (List.mem_append_right _ (List.mem_of_getElem? (i := 1209) (by decide +kernel))) (by decide +kernel)
theorem de_X12_at : mDesc yX12_at 3 := by decide +kernel
abbrev rm_X12_at : Room := { frames := 2, cells := 0, slots := 0, locals := 46 }
theorem cd_X12_bit : Cond.code yX12_bit cX12_bit 4 (some .int) ∈ mW := mW_of (List.mem_append_right _ (List.mem_of_getElem? (i := 1284) (by decide +kernel))) (by decide +kernel)
theorem im_X12_bit : Cond.instanceMethod yX12_bit ∈ mW := mW_of (List.mem_append_right _ (List.mem_of_getElem? (i := 1283) (by decide +kernel))) (by decide +kernel)
theorem se_X12_bit : Cond.selects yX12_bit.cls yX12_bit yX12_bit ∈ mW := mW_of (List.mem_append_left _ (List.mem_of_getElem? (i := 53) (by decide +kernel))) (by decide +kernel)
theorem de_X12_bit : mDesc yX12_bit 3 := by decide +kernel
abbrev rm_X12_bit : Room := { frames := 1, cells := 0, slots := 0, locals := 23 }
theorem cd_X12_gets : Cond.code yX12_gets cX12_gets 3 none ∈ mW := mW_of (List.mem_append_right _ (List.mem_of_getElem? (i := 1288) (by decide +kernel))) (by decide +kernel)
theorem im_X12_gets : Cond.instanceMethod yX12_gets ∈ mW := mW_of (List.mem_append_right _ (List.mem_of_getElem? (i := 1287) (by decide +kernel))) (by decide +kernel)
theorem se_X12_gets : Cond.selects yX12_gets.cls yX12_gets yX12_gets ∈ mW := mW_of (List.mem_append_left _ (List.mem_of_getElem? (i := 54) (by decide +kernel))) (by decide +kernel)
theorem de_X12_gets : mDesc yX12_gets 2 := by decide +kernel
abbrev rm_X12_gets : Room := { frames := 0, cells := 0, slots := 0, locals := 0 }
theorem cd_X12_bytes : Cond.code yX12_bytes cX12_bytes 8 (some .int) ∈ mW := mW_of (List.mem_append_right _ (List.mem_of_getElem? (i := 1279) (by decide +kernel))) (by decide +kernel)
theorem im_X12_bytes : Cond.instanceMethod yX12_bytes ∈ mW := mW_of (List.mem_append_right _ (List.mem_of_getElem? (i := 1277) (by decide +kernel))) (by decide +kernel)
theorem se_X12_bytes : Cond.selects yX12_bytes.cls yX12_bytes yX12_bytes ∈ mW := mW_of (List.mem_append_right _ (List.mem_of_getElem? (i := 1278) (by decide +kernel))) (by decide +kernel)
theorem de_X12_bytes : mDesc yX12_bytes 3 := by decide +kernel
abbrev rm_X12_bytes : Room := { frames := 2, cells := 0, slots := 0, locals := 46 }
theorem cd_X12_of : Cond.code yX12_of cX12_of 3 (some .int) ∈ mW := mW_of (List.mem_append_right _ (List.mem_of_getElem? (i := 1167) (by decide +kernel))) (by decide +kernel)
theorem im_X12_of : Cond.instanceMethod yX12_of ∈ mW := mW_of (List.mem_append_right _ (List.mem_of_getElem? (i := 1166) (by decide +kernel))) (by decide +kernel)
theorem se_X12_of : Cond.selects yX12_of.cls yX12_of yX12_of ∈ mW := mW_of (List.mem_append_left _ (List.mem_of_getElem? (i := 45) (by decide +kernel))) (by decide +kernel)
theorem de_X12_of : mDesc yX12_of 2 := by decide +kernel
abbrev rm_X12_of : Room := { frames := 0, cells := 0, slots := 0, locals := 0 }
theorem cd_X12_high : Cond.code yX12_high cX12_high 5 (some .int) ∈ mW := mW_of (List.mem_append_right _ (List.mem_of_getElem? (i := 1171) (by decide +kernel))) (by decide +kernel)
theorem im_X12_high : Cond.instanceMethod yX12_high ∈ mW := mW_of (List.mem_append_right _ (List.mem_of_getElem? (i := 1170) (by decide +kernel))) (by decide +kernel)
theorem se_X12_high : Cond.selects yX12_high.cls yX12_high yX12_high ∈ mW := mW_of (List.mem_append_left _ (List.mem_of_getElem? (i := 46) (by decide +kernel))) (by decide +kernel)
theorem de_X12_high : mDesc yX12_high 3 := by decide +kernel
abbrev rm_X12_high : Room := { frames := 1, cells := 0, slots := 0, locals := 22 }
theorem cd_X12_isRunt : Cond.code yX12_isRunt cX12_isRunt 8 (some .boolean) ∈ mW := mW_of (List.mem_append_right _ (List.mem_of_getElem? (i := 1175) (by decide +kernel))) (by decide +kernel)
theorem im_X12_isRunt : Cond.instanceMethod yX12_isRunt ∈ mW := mW_of (List.mem_append_right _ (List.mem_of_getElem? (i := 1174) (by decide +kernel))) (by decide +kernel)
theorem se_X12_isRunt : Cond.selects yX12_isRunt.cls yX12_isRunt yX12_isRunt ∈ mW := mW_of (List.mem_append_left _ (List.mem_of_getElem? (i := 47) (by decide +kernel))) (by decide +kernel)
theorem de_X12_isRunt : mDesc yX12_isRunt 4 := by decide +kernel
abbrev rm_X12_isRunt : Room := { frames := 2, cells := 0, slots := 0, locals := 46 }
theorem cd_X12_happens : Cond.code yX12_happens cX12_happens 8 (some .boolean) ∈ mW := mW_of (List.mem_append_right _ (List.mem_of_getElem? (i := 1163) (by decide +kernel))) (by decide +kernel)
theorem im_X12_happens : Cond.instanceMethod yX12_happens ∈ mW := mW_of (List.mem_append_right _ (List.mem_of_getElem? (i := 1162) (by decide +kernel))) (by decide +kernel)
theorem se_X12_happens : Cond.selects yX12_happens.cls yX12_happens yX12_happens ∈ mW := mW_of (List.mem_append_left _ (List.mem_of_getElem? (i := 44) (by decide +kernel))) (by decide +kernel)
theorem de_X12_happens : mDesc yX12_happens 1 := by decide +kernel
abbrev rm_X12_happens : Room := { frames := 3, cells := 0, slots := 0, locals := 73 }
theorem cd_X12_follows : Cond.code yX12_follows cX12_follows 2 none ∈ mW := mW_of (List.mem_append_right _ (List.mem_of_getElem? (i := 1159) (by decide +kernel))) (by decide +kernel)
theorem im_X12_follows : Cond.instanceMethod yX12_follows ∈ mW := mW_of (List.mem_append_right _ (List.mem_of_getElem? (i := 1158) (by decide +kernel))) (by decide +kernel)
theorem se_X12_follows : Cond.selects yX12_follows.cls yX12_follows yX12_follows ∈ mW := mW_of (List.mem_append_left _ (List.mem_of_getElem? (i := 43) (by decide +kernel))) (by decide +kernel)
theorem de_X12_follows : mDesc yX12_follows 1 := by decide +kernel
abbrev rm_X12_follows : Room := { frames := 4, cells := 0, slots := 0, locals := 100 }
theorem cd_X12_kept : Cond.code yX12_kept cX12_kept 4 none ∈ mW := mW_of (List.mem_append_right _ (List.mem_of_getElem? (i := 1179) (by decide +kernel))) (by decide +kernel)
theorem im_X12_kept : Cond.instanceMethod yX12_kept ∈ mW := mW_of (List.mem_append_right _ (List.mem_of_getElem? (i := 1178) (by decide +kernel))) (by decide +kernel)
theorem se_X12_kept : Cond.selects yX12_kept.cls yX12_kept yX12_kept ∈ mW := mW_of (List.mem_append_left _ (List.mem_of_getElem? (i := 48) (by decide +kernel))) (by decide +kernel)
theorem de_X12_kept : mDesc yX12_kept 0 := by decide +kernel
abbrev rm_X12_kept : Room := { frames := 1, cells := 0, slots := 0, locals := 20 }
theorem cd_X12_takes : Cond.code yX12_takes cX12_takes 3 none ∈ mW := mW_of (List.mem_append_right _ (List.mem_of_getElem? (i := 1155) (by decide +kernel))) (by decide +kernel)
theorem im_X12_takes : Cond.instanceMethod yX12_takes ∈ mW := mW_of (List.mem_append_right _ (List.mem_of_getElem? (i := 1154) (by decide +kernel))) (by decide +kernel)
theorem se_X12_takes : Cond.selects yX12_takes.cls yX12_takes yX12_takes ∈ mW := mW_of (List.mem_append_left _ (List.mem_of_getElem? (i := 42) (by decide +kernel))) (by decide +kernel)
theorem de_X12_takes : mDesc yX12_takes 1 := by decide +kernel
abbrev rm_X12_takes : Room := { frames := 5, cells := 0, slots := 0, locals := 121 }
theorem cd_X12_come : Cond.code yX12_come cX12_come 3 (some .int) ∈ mW := mW_of (List.mem_append_right _ (List.mem_of_getElem? (i := 1151) (by decide +kernel))) (by decide +kernel)
theorem im_X12_come : Cond.instanceMethod yX12_come ∈ mW := mW_of (List.mem_append_right _ (List.mem_of_getElem? (i := 1149) (by decide +kernel))) (by decide +kernel)
theorem se_X12_come : Cond.selects yX12_come.cls yX12_come yX12_come ∈ mW := mW_of (List.mem_append_right _ (List.mem_of_getElem? (i := 1150) (by decide +kernel))) (by decide +kernel)
theorem de_X12_come : mDesc yX12_come 1 := by decide +kernel
abbrev rm_X12_come : Room := { frames := 6, cells := 0, slots := 0, locals := 143 }
theorem cd_X12_down : Cond.code yX12_down cX12_down 5 (some .long) ∈ mW := mW_of (List.mem_append_right _ (List.mem_of_getElem? (i := 1275) (by decide +kernel))) (by decide +kernel)
theorem sn_X12_down : Cond.static yX12_down ∈ mW := mW_of (List.mem_append_right _ (List.mem_of_getElem? (i := 1274) (by decide +kernel))) (by decide +kernel)
theorem de_X12_down : mDesc yX12_down 2 := by decide +kernel
abbrev rm_X12_down : Room := { frames := 0, cells := 0, slots := 0, locals := 0 }
theorem cd_X12_drop : Cond.code yX12_drop cX12_drop 1 (some .int) ∈ mW := mW_of (List.mem_append_right _ (List.mem_of_getElem? (i := 1218) (by decide +kernel))) (by decide +kernel)
theorem im_X12_drop : Cond.instanceMethod yX12_drop ∈ mW := mW_of (List.mem_append_right _ (List.mem_of_getElem? (i := 1216) (by decide +kernel))) (by decide +kernel)
theorem se_X12_drop : Cond.selects yX12_drop.cls yX12_drop yX12_drop ∈ mW := mW_of (List.mem_append_right _ (List.mem_of_getElem? (i := 1217) (by decide +kernel))) (by decide +kernel)
theorem de_X12_drop : mDesc yX12_drop 0 := by decide +kernel
abbrev rm_X12_drop : Room := { frames := 0, cells := 0, slots := 0, locals := 0 }
theorem cd_X12_end : Cond.code yX12_end cX12_end 3 (some .int) ∈ mW := mW_of (List.mem_append_right _ (List.mem_of_getElem? (i := 1080) (by decide +kernel))) (by decide +kernel)
theorem im_X12_end : Cond.instanceMethod yX12_end ∈ mW := mW_of (List.mem_append_right _ (List.mem_of_getElem? (i := 1078) (by decide +kernel))) (by decide +kernel)
theorem se_X12_end : Cond.selects yX12_end.cls yX12_end yX12_end ∈ mW := mW_of (List.mem_append_right _ (List.mem_of_getElem? (i := 1079) (by decide +kernel))) (by decide +kernel)
theorem de_X12_end : mDesc yX12_end 1 := by decide +kernel
abbrev rm_X12_end : Room := { frames := 1, cells := 0, slots := 0, locals := 25 }
theorem cd_X12_eye : Cond.code yX12_eye cX12_eye 12 (some .int) ∈ mW := mW_of (List.mem_append_right _ (List.mem_of_getElem? (i := 1270) (by decide +kernel))) (by decide +kernel)
theorem im_X12_eye : Cond.instanceMethod yX12_eye ∈ mW := mW_of (List.mem_append_right _ (List.mem_of_getElem? (i := 1268) (by decide +kernel))) (by decide +kernel)
theorem se_X12_eye : Cond.selects yX12_eye.cls yX12_eye yX12_eye ∈ mW := mW_of (List.mem_append_right _ (List.mem_of_getElem? (i := 1269) (by decide +kernel))) (by decide +kernel)
theorem de_X12_eye : mDesc yX12_eye 7 := by decide +kernel
abbrev rm_X12_eye : Room := { frames := 2, cells := 0, slots := 0, locals := 46 }
theorem cd_X12_fails : Cond.code yX12_fails cX12_fails 3 none ∈ mW := mW_of (List.mem_append_right _ (List.mem_of_getElem? (i := 1114) (by decide +kernel))) (by decide +kernel)
theorem im_X12_fails : Cond.instanceMethod yX12_fails ∈ mW := mW_of (List.mem_append_right _ (List.mem_of_getElem? (i := 1113) (by decide +kernel))) (by decide +kernel)
theorem se_X12_fails : Cond.selects yX12_fails.cls yX12_fails yX12_fails ∈ mW := mW_of (List.mem_append_left _ (List.mem_of_getElem? (i := 37) (by decide +kernel))) (by decide +kernel)
theorem de_X12_fails : mDesc yX12_fails 2 := by decide +kernel
abbrev rm_X12_fails : Room := { frames := 0, cells := 0, slots := 0, locals := 0 }
theorem cd_X12_fault : Cond.code yX12_fault cX12_fault 1 (some .int) ∈ mW := mW_of (List.mem_append_right _ (List.mem_of_getElem? (i := 1134) (by decide +kernel))) (by decide +kernel)
theorem im_X12_fault : Cond.instanceMethod yX12_fault ∈ mW := mW_of (List.mem_append_right _ (List.mem_of_getElem? (i := 1132) (by decide +kernel))) (by decide +kernel)
theorem se_X12_fault : Cond.selects yX12_fault.cls yX12_fault yX12_fault ∈ mW := mW_of (List.mem_append_right _ (List.mem_of_getElem? (i := 1133) (by decide +kernel))) (by decide +kernel)
theorem de_X12_fault : mDesc yX12_fault 0 := by decide +kernel
abbrev rm_X12_fault : Room := { frames := 0, cells := 0, slots := 0, locals := 0 }
theorem cd_X12_feed : Cond.code yX12_feed cX12_feed 4 (some .int) ∈ mW := mW_of (List.mem_append_right _ (List.mem_of_getElem? (i := 1075) (by decide +kernel))) (by decide +kernel)
theorem im_X12_feed : Cond.instanceMethod yX12_feed ∈ mW := mW_of (List.mem_append_right _ (List.mem_of_getElem? (i := 1073) (by decide +kernel))) (by decide +kernel)
theorem se_X12_feed : Cond.selects yX12_feed.cls yX12_feed yX12_feed ∈ mW := mW_of (List.mem_append_right _ (List.mem_of_getElem? (i := 1074) (by decide +kernel))) (by decide +kernel)
theorem de_X12_feed : mDesc yX12_feed 1 := by decide +kernel
abbrev rm_X12_feed : Room := { frames := 0, cells := 0, slots := 0, locals := 0 }
theorem cd_X12_first : Cond.code yX12_first cX12_first 1 (some .int) ∈ mW := mW_of (List.mem_append_right _ (List.mem_of_getElem? (i := 1234) (by decide +kernel))) (by decide +kernel)
theorem im_X12_first : Cond.instanceMethod yX12_first ∈ mW := mW_of (List.mem_append_right _ (List.mem_of_getElem? (i := 1232) (by decide +kernel))) (by decide +kernel)
theorem se_X12_first : Cond.selects yX12_first.cls yX12_first yX12_first ∈ mW := mW_of (List.mem_append_right _ (List.mem_of_getElem? (i := 1233) (by decide +kernel))) (by decide +kernel)
theorem de_X12_first : mDesc yX12_first 0 := by decide +kernel
abbrev rm_X12_first : Room := { frames := 0, cells := 0, slots := 0, locals := 0 }
theorem cd_X12_frame : Cond.code yX12_frame cX12_frame 6 (some .int) ∈ mW := mW_of (List.mem_append_right _ (List.mem_of_getElem? (i := 1304) (by decide +kernel))) (by decide +kernel)
theorem im_X12_frame : Cond.instanceMethod yX12_frame ∈ mW := mW_of (List.mem_append_right _ (List.mem_of_getElem? (i := 1302) (by decide +kernel))) (by decide +kernel)
theorem se_X12_frame : Cond.selects yX12_frame.cls yX12_frame yX12_frame ∈ mW := mW_of (List.mem_append_right _ (List.mem_of_getElem? (i := 1303) (by decide +kernel))) (by decide +kernel)
theorem de_X12_frame : mDesc yX12_frame 1 := by decide +kernel
abbrev rm_X12_frame : Room := { frames := 1, cells := 0, slots := 0, locals := 25 }
theorem cd_X12_got : Cond.code yX12_got cX12_got 2 (some .int) ∈ mW := mW_of (List.mem_append_right _ (List.mem_of_getElem? (i := 1296) (by decide +kernel))) (by decide +kernel)
theorem im_X12_got : Cond.instanceMethod yX12_got ∈ mW := mW_of (List.mem_append_right _ (List.mem_of_getElem? (i := 1294) (by decide +kernel))) (by decide +kernel)
theorem se_X12_got : Cond.selects yX12_got.cls yX12_got yX12_got ∈ mW := mW_of (List.mem_append_right _ (List.mem_of_getElem? (i := 1295) (by decide +kernel))) (by decide +kernel)
theorem de_X12_got : mDesc yX12_got 1 := by decide +kernel
abbrev rm_X12_got : Room := { frames := 1, cells := 0, slots := 0, locals := 25 }
theorem cd_X12_keep : Cond.code yX12_keep cX12_keep 3 (some .int) ∈ mW := mW_of (List.mem_append_right _ (List.mem_of_getElem? (i := 1138) (by decide +kernel))) (by decide +kernel)
theorem im_X12_keep : Cond.instanceMethod yX12_keep ∈ mW := mW_of (List.mem_append_right _ (List.mem_of_getElem? (i := 1136) (by decide +kernel))) (by decide +kernel)
theorem se_X12_keep : Cond.selects yX12_keep.cls yX12_keep yX12_keep ∈ mW := mW_of (List.mem_append_right _ (List.mem_of_getElem? (i := 1137) (by decide +kernel))) (by decide +kernel)
theorem de_X12_keep : mDesc yX12_keep 2 := by decide +kernel
abbrev rm_X12_keep : Room := { frames := 1, cells := 0, slots := 0, locals := 25 }
theorem cd_X12_lay : Cond.code yX12_lay cX12_lay 4 (some .int) ∈ mW := mW_of (List.mem_append_right _ (List.mem_of_getElem? (i := 1226) (by decide +kernel))) (by decide +kernel)
theorem im_X12_lay : Cond.instanceMethod yX12_lay ∈ mW := mW_of (List.mem_append_right _ (List.mem_of_getElem? (i := 1224) (by decide +kernel))) (by decide +kernel)
theorem se_X12_lay : Cond.selects yX12_lay.cls yX12_lay yX12_lay ∈ mW := mW_of (List.mem_append_right _ (List.mem_of_getElem? (i := 1225) (by decide +kernel))) (by decide +kernel)
theorem de_X12_lay : mDesc yX12_lay 3 := by decide +kernel
abbrev rm_X12_lay : Room := { frames := 1, cells := 0, slots := 0, locals := 25 }
theorem cd_X12_look : Cond.code yX12_look cX12_look 1 (some .int) ∈ mW := mW_of (List.mem_append_right _ (List.mem_of_getElem? (i := 1099) (by decide +kernel))) (by decide +kernel)
theorem im_X12_look : Cond.instanceMethod yX12_look ∈ mW := mW_of (List.mem_append_right _ (List.mem_of_getElem? (i := 1098) (by decide +kernel))) (by decide +kernel)
theorem se_X12_look : Cond.selects yX12_look.cls yX12_look yX12_look ∈ mW := mW_of (List.mem_append_left _ (List.mem_of_getElem? (i := 36) (by decide +kernel))) (by decide +kernel)
theorem de_X12_look : mDesc yX12_look 0 := by decide +kernel
abbrev rm_X12_look : Room := { frames := 0, cells := 0, slots := 0, locals := 0 }
theorem cd_X12_mask : Cond.code yX12_mask cX12_mask 13 (some .int) ∈ mW := mW_of (List.mem_append_right _ (List.mem_of_getElem? (i := 1230) (by decide +kernel))) (by decide +kernel)
theorem im_X12_mask : Cond.instanceMethod yX12_mask ∈ mW := mW_of (List.mem_append_right _ (List.mem_of_getElem? (i := 1228) (by decide +kernel))) (by decide +kernel)
theorem se_X12_mask : Cond.selects yX12_mask.cls yX12_mask yX12_mask ∈ mW := mW_of (List.mem_append_right _ (List.mem_of_getElem? (i := 1229) (by decide +kernel))) (by decide +kernel)
theorem de_X12_mask : mDesc yX12_mask 6 := by decide +kernel
abbrev rm_X12_mask : Room := { frames := 2, cells := 0, slots := 0, locals := 46 }
theorem cd_X12_packed : Cond.code yX12_packed cX12_packed 8 (some .long) ∈ mW := mW_of (List.mem_append_right _ (List.mem_of_getElem? (i := 1110) (by decide +kernel))) (by decide +kernel)
theorem sn_X12_packed : Cond.static yX12_packed ∈ mW := mW_of (List.mem_append_right _ (List.mem_of_getElem? (i := 1109) (by decide +kernel))) (by decide +kernel)
theorem de_X12_packed : mDesc yX12_packed 6 := by decide +kernel
abbrev rm_X12_packed : Room := { frames := 0, cells := 0, slots := 0, locals := 0 }
theorem cd_X12_named : Cond.code yX12_named cX12_named 2 (some .int) ∈ mW := mW_of (List.mem_append_right _ (List.mem_of_getElem? (i := 1107) (by decide +kernel))) (by decide +kernel)
theorem sn_X12_named : Cond.static yX12_named ∈ mW := mW_of (List.mem_append_right _ (List.mem_of_getElem? (i := 1106) (by decide +kernel))) (by decide +kernel)
theorem de_X12_named : mDesc yX12_named 1 := by decide +kernel
abbrev rm_X12_named : Room := { frames := 1, cells := 0, slots := 0, locals := 27 }
theorem cd_X12_next : Cond.code yX12_next cX12_next 3 none ∈ mW := mW_of (List.mem_append_right _ (List.mem_of_getElem? (i := 1095) (by decide +kernel))) (by decide +kernel)
theorem im_X12_next : Cond.instanceMethod yX12_next ∈ mW := mW_of (List.mem_append_right _ (List.mem_of_getElem? (i := 1094) (by decide +kernel))) (by decide +kernel)
theorem se_X12_next : Cond.selects yX12_next.cls yX12_next yX12_next ∈ mW := mW_of (List.mem_append_left _ (List.mem_of_getElem? (i := 35) (by decide +kernel))) (by decide +kernel)
theorem de_X12_next : mDesc yX12_next 0 := by decide +kernel
abbrev rm_X12_next : Room := { frames := 2, cells := 0, slots := 0, locals := 48 }
theorem cd_X12_place : Cond.code yX12_place cX12_place 3 (some .long) ∈ mW := mW_of (List.mem_append_right _ (List.mem_of_getElem? (i := 1253) (by decide +kernel))) (by decide +kernel)
theorem im_X12_place : Cond.instanceMethod yX12_place ∈ mW := mW_of (List.mem_append_right _ (List.mem_of_getElem? (i := 1251) (by decide +kernel))) (by decide +kernel)
theorem se_X12_place : Cond.selects yX12_place.cls yX12_place yX12_place ∈ mW := mW_of (List.mem_append_right _ (List.mem_of_getElem? (i := 1252) (by decide +kernel))) (by decide +kernel)
theorem de_X12_place : mDesc yX12_place 2 := by decide +kernel
abbrev rm_X12_place : Room := { frames := 2, cells := 0, slots := 0, locals := 46 }
theorem cd_X12_play : Cond.code yX12_play cX12_play 7 (some .int) ∈ mW := mW_of (List.mem_append_right _ (List.mem_of_getElem? (i := 1183) (by decide +kernel))) (by decide +kernel)
theorem im_X12_play : Cond.instanceMethod yX12_play ∈ mW := mW_of (List.mem_append_right _ (List.mem_of_getElem? (i := 1181) (by decide +kernel))) (by decide +kernel)
theorem se_X12_play : Cond.selects yX12_play.cls yX12_play yX12_play ∈ mW := mW_of (List.mem_append_right _ (List.mem_of_getElem? (i := 1182) (by decide +kernel))) (by decide +kernel)
theorem de_X12_play : mDesc yX12_play 4 := by decide +kernel
abbrev rm_X12_play : Room := { frames := 6, cells := 0, slots := 0, locals := 143 }
theorem cd_X12_taken : Cond.code yX12_taken cX12_taken 4 (some .int) ∈ mW := mW_of (List.mem_append_right _ (List.mem_of_getElem? (i := 1124) (by decide +kernel))) (by decide +kernel)
theorem im_X12_taken : Cond.instanceMethod yX12_taken ∈ mW := mW_of (List.mem_append_right _ (List.mem_of_getElem? (i := 1123) (by decide +kernel))) (by decide +kernel)
theorem se_X12_taken : Cond.selects yX12_taken.cls yX12_taken yX12_taken ∈ mW := mW_of (List.mem_append_left _ (List.mem_of_getElem? (i := 39) (by decide +kernel))) (by decide +kernel)
theorem de_X12_taken : mDesc yX12_taken 2 := by decide +kernel
abbrev rm_X12_taken : Room := { frames := 3, cells := 0, slots := 0, locals := 70 }
theorem cd_X12_readEvent : Cond.code yX12_readEvent cX12_readEvent 3 none ∈ mW := mW_of (List.mem_append_right _ (List.mem_of_getElem? (i := 1128) (by decide +kernel))) (by decide +kernel)
theorem im_X12_readEvent : Cond.instanceMethod yX12_readEvent ∈ mW := mW_of (List.mem_append_right _ (List.mem_of_getElem? (i := 1127) (by decide +kernel))) (by decide +kernel)
theorem se_X12_readEvent : Cond.selects yX12_readEvent.cls yX12_readEvent yX12_readEvent ∈ mW := mW_of (List.mem_append_left _ (List.mem_of_getElem? (i := 40) (by decide +kernel))) (by decide +kernel)
theorem de_X12_readEvent : mDesc yX12_readEvent 1 := by decide +kernel
abbrev rm_X12_readEvent : Room := { frames := 4, cells := 0, slots := 0, locals := 93 }
theorem cd_X12_readStage : Cond.code yX12_readStage cX12_readStage 2 none ∈ mW := mW_of (List.mem_append_right _ (List.mem_of_getElem? (i := 1120) (by decide +kernel))) (by decide +kernel)
theorem im_X12_readStage : Cond.instanceMethod yX12_readStage ∈ mW := mW_of (List.mem_append_right _ (List.mem_of_getElem? (i := 1119) (by decide +kernel))) (by decide +kernel)
theorem se_X12_readStage : Cond.selects yX12_readStage.cls yX12_readStage yX12_readStage ∈ mW := mW_of (List.mem_append_left _ (List.mem_of_getElem? (i := 38) (by decide +kernel))) (by decide +kernel)
theorem de_X12_readStage : mDesc yX12_readStage 0 := by decide +kernel
abbrev rm_X12_readStage : Room := { frames := 5, cells := 0, slots := 0, locals := 115 }
theorem cd_X12_readTrigger : Cond.code yX12_readTrigger cX12_readTrigger 2 none ∈ mW := mW_of (List.mem_append_right _ (List.mem_of_getElem? (i := 1091) (by decide +kernel))) (by decide +kernel)
theorem im_X12_readTrigger : Cond.instanceMethod yX12_readTrigger ∈ mW := mW_of (List.mem_append_right _ (List.mem_of_getElem? (i := 1090) (by decide +kernel))) (by decide +kernel)
theorem se_X12_readTrigger : Cond.selects yX12_readTrigger.cls yX12_readTrigger yX12_readTrigger ∈ mW := mW_of (List.mem_append_left _ (List.mem_of_getElem? (i := 34) (by decide +kernel))) (by decide +kernel)
theorem de_X12_readTrigger : mDesc yX12_readTrigger 0 := by decide +kernel
abbrev rm_X12_readTrigger : Room := { frames := 6, cells := 0, slots := 0, locals := 136 }
theorem cd_X12_single : Cond.code yX12_single cX12_single 10 none ∈ mW := mW_of (List.mem_append_right _ (List.mem_of_getElem? (i := 1249) (by decide +kernel))) (by decide +kernel)
theorem im_X12_single : Cond.instanceMethod yX12_single ∈ mW := mW_of (List.mem_append_right _ (List.mem_of_getElem? (i := 1248) (by decide +kernel))) (by decide +kernel)
theorem se_X12_single : Cond.selects yX12_single.cls yX12_single yX12_single ∈ mW := mW_of (List.mem_append_left _ (List.mem_of_getElem? (i := 52) (by decide +kernel))) (by decide +kernel)
theorem de_X12_single : mDesc yX12_single 4 := by decide +kernel
abbrev rm_X12_single : Room := { frames := 0, cells := 0, slots := 0, locals := 0 }
theorem cd_X12_reckon : Cond.code yX12_reckon cX12_reckon 12 (some .int) ∈ mW := mW_of (List.mem_append_right _ (List.mem_of_getElem? (i := 1242) (by decide +kernel))) (by decide +kernel)
theorem im_X12_reckon : Cond.instanceMethod yX12_reckon ∈ mW := mW_of (List.mem_append_right _ (List.mem_of_getElem? (i := 1240) (by decide +kernel))) (by decide +kernel)
theorem se_X12_reckon : Cond.selects yX12_reckon.cls yX12_reckon yX12_reckon ∈ mW := mW_of (List.mem_append_right _ (List.mem_of_getElem? (i := 1241) (by decide +kernel))) (by decide +kernel)
theorem de_X12_reckon : mDesc yX12_reckon 5 := by decide +kernel
abbrev rm_X12_reckon : Room := { frames := 2, cells := 0, slots := 0, locals := 46 }
theorem cd_X12_row : Cond.code yX12_row cX12_row 5 (some .int) ∈ mW := mW_of (List.mem_append_right _ (List.mem_of_getElem? (i := 1238) (by decide +kernel))) (by decide +kernel)
theorem im_X12_row : Cond.instanceMethod yX12_row ∈ mW := mW_of (List.mem_append_right _ (List.mem_of_getElem? (i := 1236) (by decide +kernel))) (by decide +kernel)
theorem se_X12_row : Cond.selects yX12_row.cls yX12_row yX12_row ∈ mW := mW_of (List.mem_append_right _ (List.mem_of_getElem? (i := 1237) (by decide +kernel))) (by decide +kernel)
theorem de_X12_row : mDesc yX12_row 3 := by decide +kernel
abbrev rm_X12_row : Room := { frames := 2, cells := 0, slots := 0, locals := 46 }
theorem cd_X12_sample : Cond.code yX12_sample cX12_sample 3 (some .int) ∈ mW := mW_of (List.mem_append_right _ (List.mem_of_getElem? (i := 1193) (by decide +kernel))) (by decide +kernel)
theorem im_X12_sample : Cond.instanceMethod yX12_sample ∈ mW := mW_of (List.mem_append_right _ (List.mem_of_getElem? (i := 1191) (by decide +kernel))) (by decide +kernel)
theorem se_X12_sample : Cond.selects yX12_sample.cls yX12_sample yX12_sample ∈ mW := mW_of (List.mem_append_right _ (List.mem_of_getElem? (i := 1192) (by decide +kernel))) (by decide +kernel)
theorem de_X12_sample : mDesc yX12_sample 2 := by decide +kernel
abbrev rm_X12_sample : Room := { frames := 1, cells := 0, slots := 0, locals := 25 }
theorem cd_X12_segment : Cond.code yX12_segment cX12_segment 3 (some .int) ∈ mW := mW_of (List.mem_append_right _ (List.mem_of_getElem? (i := 1201) (by decide +kernel))) (by decide +kernel)
theorem im_X12_segment : Cond.instanceMethod yX12_segment ∈ mW := mW_of (List.mem_append_right _ (List.mem_of_getElem? (i := 1199) (by decide +kernel))) (by decide +kernel)
theorem se_X12_segment : Cond.selects yX12_segment.cls yX12_segment yX12_segment ∈ mW := mW_of (List.mem_append_right _ (List.mem_of_getElem? (i := 1200) (by decide +kernel))) (by decide +kernel)
theorem de_X12_segment : mDesc yX12_segment 2 := by decide +kernel
abbrev rm_X12_segment : Room := { frames := 2, cells := 0, slots := 0, locals := 46 }
theorem cd_X12_sheet : Cond.code yX12_sheet cX12_sheet 5 (some .int) ∈ mW := mW_of (List.mem_append_right _ (List.mem_of_getElem? (i := 1222) (by decide +kernel))) (by decide +kernel)
theorem im_X12_sheet : Cond.instanceMethod yX12_sheet ∈ mW := mW_of (List.mem_append_right _ (List.mem_of_getElem? (i := 1220) (by decide +kernel))) (by decide +kernel)
theorem se_X12_sheet : Cond.selects yX12_sheet.cls yX12_sheet yX12_sheet ∈ mW := mW_of (List.mem_append_right _ (List.mem_of_getElem? (i := 1221) (by decide +kernel))) (by decide +kernel)
theorem de_X12_sheet : mDesc yX12_sheet 3 := by decide +kernel
abbrev rm_X12_sheet : Room := { frames := 1, cells := 0, slots := 0, locals := 25 }
theorem cd_X12_told : Cond.code yX12_told cX12_told 2 (some .int) ∈ mW := mW_of (List.mem_append_right _ (List.mem_of_getElem? (i := 1197) (by decide +kernel))) (by decide +kernel)
theorem im_X12_told : Cond.instanceMethod yX12_told ∈ mW := mW_of (List.mem_append_right _ (List.mem_of_getElem? (i := 1195) (by decide +kernel))) (by decide +kernel)
theorem se_X12_told : Cond.selects yX12_told.cls yX12_told yX12_told ∈ mW := mW_of (List.mem_append_right _ (List.mem_of_getElem? (i := 1196) (by decide +kernel))) (by decide +kernel)
theorem de_X12_told : mDesc yX12_told 1 := by decide +kernel
abbrev rm_X12_told : Room := { frames := 0, cells := 0, slots := 0, locals := 0 }
theorem cd_X12_total : Cond.code yX12_total cX12_total 5 (some .long) ∈ mW := mW_of (List.mem_append_right _ (List.mem_of_getElem? (i := 1262) (by decide +kernel))) (by decide +kernel)
theorem im_X12_total : Cond.instanceMethod yX12_total ∈ mW := mW_of (List.mem_append_right _ (List.mem_of_getElem? (i := 1260) (by decide +kernel))) (by decide +kernel)
theorem se_X12_total : Cond.selects yX12_total.cls yX12_total yX12_total ∈ mW := mW_of (List.mem_append_right _ (List.mem_of_getElem? (i := 1261) (by decide +kernel))) (by decide +kernel)
theorem de_X12_total : mDesc yX12_total 1 := by decide +kernel
abbrev rm_X12_total : Room := { frames := 2, cells := 0, slots := 0, locals := 46 }
theorem cd_X12_trigger : Cond.code yX12_trigger cX12_trigger 2 (some .int) ∈ mW := mW_of (List.mem_append_right _ (List.mem_of_getElem? (i := 1087) (by decide +kernel))) (by decide +kernel)
theorem im_X12_trigger : Cond.instanceMethod yX12_trigger ∈ mW := mW_of (List.mem_append_right _ (List.mem_of_getElem? (i := 1085) (by decide +kernel))) (by decide +kernel)
theorem se_X12_trigger : Cond.selects yX12_trigger.cls yX12_trigger yX12_trigger ∈ mW := mW_of (List.mem_append_right _ (List.mem_of_getElem? (i := 1086) (by decide +kernel))) (by decide +kernel)
theorem de_X12_trigger : mDesc yX12_trigger 0 := by decide +kernel
abbrev rm_X12_trigger : Room := { frames := 7, cells := 0, slots := 0, locals := 157 }
theorem cd_X12_turns : Cond.code yX12_turns cX12_turns 15 (some .int) ∈ mW := mW_of (List.mem_append_right _ (List.mem_of_getElem? (i := 1266) (by decide +kernel))) (by decide +kernel)
theorem im_X12_turns : Cond.instanceMethod yX12_turns ∈ mW := mW_of (List.mem_append_right _ (List.mem_of_getElem? (i := 1264) (by decide +kernel))) (by decide +kernel)
theorem se_X12_turns : Cond.selects yX12_turns.cls yX12_turns yX12_turns ∈ mW := mW_of (List.mem_append_right _ (List.mem_of_getElem? (i := 1265) (by decide +kernel))) (by decide +kernel)
theorem de_X12_turns : mDesc yX12_turns 3 := by decide +kernel
abbrev rm_X12_turns : Room := { frames := 2, cells := 0, slots := 0, locals := 46 }
theorem cd_X12_when : Cond.code yX12_when cX12_when 2 (some .int) ∈ mW := mW_of (List.mem_append_right _ (List.mem_of_getElem? (i := 1300) (by decide +kernel))) (by decide +kernel)
theorem im_X12_when : Cond.instanceMethod yX12_when ∈ mW := mW_of (List.mem_append_right _ (List.mem_of_getElem? (i := 1298) (by decide +kernel))) (by decide +kernel)
theorem se_X12_when : Cond.selects yX12_when.cls yX12_when yX12_when ∈ mW := mW_of (List.mem_append_right _ (List.mem_of_getElem? (i := 1299) (by decide +kernel))) (by decide +kernel)
theorem de_X12_when : mDesc yX12_when 1 := by decide +kernel
abbrev rm_X12_when : Room := { frames := 1, cells := 0, slots := 0, locals := 25 }
theorem cd_X12_wires : Cond.code yX12_wires cX12_wires 13 (some .int) ∈ mW := mW_of (List.mem_append_right _ (List.mem_of_getElem? (i := 1292) (by decide +kernel))) (by decide +kernel)
theorem im_X12_wires : Cond.instanceMethod yX12_wires ∈ mW := mW_of (List.mem_append_right _ (List.mem_of_getElem? (i := 1290) (by decide +kernel))) (by decide +kernel)
theorem se_X12_wires : Cond.selects yX12_wires.cls yX12_wires yX12_wires ∈ mW := mW_of (List.mem_append_right _ (List.mem_of_getElem? (i := 1291) (by decide +kernel))) (by decide +kernel)
theorem de_X12_wires : mDesc yX12_wires 3 := by decide +kernel
abbrev rm_X12_wires : Room := { frames := 2, cells := 0, slots := 0, locals := 46 }
theorem lk_RX11_57 : Cond.methodLink RX11 57 yX9_append ∈ mW := mW_of (List.mem_append_right _ (List.mem_of_getElem? (i := 357) (by decide +kernel))) (by decide +kernel)
theorem lk_RX11_64 : Cond.methodLink RX11 64 yX9_cutTo ∈ mW := mW_of (List.mem_append_right _ (List.mem_of_getElem? (i := 365) (by decide +kernel))) (by decide +kernel)
theorem lk_RX11_68 : Cond.methodLink RX11 68 yX9_split ∈ mW := mW_of (List.mem_append_right _ (List.mem_of_getElem? (i := 376) (by decide +kernel))) (by decide +kernel)
theorem lk_RX11_75 : Cond.methodLink RX11 75 yX1_readPlan ∈ mW := mW_of (List.mem_append_right _ (List.mem_of_getElem? (i := 464) (by decide +kernel))) (by decide +kernel)
theorem lk_RX11_82 : Cond.methodLink RX11 82 yX4_takeDraft ∈ mW := mW_of (List.mem_append_right _ (List.mem_of_getElem? (i := 505) (by decide +kernel))) (by decide +kernel)
theorem lk_RX11_96 : Cond.methodLink RX11 96 yX11_isIn ∈ mW := mW_of (List.mem_append_right _ (List.mem_of_getElem? (i := 517) (by decide +kernel))) (by decide +kernel)
theorem lk_RX11_113 : Cond.methodLink RX11 113 yX8_isFull ∈ mW := mW_of (List.mem_append_right _ (List.mem_of_getElem? (i := 522) (by decide +kernel))) (by decide +kernel)
theorem lk_RX11_119 : Cond.methodLink RX11 119 yX4_beginAnew ∈ mW := mW_of (List.mem_append_right _ (List.mem_of_getElem? (i := 526) (by decide +kernel))) (by decide +kernel)
theorem lk_RX11_122 : Cond.methodLink RX11 122 yX4_take ∈ mW := mW_of (List.mem_append_right _ (List.mem_of_getElem? (i := 542) (by decide +kernel))) (by decide +kernel)
theorem lk_RX11_127 : Cond.methodLink RX11 127 yX11_isTrace ∈ mW := mW_of (List.mem_append_right _ (List.mem_of_getElem? (i := 611) (by decide +kernel))) (by decide +kernel)
theorem lk_RX11_131 : Cond.methodLink RX11 131 yX3_valueAt ∈ mW := mW_of (List.mem_append_right _ (List.mem_of_getElem? (i := 614) (by decide +kernel))) (by decide +kernel)
theorem lk_RX11_135 : Cond.methodLink RX11 135 yX11_sampleOn ∈ mW := mW_of (List.mem_append_right _ (List.mem_of_getElem? (i := 619) (by decide +kernel))) (by decide +kernel)
theorem lk_RX11_143 : Cond.methodLink RX11 143 yX2_has ∈ mW := mW_of (List.mem_append_right _ (List.mem_of_getElem? (i := 626) (by decide +kernel))) (by decide +kernel)
theorem lk_RX11_148 : Cond.methodLink RX11 148 yX2_get ∈ mW := mW_of (List.mem_append_right _ (List.mem_of_getElem? (i := 632) (by decide +kernel))) (by decide +kernel)
theorem lk_RX11_152 : Cond.methodLink RX11 152 yX11_numberOn ∈ mW := mW_of (List.mem_append_right _ (List.mem_of_getElem? (i := 633) (by decide +kernel))) (by decide +kernel)
theorem lk_RX11_168 : Cond.methodLink RX11 168 yX8_has ∈ mW := mW_of (List.mem_append_right _ (List.mem_of_getElem? (i := 642) (by decide +kernel))) (by decide +kernel)
theorem lk_RX11_169 : Cond.methodLink RX11 169 yX8_get ∈ mW := mW_of (List.mem_append_right _ (List.mem_of_getElem? (i := 647) (by decide +kernel))) (by decide +kernel)
theorem lk_RX11_181 : Cond.methodLink RX11 181 yX11_hasTrace ∈ mW := mW_of (List.mem_append_right _ (List.mem_of_getElem? (i := 656) (by decide +kernel))) (by decide +kernel)
theorem lk_RX11_185 : Cond.methodLink RX11 185 yX5_has ∈ mW := mW_of (List.mem_append_right _ (List.mem_of_getElem? (i := 660) (by decide +kernel))) (by decide +kernel)
theorem lk_RX11_186 : Cond.methodLink RX11 186 yX5_numberAt ∈ mW := mW_of (List.mem_append_right _ (List.mem_of_getElem? (i := 665) (by decide +kernel))) (by decide +kernel)
theorem lk_RX11_189 : Cond.methodLink RX11 189 yX8_removeLatest ∈ mW := mW_of (List.mem_append_right _ (List.mem_of_getElem? (i := 675) (by decide +kernel))) (by decide +kernel)
theorem lk_RX11_192 : Cond.methodLink RX11 192 yX6_renew ∈ mW := mW_of (List.mem_append_right _ (List.mem_of_getElem? (i := 683) (by decide +kernel))) (by decide +kernel)
theorem lk_RX11_196 : Cond.methodLink RX11 196 yX6_isNothing ∈ mW := mW_of (List.mem_append_right _ (List.mem_of_getElem? (i := 692) (by decide +kernel))) (by decide +kernel)
theorem lk_RX11_199 : Cond.methodLink RX11 199 yX6_has ∈ mW := mW_of (List.mem_append_right _ (List.mem_of_getElem? (i := 696) (by decide +kernel))) (by decide +kernel)
theorem lk_RX11_200 : Cond.methodLink RX11 200 yX6_put ∈ mW := mW_of (List.mem_append_right _ (List.mem_of_getElem? (i := 701) (by decide +kernel))) (by decide +kernel)
theorem lk_RX11_203 : Cond.methodLink RX11 203 yX6_faultAs ∈ mW := mW_of (List.mem_append_right _ (List.mem_of_getElem? (i := 710) (by decide +kernel))) (by decide +kernel)
theorem lk_RX11_206 : Cond.methodLink RX11 206 yX6_allows ∈ mW := mW_of (List.mem_append_right _ (List.mem_of_getElem? (i := 715) (by decide +kernel))) (by decide +kernel)
theorem lk_RX11_209 : Cond.methodLink RX11 209 yX3_copyOf ∈ mW := mW_of (List.mem_append_right _ (List.mem_of_getElem? (i := 727) (by decide +kernel))) (by decide +kernel)
theorem lk_RX11_213 : Cond.methodLink RX11 213 yX11_isFilled ∈ mW := mW_of (List.mem_append_right _ (List.mem_of_getElem? (i := 740) (by decide +kernel))) (by decide +kernel)
theorem lk_RX11_216 : Cond.methodLink RX11 216 yX3_reckonOne ∈ mW := mW_of (List.mem_append_right _ (List.mem_of_getElem? (i := 744) (by decide +kernel))) (by decide +kernel)
theorem lk_RX11_220 : Cond.methodLink RX11 220 yX3_reckonTwo ∈ mW := mW_of (List.mem_append_right _ (List.mem_of_getElem? (i := 774) (by decide +kernel))) (by decide +kernel)
theorem lk_RX11_224 : Cond.methodLink RX11 224 yX3_countGaps ∈ mW := mW_of (List.mem_append_right _ (List.mem_of_getElem? (i := 790) (by decide +kernel))) (by decide +kernel)
theorem lk_RX11_228 : Cond.methodLink RX11 228 yX3_placeOfLeast ∈ mW := mW_of (List.mem_append_right _ (List.mem_of_getElem? (i := 794) (by decide +kernel))) (by decide +kernel)
theorem lk_RX11_231 : Cond.methodLink RX11 231 yX3_placeOfGreatest ∈ mW := mW_of (List.mem_append_right _ (List.mem_of_getElem? (i := 798) (by decide +kernel))) (by decide +kernel)
theorem lk_RX11_234 : Cond.methodLink RX11 234 yX3_firstGap ∈ mW := mW_of (List.mem_append_right _ (List.mem_of_getElem? (i := 802) (by decide +kernel))) (by decide +kernel)
theorem lk_RX11_237 : Cond.methodLink RX11 237 yX3_sum ∈ mW := mW_of (List.mem_append_right _ (List.mem_of_getElem? (i := 810) (by decide +kernel))) (by decide +kernel)
theorem lk_RX11_241 : Cond.methodLink RX11 241 yX3_measureTurns ∈ mW := mW_of (List.mem_append_right _ (List.mem_of_getElem? (i := 815) (by decide +kernel))) (by decide +kernel)
theorem lk_RX11_245 : Cond.methodLink RX11 245 yX3_isInBand ∈ mW := mW_of (List.mem_append_right _ (List.mem_of_getElem? (i := 827) (by decide +kernel))) (by decide +kernel)
theorem lk_RX11_249 : Cond.methodLink RX11 249 yX10_readOne ∈ mW := mW_of (List.mem_append_right _ (List.mem_of_getElem? (i := 838) (by decide +kernel))) (by decide +kernel)
theorem lk_RX11_254 : Cond.methodLink RX11 254 yX10_readTwo ∈ mW := mW_of (List.mem_append_right _ (List.mem_of_getElem? (i := 865) (by decide +kernel))) (by decide +kernel)
theorem lk_RX11_257 : Cond.methodLink RX11 257 yX10_has ∈ mW := mW_of (List.mem_append_right _ (List.mem_of_getElem? (i := 881) (by decide +kernel))) (by decide +kernel)
theorem lk_RX11_268 : Cond.methodLink RX11 268 yX10_findFrame ∈ mW := mW_of (List.mem_append_right _ (List.mem_of_getElem? (i := 894) (by decide +kernel))) (by decide +kernel)
theorem lk_RX0_25 : Cond.methodLink RX0 25 yX7_followHigh ∈ mW := mW_of (List.mem_append_right _ (List.mem_of_getElem? (i := 574) (by decide +kernel))) (by decide +kernel)
theorem lk_RX1_34 : Cond.methodLink RX1 34 yX1_readStage ∈ mW := mW_of (List.mem_append_right _ (List.mem_of_getElem? (i := 468) (by decide +kernel))) (by decide +kernel)
theorem lk_RX1_40 : Cond.methodLink RX1 40 yX1_sees ∈ mW := mW_of (List.mem_append_right _ (List.mem_of_getElem? (i := 472) (by decide +kernel))) (by decide +kernel)
theorem lk_RX1_44 : Cond.methodLink RX1 44 yX1_take ∈ mW := mW_of (List.mem_append_right _ (List.mem_of_getElem? (i := 485) (by decide +kernel))) (by decide +kernel)
theorem lk_RX1_47 : Cond.methodLink RX1 47 yX1_refuse ∈ mW := mW_of (List.mem_append_right _ (List.mem_of_getElem? (i := 480) (by decide +kernel))) (by decide +kernel)
theorem lk_RX1_55 : Cond.methodLink RX1 55 yX1_takeNumber ∈ mW := mW_of (List.mem_append_right _ (List.mem_of_getElem? (i := 476) (by decide +kernel))) (by decide +kernel)
theorem lk_RX1_62 : Cond.methodLink RX1 62 yX1_seesWithin ∈ mW := mW_of (List.mem_append_right _ (List.mem_of_getElem? (i := 489) (by decide +kernel))) (by decide +kernel)
theorem lk_RX1_69 : Cond.methodLink RX1 69 yX1_readOperands ∈ mW := mW_of (List.mem_append_right _ (List.mem_of_getElem? (i := 493) (by decide +kernel))) (by decide +kernel)
theorem lk_RX1_72 : Cond.methodLink RX1 72 yX1_readWithin ∈ mW := mW_of (List.mem_append_right _ (List.mem_of_getElem? (i := 501) (by decide +kernel))) (by decide +kernel)
theorem lk_RX1_84 : Cond.methodLink RX1 84 yX1_readThird ∈ mW := mW_of (List.mem_append_right _ (List.mem_of_getElem? (i := 497) (by decide +kernel))) (by decide +kernel)
theorem lk_RX2_19 : Cond.methodLink RX2 19 yJ9_floorMod_7cf53 ∈ mW := mW_of (List.mem_append_right _ (List.mem_of_getElem? (i := 550) (by decide +kernel))) (by decide +kernel)
theorem lk_RX2_25 : Cond.methodLink RX2 25 yJ9_max_7cf53 ∈ mW := mW_of (List.mem_append_right _ (List.mem_of_getElem? (i := 590) (by decide +kernel))) (by decide +kernel)
theorem lk_RX2_28 : Cond.methodLink RX2 28 yX2_oldest ∈ mW := mW_of (List.mem_append_right _ (List.mem_of_getElem? (i := 630) (by decide +kernel))) (by decide +kernel)
theorem lk_RX3_26 : Cond.methodLink RX3 26 yX5_numberAt ∈ mW := mW_of (List.mem_append_right _ (List.mem_of_getElem? (i := 731) (by decide +kernel))) (by decide +kernel)
theorem lk_RX3_30 : Cond.methodLink RX3 30 yX3_put ∈ mW := mW_of (List.mem_append_right _ (List.mem_of_getElem? (i := 732) (by decide +kernel))) (by decide +kernel)
theorem lk_RX3_38 : Cond.methodLink RX3 38 yJ9_min_7cf53 ∈ mW := mW_of (List.mem_append_right _ (List.mem_of_getElem? (i := 778) (by decide +kernel))) (by decide +kernel)
theorem lk_RX3_43 : Cond.methodLink RX3 43 yX3_putGap ∈ mW := mW_of (List.mem_append_right _ (List.mem_of_getElem? (i := 752) (by decide +kernel))) (by decide +kernel)
theorem lk_RX3_47 : Cond.methodLink RX3 47 yX3_joined ∈ mW := mW_of (List.mem_append_right _ (List.mem_of_getElem? (i := 779) (by decide +kernel))) (by decide +kernel)
theorem lk_RX3_51 : Cond.methodLink RX3 51 yX3_fillFrom ∈ mW := mW_of (List.mem_append_right _ (List.mem_of_getElem? (i := 748) (by decide +kernel))) (by decide +kernel)
theorem lk_RX3_55 : Cond.methodLink RX3 55 yX3_leavesGap ∈ mW := mW_of (List.mem_append_right _ (List.mem_of_getElem? (i := 756) (by decide +kernel))) (by decide +kernel)
theorem lk_RX3_58 : Cond.methodLink RX3 58 yX3_reckoned ∈ mW := mW_of (List.mem_append_right _ (List.mem_of_getElem? (i := 765) (by decide +kernel))) (by decide +kernel)
theorem lk_RX3_62 : Cond.methodLink RX3 62 yX3_hasGap ∈ mW := mW_of (List.mem_append_right _ (List.mem_of_getElem? (i := 760) (by decide +kernel))) (by decide +kernel)
theorem lk_RX3_66 : Cond.methodLink RX3 66 yX3_sum ∈ mW := mW_of (List.mem_append_right _ (List.mem_of_getElem? (i := 769) (by decide +kernel))) (by decide +kernel)
theorem lk_RX3_70 : Cond.methodLink RX3 70 yX3_valueAt ∈ mW := mW_of (List.mem_append_right _ (List.mem_of_getElem? (i := 773) (by decide +kernel))) (by decide +kernel)
theorem lk_RX3_74 : Cond.methodLink RX3 74 yJ9_max_7cf53 ∈ mW := mW_of (List.mem_append_right _ (List.mem_of_getElem? (i := 764) (by decide +kernel))) (by decide +kernel)
theorem lk_RX3_77 : Cond.methodLink RX3 77 yX3_comesTo ∈ mW := mW_of (List.mem_append_right _ (List.mem_of_getElem? (i := 819) (by decide +kernel))) (by decide +kernel)
theorem lk_RX3_81 : Cond.methodLink RX3 81 yJ9_floorDiv_f86c9 ∈ mW := mW_of (List.mem_append_right _ (List.mem_of_getElem? (i := 831) (by decide +kernel))) (by decide +kernel)
theorem lk_RX4_54 : Cond.methodLink RX4 54 yX0_forgetHighs ∈ mW := mW_of (List.mem_append_right _ (List.mem_of_getElem? (i := 530) (by decide +kernel))) (by decide +kernel)
theorem lk_RX4_57 : Cond.methodLink RX4 57 yX4_beginFirstStage ∈ mW := mW_of (List.mem_append_right _ (List.mem_of_getElem? (i := 534) (by decide +kernel))) (by decide +kernel)
theorem lk_RX4_70 : Cond.methodLink RX4 70 yX2_get ∈ mW := mW_of (List.mem_append_right _ (List.mem_of_getElem? (i := 546) (by decide +kernel))) (by decide +kernel)
theorem lk_RX4_74 : Cond.methodLink RX4 74 yX2_add ∈ mW := mW_of (List.mem_append_right _ (List.mem_of_getElem? (i := 553) (by decide +kernel))) (by decide +kernel)
theorem lk_RX4_77 : Cond.methodLink RX4 77 yX4_follow ∈ mW := mW_of (List.mem_append_right _ (List.mem_of_getElem? (i := 557) (by decide +kernel))) (by decide +kernel)
theorem lk_RX4_84 : Cond.methodLink RX4 84 yX4_keepSegment ∈ mW := mW_of (List.mem_append_right _ (List.mem_of_getElem? (i := 582) (by decide +kernel))) (by decide +kernel)
theorem lk_RX4_96 : Cond.methodLink RX4 96 yX7_happens ∈ mW := mW_of (List.mem_append_right _ (List.mem_of_getElem? (i := 562) (by decide +kernel))) (by decide +kernel)
theorem lk_RX4_102 : Cond.methodLink RX4 102 yX0_followHighs ∈ mW := mW_of (List.mem_append_right _ (List.mem_of_getElem? (i := 570) (by decide +kernel))) (by decide +kernel)
theorem lk_RX4_112 : Cond.methodLink RX4 112 yX4_countEvent ∈ mW := mW_of (List.mem_append_right _ (List.mem_of_getElem? (i := 578) (by decide +kernel))) (by decide +kernel)
theorem lk_RX4_115 : Cond.methodLink RX4 115 yX2_oldest ∈ mW := mW_of (List.mem_append_right _ (List.mem_of_getElem? (i := 586) (by decide +kernel))) (by decide +kernel)
theorem lk_RX4_119 : Cond.methodLink RX4 119 yJ9_max_7cf53 ∈ mW := mW_of (List.mem_append_right _ (List.mem_of_getElem? (i := 591) (by decide +kernel))) (by decide +kernel)
theorem lk_RX4_125 : Cond.methodLink RX4 125 yX8_add ∈ mW := mW_of (List.mem_append_right _ (List.mem_of_getElem? (i := 592) (by decide +kernel))) (by decide +kernel)
theorem lk_RX4_128 : Cond.methodLink RX4 128 yX8_isFull ∈ mW := mW_of (List.mem_append_right _ (List.mem_of_getElem? (i := 605) (by decide +kernel))) (by decide +kernel)
theorem lk_RX4_132 : Cond.methodLink RX4 132 yX4_beginAnew ∈ mW := mW_of (List.mem_append_right _ (List.mem_of_getElem? (i := 606) (by decide +kernel))) (by decide +kernel)
theorem lk_RX5_19 : Cond.methodLink RX5 19 yJ9_min_7cf53 ∈ mW := mW_of (List.mem_append_right _ (List.mem_of_getElem? (i := 601) (by decide +kernel))) (by decide +kernel)
theorem lk_RX5_31 : Cond.methodLink RX5 31 yX2_get ∈ mW := mW_of (List.mem_append_right _ (List.mem_of_getElem? (i := 604) (by decide +kernel))) (by decide +kernel)
theorem lk_RX5_41 : Cond.methodLink RX5 41 yX5_has ∈ mW := mW_of (List.mem_append_right _ (List.mem_of_getElem? (i := 669) (by decide +kernel))) (by decide +kernel)
theorem lk_RX5_48 : Cond.methodLink RX5 48 yX5_numberAt ∈ mW := mW_of (List.mem_append_right _ (List.mem_of_getElem? (i := 853) (by decide +kernel))) (by decide +kernel)
theorem lk_RX6_19 : Cond.methodLink RX6 19 yJ9_min_7cf53 ∈ mW := mW_of (List.mem_append_right _ (List.mem_of_getElem? (i := 687) (by decide +kernel))) (by decide +kernel)
theorem lk_RX6_32 : Cond.methodLink RX6 32 yX6_has ∈ mW := mW_of (List.mem_append_right _ (List.mem_of_getElem? (i := 705) (by decide +kernel))) (by decide +kernel)
theorem lk_RX6_36 : Cond.methodLink RX6 36 yX6_isNothing ∈ mW := mW_of (List.mem_append_right _ (List.mem_of_getElem? (i := 714) (by decide +kernel))) (by decide +kernel)
theorem lk_RX8_26 : Cond.methodLink RX8 26 yX8_has ∈ mW := mW_of (List.mem_append_right _ (List.mem_of_getElem? (i := 651) (by decide +kernel))) (by decide +kernel)
theorem lk_RX8_30 : Cond.methodLink RX8 30 yX8_isFull ∈ mW := mW_of (List.mem_append_right _ (List.mem_of_getElem? (i := 596) (by decide +kernel))) (by decide +kernel)
theorem lk_RX8_34 : Cond.methodLink RX8 34 yX5_copyOf ∈ mW := mW_of (List.mem_append_right _ (List.mem_of_getElem? (i := 597) (by decide +kernel))) (by decide +kernel)
theorem lk_RX9_36 : Cond.methodLink RX9 36 yX9_addToken ∈ mW := mW_of (List.mem_append_right _ (List.mem_of_getElem? (i := 380) (by decide +kernel))) (by decide +kernel)
theorem lk_RX9_40 : Cond.methodLink RX9 40 yJ9_max_7cf53 ∈ mW := mW_of (List.mem_append_right _ (List.mem_of_getElem? (i := 461) (by decide +kernel))) (by decide +kernel)
theorem lk_RX9_46 : Cond.methodLink RX9 46 yX9_put ∈ mW := mW_of (List.mem_append_right _ (List.mem_of_getElem? (i := 384) (by decide +kernel))) (by decide +kernel)
theorem lk_RX9_50 : Cond.methodLink RX9 50 yX9_addWord ∈ mW := mW_of (List.mem_append_right _ (List.mem_of_getElem? (i := 388) (by decide +kernel))) (by decide +kernel)
theorem lk_RX9_53 : Cond.methodLink RX9 53 yX9_addNumber ∈ mW := mW_of (List.mem_append_right _ (List.mem_of_getElem? (i := 457) (by decide +kernel))) (by decide +kernel)
theorem lk_RX9_56 : Cond.methodLink RX9 56 yX9_wordOf ∈ mW := mW_of (List.mem_append_right _ (List.mem_of_getElem? (i := 392) (by decide +kernel))) (by decide +kernel)
theorem lk_RX9_61 : Cond.methodLink RX9 61 yX9_spells ∈ mW := mW_of (List.mem_append_right _ (List.mem_of_getElem? (i := 397) (by decide +kernel))) (by decide +kernel)
theorem lk_RX10_36 : Cond.methodLink RX10 36 yX10_clear ∈ mW := mW_of (List.mem_append_right _ (List.mem_of_getElem? (i := 842) (by decide +kernel))) (by decide +kernel)
theorem lk_RX10_44 : Cond.methodLink RX10 44 yX10_beginsByte ∈ mW := mW_of (List.mem_append_right _ (List.mem_of_getElem? (i := 846) (by decide +kernel))) (by decide +kernel)
theorem lk_RX10_48 : Cond.methodLink RX10 48 yX5_isOne ∈ mW := mW_of (List.mem_append_right _ (List.mem_of_getElem? (i := 849) (by decide +kernel))) (by decide +kernel)
theorem lk_RX10_52 : Cond.methodLink RX10 52 yX10_byteBehind ∈ mW := mW_of (List.mem_append_right _ (List.mem_of_getElem? (i := 854) (by decide +kernel))) (by decide +kernel)
theorem lk_RX10_56 : Cond.methodLink RX10 56 yX10_add ∈ mW := mW_of (List.mem_append_right _ (List.mem_of_getElem? (i := 857) (by decide +kernel))) (by decide +kernel)
theorem lk_RX10_60 : Cond.methodLink RX10 60 yX10_takeBit ∈ mW := mW_of (List.mem_append_right _ (List.mem_of_getElem? (i := 869) (by decide +kernel))) (by decide +kernel)
theorem lk_RX10_63 : Cond.methodLink RX10 63 yX10_startOrStop ∈ mW := mW_of (List.mem_append_right _ (List.mem_of_getElem? (i := 873) (by decide +kernel))) (by decide +kernel)
theorem lk_RX10_73 : Cond.methodLink RX10 73 yJ9_max_7cf53 ∈ mW := mW_of (List.mem_append_right _ (List.mem_of_getElem? (i := 898) (by decide +kernel))) (by decide +kernel)
theorem lk_RX10_79 : Cond.methodLink RX10 79 yX10_beginsFrame ∈ mW := mW_of (List.mem_append_right _ (List.mem_of_getElem? (i := 899) (by decide +kernel))) (by decide +kernel)
theorem lk_RX10_83 : Cond.methodLink RX10 83 yX10_has ∈ mW := mW_of (List.mem_append_right _ (List.mem_of_getElem? (i := 907) (by decide +kernel))) (by decide +kernel)
theorem lk_RX10_86 : Cond.methodLink RX10 86 yX10_lowByte ∈ mW := mW_of (List.mem_append_right _ (List.mem_of_getElem? (i := 903) (by decide +kernel))) (by decide +kernel)
theorem lk_RX12_115 : Cond.methodLink RX12 115 yX12_in ∈ mW := mW_of (List.mem_append_right _ (List.mem_of_getElem? (i := 1081) (by decide +kernel))) (by decide +kernel)
theorem lk_RX12_132 : Cond.methodLink RX12 132 yX12_packed ∈ mW := mW_of (List.mem_append_right _ (List.mem_of_getElem? (i := 1108) (by decide +kernel))) (by decide +kernel)
theorem lk_RX12_136 : Cond.methodLink RX12 136 yX12_look ∈ mW := mW_of (List.mem_append_right _ (List.mem_of_getElem? (i := 1096) (by decide +kernel))) (by decide +kernel)
theorem lk_RX12_156 : Cond.methodLink RX12 156 yX12_named ∈ mW := mW_of (List.mem_append_right _ (List.mem_of_getElem? (i := 1105) (by decide +kernel))) (by decide +kernel)
theorem lk_RX12_163 : Cond.methodLink RX12 163 yX12_fails ∈ mW := mW_of (List.mem_append_right _ (List.mem_of_getElem? (i := 1111) (by decide +kernel))) (by decide +kernel)
theorem lk_RX12_171 : Cond.methodLink RX12 171 yX12_next ∈ mW := mW_of (List.mem_append_right _ (List.mem_of_getElem? (i := 1092) (by decide +kernel))) (by decide +kernel)
theorem lk_RX12_174 : Cond.methodLink RX12 174 yX12_taken ∈ mW := mW_of (List.mem_append_right _ (List.mem_of_getElem? (i := 1121) (by decide +kernel))) (by decide +kernel)
theorem lk_RX12_185 : Cond.methodLink RX12 185 yX12_readEvent ∈ mW := mW_of (List.mem_append_right _ (List.mem_of_getElem? (i := 1125) (by decide +kernel))) (by decide +kernel)
theorem lk_RX12_189 : Cond.methodLink RX12 189 yX12_readStage ∈ mW := mW_of (List.mem_append_right _ (List.mem_of_getElem? (i := 1117) (by decide +kernel))) (by decide +kernel)
theorem lk_RX12_192 : Cond.methodLink RX12 192 yX12_readTrigger ∈ mW := mW_of (List.mem_append_right _ (List.mem_of_getElem? (i := 1088) (by decide +kernel))) (by decide +kernel)
theorem lk_RX12_224 : Cond.methodLink RX12 224 yX12_arms ∈ mW := mW_of (List.mem_append_right _ (List.mem_of_getElem? (i := 1144) (by decide +kernel))) (by decide +kernel)
theorem lk_RX12_227 : Cond.methodLink RX12 227 yX12_of ∈ mW := mW_of (List.mem_append_right _ (List.mem_of_getElem? (i := 1164) (by decide +kernel))) (by decide +kernel)
theorem lk_RX12_230 : Cond.methodLink RX12 230 yX12_high ∈ mW := mW_of (List.mem_append_right _ (List.mem_of_getElem? (i := 1168) (by decide +kernel))) (by decide +kernel)
theorem lk_RX12_234 : Cond.methodLink RX12 234 yX12_isRunt ∈ mW := mW_of (List.mem_append_right _ (List.mem_of_getElem? (i := 1172) (by decide +kernel))) (by decide +kernel)
theorem lk_RX12_238 : Cond.methodLink RX12 238 yX12_happens ∈ mW := mW_of (List.mem_append_right _ (List.mem_of_getElem? (i := 1160) (by decide +kernel))) (by decide +kernel)
theorem lk_RX12_245 : Cond.methodLink RX12 245 yX12_follows ∈ mW := mW_of (List.mem_append_right _ (List.mem_of_getElem? (i := 1156) (by decide +kernel))) (by decide +kernel)
theorem lk_RX12_248 : Cond.methodLink RX12 248 yX12_kept ∈ mW := mW_of (List.mem_append_right _ (List.mem_of_getElem? (i := 1176) (by decide +kernel))) (by decide +kernel)
theorem lk_RX12_251 : Cond.methodLink RX12 251 yX12_takes ∈ mW := mW_of (List.mem_append_right _ (List.mem_of_getElem? (i := 1152) (by decide +kernel))) (by decide +kernel)
theorem lk_RX12_254 : Cond.methodLink RX12 254 yX12_isRow ∈ mW := mW_of (List.mem_append_right _ (List.mem_of_getElem? (i := 1184) (by decide +kernel))) (by decide +kernel)
theorem lk_RX12_261 : Cond.methodLink RX12 261 yX12_isSegment ∈ mW := mW_of (List.mem_append_right _ (List.mem_of_getElem? (i := 1202) (by decide +kernel))) (by decide +kernel)
theorem lk_RX12_266 : Cond.methodLink RX12 266 yX12_valueAt ∈ mW := mW_of (List.mem_append_right _ (List.mem_of_getElem? (i := 1211) (by decide +kernel))) (by decide +kernel)
theorem lk_RX12_275 : Cond.methodLink RX12 275 yX12_single ∈ mW := mW_of (List.mem_append_right _ (List.mem_of_getElem? (i := 1246) (by decide +kernel))) (by decide +kernel)
theorem lk_RX12_285 : Cond.methodLink RX12 285 yX12_down ∈ mW := mW_of (List.mem_append_right _ (List.mem_of_getElem? (i := 1273) (by decide +kernel))) (by decide +kernel)
theorem lk_RX12_294 : Cond.methodLink RX12 294 yX12_bit ∈ mW := mW_of (List.mem_append_right _ (List.mem_of_getElem? (i := 1281) (by decide +kernel))) (by decide +kernel)
theorem lk_RX12_297 : Cond.methodLink RX12 297 yX12_gets ∈ mW := mW_of (List.mem_append_right _ (List.mem_of_getElem? (i := 1285) (by decide +kernel))) (by decide +kernel)
theorem lk_RX1_106 : Cond.methodLinkNest RX1 106 yX11_isIn "TraceBench" ∈ mN := List.mem_filter.mpr ⟨List.mem_of_getElem? (i := 484) (by decide +kernel), rfl⟩
theorem lk_RX2_32 : Cond.methodLinkNest RX2 32 yX11_isIn "TraceBench" ∈ mN := List.mem_filter.mpr ⟨List.mem_of_getElem? (i := 631) (by decide +kernel), rfl⟩
theorem lk_RX3_34 : Cond.methodLinkNest RX3 34 yX11_isIn "TraceBench" ∈ mN := List.mem_filter.mpr ⟨List.mem_of_getElem? (i := 618) (by decide +kernel), rfl⟩
theorem lk_RX4_88 : Cond.methodLinkNest RX4 88 yX11_isIn "TraceBench" ∈ mN := List.mem_filter.mpr ⟨List.mem_of_getElem? (i := 561) (by decide +kernel), rfl⟩
theorem lk_RX5_37 : Cond.methodLinkNest RX5 37 yX11_isIn "TraceBench" ∈ mN := List.mem_filter.mpr ⟨List.mem_of_getElem? (i := 664) (by decide +kernel), rfl⟩
theorem lk_RX5_45 : Cond.methodLinkNest RX5 45 yX11_numberOn "TraceBench" ∈ mN := List.mem_filter.mpr ⟨List.mem_of_getElem? (i := 670) (by decide +kernel), rfl⟩
theorem lk_RX6_28 : Cond.methodLinkNest RX6 28 yX11_isIn "TraceBench" ∈ mN := List.mem_filter.mpr ⟨List.mem_of_getElem? (i := 700) (by decide +kernel), rfl⟩
theorem lk_RX7_15 : Cond.methodLinkNest RX7 15 yX11_numberOn "TraceBench" ∈ mN := List.mem_filter.mpr ⟨List.mem_of_getElem? (i := 566) (by decide +kernel), rfl⟩
theorem lk_RX7_38 : Cond.methodLinkNest RX7 38 yX11_isIn "TraceBench" ∈ mN := List.mem_filter.mpr ⟨List.mem_of_getElem? (i := 569) (by decide +kernel), rfl⟩
theorem lk_RX8_22 : Cond.methodLinkNest RX8 22 yX11_isIn "TraceBench" ∈ mN := List.mem_filter.mpr ⟨List.mem_of_getElem? (i := 646) (by decide +kernel), rfl⟩
theorem lk_RX9_29 : Cond.methodLinkNest RX9 29 yX11_isIn "TraceBench" ∈ mN := List.mem_filter.mpr ⟨List.mem_of_getElem? (i := 369) (by decide +kernel), rfl⟩
theorem lk_RX10_25 : Cond.methodLinkNest RX10 25 yX11_isIn "TraceBench" ∈ mN := List.mem_filter.mpr ⟨List.mem_of_getElem? (i := 885) (by decide +kernel), rfl⟩
theorem cl_RX12_113 : Cond.constantLong RX12 113 255 ∈ mW := mW_of (List.mem_append_right _ (List.mem_of_getElem? (i := 1076) (by decide +kernel))) (by decide +kernel)
theorem cl_RX12_128 : Cond.constantLong RX12 128 27 ∈ mW := mW_of (List.mem_append_right _ (List.mem_of_getElem? (i := 1102) (by decide +kernel))) (by decide +kernel)
theorem cl_RX12_130 : Cond.constantLong RX12 130 96 ∈ mW := mW_of (List.mem_append_right _ (List.mem_of_getElem? (i := 1103) (by decide +kernel))) (by decide +kernel)
theorem cl_RX12_146 : Cond.constantLong RX12 146 97 ∈ mW := mW_of (List.mem_append_right _ (List.mem_of_getElem? (i := 1100) (by decide +kernel))) (by decide +kernel)
theorem cl_RX12_148 : Cond.constantLong RX12 148 122 ∈ mW := mW_of (List.mem_append_right _ (List.mem_of_getElem? (i := 1101) (by decide +kernel))) (by decide +kernel)
theorem cl_RX12_154 : Cond.constantLong RX12 154 (-1) ∈ mW := mW_of (List.mem_append_right _ (List.mem_of_getElem? (i := 1104) (by decide +kernel))) (by decide +kernel)
theorem cl_RX12_167 : Cond.constantLong RX12 167 48 ∈ mW := mW_of (List.mem_append_right _ (List.mem_of_getElem? (i := 1115) (by decide +kernel))) (by decide +kernel)
theorem cl_RX12_169 : Cond.constantLong RX12 169 57 ∈ mW := mW_of (List.mem_append_right _ (List.mem_of_getElem? (i := 1116) (by decide +kernel))) (by decide +kernel)
theorem cl_RX12_178 : Cond.constantLong RX12 178 (-128) ∈ mW := mW_of (List.mem_append_right _ (List.mem_of_getElem? (i := 1129) (by decide +kernel))) (by decide +kernel)
theorem cl_RX12_180 : Cond.constantLong RX12 180 127 ∈ mW := mW_of (List.mem_append_right _ (List.mem_of_getElem? (i := 1130) (by decide +kernel))) (by decide +kernel)
theorem cl_RX12_201 : Cond.constantLong RX12 201 100 ∈ mW := mW_of (List.mem_append_right _ (List.mem_of_getElem? (i := 1139) (by decide +kernel))) (by decide +kernel)
theorem cl_RX12_257 : Cond.constantLong RX12 257 3 ∈ mW := mW_of (List.mem_append_right _ (List.mem_of_getElem? (i := 1188) (by decide +kernel))) (by decide +kernel)
theorem cl_RX12_259 : Cond.constantLong RX12 259 64 ∈ mW := mW_of (List.mem_append_right _ (List.mem_of_getElem? (i := 1189) (by decide +kernel))) (by decide +kernel)
theorem cl_RX12_264 : Cond.constantLong RX12 264 2 ∈ mW := mW_of (List.mem_append_right _ (List.mem_of_getElem? (i := 1206) (by decide +kernel))) (by decide +kernel)
theorem cl_RX12_269 : Cond.constantLong RX12 269 7 ∈ mW := mW_of (List.mem_append_right _ (List.mem_of_getElem? (i := 1243) (by decide +kernel))) (by decide +kernel)
theorem cl_RX12_271 : Cond.constantLong RX12 271 (-1000) ∈ mW := mW_of (List.mem_append_right _ (List.mem_of_getElem? (i := 1244) (by decide +kernel))) (by decide +kernel)
theorem cl_RX12_273 : Cond.constantLong RX12 273 1000 ∈ mW := mW_of (List.mem_append_right _ (List.mem_of_getElem? (i := 1245) (by decide +kernel))) (by decide +kernel)
theorem cl_RX12_279 : Cond.constantLong RX12 279 4 ∈ mW := mW_of (List.mem_append_right _ (List.mem_of_getElem? (i := 1258) (by decide +kernel))) (by decide +kernel)
theorem cl_RX12_281 : Cond.constantLong RX12 281 32 ∈ mW := mW_of (List.mem_append_right _ (List.mem_of_getElem? (i := 1271) (by decide +kernel))) (by decide +kernel)
theorem cl_RX12_283 : Cond.constantLong RX12 283 15 ∈ mW := mW_of (List.mem_append_right _ (List.mem_of_getElem? (i := 1272) (by decide +kernel))) (by decide +kernel)
theorem cl_RX12_292 : Cond.constantLong RX12 292 16 ∈ mW := mW_of (List.mem_append_right _ (List.mem_of_getElem? (i := 1280) (by decide +kernel))) (by decide +kernel)
theorem cl_RX12_300 : Cond.constantLong RX12 300 8 ∈ mW := mW_of (List.mem_append_right _ (List.mem_of_getElem? (i := 1305) (by decide +kernel))) (by decide +kernel)
