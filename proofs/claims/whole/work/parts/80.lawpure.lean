set_option maxRecDepth 100000 in
set_option maxHeartbeats 40000000 in
theorem law_loop (xs : Nat → Int32) (L : Nat) (hL : L ≤ 4608) : ∀ n c S, Inv c S → 9 * c ≤ L → L < 9 * (n + c) → ∃ S', f_L_law_18 xs L n (nI (9 * c)) S = some (1, S') := by
  intro n
  induction n with
  | zero => intro c S _ h1 h2; omega
  | succ n ih =>
    intro c S hI h1 h2
    have hn : ∀ S2, Inv (c + 1) S2 → 9 * (c + 1) ≤ L → ∃ S', f_L_law_18 xs L n (nI (9 * c) + (9 : Int32)) S2 = some (1, S') := fun S2 h3 h4 => by
      have e9 : nI (9 * c) + (9 : Int32) = nI (9 * (c + 1)) := nI_add (9 * c) 9
      rw [e9]
      exact ih (c + 1) S2 h3 h4 (by omega)
    unfold f_L_law_18
    by_cases hend : ((Int32.ofNat L) - (9 : Int32)) < nI (9 * c)
    · rw [if_pos hend]
      exact ⟨S, rfl⟩
    · rw [if_neg hend]
      have hle : 9 * c + 9 ≤ L := by
        rcases Nat.lt_or_ge L 9 with hl | hl
        · exfalso
          apply hend
          have hc : c = 0 := by omega
          subst hc
          exact (by decide : ∀ l, l < 9 → (Int32.ofNat l) - (9 : Int32) < nI (9 * 0)) L hl
        · have e : (Int32.ofNat L) - (9 : Int32) = nI (L - 9) := nI_sub (a := L) (b := 9) hl
          rw [e, nI_ltI (by omega) (by omega)] at hend
          omega
      have hc : c < 512 := by omega
      have q0 : 0 ≤ nI (9 * c) ∧ (nI (9 * c)).toNatClampNeg < L := ix (by omega) (by omega)
      rw [if_pos q0]
      have q1 : 0 ≤ (nI (9 * c) + (1 : Int32)) ∧ (nI (9 * c) + (1 : Int32)).toNatClampNeg < L := by
        rw [show nI (9 * c) + (1 : Int32) = nI (9 * c + 1) from nI_add (9 * c) 1]
        exact ix (by omega) (by omega)
      have q2 : 0 ≤ (nI (9 * c) + (2 : Int32)) ∧ (nI (9 * c) + (2 : Int32)).toNatClampNeg < L := by
        rw [show nI (9 * c) + (2 : Int32) = nI (9 * c + 2) from nI_add (9 * c) 2]
        exact ix (by omega) (by omega)
      have q3 : 0 ≤ (nI (9 * c) + (3 : Int32)) ∧ (nI (9 * c) + (3 : Int32)).toNatClampNeg < L := by
        rw [show nI (9 * c) + (3 : Int32) = nI (9 * c + 3) from nI_add (9 * c) 3]
        exact ix (by omega) (by omega)
      have q4 : 0 ≤ (nI (9 * c) + (4 : Int32)) ∧ (nI (9 * c) + (4 : Int32)).toNatClampNeg < L := by
        rw [show nI (9 * c) + (4 : Int32) = nI (9 * c + 4) from nI_add (9 * c) 4]
        exact ix (by omega) (by omega)
      have q5 : 0 ≤ (nI (9 * c) + (5 : Int32)) ∧ (nI (9 * c) + (5 : Int32)).toNatClampNeg < L := by
        rw [show nI (9 * c) + (5 : Int32) = nI (9 * c + 5) from nI_add (9 * c) 5]
        exact ix (by omega) (by omega)
      have q6 : 0 ≤ (nI (9 * c) + (6 : Int32)) ∧ (nI (9 * c) + (6 : Int32)).toNatClampNeg < L := by
        rw [show nI (9 * c) + (6 : Int32) = nI (9 * c + 6) from nI_add (9 * c) 6]
        exact ix (by omega) (by omega)
      have q7 : 0 ≤ (nI (9 * c) + (7 : Int32)) ∧ (nI (9 * c) + (7 : Int32)).toNatClampNeg < L := by
        rw [show nI (9 * c) + (7 : Int32) = nI (9 * c + 7) from nI_add (9 * c) 7]
        exact ix (by omega) (by omega)
      have q8 : 0 ≤ (nI (9 * c) + (8 : Int32)) ∧ (nI (9 * c) + (8 : Int32)).toNatClampNeg < L := by
        rw [show nI (9 * c) + (8 : Int32) = nI (9 * c + 8) from nI_add (9 * c) 8]
        exact ix (by omega) (by omega)
      by_cases g0 : ((xs (nI (9 * c)).toNatClampNeg) &&& (31 : Int32)) = (0 : Int32)
      · obtain ⟨r, S1, S2, e1, e2, e3⟩ := ag_feed c (((xs ((nI (9 * c)) + (1 : Int32)).toNatClampNeg).toInt64 <<< ((32 : Int32).toInt64 &&& 63)) ||| ((xs ((nI (9 * c)) + (2 : Int32)).toNatClampNeg).toInt64 &&& (4294967295 : Int64))) hc S hI
        simp only [if_pos g0, if_pos q1, if_pos q2, if_pos q3, if_pos q4, if_pos q5, if_pos q6, if_pos q7, if_pos q8, e1, mBind_of, e2, if_true, bnd]
        exact hn S2 e3 (by omega)
      rw [if_neg g0]
      by_cases g1 : ((xs (nI (9 * c)).toNatClampNeg) &&& (31 : Int32)) = (1 : Int32)
      · obtain ⟨r, S1, S2, e1, e2, e3⟩ := ag_end c (xs ((nI (9 * c)) + (1 : Int32)).toNatClampNeg) hc S hI
        simp only [if_pos g1, if_pos q1, if_pos q2, if_pos q3, if_pos q4, if_pos q5, if_pos q6, if_pos q7, if_pos q8, e1, mBind_of, e2, if_true, bnd]
        exact hn S2 e3 (by omega)
      rw [if_neg g1]
      by_cases g2 : ((xs (nI (9 * c)).toNatClampNeg) &&& (31 : Int32)) = (2 : Int32)
      · obtain ⟨r, S1, S2, e1, e2, e3⟩ := ag_trigger c  hc S hI
        simp only [if_pos g2, if_pos q1, if_pos q2, if_pos q3, if_pos q4, if_pos q5, if_pos q6, if_pos q7, if_pos q8, e1, mBind_of, e2, if_true, bnd]
        exact hn S2 e3 (by omega)
      rw [if_neg g2]
      by_cases g3 : ((xs (nI (9 * c)).toNatClampNeg) &&& (31 : Int32)) = (3 : Int32)
      · obtain ⟨r, S1, S2, e1, e2, e3⟩ := ag_fault c  hc S hI
        simp only [if_pos g3, if_pos q1, if_pos q2, if_pos q3, if_pos q4, if_pos q5, if_pos q6, if_pos q7, if_pos q8, e1, mBind_of, e2, if_true, bnd]
        exact hn S2 e3 (by omega)
      rw [if_neg g3]
      by_cases g4 : ((xs (nI (9 * c)).toNatClampNeg) &&& (31 : Int32)) = (4 : Int32)
      · obtain ⟨r, S1, S2, e1, e2, e3⟩ := ag_keep c (xs ((nI (9 * c)) + (1 : Int32)).toNatClampNeg) (xs ((nI (9 * c)) + (2 : Int32)).toNatClampNeg) hc S hI
        simp only [if_pos g4, if_pos q1, if_pos q2, if_pos q3, if_pos q4, if_pos q5, if_pos q6, if_pos q7, if_pos q8, e1, mBind_of, e2, if_true, bnd]
        exact hn S2 e3 (by omega)
      rw [if_neg g4]
      by_cases g5 : ((xs (nI (9 * c)).toNatClampNeg) &&& (31 : Int32)) = (5 : Int32)
      · obtain ⟨r, S1, S2, e1, e2, e3⟩ := ag_arm c  hc S hI
        simp only [if_pos g5, if_pos q1, if_pos q2, if_pos q3, if_pos q4, if_pos q5, if_pos q6, if_pos q7, if_pos q8, e1, mBind_of, e2, if_true, bnd]
        exact hn S2 e3 (by omega)
      rw [if_neg g5]
      by_cases g6 : ((xs (nI (9 * c)).toNatClampNeg) &&& (31 : Int32)) = (6 : Int32)
      · obtain ⟨r, S1, S2, e1, e2, e3⟩ := ag_come c (((xs ((nI (9 * c)) + (1 : Int32)).toNatClampNeg).toInt64 <<< ((32 : Int32).toInt64 &&& 63)) ||| ((xs ((nI (9 * c)) + (2 : Int32)).toNatClampNeg).toInt64 &&& (4294967295 : Int64))) hc S hI
        simp only [if_pos g6, if_pos q1, if_pos q2, if_pos q3, if_pos q4, if_pos q5, if_pos q6, if_pos q7, if_pos q8, e1, mBind_of, e2, if_true, bnd]
        exact hn S2 e3 (by omega)
      rw [if_neg g6]
      by_cases g7 : ((xs (nI (9 * c)).toNatClampNeg) &&& (31 : Int32)) = (7 : Int32)
      · obtain ⟨r, S1, S2, e1, e2, e3⟩ := ag_play c (xs ((nI (9 * c)) + (1 : Int32)).toNatClampNeg) (xs ((nI (9 * c)) + (2 : Int32)).toNatClampNeg) (xs ((nI (9 * c)) + (3 : Int32)).toNatClampNeg) (xs ((nI (9 * c)) + (4 : Int32)).toNatClampNeg) hc S hI
        simp only [if_pos g7, if_pos q1, if_pos q2, if_pos q3, if_pos q4, if_pos q5, if_pos q6, if_pos q7, if_pos q8, e1, mBind_of, e2, if_true, bnd]
        exact hn S2 e3 (by omega)
      rw [if_neg g7]
      by_cases g8 : ((xs (nI (9 * c)).toNatClampNeg) &&& (31 : Int32)) = (8 : Int32)
      · obtain ⟨r, S1, S2, e1, e2, e3⟩ := ag_sample c (xs ((nI (9 * c)) + (1 : Int32)).toNatClampNeg) (xs ((nI (9 * c)) + (2 : Int32)).toNatClampNeg) hc S hI
        simp only [if_pos g8, if_pos q1, if_pos q2, if_pos q3, if_pos q4, if_pos q5, if_pos q6, if_pos q7, if_pos q8, e1, mBind_of, e2, if_true, bnd]
        exact hn S2 e3 (by omega)
      rw [if_neg g8]
      by_cases g9 : ((xs (nI (9 * c)).toNatClampNeg) &&& (31 : Int32)) = (9 : Int32)
      · obtain ⟨r, S1, S2, e1, e2, e3⟩ := ag_told c (xs ((nI (9 * c)) + (1 : Int32)).toNatClampNeg) hc S hI
        simp only [if_pos g9, if_pos q1, if_pos q2, if_pos q3, if_pos q4, if_pos q5, if_pos q6, if_pos q7, if_pos q8, e1, mBind_of, e2, if_true, bnd]
        exact hn S2 e3 (by omega)
      rw [if_neg g9]
      by_cases g10 : ((xs (nI (9 * c)).toNatClampNeg) &&& (31 : Int32)) = (10 : Int32)
      · obtain ⟨r, S1, S2, e1, e2, e3⟩ := ag_segment c (xs ((nI (9 * c)) + (1 : Int32)).toNatClampNeg) (xs ((nI (9 * c)) + (2 : Int32)).toNatClampNeg) hc S hI
        simp only [if_pos g10, if_pos q1, if_pos q2, if_pos q3, if_pos q4, if_pos q5, if_pos q6, if_pos q7, if_pos q8, e1, mBind_of, e2, if_true, bnd]
        exact hn S2 e3 (by omega)
      rw [if_neg g10]
      by_cases g11 : ((xs (nI (9 * c)).toNatClampNeg) &&& (31 : Int32)) = (11 : Int32)
      · obtain ⟨r, S1, S2, e1, e2, e3⟩ := ag_at c (xs ((nI (9 * c)) + (1 : Int32)).toNatClampNeg) (xs ((nI (9 * c)) + (2 : Int32)).toNatClampNeg) (xs ((nI (9 * c)) + (3 : Int32)).toNatClampNeg) hc S hI
        simp only [if_pos g11, if_pos q1, if_pos q2, if_pos q3, if_pos q4, if_pos q5, if_pos q6, if_pos q7, if_pos q8, e1, mBind_of, e2, if_true, bnd]
        exact hn S2 e3 (by omega)
      rw [if_neg g11]
      by_cases g12 : ((xs (nI (9 * c)).toNatClampNeg) &&& (31 : Int32)) = (12 : Int32)
      · obtain ⟨r, S1, S2, e1, e2, e3⟩ := ag_drop c  hc S hI
        simp only [if_pos g12, if_pos q1, if_pos q2, if_pos q3, if_pos q4, if_pos q5, if_pos q6, if_pos q7, if_pos q8, e1, mBind_of, e2, if_true, bnd]
        exact hn S2 e3 (by omega)
      rw [if_neg g12]
      by_cases g13 : ((xs (nI (9 * c)).toNatClampNeg) &&& (31 : Int32)) = (13 : Int32)
      · obtain ⟨r, S1, S2, e1, e2, e3⟩ := ag_sheet c (xs ((nI (9 * c)) + (1 : Int32)).toNatClampNeg) (xs ((nI (9 * c)) + (2 : Int32)).toNatClampNeg) (xs ((nI (9 * c)) + (3 : Int32)).toNatClampNeg) hc S hI
        simp only [if_pos g13, if_pos q1, if_pos q2, if_pos q3, if_pos q4, if_pos q5, if_pos q6, if_pos q7, if_pos q8, e1, mBind_of, e2, if_true, bnd]
        exact hn S2 e3 (by omega)
      rw [if_neg g13]
      by_cases g14 : ((xs (nI (9 * c)).toNatClampNeg) &&& (31 : Int32)) = (14 : Int32)
      · obtain ⟨r, S1, S2, e1, e2, e3⟩ := ag_lay c (xs ((nI (9 * c)) + (1 : Int32)).toNatClampNeg) (xs ((nI (9 * c)) + (2 : Int32)).toNatClampNeg) (xs ((nI (9 * c)) + (3 : Int32)).toNatClampNeg) hc S hI
        simp only [if_pos g14, if_pos q1, if_pos q2, if_pos q3, if_pos q4, if_pos q5, if_pos q6, if_pos q7, if_pos q8, e1, mBind_of, e2, if_true, bnd]
        exact hn S2 e3 (by omega)
      rw [if_neg g14]
      by_cases g15 : ((xs (nI (9 * c)).toNatClampNeg) &&& (31 : Int32)) = (15 : Int32)
      · obtain ⟨r, S1, S2, e1, e2, e3⟩ := ag_mask c (xs ((nI (9 * c)) + (1 : Int32)).toNatClampNeg) (xs ((nI (9 * c)) + (2 : Int32)).toNatClampNeg) (xs ((nI (9 * c)) + (3 : Int32)).toNatClampNeg) (xs ((nI (9 * c)) + (4 : Int32)).toNatClampNeg) (xs ((nI (9 * c)) + (5 : Int32)).toNatClampNeg) (xs ((nI (9 * c)) + (6 : Int32)).toNatClampNeg) hc S hI
        simp only [if_pos g15, if_pos q1, if_pos q2, if_pos q3, if_pos q4, if_pos q5, if_pos q6, if_pos q7, if_pos q8, e1, mBind_of, e2, if_true, bnd]
        exact hn S2 e3 (by omega)
      rw [if_neg g15]
      by_cases g16 : ((xs (nI (9 * c)).toNatClampNeg) &&& (31 : Int32)) = (16 : Int32)
      · obtain ⟨r, S1, S2, e1, e2, e3⟩ := ag_first c  hc S hI
        simp only [if_pos g16, if_pos q1, if_pos q2, if_pos q3, if_pos q4, if_pos q5, if_pos q6, if_pos q7, if_pos q8, e1, mBind_of, e2, if_true, bnd]
        exact hn S2 e3 (by omega)
      rw [if_neg g16]
      by_cases g17 : ((xs (nI (9 * c)).toNatClampNeg) &&& (31 : Int32)) = (17 : Int32)
      · obtain ⟨r, S1, S2, e1, e2, e3⟩ := ag_row c (xs ((nI (9 * c)) + (1 : Int32)).toNatClampNeg) (xs ((nI (9 * c)) + (2 : Int32)).toNatClampNeg) (xs ((nI (9 * c)) + (3 : Int32)).toNatClampNeg) hc S hI
        simp only [if_pos g17, if_pos q1, if_pos q2, if_pos q3, if_pos q4, if_pos q5, if_pos q6, if_pos q7, if_pos q8, e1, mBind_of, e2, if_true, bnd]
        exact hn S2 e3 (by omega)
      rw [if_neg g17]
      by_cases g18 : ((xs (nI (9 * c)).toNatClampNeg) &&& (31 : Int32)) = (18 : Int32)
      · obtain ⟨r, S1, S2, e1, e2, e3⟩ := ag_reckon c (xs ((nI (9 * c)) + (1 : Int32)).toNatClampNeg) (xs ((nI (9 * c)) + (2 : Int32)).toNatClampNeg) (xs ((nI (9 * c)) + (3 : Int32)).toNatClampNeg) (xs ((nI (9 * c)) + (4 : Int32)).toNatClampNeg) (xs ((nI (9 * c)) + (5 : Int32)).toNatClampNeg) hc S hI
        simp only [if_pos g18, if_pos q1, if_pos q2, if_pos q3, if_pos q4, if_pos q5, if_pos q6, if_pos q7, if_pos q8, e1, mBind_of, e2, if_true, bnd]
        exact hn S2 e3 (by omega)
      rw [if_neg g18]
      by_cases g19 : ((xs (nI (9 * c)).toNatClampNeg) &&& (31 : Int32)) = (19 : Int32)
      · obtain ⟨r, S1, S2, e1, e2, e3⟩ := ag_place c (xs ((nI (9 * c)) + (1 : Int32)).toNatClampNeg) (xs ((nI (9 * c)) + (2 : Int32)).toNatClampNeg) hc S hI
        simp only [if_pos g19, if_pos q1, if_pos q2, if_pos q3, if_pos q4, if_pos q5, if_pos q6, if_pos q7, if_pos q8, e1, mBind_of, e2, lg_cmp_eq, if_true, bnd]
        exact hn S2 e3 (by omega)
      rw [if_neg g19]
      by_cases g20 : ((xs (nI (9 * c)).toNatClampNeg) &&& (31 : Int32)) = (20 : Int32)
      · obtain ⟨r, S1, S2, e1, e2, e3⟩ := ag_about c (xs ((nI (9 * c)) + (1 : Int32)).toNatClampNeg) (xs ((nI (9 * c)) + (2 : Int32)).toNatClampNeg) hc S hI
        simp only [if_pos g20, if_pos q1, if_pos q2, if_pos q3, if_pos q4, if_pos q5, if_pos q6, if_pos q7, if_pos q8, e1, mBind_of, e2, if_true, bnd]
        exact hn S2 e3 (by omega)
      rw [if_neg g20]
      by_cases g21 : ((xs (nI (9 * c)).toNatClampNeg) &&& (31 : Int32)) = (21 : Int32)
      · obtain ⟨r, S1, S2, e1, e2, e3⟩ := ag_total c (xs ((nI (9 * c)) + (1 : Int32)).toNatClampNeg) hc S hI
        simp only [if_pos g21, if_pos q1, if_pos q2, if_pos q3, if_pos q4, if_pos q5, if_pos q6, if_pos q7, if_pos q8, e1, mBind_of, e2, lg_cmp_eq, if_true, bnd]
        exact hn S2 e3 (by omega)
      rw [if_neg g21]
      by_cases g22 : ((xs (nI (9 * c)).toNatClampNeg) &&& (31 : Int32)) = (22 : Int32)
      · obtain ⟨r, S1, S2, e1, e2, e3⟩ := ag_turns c (xs ((nI (9 * c)) + (1 : Int32)).toNatClampNeg) (((xs ((nI (9 * c)) + (2 : Int32)).toNatClampNeg).toInt64 <<< ((32 : Int32).toInt64 &&& 63)) ||| ((xs ((nI (9 * c)) + (3 : Int32)).toNatClampNeg).toInt64 &&& (4294967295 : Int64))) (xs ((nI (9 * c)) + (4 : Int32)).toNatClampNeg) hc S hI
        simp only [if_pos g22, if_pos q1, if_pos q2, if_pos q3, if_pos q4, if_pos q5, if_pos q6, if_pos q7, if_pos q8, e1, mBind_of, e2, if_true, bnd]
        exact hn S2 e3 (by omega)
      rw [if_neg g22]
      by_cases g23 : ((xs (nI (9 * c)).toNatClampNeg) &&& (31 : Int32)) = (23 : Int32)
      · obtain ⟨r, S1, S2, e1, e2, e3⟩ := ag_eye c (xs ((nI (9 * c)) + (1 : Int32)).toNatClampNeg) (xs ((nI (9 * c)) + (2 : Int32)).toNatClampNeg) (xs ((nI (9 * c)) + (3 : Int32)).toNatClampNeg) (xs ((nI (9 * c)) + (4 : Int32)).toNatClampNeg) (((xs ((nI (9 * c)) + (5 : Int32)).toNatClampNeg).toInt64 <<< ((32 : Int32).toInt64 &&& 63)) ||| ((xs ((nI (9 * c)) + (6 : Int32)).toNatClampNeg).toInt64 &&& (4294967295 : Int64))) (xs ((nI (9 * c)) + (7 : Int32)).toNatClampNeg) (xs ((nI (9 * c)) + (8 : Int32)).toNatClampNeg) hc S hI
        simp only [if_pos g23, if_pos q1, if_pos q2, if_pos q3, if_pos q4, if_pos q5, if_pos q6, if_pos q7, if_pos q8, e1, mBind_of, e2, if_true, bnd]
        exact hn S2 e3 (by omega)
      rw [if_neg g23]
      by_cases g24 : ((xs (nI (9 * c)).toNatClampNeg) &&& (31 : Int32)) = (24 : Int32)
      · obtain ⟨r, S1, S2, e1, e2, e3⟩ := ag_bytes c (xs ((nI (9 * c)) + (1 : Int32)).toNatClampNeg) (xs ((nI (9 * c)) + (2 : Int32)).toNatClampNeg) (xs ((nI (9 * c)) + (3 : Int32)).toNatClampNeg) hc S hI
        simp only [if_pos g24, if_pos q1, if_pos q2, if_pos q3, if_pos q4, if_pos q5, if_pos q6, if_pos q7, if_pos q8, e1, mBind_of, e2, if_true, bnd]
        exact hn S2 e3 (by omega)
      rw [if_neg g24]
      by_cases g25 : ((xs (nI (9 * c)).toNatClampNeg) &&& (31 : Int32)) = (25 : Int32)
      · obtain ⟨r, S1, S2, e1, e2, e3⟩ := ag_wires c (xs ((nI (9 * c)) + (1 : Int32)).toNatClampNeg) (xs ((nI (9 * c)) + (2 : Int32)).toNatClampNeg) (xs ((nI (9 * c)) + (3 : Int32)).toNatClampNeg) hc S hI
        simp only [if_pos g25, if_pos q1, if_pos q2, if_pos q3, if_pos q4, if_pos q5, if_pos q6, if_pos q7, if_pos q8, e1, mBind_of, e2, if_true, bnd]
        exact hn S2 e3 (by omega)
      rw [if_neg g25]
      by_cases g26 : ((xs (nI (9 * c)).toNatClampNeg) &&& (31 : Int32)) = (26 : Int32)
      · obtain ⟨r, S1, S2, e1, e2, e3⟩ := ag_got c (xs ((nI (9 * c)) + (1 : Int32)).toNatClampNeg) hc S hI
        simp only [if_pos g26, if_pos q1, if_pos q2, if_pos q3, if_pos q4, if_pos q5, if_pos q6, if_pos q7, if_pos q8, e1, mBind_of, e2, if_true, bnd]
        exact hn S2 e3 (by omega)
      rw [if_neg g26]
      by_cases g27 : ((xs (nI (9 * c)).toNatClampNeg) &&& (31 : Int32)) = (27 : Int32)
      · obtain ⟨r, S1, S2, e1, e2, e3⟩ := ag_when c (xs ((nI (9 * c)) + (1 : Int32)).toNatClampNeg) hc S hI
        simp only [if_pos g27, if_pos q1, if_pos q2, if_pos q3, if_pos q4, if_pos q5, if_pos q6, if_pos q7, if_pos q8, e1, mBind_of, e2, if_true, bnd]
        exact hn S2 e3 (by omega)
      rw [if_neg g27]
      by_cases g28 : ((xs (nI (9 * c)).toNatClampNeg) &&& (31 : Int32)) = (28 : Int32)
      · obtain ⟨r, S1, S2, e1, e2, e3⟩ := ag_frame c (xs ((nI (9 * c)) + (1 : Int32)).toNatClampNeg) hc S hI
        simp only [if_pos g28, if_pos q1, if_pos q2, if_pos q3, if_pos q4, if_pos q5, if_pos q6, if_pos q7, if_pos q8, e1, mBind_of, e2, if_true, bnd]
        exact hn S2 e3 (by omega)
      rw [if_neg g28]
      exact hn S (hI.mono (Nat.le_succ c)) (by omega)
theorem law_pure (xs : Nat → Int32) (L : Nat) (hL : L ≤ 4608) : ∃ n S', f_L_law_18 xs L n 0 mS0 = some (1, S') := by
  obtain ⟨S', h⟩ := law_loop xs L hL (L + 1) 0 mS0 Inv_0 (by omega) (by omega)
  exact ⟨L + 1, S', h⟩
