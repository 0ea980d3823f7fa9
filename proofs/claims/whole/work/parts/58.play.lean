/-! PURE: play -/
theorem low_byte (x : Int64) : (x &&& (255 : Int64)).toInt32 = x.toInt32 &&& (255 : Int32) := by
  rw [Int64.toInt32_and]
  rfl
theorem play_loop {r len n I : Nat} {tr : Int32} (hr : r < 4) (hlen : len ≤ 201) (hIn : I + n ≤ len) (hn : n ≤ 64) : ∀ (m j fu fu' M : Nat) (S T : mM), j + m = n → m < fu → m < fu' → M + m < 33000 → iEn2 M S T → sG2 S T → S.1 (54 + 3 * r) 2 = nI len →
    (∀ k, k < len → S.2.1 (55 + 3 * r) k = T.2.1 92 (201 * r + k) ∧ (T.1 93 (201 * r + k) = 0 ∨ (T.1 93 (201 * r + k) = 1 ∧ T.2.1 92 (201 * r + k) = 0))) →
    ∃ S1 T1 c, f_X11_play_66 fu tr (nI I) (nI n) (54 + 3 * r) (nI j) S = some (nI c, S1) ∧ f_X12_play_57 fu' (nI r) tr (nI I) (nI n) (nI (I + j)) T = some (nI c, T1) ∧ iEn2 (M + m) S1 T1 ∧ sG2 S1 T1 ∧ cI S S1 ∧ rI T T1
  | 0, j, fu + 1, fu' + 1, M, S, T, hm, _, _, _, hE, hG, _, _ => by
    have hG' := hG
    obtain ⟨c, G1, -⟩ := hG'
    refine ⟨S, T, c, ?_, ?_, hE, hG, cI.rfl, rI.rfl⟩
    · unfold f_X11_play_66
      rw [if_pos (nI_le (by omega) (by omega)), G1.2.1]
    · unfold f_X12_play_57
      rw [nI_add, if_pos (nI_le (by omega) (by omega)), G1.2.2.1]
  | m + 1, j, fu + 1, fu' + 1, M, S, T, hm, hf, hf', hM, hE, hG, hl, hd => by
    obtain ⟨d1, d2⟩ := hd (I + j) (by omega)
    obtain ⟨S1, T1, x1, x2, x3, x4, x5, x6⟩ := take_ag (v := ((T.2.1 92 (201 * r + (I + j))).toInt32 &&& (255 : Int32)) <<< (((24 : Int32) - ((8 : Int32) * tr)) &&& 31)) (by omega) hE hG
    obtain ⟨S2, T2, c, y1, y2, y3, y4, y5, y6⟩ := play_loop (tr := tr) hr hlen hIn hn m (j + 1) fu fu' (M + 1) S1 T1 (by omega) (by omega) (by omega) (by omega) x3 x4 (by rw [x5.1 _ (by omega)]; exact hl) (fun k hk => by
      rw [x5.2, x6.2.2, x6.1 93 (by omega) (by omega) (by omega)]
      exact hd k hk)
    refine ⟨S2, T2, c, ?_, ?_, by rw [show M + (m + 1) = M + 1 + m by omega]; exact y3, y4, x5.tr y5, x6.tr y6⟩
    · unfold f_X11_play_66 f_X3_valueAt f_X11_sampleOn
      rw [if_neg (nI_ge (by omega) (by omega)), nI_add, isIn_eq, mBind_of, hl, if_pos ((below (by omega)).mpr ⟨I + j, by omega, rfl⟩), if_neg (by decide), if_pos (ix (show I + j < 201 by omega) (by omega)), nI_clamp (by omega), mBind_of, mBind_of, show 54 + 3 * r + 1 = 55 + 3 * r by omega, d1, x1, mBind_of]
      simp only [bnd, nI_1]
      exact y1
    · have h104 : f_X12_play_104 (f_X12_play_57 fu') (nI r) tr (nI I) (nI n) (nI (I + j)) ((T.2.1 92 (201 * r + (I + j))).toInt32 &&& (255 : Int32)) T = some (nI c, T2) := by
        unfold f_X12_play_104
        rw [x2, mBind_of]
        simp only [bnd, nI_1]
        exact y2
      unfold f_X12_play_57
      rw [nI_add, if_neg (nI_ge (by omega) (by omega)), rowAt, if_pos (ix (show 201 * r + (I + j) < 804 by omega) (by omega)), nI_clamp (by omega)]
      rcases d2 with e | ⟨e, e'⟩
      · rw [if_pos e, if_pos (ixc (show 201 * r + (I + j) < 804 by omega) (by omega)), low_byte]
        exact h104
      · rw [if_neg (by rw [e]; decide)]
        rw [e', show ((0 : Int64).toInt32 &&& (255 : Int32)) = 0 by decide] at h104
        exact h104
theorem ag_play (c : Nat) (p t i n : Int32) : Ag c (f_X11_play p t i n) (f_X12_play p t i n) := fun hc S h => by
  have hE := h.2.2.1.two (by omega)
  have hG := h.2.2.2.1.two
  unfold f_X11_play f_X12_play
  simp only [isIn_eq, isTrace_eq, in_eq, mBind_of, b01, l0, l3, l64, l_le]
  rcases row_cases h.2.2.2.2.2.1 p with ⟨hp, -, e2⟩ | ⟨r, len, hr, rfl, hp, hlen, h2, h3, h4, -, e2⟩
  · refine ⟨-1, S, S, ?_, ?_, h.mono (by omega)⟩
    · rw [if_pos hp]
    · rw [e2, mBind_of, if_pos rfl]
  · have r4 : 0 ≤ nI r ∧ (nI r).toNatClampNeg < 4 := ix (by omega) (by omega)
    have cr : (nI r).toNatClampNeg = r := nI_clamp (by omega)
    have e54 : 53 + 1 + 3 * r = 54 + 3 * r := by omega
    rw [if_nn hp, if_pos r4, cr]
    simp only [bnd, e54]
    rw [h2]
    by_cases l0' : len = 0
    · rw [if_pos l0'] at e2
      refine ⟨-1, S, S, ?_, ?_, h.mono (by omega)⟩
      · rw [if_pos (show nI len = 0 by rw [l0']; rfl), ite_self, ite_self]
      · rw [e2, mBind_of, if_pos rfl]
    · rw [if_neg l0'] at e2 h3
      rw [if_neg (nI_ne0 (by omega) (by omega))]
      by_cases ht : 0 ≤ t ∧ t ≤ 3
      case neg =>
        refine ⟨-1, S, S, ?_, ?_, h.mono (by omega)⟩
        · rw [if_pos ht]
        · rw [e2, mBind_of, if_neg (by decide), if_pos ht]
      by_cases hn : 0 ≤ n ∧ n ≤ 64
      case neg =>
        refine ⟨-1, S, S, ?_, ?_, h.mono (by omega)⟩
        · rw [if_nn ht, if_pos hn]
        · rw [e2, mBind_of, if_neg (by decide), if_nn ht, if_pos hn]
      have hn' := hn
      obtain ⟨n, hn64, rfl⟩ := (upto (p := n) (n := 64) (by omega)).mp hn
      by_cases hi : 0 ≤ i ∧ i ≤ nI len - nI n
      case neg =>
        refine ⟨-1, S, S, ?_, ?_, h.mono (by omega)⟩
        · rw [if_nn ht, if_nn hn', if_pos hi]
        · rw [e2, mBind_of, if_neg (by decide), if_nn ht, if_nn hn', if_pos (ixc (show r < 4 by omega) (by omega)), h3, if_pos hi]
      have hi' := hi
      obtain ⟨I, hI, rfl⟩ := nI_of (Int32.not_lt.mpr hi.1)
      have hIn : I + n ≤ len := by
        have z := hi.2
        rw [Int32.le_iff_toInt_le, sub_int (by omega) (by omega), nI_toInt hI] at z
        omega
      have key : ∀ T, (∀ b, 69 ≤ b → T.1 b = S.1 b) → T.2 = S.2 → ∃ S1 T1 k, f_X11_play_66 mFuel t (nI I) (nI n) (54 + 3 * r) (nI 0) S = some (nI k, S1) ∧ f_X12_play_57 mFuel (nI r) t (nI I) (nI n) (nI (I + 0)) T = some (nI k, T1) ∧ iEn2 (64 * c + n) S1 T1 ∧ sG2 S1 T1 ∧ cI S S1 ∧ rI T T1 := fun T hT hT2 =>
        play_loop (tr := t) hr hlen hIn hn64 n 0 mFuel mFuel (64 * c) S T (by omega) (by unfold mFuel; omega) (by unfold mFuel; omega) (by omega) (hE.right hT) (hG.right hT) h2 (fun k hk => by
          rw [hT 93 (by omega), hT2]
          exact ⟨(h4 k hk).1, (h4 k hk).2.2⟩)
      obtain ⟨S1, -, k, x1, -, -, -, x2, -⟩ := key S (fun _ _ => rfl) rfl
      obtain ⟨S1', T1, k', y1, y2, y3, y4, y5, y6⟩ := key S1 (fun b hb => x2.1 b (by omega)) x2.2
      have ee : (nI k', S1') = (nI k, S1) := Option.some.inj (y1.symm.trans x1)
      have e1 : S1' = S1 := congrArg Prod.snd ee
      subst e1
      refine ⟨nI k', S1', T1, ?_, ?_, h.inst (by omega) y5 y6 (y3.mono (by omega)) y4⟩
      · rw [if_nn ht, if_nn hn', if_nn hi']
        exact y1
      · have rowS1 : f_X12_isRow (nI r) S1' = some (1, S1') := isRow_any (n := len) hr ⟨len, by omega, by rw [x2.1 91 (by omega)]; exact h3⟩
        rw [rowS1, mBind_of, if_neg (by decide), if_nn ht, if_nn hn', if_pos (ixc (show r < 4 by omega) (by omega)), x2.1 91 (by omega), h3, if_nn hi']
        exact y2
