/-! PURE: the instrument: a sample taken; arm, come, play -/
def sG2 (S T : mM) : Prop := ∃ c, sG S T c ∧ (S.1 7 6 = 1 ∨ S.1 7 6 = 2 → c ≤ 7)
theorem n12 : ¬ (1 : Int32) = 2 := by decide
theorem n32 : ¬ (3 : Int32) = 2 := by decide
theorem n31 : ¬ (3 : Int32) = 1 := by decide
theorem n21 : ¬ (2 : Int32) = 1 := by decide
theorem fin_ag {S T : mM} {m p N cnt B A : Nat} {s f g h w a r : Int32} (K : eK S T p (N + 1) cnt B A) (hm : N + 1 ≤ m) (hN : N < 33000) (E : eE S T s f g h w a r) (hs : ∃ k, k ≤ 3 ∧ s = nI k)
    (h1 : s = 1 → ∃ f' g' h' w', f = nI f' ∧ g = nI g' ∧ h = nI h' ∧ w = nI w' ∧ st1 S T p (N + 1) cnt f' g' h' w') (h2 : s = 2 → ∃ f' r', 0 < cnt ∧ f = nI f' ∧ f' ≤ r' ∧ r = nI r' ∧ r' ≤ N ∧ N ≤ r' + A)
    (ha : ∃ t, t ≤ m ∧ a = nI t) (G : sG2 S T) : ∃ S1 T1, f_X4_take_50 (nI N) S = some ((), S1) ∧ f_X12_takes_35 (nI N) T = some ((), T1) ∧ iEn2 m S1 T1 ∧ sG2 S1 T1 ∧ cI S S1 ∧ rI T T1 := by
  have K0 := K
  have E0 := E
  obtain ⟨k1, k2, k3, k4, k5, k6, k7, k8, k9, k10, k11, k12, k13, k14, k15⟩ := K
  obtain ⟨e1, e2, e3, e4, e5, e6, e7, e8, e9, e10, e11, e12, e13, e14⟩ := E
  unfold f_X4_take_50 f_X12_takes_35
  rw [e1, e2]
  by_cases s2 : s = 2
  · obtain ⟨f', r', q0, rfl, q2, rfl, q4, q5⟩ := h2 s2
    subst s2
    rw [if_pos rfl, if_pos rfl, e13, e14, k14, k15, nI_sub q4, nI_add]
    by_cases hlt : N - r' < A
    · rw [if_pos (nI_lt hlt (by omega)), if_neg (fun z => by rw [nI_eq (by omega) (by omega)] at z; omega)]
      exact ⟨S, T, rfl, rfl, ⟨p, N + 1, cnt, B, A, 2, nI f', g, h, w, a, nI r', K0, hm, E0, hs, fun z => absurd z n21, fun _ => ⟨f', r', q0, rfl, q2, rfl, by omega, by omega⟩, ha⟩, G, cI.rfl, rI.rfl⟩
    · rw [if_neg (nI_nlt (by omega) (by omega)), if_pos (by rw [show N = r' + A by omega])]
      obtain ⟨c, G1, G2⟩ := G
      have c7 := G2 (Or.inr e1)
      obtain ⟨S1, T1, x1, x2, x3, x4, x5, x6, x7⟩ := keep_ag K0 E0 q0 q2 (show N = r' + A by omega) hN G1 c7
      rw [x1, x2, mBind_of, mBind_of]
      rcases x7 with ⟨y1, y2, y3⟩ | y
      · exact ⟨S1, T1, rfl, rfl, ⟨p, N + 1, cnt, B, A, 1, nI (N + 1), nI 0, nI 0, nI (N + 1), nI 0, nI r', x3, hm, y2, ⟨1, by omega, rfl⟩, fun _ => ⟨N + 1, 0, 0, N + 1, rfl, rfl, rfl, rfl, y3⟩, fun z => absurd z n12, ⟨0, by omega, rfl⟩⟩, ⟨c + 1, x6, fun _ => y1⟩, x4, x5⟩
      · refine ⟨S1, T1, rfl, rfl, ⟨p, N + 1, cnt, B, A, 3, nI f', g, h, w, a, nI r', x3, hm, y, ⟨3, by omega, rfl⟩, fun z => absurd z n31, fun z => absurd z n32, ha⟩, ⟨c + 1, x6, fun z => ?_⟩, x4, x5⟩
        rw [y.1] at z
        rcases z with z | z
        · exact absurd z n31
        · exact absurd z n32
  · rw [if_neg s2, if_neg s2]
    exact ⟨S, T, rfl, rfl, ⟨p, N + 1, cnt, B, A, s, f, g, h, w, a, r, K0, hm, E0, hs, h1, fun z => absurd z s2, ha⟩, G, cI.rfl, rI.rfl⟩
theorem iHi2.ext {S S' T T' : mM} {p i f N : Nat} (h : iHi2 S T p i f N) (e : S'.1 (p + 2 + i) = S.1 (p + 2 + i)) (e71 : ∀ k, k < N → T'.1 71 k = T.1 71 k) : iHi2 S' T' p i f N := by
  have hc : hiN (fun k => nb (S.1 (p + 2 + i) 3) (T'.1 71 k)) (S.1 (p + 2 + i) 5) f N = hiN (fun k => nb (S.1 (p + 2 + i) 3) (T.1 71 k)) (S.1 (p + 2 + i) 5) f N := hiN_congr N (fun k hk => by simp only [e71 k hk])
  obtain ⟨h1, h2, h3⟩ := h
  unfold iHi2
  rw [e, hc]
  refine ⟨h1, h2, fun z => (h3 z).trans ⟨fun ⟨k, q1, q2, q3⟩ => ⟨k, q1, q2, by rw [e71 k q2]; exact q3⟩, fun ⟨k, q1, q2, q3⟩ => ⟨k, q1, q2, by rw [← e71 k q2]; exact q3⟩⟩⟩
theorem get_ahead {S : mM} : f_X2_get (nI 0 - (1 : Int32)) S = some (S.1 9 255, S) := by
  unfold f_X2_get f_J9_floorMod_7cf53
  rw [if_pos (by decide)]
  simp only [bnd]
  rw [if_neg (by decide), if_neg (by decide), mBind_of, if_pos (by decide)]
  rfl
theorem take_ag {S T : mM} {m : Nat} {v : Int32} (hm : m < 33000) (h : iEn2 m S T) (G : sG2 S T) :
    ∃ S1 T1, f_X4_take v S = some ((), S1) ∧ f_X12_takes v T = some ((), T1) ∧ iEn2 (m + 1) S1 T1 ∧ sG2 S1 T1 ∧ cI S S1 ∧ rI T T1 := by
  obtain ⟨p, N, cnt, B, A, s, f, g, h, w, a, r, K, hNm, E, hs, h1, h2, t, ht, rfl⟩ := h
  obtain ⟨k1, k2, k3, k4, k5, k6, k7, k8, k9, k10, k11, k12, k13, k14, k15⟩ := K
  have hp : p = 28 ∨ p = 36 := by rcases k1 with z | z <;> omega
  obtain ⟨ahead, ha1, ha2⟩ : ∃ ahead, f_X2_get (nI N - (1 : Int32)) S = some (ahead, S) ∧ (0 < N → ahead = T.1 71 (N - 1)) := by
    by_cases q : N = 0
    · subst q
      exact ⟨_, get_ahead, fun z => absurd z (by omega)⟩
    · refine ⟨S.1 9 ((N - 1) % 256), ?_, fun _ => k9 (N - 1) (by omega) (by omega)⟩
      rw [show nI N - (1 : Int32) = nI (N - 1) from nI_sub (b := 1) (by omega)]
      exact ring_get (by omega)
  generalize hS5 : setI (setI S 9 (N % 256) v) 8 1 (nI (N + 1)) = S5
  have hadd : f_X2_add v S = some ((), S5) := by
    unfold f_X2_add
    rw [k7, floorMod_eq (by omega), mBind_of, if_pos (ix (show N % 256 < 256 by omega) (by omega)), nI_clamp (by omega)]
    simp only [bnd]
    rw [setI_row _ _ _ _ (show 8 ≠ 9 by omega), k7, nI_1, hS5]
  generalize hT3 : setI (setI T 71 N v) 69 3 (nI (N + 1)) = T3
  have s5 : ∀ b, b ≠ 8 → b ≠ 9 → S5.1 b = S.1 b := fun b q1 q2 => by rw [← hS5, setI_row _ _ _ _ q1, setI_row _ _ _ _ q2]
  have s58 : S5.1 8 1 = nI (N + 1) := by rw [← hS5, setI_same]
  have s59 : ∀ j, S5.1 9 j = if j = N % 256 then v else S.1 9 j := fun j => by rw [← hS5, setI_row _ _ _ _ (by omega), setI_1]; simp only [true_and]
  have s52 : S5.2 = S.2 := by rw [← hS5]; rfl
  have t3 : ∀ b, b ≠ 69 → b ≠ 71 → T3.1 b = T.1 b := fun b q1 q2 => by rw [← hT3, setI_row _ _ _ _ q1, setI_row _ _ _ _ q2]
  have t369 : ∀ j, j ≠ 3 → T3.1 69 j = T.1 69 j := fun j hj => by rw [← hT3, setI_slot _ _ _ _ hj, setI_row _ _ _ _ (by omega)]
  have t33 : T3.1 69 3 = nI (N + 1) := by rw [← hT3, setI_same]
  have t371 : ∀ j, T3.1 71 j = if j = N then v else T.1 71 j := fun j => by rw [← hT3, setI_row _ _ _ _ (by omega), setI_1]; simp only [true_and]
  have t32 : T3.2 = T.2 := by rw [← hT3]; rfl
  have K5 : eK S5 T3 p (N + 1) cnt B A := by
    refine ⟨by rw [s52]; exact k1, by rw [s52]; exact k2, k3, by rw [s5 p (by omega) (by omega)]; exact k4, by rw [t369 4 (by omega)]; exact k5, fun i hi => (k6 i hi).frame (fun j _ _ => by rw [s5 _ (by omega) (by omega)]) (fun a q1 q2 => t3 a (by omega) (by omega)), s58, t33, fun k q1 q2 => ?_, k10, by rw [s5 7 (by omega) (by omega)]; exact k11, by rw [t369 26 (by omega)]; exact k12, k13, by rw [s5 7 (by omega) (by omega)]; exact k14, by rw [t369 27 (by omega)]; exact k15⟩
    rw [s59, t371]
    by_cases q : k = N
    · rw [if_pos (by rw [q]), if_pos q]
    · rw [if_neg (by omega), if_neg q]
      exact k9 k (by omega) (by omega)
  have E5 : eE S5 T3 s f g h w (nI t) r := by
    unfold eE
    rw [s5 7 (by omega) (by omega), t369 25 (by omega), t369 28 (by omega), t369 29 (by omega), t369 30 (by omega), t369 31 (by omega), t369 32 (by omega), t369 33 (by omega)]
    exact E
  have G5 : sG2 S5 T3 := by
    obtain ⟨c, G1, G2⟩ := G
    refine ⟨c, G1.fr (fun b hb => s5 b (by omega) (by omega)) (t369 34 (by omega)) (fun b q1 q2 => t3 b (by omega) (by omega)), by rw [s5 7 (by omega) (by omega)]; exact G2⟩
  have hi5 : ∀ f' i, iHi2 S T p i f' N → i < cnt → iHi2 S5 T3 p i f' N := fun f' i hh hi => hh.ext (s5 _ (by omega) (by omega)) (fun k hk => by rw [t371, if_neg (by omega)])
  have cI5 : cI S S5 := ⟨fun b q => s5 b (by omega) (by omega), s52⟩
  have rI5 : rI T T3 := ⟨fun b q1 q2 _ => t3 b q1 q2, fun j q1 _ _ => t369 j q1, t32⟩
  -- the heads
  have hC : f_X4_take v S = (if s = (1 : Int32) then if nI N ≤ f then f_X4_take_50 (nI N) S5 else mBind (f_X4_follow (nI N) ahead v S5) fun _ S7 => f_X4_take_50 (nI N) S7 else f_X4_take_50 (nI N) S5) := by
    unfold f_X4_take
    simp only [bnd]
    rw [k7, ha1, mBind_of, hadd, mBind_of, E5.1, E5.2.2.1]
  have hR : f_X12_takes v T = (if s = (1 : Int32) then mBind (f_X12_follows (nI N) T3) fun _ S5 => f_X12_takes_35 (nI N) S5 else f_X12_takes_35 (nI N) T3) := by
    unfold f_X12_takes
    simp only [bnd]
    rw [k8, if_pos (ix (show N < 33000 by omega) (by omega)), nI_clamp (by omega), setI_row _ _ _ _ (show 69 ≠ 71 by omega), k8, nI_1, hT3, E5.2.1]
  rw [hC, hR]
  by_cases s1 : s = 1
  · obtain ⟨f', g', h', w', rfl, rfl, rfl, rfl, q1, q2, q3, q4, q5, q6, q7, q8, q9⟩ := h1 s1
    subst s1
    rw [if_pos rfl, if_pos rfl]
    obtain ⟨ti, ti1, ti2, ti3⟩ := (k6 g' q2).2.2.1
    obtain ⟨l, l1, l2⟩ := (k6 g' q2).2.2.2.2.1
    by_cases hNf : N ≤ f'
    · rw [if_pos (nI_le hNf (by omega))]
      have eNf : f' = N := by omega
      subst eNf
      have ew : w' = f' := by omega
      subst ew
      have hfo : f_X12_follows (nI w') T3 = some ((), T3) := by
        have r77 : T3.1 77 g' = nI l := by rw [t3 77 (by omega) (by omega), (k6 g' q2).2.2.2.2.2.1]; exact l2
        have h56 : f_X12_follows_56 (nI w') T3 = some ((), T3) := by
          unfold f_X12_follows_56
          rw [E5.2.2.2.2.2.2.2.2.2.1, if_pos (Int32.le_refl _)]
        unfold f_X12_follows
        rw [E5.2.2.2.2.2.1, if_pos (ix (show g' < 6 by omega) (by omega)), if_pos (ix (show g' < 6 by omega) (by omega)), nI_clamp (by omega), r77, E5.2.2.2.2.2.2.2.2.2.1, nI_add, h56]
        by_cases l0 : l = 0
        · rw [if_pos (by rw [l0]; decide)]
        · rw [if_neg (nI_nle (by omega) (by omega)), if_neg (fun z => by rw [nI_eq (by omega) (by omega)] at z; omega)]
      rw [hfo, mBind_of]
      obtain ⟨S1, T1, x1, x2, x3, x4, x5, x6⟩ := fin_ag (m := m + 1) K5 (by omega) (by omega) E5 hs (fun _ => ⟨w', g', h', w', rfl, rfl, rfl, rfl, by omega, q2, by rw [s5 _ (by omega) (by omega)]; exact q3, q4, by omega, by omega, fun _ => by omega, by
          rw [s5 _ (by omega) (by omega), l2]
          by_cases l0 : l = 0
          · left
            rw [l0]
            rfl
          · right
            rw [nI_add, nI_leI (by omega) (by omega)]
            omega, fun i hi => by
          have z : ∀ (u : Nat → Int32) (x : Int32), hiN u x w' (w' + 1) = 0 := fun u x => hiN_0 (by omega)
          have y : ∀ (u : Nat → Int32) (x : Int32), hiN u x w' w' = 0 := fun u x => hiN_0 (by omega)
          have o := (q9 i hi).1
          rw [y] at o
          refine ⟨?_, fun q => ?_, fun q => ?_⟩
          · rw [z, s5 _ (by omega) (by omega)]
            exact o
          · rw [z] at q
            exact absurd q (by omega)
          · rw [z] at q
            exact absurd q (by omega)⟩) (fun z => absurd z n12) ⟨t, by omega, rfl⟩ G5
      exact ⟨S1, T1, x1, x2, x3, x4, cI5.tr x5, rI5.tr x6⟩
    · rw [if_neg (nI_ge (by omega) (by omega))]
      obtain ⟨S7, T7, y1, y2, y3, y4, y5⟩ := follow_ag (ahead := ahead) (now := v) K5 E5 (by omega) (by omega) q2 (by rw [s5 _ (by omega) (by omega)]; exact q3) q4 q5 (q7 (by omega)) (by rw [s5 _ (by omega) (by omega)]; exact q8) (fun i hi => hi5 f' i (q9 i hi) hi) (by rw [t371, if_neg (by omega)]; exact ha2 (by omega)) (by rw [t371, if_pos rfl])
      rw [y1, y2, mBind_of, mBind_of]
      have G7 : ∀ s', (s' = 1 ∨ s' = 2) → S7.1 7 6 = s' → sG2 S7 T7 := fun s' _ _ => by
        obtain ⟨c, G1, G2⟩ := G5
        exact ⟨c, G1.q y3 y4, fun _ => G2 (Or.inl E5.1)⟩
      rcases y5 with ⟨g2, h2', w2, t2, u1, u2, u3⟩ | ⟨g2, h2', w2, u⟩
      · obtain ⟨S1, T1, x1, x2, x3, x4, x5, x6⟩ := fin_ag (m := m + 1) (K5.q y3 y4) (by omega) (by omega) u2 ⟨1, by omega, rfl⟩ (fun _ => ⟨f', g2, h2', w2, rfl, rfl, rfl, rfl, u3⟩) (fun z => absurd z n12) ⟨t2, by omega, rfl⟩ (G7 1 (Or.inl rfl) u2.1)
        exact ⟨S1, T1, x1, x2, x3, x4, (cI5.tr y3.i).tr x5, (rI5.tr y4.i).tr x6⟩
      · obtain ⟨S1, T1, x1, x2, x3, x4, x5, x6⟩ := fin_ag (m := m + 1) (K5.q y3 y4) (by omega) (by omega) u ⟨2, by omega, rfl⟩ (fun z => absurd z n21) (fun _ => ⟨f', N, by omega, rfl, by omega, rfl, by omega, by omega⟩) ⟨t, by omega, rfl⟩ (G7 2 (Or.inr rfl) u.1)
        exact ⟨S1, T1, x1, x2, x3, x4, (cI5.tr y3.i).tr x5, (rI5.tr y4.i).tr x6⟩
  · rw [if_neg s1, if_neg s1]
    obtain ⟨S1, T1, x1, x2, x3, x4, x5, x6⟩ := fin_ag (m := m + 1) K5 (by omega) (by omega) E5 hs (fun z => absurd z s1) (fun z => by
      obtain ⟨f', r', q0, q1, q2, q3, q4, q5⟩ := h2 z
      exact ⟨f', r', q0, q1, q2, q3, by omega, by omega⟩) ⟨t, by omega, rfl⟩ G5
    exact ⟨S1, T1, x1, x2, x3, x4, cI5.tr x5, rI5.tr x6⟩
/-- the reference's part lies above, the class's below -/
theorem iEn2.right {m : Nat} {S T T' : mM} (h : iEn2 m S T) (hr : ∀ b, 69 ≤ b → T'.1 b = T.1 b) : iEn2 m S T' := by
  obtain ⟨p, N, cnt, B, A, s, f, g, h, w, a, r, K, hNm, E, hs, h1, h2, t, ht, rfl⟩ := h
  refine ⟨p, N, cnt, B, A, s, f, g, h, w, nI t, r, K.fr rfl rfl rfl rfl rfl (fun _ _ _ _ _ _ => rfl) (fun j _ => by rw [hr 69 (by omega)]) (fun b q1 _ => hr b (by omega)), hNm, ?_, hs, fun z => ?_, h2, t, ht, rfl⟩
  · unfold eE at E ⊢
    rw [hr 69 (by omega)]
    exact E
  · obtain ⟨f', g', h', w', e1, e2, e3, e4, q1, q2, q3, q4, q5, q6, q7, q8, q9⟩ := h1 z
    exact ⟨f', g', h', w', e1, e2, e3, e4, q1, q2, q3, q4, q5, q6, q7, q8, fun i hi => (q9 i hi).frame rfl (hr 71 (by omega))⟩
theorem sG2.right {S T T' : mM} (h : sG2 S T) (hr : ∀ b, 69 ≤ b → T'.1 b = T.1 b) : sG2 S T' := by
  obtain ⟨c, G1, G2⟩ := h
  exact ⟨c, G1.fr (fun _ _ => rfl) (by rw [hr 69 (by omega)]) (fun b q1 _ => hr b (by omega)), G2⟩
theorem iEn2.left {m : Nat} {S S' T : mM} (h : iEn2 m S T) (hr : ∀ b, b < 69 → S'.1 b = S.1 b) (h2 : S'.2.2 = S.2.2) : iEn2 m S' T := by
  obtain ⟨p, N, cnt, B, A, s, f, g, h, w, a, r, K, hNm, E, hs, h1, h2', t, ht, rfl⟩ := h
  obtain ⟨k1, k2, k3, k4, k5, k6, k7, k8, k9, k10, k11, k12, k13, k14, k15⟩ := K
  have hp : p = 28 ∨ p = 36 := by rcases k1 with z | z <;> omega
  refine ⟨p, N, cnt, B, A, s, f, g, h, w, nI t, r, ⟨by rw [h2]; exact k1, by rw [h2]; exact k2, k3, by rw [hr p (by omega)]; exact k4, k5, fun i hi => (k6 i hi).frame (fun j _ _ => by rw [hr _ (by omega)]) (fun _ _ _ => rfl), by rw [hr 8 (by omega)]; exact k7, k8, by rw [hr 9 (by omega)]; exact k9, k10, by rw [hr 7 (by omega)]; exact k11, k12, k13, by rw [hr 7 (by omega)]; exact k14, k15⟩, hNm, ?_, hs, fun z => ?_, h2', t, ht, rfl⟩
  · unfold eE at E ⊢
    rw [hr 7 (by omega)]
    exact E
  · obtain ⟨f', g', h', w', e1, e2, e3, e4, q1, q2, q3, q4, q5, q6, q7, q8, q9⟩ := h1 z
    exact ⟨f', g', h', w', e1, e2, e3, e4, q1, q2, by rw [hr _ (by omega)]; exact q3, q4, q5, q6, q7, by rw [hr _ (by omega)]; exact q8, fun i hi => (q9 i hi).frame (hr _ (by omega)) rfl⟩
theorem sG2.left {S S' T : mM} (h : sG2 S T) (hr : ∀ b, b < 69 → S'.1 b = S.1 b) : sG2 S' T := by
  obtain ⟨c, G1, G2⟩ := h
  exact ⟨c, G1.fr (fun b _ => hr b (by omega)) rfl (fun _ _ _ => rfl), by rw [hr 7 (by omega)]; exact G2⟩
theorem iSg.two {S : mM} (h : iSg S) : sG2 S S := by
  obtain ⟨c, h1, h2, h3, h4, h5⟩ := h
  exact ⟨c, ⟨h1, h2, h3, h5⟩, h4⟩
theorem sG2.one {S : mM} (h : sG2 S S) : iSg S := by
  obtain ⟨c, ⟨h1, h2, h3, h5⟩, h4⟩ := h
  exact ⟨c, h1, h2, h3, h4, h5⟩
/-- class run to S1, reference from there to S2 -/
theorem Inv.inst {c : Nat} {S S1 S2 : mM} (h : Inv c S) (hc : 64 * (c + 1) < 2 ^ 30) (h1 : cI S S1) (h2 : rI S1 S2) (hE : iEn2 (64 * (c + 1)) S1 S2) (hG : sG2 S1 S2) : Inv (c + 1) S2 := by
  have lo : ∀ b, b < 69 → S2.1 b = S1.1 b := fun b hb => h2.1 b (by omega) (by omega) (by omega)
  have rA : ∀ b, b < 7 ∨ (44 ≤ b ∧ b ≠ 69 ∧ b ≠ 71 ∧ ¬ (84 ≤ b ∧ b ≤ 87)) → S2.1 b = S.1 b := fun b hb => by rw [h2.1 b (by omega) (by omega) (by omega), h1.1 b (by omega)]
  have r69 : ∀ j, j ≠ 3 → j ≠ 25 → ¬ (28 ≤ j ∧ j ≤ 34) → S2.1 69 j = S.1 69 j := fun j q1 q2 q3 => by rw [h2.2.1 j q1 q2 q3, h1.1 69 (by omega)]
  have r2 : S2.2 = S.2 := by rw [h2.2.2, h1.2]
  refine ⟨h.1.frame (fun a ha => ?_) (r69 1 (by omega) (by omega) (by omega)), ?_, (hE.left lo (by rw [h2.2.2])).one hc, (hG.left lo).one, h.2.2.2.2.1.frame (fun a ha => ?_), h.2.2.2.2.2.1.frame (fun a ha => ?_) (fun a _ => by rw [r2]), ?_, h.2.2.2.2.2.2.2.frame (fun a ha => ?_) (r69 48 (by omega) (by omega) (by omega)) (r69 51 (by omega) (by omega) (by omega))⟩
  · unfold rwTp at ha
    exact rA a (by omega)
  · rw [rA 6 (by omega), r69 18 (by omega) (by omega) (by omega)]
    exact h.2.1
  · unfold rwSh at ha
    exact rA a (by omega)
  · unfold rwRw at ha
    exact rA a (by omega)
  · rw [rA 0 (by omega), r69 42 (by omega) (by omega) (by omega)]
    exact h.2.2.2.2.2.2.1
  · unfold rwWr at ha
    exact rA a (by omega)
theorem iEn2.mono {m m' : Nat} {S T : mM} (h : m ≤ m') (k : iEn2 m S T) : iEn2 m' S T := by
  obtain ⟨p, N, cnt, B, A, s, f, g, h', w, a, r, K, hNm, E, hs, h1, h2, t, ht, e⟩ := k
  exact ⟨p, N, cnt, B, A, s, f, g, h', w, a, r, K, by omega, E, hs, h1, h2, t, by omega, e⟩
theorem ag_arm (c : Nat) : Ag c f_X11_arm f_X12_arm := fun hc S h => by
  have hE := h.2.2.1.two (by omega)
  obtain ⟨n, G, G'⟩ := h.2.2.2.1.two
  have hE0 := hE
  obtain ⟨p, N, cnt, B, A, s, f, g, h', w, a, r, K, hNm, E, hs, h1, h2, t, ht, e⟩ := hE
  have K0 := K
  obtain ⟨k1, k2, k3, k4, k5, k6, k7, k8, k9, k10, k11, k12, k13, k14, k15⟩ := K
  have hp : p = 28 ∨ p = 36 := by rcases k1 with z | z <;> omega
  unfold f_X11_arm f_X12_arm f_X8_isFull
  rw [k2, if_pos (kplan hp)]
  simp only [bnd]
  rw [k4, G.2.1]
  by_cases c0 : cnt = 0
  · rw [if_pos (by rw [c0]; rfl)]
    refine ⟨-2, S, S, rfl, ?_, h.mono (by omega)⟩
    rw [k5, if_pos (by rw [c0]; rfl)]
  · rw [if_neg (nI_ne0 (by omega) (by omega))]
    by_cases n8 : n = 8
    · subst n8
      rw [if_neg (show ¬ nI 8 < (8 : Int32) by decide), mBind_of, if_neg (by decide)]
      refine ⟨-3, S, S, rfl, ?_, h.mono (by omega)⟩
      rw [k5, if_neg (nI_ne0 (by omega) (by omega)), G.2.2.1, if_pos (show nI 8 = (8 : Int32) from rfl)]
    · have n7 : n ≤ 7 := by have := G.1; omega
      rw [if_pos (show nI n < (8 : Int32) from nI_lt (b := 8) (by omega) (by omega)), mBind_of, if_pos rfl]
      obtain ⟨S1, -, x1, -, x3, -⟩ := arms_ag K0 E (by omega) (by omega)
      have hr : ∀ b, 69 ≤ b → S1.1 b = S.1 b := fun b hb => x3.1 b (by omega) (by omega)
      have K1 : eK S S1 p N cnt B A := K0.fr rfl rfl rfl rfl rfl (fun _ _ _ _ _ _ => rfl) (fun j _ => by rw [hr 69 (by omega)]) (fun b q1 _ => hr b (by omega))
      have E1 : eE S S1 s f g h' w a r := by
        unfold eE at E ⊢
        rw [hr 69 (by omega)]
        exact E
      obtain ⟨S1', T1, y1, y2, y3, y4, y5, y6⟩ := arms_ag K1 E1 (by omega) (by omega)
      have eS : S1' = S1 := by
        rw [x1] at y1
        exact (congrArg Prod.snd (Option.some.inj y1)).symm
      subst eS
      refine ⟨1, S1', T1, ?_, ?_, h.inst (by omega) y3.i y4.i ⟨p, N, cnt, B, A, 1, nI N, nI 0, nI 0, nI N, nI 0, r, K1.q y3 y4, by omega, y5, ⟨1, by omega, rfl⟩, fun _ => ⟨N, 0, 0, N, rfl, rfl, rfl, rfl, y6⟩, fun z => absurd z n12, 0, by omega, rfl⟩ ⟨n, (G.fr (S' := S) (T' := S1') (fun _ _ => rfl) (by rw [hr 69 (by omega)]) (fun b q1 _ => hr b (by omega))).q y3 y4, fun _ => n7⟩⟩
      · rw [x1, mBind_of]
      · rw [hr 69 (by omega), k5, if_neg (nI_ne0 (by omega) (by omega)), G.2.2.1, if_neg (fun z => by rw [show (8 : Int32) = nI 8 from rfl, nI_eq (by omega) (by omega)] at z; omega), y2, mBind_of]
theorem ag_come (c : Nat) (v : Int64) : Ag c (f_X11_come v) (f_X12_come v) := fun hc S h => by
  have hE := h.2.2.1.two (by omega)
  have hG := h.2.2.2.1.two
  have key : ∀ T, (∀ b, 69 ≤ b → T.1 b = S.1 b) → ∃ S1 S2 T1 T2, f_X4_take ((v >>> ((32 : Int32).toInt64 &&& 63)).toInt32) S = some ((), S1) ∧ f_X4_take v.toInt32 S1 = some ((), S2) ∧ f_X12_takes ((v >>> ((32 : Int32).toInt64 &&& 63)).toInt32) T = some ((), T1) ∧ f_X12_takes v.toInt32 T1 = some ((), T2) ∧ iEn2 (64 * c + 1 + 1) S2 T2 ∧ sG2 S2 T2 ∧ cI S S2 ∧ rI T T2 := fun T hT => by
    obtain ⟨S1, T1, x1, x2, x3, x4, x5, x6⟩ := take_ag (v := (v >>> ((32 : Int32).toInt64 &&& 63)).toInt32) (by omega) (hE.right hT) (hG.right hT)
    obtain ⟨S2, T2, y1, y2, y3, y4, y5, y6⟩ := take_ag (v := v.toInt32) (by omega) x3 x4
    exact ⟨S1, S2, T1, T2, x1, y1, x2, y2, y3, y4, x5.tr y5, x6.tr y6⟩
  obtain ⟨S1, S2, -, -, x1, x2, -, -, -, -, x3, -⟩ := key S (fun _ _ => rfl)
  obtain ⟨S1', S2', T1, T2, y1, y2, y3, y4, y5, y6, y7, y8⟩ := key S2 (fun b hb => x3.1 b (by omega))
  have e1 : S1' = S1 := by
    rw [x1] at y1
    exact (congrArg Prod.snd (Option.some.inj y1)).symm
  subst e1
  have e2 : S2' = S2 := by
    rw [x2] at y2
    exact (congrArg Prod.snd (Option.some.inj y2)).symm
  subst e2
  obtain ⟨n, G1, G2⟩ := y6
  refine ⟨nI n, S2', T2, ?_, ?_, h.inst (by omega) y7 y8 (y5.mono (by omega)) ⟨n, G1, G2⟩⟩
  · unfold f_X11_come
    rw [x1, mBind_of, x2, mBind_of, G1.2.1]
  · unfold f_X12_come
    rw [y3, mBind_of, y4, mBind_of, G1.2.2.1]
