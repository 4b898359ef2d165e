/-! ===== bestRow, ask, odds, impostor, showNext, nods, honest ===== -/
theorem oneN_all : ∀ n : Fin 9, (1 : Int32) <<< (nI n.val &&& 31) = nI (2 ^ n.val) := by decide +kernel
theorem oneN {n : Nat} (hn : n ≤ 8) : (1 : Int32) <<< (nI n &&& 31) = nI (2 ^ n) := oneN_all ⟨n, by omega⟩
theorem ok8_of {n : Nat} {m : ax_Me} (h : iN n m) : ok8 m 3 := by
  obtain ⟨hn, -, -, hp⟩ := h
  unfold ok8
  rw [hp.1]
  exact ⟨nI_pos (by omega), nI_le (b := 8) hn (by decide)⟩
section ROWSOF
variable {n : Nat} {m : ax_Me}
theorem every_n (h : iN n m) : (F_X5_everybody m 3).toNatClampNeg + 1 = 2 ^ n := by
  obtain ⟨hn, hc, -, hp⟩ := h
  have := pow_le8 hn
  unfold F_X5_everybody
  rw [hp.1, mask_all ⟨n, by omega⟩, nI_clamp (by dsimp only; omega)]
  dsimp only
  omega
theorem ones_n (h : iN n m) : ((1 : Int32) <<< (m 136 0 &&& 31)).toNatClampNeg = 2 ^ n := by
  obtain ⟨hn, hc, -, hp⟩ := h
  have := pow_le8 hn
  rw [hc, oneN hn, nI_clamp (by omega)]
theorem within2 {p : Int32} (h : ¬ F_X9_isWithin m p 2 8 = 0) : 2 ≤ p := by
  have := wi_iff.mp h
  exact Int32.le_iff_toInt_le.mpr this.1
theorem areTwo01 {p0 p1 : Int32} : F_X10_areTwo m p0 p1 = 0 ∨ F_X10_areTwo m p0 p1 = 1 := by
  unfold F_X10_areTwo
  split
  · exact Or.inl rfl
  · split
    · exact Or.inl rfl
    · split
      · exact Or.inl rfl
      · exact Or.inr rfl
theorem surest_eq (h : iN n m) {i j : Nat} (hi : i < n) (hj : j < n) {p2 : Int32} (h2 : 2 ≤ p2) (q : ¬ m 138 (16 + 8 * i + j) < 0) : F_X6_surest m 3 (nI i) (nI j) p2 = (ax_it (f_X10_bestRow_50 m (nI i) (nI j) p2) (((1 : Int32) <<< (m 136 0 &&& 31)).toNatClampNeg) 0 (-1, 0)).1 := by
  obtain ⟨k1, k2, k3, k4, k5⟩ := kn1 h hi hj q
  have hn := h.1
  have hp8 := pow_le8 hn
  unfold F_X6_surest
  rw [every_n h, ones_n h, k3]
  refine congrArg Prod.fst (ax_it_congr _ _ _ (fun r s _ hr => ?_))
  obtain ⟨s0, s1⟩ := s
  simp only [f_X6_surest_23, f_X10_bestRow_50, F_X6_isRowWith, F_X6_isRowOf]
  have r1 : F_J6_bitCount_0f7a4 m (nI r) = F_X10_bits m (nI r) := bc_eq (vp_in_nI (show r < 256 by omega) (by omega))
  have r2 : F_X9_hasBit m (nI r) (nI i) = F_X10_has m (nI r) (nI i) := has_eq (vp_in_nI (show i < 8 by omega) (by omega))
  have r3 : F_X9_hasBit m (nI r) (nI j) = F_X10_has m (nI r) (nI j) := has_eq (vp_in_nI (show j < 8 by omega) (by omega))
  simp only [r1, r2, r3, k4]
  by_cases b : F_X10_bits m (nI r) = p2
  · by_cases c1 : F_X10_has m (nI r) (nI j) = 0
    · by_cases c2 : F_X10_has m (nI r) (nI i) = 0
      · simp [b, c1, c2]
      · simp [b, c1, c2]
    · by_cases c2 : F_X10_has m (nI r) (nI i) = 0
      · rw [sureness_eq h k5 (by omega) hj c1 (by rw [b]; exact h2)]
        simp [b, c1, c2]
      · simp [b, c1, c2]
  · simp [b]
theorem bestRow_eq (h : iN n m) (p0 p1 p2 : Int32) : F_X9_bestRow m p0 p1 p2 = F_X10_bestRow m p0 p1 p2 := by
  unfold F_X9_bestRow F_X10_bestRow F_X9_isRowLength
  rw [pair_eq h, ← wi_in (m := m) (m' := m) (p := p2) (a := 2) (b := 8) (x := 2) (y := 8) (by decide) (by decide)]
  by_cases c : F_X10_areTwo m p0 p1 = 0
  · simp [c, F_X9_refusal]
  · obtain ⟨i, j, hi, hj, hij, rfl, rfl⟩ := iv_two h c
    have c' := areTwo01.resolve_left c
    by_cases d : F_X9_isWithin m p2 2 8 = 0
    · simp [c', d, F_X9_refusal]
    · have d' := wi01.resolve_left d
      by_cases q : m 138 (16 + 8 * i + j) < 0
      · obtain ⟨k1, k2⟩ := kn0 h hi hj q
        rw [c', d', k1, rem_v (by have := h.1; omega) (by have := h.1; omega), if_neg (Int32.not_le.mpr q)]
        rfl
      · obtain ⟨k1, k2, k3, k4, k5⟩ := kn1 h hi hj q
        rw [c', d', k1, k4, if_pos (Int32.not_lt.mp q)]
        exact surest_eq h hi hj (within2 d) q
theorem ask_fold (h : iN n m) {j k : Nat} (hj : j < n) (hk : k < 2 ^ n) (h2 : 2 ≤ F_X10_bits m (nI k)) (hb : ¬ F_X10_has m (nI k) (nI j) = 0) : F_X6_surestWitness m 3 (nI j) (nI k) = (ax_it (f_X10_ask_46 m (nI j) (nI k)) (((m 136 0) : Int32).toNatClampNeg) 0 (-1, 0)).1 := by
  have hn := h.1
  unfold F_X6_surestWitness
  rw [h.2.2.2.1, h.2.1, nI_clamp (by omega)]
  have key := ax_it_rel (fun (s t : Int32 × Int32) => s = t ∧ 0 ≤ s.2) (f := f_X6_surestWitness_8 m 3 (nI j) (nI k)) (g := f_X10_ask_46 m (nI j) (nI k)) n 0 (-1, 0) (-1, 0) ⟨rfl, by decide⟩ (fun w s t _ hw hR => by
    obtain ⟨rfl, hR⟩ := hR
    obtain ⟨s0, s1⟩ := s
    dsimp only at hR
    simp only [f_X6_surestWitness_8, f_X10_ask_46]
    rw [has_eq (vp_in_nI (show w < 8 by omega) (by omega)), if_pos hR]
    by_cases q : m 138 (16 + 8 * w + j) < 0
    · obtain ⟨k1, k2⟩ := kn0 h (show w < n by omega) hj q
      rw [rem_v (show w < 8 by omega) (show j < 8 by omega), if_pos k1, if_neg (Int32.not_le.mpr q)]
      split <;> exact ⟨rfl, hR⟩
    · obtain ⟨k1, k2, k3, k4, k5⟩ := kn1 h (show w < n by omega) hj q
      rw [k1, k4, k3, if_neg (show ¬ (1 : Int32) = 0 by decide), if_pos (Int32.not_lt.mp q), sureness_eq h k5 hk hj hb h2]
      by_cases c : F_X10_has m (nI k) (nI w) = 0
      · rw [if_pos c]
        by_cases d : F_X10_sureBy m (m 138 (16 + 8 * w + j)) (nI j) (nI k) ≤ s1
        · rw [if_pos d]
          exact ⟨rfl, hR⟩
        · rw [if_neg d]
          exact ⟨rfl, Int32.le_trans hR (Int32.le_of_lt (Int32.not_le.mp d))⟩
      · rw [if_neg c]
        exact ⟨rfl, hR⟩)
  rw [key.1]
theorem ask_eq (h : iN n m) (p0 p1 : Int32) : F_X9_ask m p0 p1 = F_X10_ask m p0 p1 := by
  obtain ⟨hn, hc, -, hp⟩ := id h
  unfold F_X9_ask F_X10_ask
  by_cases c : vp_in p0 n
  · rw [has1 hn hp.1 c, isP1 hn hc c]
    obtain ⟨j, hj, rfl⟩ := vp_in_of c (by omega)
    by_cases d : vp_in p1 (2 ^ n)
    · have d1 := hold01.resolve_left ((holds_iff hn hp.1).mpr d)
      have d2 := (isRow_iff hn hc).mpr d
      obtain ⟨k, hk, rfl⟩ := vp_in_of d (by have := pow_le8 hn; omega)
      have hk8 : k < 256 := Nat.lt_of_lt_of_le hk (pow_le8 hn).1
      have hl := long_eq (m := m) (vp_in_nI hk8 (by omega))
      rw [d1, if_neg d2, hl, has_eq (vp_in_nI (show j < 8 by omega) (by omega))]
      by_cases e : 2 ≤ F_X10_bits m (nI k)
      · rw [if_pos e, if_neg (Int32.not_lt.mpr e)]
        by_cases f : F_X10_has m (nI k) (nI j) = 0
        · simp [f, F_X9_refusal]
        · rw [← ask_fold h hj hk e f]
          simp [F_X9_refusal, f]
      · rw [if_neg e, if_pos (Int32.not_le.mp e)]
        simp [F_X9_refusal]
    · have d1 : F_X5_holdsAll m 3 p1 = 0 := Classical.byContradiction fun q => d ((holds_iff hn hp.1).mp q)
      have d2 : F_X10_isRow m p1 = 0 := Classical.byContradiction fun q => d ((isRow_iff hn hc).mp q)
      rw [d1, d2]
      simp [F_X9_refusal]
  · rw [has0 hn hp.1 c, isP0 hn hc c]
    simp [F_X9_refusal]
theorem odds_rng {p0 p1 p2 p3 v5 : Int32} : ∀ N, N ≤ 8 → 0 ≤ (ax_it (f_X10_odds_55 m p0 p1 p2 p3 v5) N 0 0).toInt := by
  intro N hN
  have key := ax_it_ind (f := f_X10_odds_55 m p0 p1 p2 p3 v5) (fun k (x : Int32) => k ≤ 8 → (0 ≤ x.toInt ∧ x.toInt ≤ 9 * k)) N 0 0 (fun _ => by decide) (fun k x _ h2 hs => by
    intro h3
    obtain ⟨a1, a2⟩ := hs (by omega)
    unfold f_X10_odds_55
    dsimp only
    split
    · have e0 : (0 : Int32).toInt = 0 := rfl
      rw [Jvm.Kit.i32_add (by omega) (by omega), e0]
      omega
    · have w := wt_rng m (m 138 (nI k).toNatClampNeg) (F_X10_remembered m p0 p1)
      rw [Jvm.Kit.i32_add (by omega) (by omega)]
      omega)
  rw [Nat.zero_add] at key
  exact (key hN).1
theorem odds_eq (h : iN n m) (p0 p1 p2 p3 : Int32) : F_X9_odds m p0 p1 p2 p3 = F_X10_odds m p0 p1 p2 p3 := by
  obtain ⟨hn, hc, -, hp⟩ := id h
  by_cases c : F_X9_isAsked m p0 p1 p2 = 0
  · have e := asked0 h c
    unfold F_X9_odds F_X10_odds
    rw [e, c]
    simp [F_X9_refusal]
  · obtain ⟨i, j, k, hi, hj, hij, hk, rfl, rfl, rfl, c1, c2, e⟩ := asked1 h c
    have hk8 : k < 256 := Nat.lt_of_lt_of_le hk (pow_le8 hn).1
    have hl := long_eq (m := m) (vp_in_nI hk8 (by omega))
    unfold F_X9_odds F_X10_odds
    by_cases cx : vp_in p3 n
    · rw [has1 hn hp.1 cx, isP1 hn hc cx, c1]
      have h6 : ¬ F_X10_isPerson m p3 = 0 := (isP_iff hn hc).mpr cx
      by_cases d : 2 ≤ F_X10_bits m (nI k)
      · rw [if_pos d] at e hl
        rw [e, hl]
        by_cases q : m 138 (16 + 8 * i + j) < 0
        · obtain ⟨k1, k2⟩ := kn0 h hi hj q
          simp [F_X9_refusal, k1, k2]
        · obtain ⟨k1, k2, k3, k4, k5⟩ := kn1 h hi hj q
          have hs : ∀ x, ax_it (f_X2_oddsOf_6 m 3 (m 138 (16 + 8 * i + j)) (nI k) x) n 0 0 = ax_it (f_X10_odds_55 m (nI i) (nI j) (nI k) p3 0) n 0 0 := fun x => by
            refine ax_it_congr _ _ _ (fun r s _ hr => ?_)
            simp only [f_X2_oddsOf_6, f_X10_odds_55, F_X2_weightIn]
            rw [has_eq (vp_in_nI (show r < 8 by omega) (by omega)), k4, apartOf_eq hn hp k5 (show r < n by omega), nI_clamp (show r < 2 ^ 31 by omega)]
            split <;> rfl
          have hne := odds_ne (m := m) (p0 := nI i) (p1 := nI j) (p2 := nI k) (p3 := p3) (v5 := 0) h.mp h6
          rw [hc, nI_clamp (show n < 2 ^ 31 by omega)] at hne
          have hge := odds_rng (m := m) (p0 := nI i) (p1 := nI j) (p2 := nI k) (p3 := p3) (v5 := 0) n hn
          rw [k1, k2, k3]
          simp only [F_X9_refusal]
          unfold F_X2_oddsOf
          rw [hp.1, hc, nI_clamp (show n < 2 ^ 31 by omega), hs]
          generalize ax_it (f_X10_odds_55 m (nI i) (nI j) (nI k) p3 0) n 0 0 = W at hne hge
          obtain ⟨x, hx, rfl⟩ := vp_in_of cx (by omega)
          unfold F_X2_weightIn
          rw [has_eq (vp_in_nI (show x < 8 by omega) (by omega)), apartOf_eq hn hp k5 hx, k4, nI_clamp (show x < 2 ^ 31 by omega)]
          by_cases f : F_X10_has m (nI k) (nI x) = 0
          · simp [f]
          · have w1 : ¬ W ≤ 0 := fun q1 => by
              have q2 := Int32.le_iff_toInt_le.mp q1
              have q3 : (0 : Int32).toInt = 0 := by decide
              exact hne f (Int32.toInt_inj.mp (by omega))
            simp [f, w1]
      · rw [if_neg d] at e hl
        rw [e, hl]
        simp [F_X9_refusal]
    · rw [has0 hn hp.1 cx, isP0 hn hc cx, c1]
      simp [F_X9_refusal]
end ROWSOF
theorem st_bestRow {G : ax_G} {l : Launch} (p0 p1 p2 : Int32) : ST G l INV mX9_bestRow mX10_bestRow [.int p0, .int p1, .int p2] :=
  st_q (d9 := 6) (d10 := 4) (by omega) (by omega) (fun m => F_X9_bestRow m p0 p1 p2) (fun m => F_X10_bestRow m p0 p1 p2) (fun m ⟨n, h⟩ => s_X9_bestRow m p0 p1 p2 (ok8_of h.1)) (fun m h => s_X10_bestRow m p0 p1 p2 h.mp) (fun m ⟨n, h⟩ => bestRow_eq h.1 p0 p1 p2)
theorem st_ask {G : ax_G} {l : Launch} (p0 p1 : Int32) : ST G l INV mX9_ask mX10_ask [.int p0, .int p1] :=
  st_q (d9 := 6) (d10 := 4) (by omega) (by omega) (fun m => F_X9_ask m p0 p1) (fun m => F_X10_ask m p0 p1) (fun m _ => s_X9_ask m p0 p1) (fun m h => s_X10_ask m p0 p1 h.mp) (fun m ⟨n, h⟩ => ask_eq h.1 p0 p1)
theorem st_odds {G : ax_G} {l : Launch} (p0 p1 p2 p3 : Int32) : ST G l INV mX9_odds mX10_odds [.int p0, .int p1, .int p2, .int p3] :=
  st_q (d9 := 5) (d10 := 4) (by omega) (by omega) (fun m => F_X9_odds m p0 p1 p2 p3) (fun m => F_X10_odds m p0 p1 p2 p3) (fun m _ => s_X9_odds m p0 p1 p2 p3) (fun m h => s_X10_odds m p0 p1 p2 p3 h.mp) (fun m ⟨n, h⟩ => odds_eq h.1 p0 p1 p2 p3)
