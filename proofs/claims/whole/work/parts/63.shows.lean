/-! ===== impostor, showNext, nods, honest ===== -/
section SHOWS
variable {n : Nat} {m : ax_Me}
theorem rowWith_iff {r i x : Nat} (hr : r < 256) (hi : i < 8) (hx : x < 8) {p : Int32} : (F_X6_isRowWith m (nI r) (nI i) (nI x) p = 0) ↔ ¬ (F_X10_bits m (nI r) = p ∧ (¬ F_X10_has m (nI r) (nI x) = 0) ∧ F_X10_has m (nI r) (nI i) = 0) := by
  have r1 : F_J6_bitCount_0f7a4 m (nI r) = F_X10_bits m (nI r) := bc_eq (vp_in_nI hr (by omega))
  have r2 : F_X9_hasBit m (nI r) (nI i) = F_X10_has m (nI r) (nI i) := has_eq (vp_in_nI hi (by omega))
  have r3 : F_X9_hasBit m (nI r) (nI x) = F_X10_has m (nI r) (nI x) := has_eq (vp_in_nI hx (by omega))
  unfold F_X6_isRowWith F_X6_isRowOf
  rw [r1, r2, r3]
  by_cases b : F_X10_bits m (nI r) = p
  · by_cases c1 : F_X10_has m (nI r) (nI x) = 0
    · simp [b, c1]
    · by_cases c2 : F_X10_has m (nI r) (nI i) = 0
      · simp [b, c1, c2]
      · simp [b, c1, c2]
  · simp [b]
/-- the rows in which X is picked: how many, and the first -/
theorem imp_fold (h : iN n m) {i j x : Nat} (hi : i < n) (hj : j < n) (hx : x < n) (q : ¬ m 138 (16 + 8 * i + j) < 0) (p3 p4 : Int32) : ∀ N, N ≤ 2 ^ n →
    (ax_it (f_X10_impostor_75 m (nI i) (nI j) (nI x) p3 p4) N 0 (0, -1)).1 = ax_it (f_X6_countPicking_12 m 3 (m 138 (16 + 8 * i + j)) (nI i) (nI x) p3 (F_X5_everybody m 3)) N 0 0 := by
  intro N hN
  obtain ⟨k1, k2, k3, k4, k5⟩ := kn1 h hi hj q
  have hn := h.1
  have hp8 := pow_le8 hn
  have key := ax_it_rel (fun (s : Int32 × Int32) (t : Int32) => s.1 = t) (f := f_X10_impostor_75 m (nI i) (nI j) (nI x) p3 p4) (g := f_X6_countPicking_12 m 3 (m 138 (16 + 8 * i + j)) (nI i) (nI x) p3 (F_X5_everybody m 3)) N 0 (0, -1) 0 rfl (fun r s t _ hr e => by
    obtain ⟨s0, s1⟩ := s
    dsimp only at e
    subst e
    have hw := rowWith_iff (m := m) (r := r) (i := i) (x := x) (by omega) (by omega) (by omega) (p := p3)
    simp only [f_X10_impostor_75, f_X6_countPicking_12]
    rw [pick_eq h k5, k4]
    by_cases b : F_X10_bits m (nI r) = p3
    · by_cases c1 : F_X10_has m (nI r) (nI x) = 0
      · rw [if_pos (hw.mpr (fun g => g.2.1 c1)), if_pos b, if_pos c1]
      · by_cases c2 : F_X10_has m (nI r) (nI i) = 0
        · rw [if_neg (fun g => hw.mp g ⟨b, c1, c2⟩), if_pos b, if_neg c1, if_pos c2]
          split
          · split <;> rfl
          · rfl
        · rw [if_pos (hw.mpr (fun g => c2 g.2.2)), if_pos b, if_neg c1, if_neg c2]
    · rw [if_pos (hw.mpr (fun g => b g.1)), if_neg b])
  exact key
/-- the first: both loops from r on, none found before -/
theorem imp_first (h : iN n m) {i j x : Nat} (hi : i < n) (hj : j < n) (hx : x < n) (q : ¬ m 138 (16 + 8 * i + j) < 0) (p3 p4 : Int32) : ∀ N r, r + N ≤ 2 ^ n →
    (ax_it (f_X10_impostor_75 m (nI i) (nI j) (nI x) p3 p4) N r (0, -1)).2 = (match ax_lp (f_X6_leastPicking_9 m 3 (m 138 (16 + 8 * i + j)) (nI i) (nI x) p3 (F_X5_everybody m 3)) N r () with | .inl b => b | .inr () => (-1)) := by
  obtain ⟨k1, k2, k3, k4, k5⟩ := kn1 h hi hj q
  have hn := h.1
  have hp8 := pow_le8 hn
  intro N
  induction N with
  | zero => intro r _; rfl
  | succ N ih =>
    intro r hr
    have hw := rowWith_iff (m := m) (r := r) (i := i) (x := x) (by omega) (by omega) (by omega) (p := p3)
    rw [ax_it, ax_lp]
    have step : (f_X10_impostor_75 m (nI i) (nI j) (nI x) p3 p4 r (0, -1) = (0, -1) ∧ f_X6_leastPicking_9 m 3 (m 138 (16 + 8 * i + j)) (nI i) (nI x) p3 (F_X5_everybody m 3) r () = .inr ()) ∨ (f_X10_impostor_75 m (nI i) (nI j) (nI x) p3 p4 r (0, -1) = (1, nI r) ∧ f_X6_leastPicking_9 m 3 (m 138 (16 + 8 * i + j)) (nI i) (nI x) p3 (F_X5_everybody m 3) r () = .inl (nI r)) := by
      simp only [f_X10_impostor_75, f_X6_leastPicking_9]
      rw [pick_eq h k5, k4]
      by_cases b : F_X10_bits m (nI r) = p3
      · by_cases c1 : F_X10_has m (nI r) (nI x) = 0
        · rw [if_pos (hw.mpr (fun g => g.2.1 c1)), if_pos b, if_pos c1]
          exact Or.inl ⟨rfl, rfl⟩
        · by_cases c2 : F_X10_has m (nI r) (nI i) = 0
          · rw [if_neg (fun g => hw.mp g ⟨b, c1, c2⟩), if_pos b, if_neg c1, if_pos c2]
            by_cases d : F_X10_pickBy m (m 138 (16 + 8 * i + j)) (nI r) = nI x
            · rw [if_pos d, if_pos d]
              exact Or.inr ⟨by simp, rfl⟩
            · rw [if_neg d, if_neg d]
              exact Or.inl ⟨rfl, rfl⟩
          · rw [if_pos (hw.mpr (fun g => c2 g.2.2)), if_pos b, if_neg c1, if_neg c2]
            exact Or.inl ⟨rfl, rfl⟩
      · rw [if_pos (hw.mpr (fun g => b g.1)), if_neg b]
        exact Or.inl ⟨rfl, rfl⟩
    rcases step with ⟨e1, e2⟩ | ⟨e1, e2⟩
    · rw [e1, e2]
      exact ih (r + 1) (by omega)
    · rw [e1, e2]
      dsimp only
      have key := ax_it_ind (f := f_X10_impostor_75 m (nI i) (nI j) (nI x) p3 p4) (fun k (s : Int32 × Int32) => s.2 = nI r ∧ ∃ c, 1 ≤ c ∧ c ≤ k ∧ s.1 = nI c) N (r + 1) (1, nI r) ⟨rfl, 1, by omega, by omega, rfl⟩ (fun k s hk1 hk2 hs => by
        obtain ⟨s0, s1⟩ := s
        obtain ⟨rfl, c, hc1, hc2, e⟩ := hs
        dsimp only at e
        subst e
        simp only [f_X10_impostor_75]
        have hz : ¬ nI c = 0 := nI_ne0 (by omega) (by omega)
        rw [if_neg hz]
        have keep : ((nI c, nI r) : Int32 × Int32).2 = nI r ∧ ∃ c', 1 ≤ c' ∧ c' ≤ k + 1 ∧ ((nI c, nI r) : Int32 × Int32).1 = nI c' := ⟨rfl, c, hc1, by omega, rfl⟩
        have more : ((nI c + 1, nI r) : Int32 × Int32).2 = nI r ∧ ∃ c', 1 ≤ c' ∧ c' ≤ k + 1 ∧ ((nI c + 1, nI r) : Int32 × Int32).1 = nI c' := ⟨rfl, c + 1, by omega, by omega, nI_1 c⟩
        split
        · split
          · exact keep
          · split
            · split
              · exact more
              · exact keep
            · exact keep
        · exact keep)
      exact key.1
theorem impostor_eq (h : iN n m) (p0 p1 p2 p3 p4 : Int32) : F_X9_impostor m p0 p1 p2 p3 p4 = F_X10_impostor m p0 p1 p2 p3 p4 := by
  obtain ⟨hn, hc, -, hp⟩ := id h
  unfold F_X9_impostor F_X10_impostor F_X9_isRowLength
  rw [pair_eq h, pair_eq h, ← wi_in (m := m) (m' := m) (p := p3) (a := 2) (b := 8) (x := 2) (y := 8) (by decide) (by decide), ← wi_in (m := m) (m' := m) (p := p4) (a := 0) (b := 1) (x := 0) (y := 1) (by decide) (by decide)]
  by_cases c : F_X10_areTwo m p0 p1 = 0
  · simp [c, F_X9_refusal]
  · obtain ⟨i, j, hi, hj, hij, rfl, rfl⟩ := iv_two h c
    by_cases d : F_X10_areTwo m (nI i) p2 = 0
    · have e : F_X10_isPerson m p2 = 0 ∨ p2 = nI i := by
        by_cases e : vp_in p2 n
        · refine Or.inr ?_
          unfold F_X10_areTwo at d
          rw [isP1 hn hc (vp_in_nI hi (by omega)), isP1 hn hc e, if_neg (by decide), if_neg (by decide)] at d
          by_cases f : nI i = p2
          · exact f.symm
          · rw [if_neg f] at d
            exact absurd d (by decide)
        · exact Or.inl (isP0 hn hc e)
      rcases e with e | e
      · simp [c, d, e, F_X9_refusal]
      · subst e
        simp [c, d, F_X9_refusal]
    · obtain ⟨i', x, hi', hx, hix, e1, rfl⟩ := iv_two h d
      have e2 : i = i' := (nI_eq (by omega) (by omega)).mp e1
      subst e2
      have e3 : F_X10_isPerson m (nI x) = 1 := isP1 hn hc (vp_in_nI hx (by omega))
      have e4 : ¬ nI x = nI i := fun g => hix ((nI_eq (by omega) (by omega)).mp g).symm
      by_cases f : F_X9_isWithin m p3 2 8 = 0
      · simp [c, d, e3, e4, f, F_X9_refusal]
      · by_cases g : F_X9_isWithin m p4 0 1 = 0
        · simp [c, d, e3, e4, f, g, F_X9_refusal]
        · by_cases q : m 138 (16 + 8 * i + j) < 0
          · obtain ⟨k1, k2⟩ := kn0 h hi hj q
            have q' : ¬ 0 ≤ F_X10_remembered m (nI i) (nI j) := by
              rw [rem_v (by omega) (by omega)]
              exact Int32.not_le.mpr q
            simp [c, d, e3, e4, f, g, k1, q', F_X9_refusal]
          · obtain ⟨k1, k2, k3, k4, k5⟩ := kn1 h hi hj q
            have q' : 0 ≤ F_X10_remembered m (nI i) (nI j) := by
              rw [k4]
              exact Int32.not_lt.mp q
            simp only [c, d, e3, e4, f, g, k1, k3, q', F_X9_refusal, if_true, if_false]
            unfold F_X6_countPicking F_X6_leastPicking
            rw [every_n h, ones_n h, imp_fold h hi hj hx q p3 p4 _ (Nat.le_refl _), imp_first h hi hj hx q p3 p4 (2 ^ n) 0 (by omega)]
            rfl
theorem spread_eq (h : iN n m) {x : Int32} (hx : vp_in x 256) {r : Nat} (hr : r < 2 ^ n) (hne : ∃ q, q < n ∧ r.testBit q = true) : F_X2_spread m 3 x (nI r) = F_X10_spread m x (nI r) := by
  obtain ⟨hn, hc, -, hp⟩ := id h
  have hr8 : r < 256 := Nat.lt_of_lt_of_le hr (pow_le8 hn).1
  unfold F_X2_spread F_X10_spread
  rw [hp.1, hc, nI_clamp (by omega)]
  have key : ∀ N, N ≤ n → (((ax_it (f_X2_spread_9 m 3 x (nI r)) N 0 (8, 0)) = (8, 0) ∧ (ax_it (f_X10_spread_9 m x (nI r)) N 0 (0, 99)) = (0, 99) ∧ ∀ q, q < N → r.testBit q = false) ∨ ((ax_it (f_X2_spread_9 m 3 x (nI r)) N 0 (8, 0)).1 = (ax_it (f_X10_spread_9 m x (nI r)) N 0 (0, 99)).2 ∧ (ax_it (f_X2_spread_9 m 3 x (nI r)) N 0 (8, 0)).2 = (ax_it (f_X10_spread_9 m x (nI r)) N 0 (0, 99)).1 ∧ (ax_it (f_X2_spread_9 m 3 x (nI r)) N 0 (8, 0)).1 ≤ 8)) := by
    intro N hN
    have k0 := ax_it_rel2 (fun k (s t : Int32 × Int32) => (s = (8, 0) ∧ t = (0, 99) ∧ ∀ q, q < k → r.testBit q = false) ∨ (s.1 = t.2 ∧ s.2 = t.1 ∧ s.1 ≤ 8)) (f := f_X2_spread_9 m 3 x (nI r)) (g := f_X10_spread_9 m x (nI r)) N 0 (8, 0) (0, 99) (Or.inl ⟨rfl, rfl, fun q hq => absurd hq (by omega)⟩) (fun k s t _ hk hR => by
      obtain ⟨s0, s1⟩ := s
      obtain ⟨t0, t1⟩ := t
      simp only [f_X2_spread_9, f_X10_spread_9]
      rw [has_eq (vp_in_nI (show k < 8 by omega) (by omega)), apartOf_eq hn hp hx (show k < n by omega), nI_clamp (show k < 2 ^ 31 by omega)]
      have hb := apart_le (m := m) (hp.2.2.2.2.1 k (by omega)) hx
      have ht := has_tb (m := m) (k := r) (q := k) hr8 (by omega)
      generalize F_X10_apart m (m 138 k) x = A at hb
      by_cases c : F_X10_has m (nI r) (nI k) = 0
      · rw [if_pos c, if_pos c]
        rcases hR with ⟨e1, e2, e3⟩ | ⟨e1, e2, e3⟩
        · refine Or.inl ⟨e1, e2, fun q hq => ?_⟩
          by_cases d : q = k
          · rw [d]
            exact Bool.not_eq_true _ ▸ fun g => ht.mpr g c
          · exact e3 q (by omega)
        · exact Or.inr ⟨e1, e2, e3⟩
      · rw [if_neg c, if_neg c]
        refine Or.inr ?_
        rcases hR with ⟨e1, e2, e3⟩ | ⟨e1, e2, e3⟩
        · cases e1
          cases e2
          have a1 : ¬ (99 : Int32) ≤ A := fun q => absurd (Int32.le_trans q hb.2) (by decide)
          rw [if_neg a1, if_neg a1]
          refine ⟨?_, ?_, ?_⟩
          · have w : (if A ≤ 0 then ((0 : Int32), A) else (A, A)).2 = A := by split <;> rfl
            by_cases d : A < 8
            · rw [if_pos d]
              exact w.symm
            · rw [if_neg d]
              exact (Int32.le_antisymm (Int32.not_lt.mp d) hb.2).trans w.symm
          · by_cases d : 0 < A
            · rw [if_pos d, if_neg (Int32.not_le.mpr d)]
            · rw [if_neg d, if_pos (Int32.not_lt.mp d)]
          · dsimp only
            split
            · exact hb.2
            · decide
        · dsimp only at e1 e2 e3
          subst e1 e2
          by_cases d1 : A < s0
          · by_cases d2 : s1 < A
            · rw [if_pos d1, if_pos d2, if_neg (Int32.not_le.mpr d2), if_neg (Int32.not_le.mpr d1)]
              exact ⟨rfl, rfl, hb.2⟩
            · rw [if_pos d1, if_neg d2, if_pos (Int32.not_lt.mp d2), if_neg (Int32.not_le.mpr d1)]
              exact ⟨rfl, rfl, hb.2⟩
          · by_cases d2 : s1 < A
            · rw [if_neg d1, if_pos d2, if_neg (Int32.not_le.mpr d2), if_pos (Int32.not_lt.mp d1)]
              exact ⟨rfl, rfl, e3⟩
            · rw [if_neg d1, if_neg d2, if_pos (Int32.not_lt.mp d2), if_pos (Int32.not_lt.mp d1)]
              exact ⟨rfl, rfl, e3⟩)
    rw [Nat.zero_add] at k0
    exact k0
  rcases key n (Nat.le_refl _) with ⟨-, -, e⟩ | ⟨e1, e2, -⟩
  · obtain ⟨q, h1, h2⟩ := hne
    rw [e q h1] at h2
    cases h2
  · rw [e1, e2]
theorem three_all : ∀ k : Fin 256, F_X10_bits mem0 (nI k.val) = 3 → ∃ q : Fin 8, k.val.testBit q.val = true := by decide +kernel
theorem showNext_eq (h : iN n m) (p0 p1 : Int32) : F_X9_showNext m p0 p1 = F_X10_showNext m p0 p1 := by
  obtain ⟨hn, hc, -, hp⟩ := id h
  have hp8 := pow_le8 hn
  unfold F_X9_showNext F_X10_showNext
  rw [pair_eq h]
  by_cases c : F_X10_areTwo m p0 p1 = 0
  · simp [c, F_X9_refusal]
  · obtain ⟨i, j, hi, hj, hij, rfl, rfl⟩ := iv_two h c
    by_cases q : m 138 (16 + 8 * i + j) < 0
    · obtain ⟨k1, k2⟩ := kn0 h hi hj q
      have q' : ¬ 0 ≤ F_X10_remembered m (nI i) (nI j) := by
        rw [rem_v (by omega) (by omega)]
        exact Int32.not_le.mpr q
      simp [c, k1, q', F_X9_refusal]
    · obtain ⟨k1, k2, k3, k4, k5⟩ := kn1 h hi hj q
      have q' : 0 ≤ F_X10_remembered m (nI i) (nI j) := by
        rw [k4]
        exact Int32.not_lt.mp q
      have e : F_X6_widest m 3 (F_X5_memoryOf m 3 (nI i) (nI j)) (nI i) = (ax_it (f_X10_showNext_32 m (nI i) (nI j)) (((1 <<< ((m 136 0) &&& 31)) : Int32).toNatClampNeg) (0) ((-1), (-1))).1 := by
        unfold F_X6_widest
        rw [every_n h, ones_n h, k3]
        refine congrArg Prod.fst (ax_it_congr _ _ _ (fun r s _ hr => ?_))
        obtain ⟨s0, s1⟩ := s
        simp only [f_X6_widest_14, f_X10_showNext_32, F_X6_isRowOf]
        have r1 : F_J6_bitCount_0f7a4 m (nI r) = F_X10_bits m (nI r) := bc_eq (vp_in_nI (show r < 256 by omega) (by omega))
        have r2 : F_X9_hasBit m (nI r) (nI i) = F_X10_has m (nI r) (nI i) := has_eq (vp_in_nI (show i < 8 by omega) (by omega))
        simp only [r1, r2, k4]
        by_cases b : F_X10_bits m (nI r) = 3
        · have sp : F_X2_spread m 3 (m 138 (16 + 8 * i + j)) (nI r) = F_X10_spread m (m 138 (16 + 8 * i + j)) (nI r) := by
            refine spread_eq h k5 (by omega) ?_
            obtain ⟨o, ho⟩ := three_all ⟨r, by omega⟩ (by rw [bits_m mem0 m]; exact b)
            exact ⟨o.val, tb_lt (show r < 2 ^ n by omega) ho, ho⟩
          by_cases c2 : F_X10_has m (nI r) (nI i) = 0
          · simp [b, c2, sp]
          · simp [b, c2]
        · simp [b]
      rw [e]
      simp [c, k1, q', F_X9_refusal]
theorem nods_eq (h : iN n m) (hS : iS n m) {w : Nat} (hw : w < n) : F_X7_countOtherwise m 3 (nI w) = F_X10_nodsOf m (nI w) := by
  obtain ⟨s, s1, s2, s3, s4⟩ := hS
  have hn := h.1
  unfold F_X7_countOtherwise F_X10_nodsOf
  rw [s2, s3, nI_clamp (by omega), Nat.min_eq_left s1]
  refine ax_it_congr _ _ _ (fun k t _ hk => ?_)
  obtain ⟨⟨c1, c2, c3, c4⟩, c5, c6, c7, c8⟩ := s4 k (by omega)
  simp only [f_X7_countOtherwise_5, f_X10_nodsOf_4]
  rw [nI_clamp (show k < 2 ^ 31 by omega), c1, c2, c3, c4]
  by_cases d : m 145 k = nI w
  · rw [if_pos d, if_pos d]
    obtain ⟨j, hj, e⟩ := vp_in_of c6 (by omega)
    rw [e]
    by_cases q : m 138 (16 + 8 * w + j) < 0
    · obtain ⟨k1, k2⟩ := kn0 h hw hj q
      have pn : F_X7_pickNow m 3 (nI w) (nI j) (m 147 k) = -1 := by
        unfold F_X7_pickNow
        rw [if_pos k1]
      have q' : F_X10_remembered m (nI w) (nI j) < 0 := by
        rw [rem_v (by omega) (by omega)]
        exact q
      rw [pn, if_pos q', if_neg]
      intro g
      rw [g] at c8
      exact c8 (Or.inl (by decide))
    · obtain ⟨k1, k2, k3, k4, k5⟩ := kn1 h hw hj q
      have pn : F_X7_pickNow m 3 (nI w) (nI j) (m 147 k) = F_X10_pickBy m (F_X10_remembered m (nI w) (nI j)) (m 147 k) := by
        unfold F_X7_pickNow
        rw [k1, if_neg (show ¬ (1 : Int32) = 0 by decide), k3, k4, pick_eq h k5]
      have q' : ¬ F_X10_remembered m (nI w) (nI j) < 0 := by
        rw [k4]
        exact q
      rw [pn, if_neg q']
      by_cases f : F_X10_pickBy m (F_X10_remembered m (nI w) (nI j)) (m 147 k) = m 148 k
      · rw [if_pos f, if_pos f.symm, Int32.add_zero]
      · rw [if_neg f, if_neg (fun g => f g.symm)]
  · rw [if_neg d, if_neg d]
end SHOWS
theorem st_impostor {G : ax_G} {l : Launch} (p0 p1 p2 p3 p4 : Int32) : ST G l INV mX9_impostor mX10_impostor [.int p0, .int p1, .int p2, .int p3, .int p4] :=
  st_q (d9 := 5) (d10 := 3) (by omega) (by omega) (fun m => F_X9_impostor m p0 p1 p2 p3 p4) (fun m => F_X10_impostor m p0 p1 p2 p3 p4) (fun m ⟨n, h⟩ => s_X9_impostor m p0 p1 p2 p3 p4 (ok8_of h.1)) (fun m h => s_X10_impostor m p0 p1 p2 p3 p4 h.mp) (fun m ⟨n, h⟩ => impostor_eq h.1 p0 p1 p2 p3 p4)
theorem st_showNext {G : ax_G} {l : Launch} (p0 p1 : Int32) : ST G l INV mX9_showNext mX10_showNext [.int p0, .int p1] :=
  st_q (d9 := 5) (d10 := 3) (by omega) (by omega) (fun m => F_X9_showNext m p0 p1) (fun m => F_X10_showNext m p0 p1) (fun m ⟨n, h⟩ => s_X9_showNext m p0 p1 (ok8_of h.1)) (fun m h => s_X10_showNext m p0 p1 h.mp) (fun m ⟨n, h⟩ => showNext_eq h.1 p0 p1)
section NODS
variable {n : Nat} {m : ax_Me}
theorem iS.pre (hn : n ≤ 8) (hS : iS n m) : ms m ∧ ∀ k, k < (m 136 17).toNatClampNeg → vp_in (m 146 k) 8 := by
  obtain ⟨s, s1, s2, s3, s4⟩ := hS
  refine ⟨⟨?_, ?_⟩, fun k hk => ?_⟩
  · rw [s2]
    exact nI_pos (by omega)
  · rw [s2]
    exact nI_le (b := 8) s1 (by decide)
  · rw [s2, nI_clamp (by omega)] at hk
    exact iv_mono (s4 k hk).2.2.1 hn
theorem nodsq_eq (h : iN n m) (hS : iS n m) (p0 : Int32) : F_X9_nods m p0 = F_X10_nods m p0 := by
  obtain ⟨hn, hc, -, hp⟩ := id h
  unfold F_X9_nods F_X10_nods
  by_cases c : vp_in p0 n
  · rw [has1 hn hp.1 c, isP1 hn hc c]
    obtain ⟨w, hw, rfl⟩ := vp_in_of c (by omega)
    rw [nods_eq h hS hw]
  · rw [has0 hn hp.1 c, isP0 hn hc c, if_pos rfl, if_pos rfl]
theorem honest_eq (h : iN n m) (hS : iS n m) : F_X9_honest m = F_X10_honest m := by
  obtain ⟨hn, hc, -, hp⟩ := id h
  unfold F_X9_honest F_X10_honest
  rw [hp.1, hc, nI_clamp (by omega)]
  refine ax_it_congr _ _ _ (fun w s _ hw => ?_)
  simp only [f_X9_honest_4, f_X10_honest_4]
  rw [nods_eq h hS (show w < n by omega), Int32.or_zero]
end NODS
theorem st_nods {G : ax_G} {l : Launch} (p0 : Int32) : ST G l INV mX9_nods mX10_nods [.int p0] :=
  st_q (d9 := 6) (d10 := 4) (by omega) (by omega) (fun m => F_X9_nods m p0) (fun m => F_X10_nods m p0) (fun m _ => s_X9_nods m p0) (fun m ⟨n, h⟩ => s_X10_nods m p0 h.1.mp (h.2.2.2.2.1.pre h.1.1).1 (h.2.2.2.2.1.pre h.1.1).2) (fun m ⟨n, h⟩ => nodsq_eq h.1 h.2.2.2.2.1 p0)
theorem st_honest {G : ax_G} {l : Launch} : ST G l INV mX9_honest mX10_honest [] :=
  st_q (d9 := 6) (d10 := 4) (by omega) (by omega) F_X9_honest F_X10_honest (fun m _ => s_X9_honest m) (fun m ⟨n, h⟩ => s_X10_honest m h.1.mp (h.2.2.2.2.1.pre h.1.1).1 (h.2.2.2.2.1.pre h.1.1).2) (fun m ⟨n, h⟩ => honest_eq h.1 h.2.2.2.2.1)
