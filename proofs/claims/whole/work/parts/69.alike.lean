/-! ===== alike ===== -/
/-- cells that are only scribbled on -/
theorem iA.scr {n : Nat} {m m' : ax_Me} (h : iA n m) (hr : ∀ b, ¬ (8 ≤ b ∧ b ≤ 12) → b ≠ 1 → b ≠ 136 → b ≠ 140 → b ≠ 141 → b ≠ 142 → b ≠ 144 → m' b = m b) (ho : ∀ k, k ≠ 7 → k ≠ 8 → k ≠ 9 → k ≠ 10 → m' 136 k = m 136 k) (h1 : m' 1 1 = m 1 1) (h2 : m' 1 2 = m 1 2) : iA n m' := by
  have R : ∀ b, (¬ (8 ≤ b ∧ b ≤ 12) ∧ b ≠ 1 ∧ b ≠ 136 ∧ b ≠ 140 ∧ b ≠ 141 ∧ b ≠ 142 ∧ b ≠ 144) → m' b = m b := fun b q => hr b q.1 q.2.1 q.2.2.1 q.2.2.2.1 q.2.2.2.2.1 q.2.2.2.2.2.1 q.2.2.2.2.2.2
  have O : ∀ k, (k ≠ 7 ∧ k ≠ 8 ∧ k ≠ 9 ∧ k ≠ 10) → m' 136 k = m 136 k := fun k q => ho k q.1 q.2.1 q.2.2.1 q.2.2.2
  obtain ⟨a, b, c, d, e, f, g, i⟩ := h
  refine ⟨a.congr (fun k _ _ => R k (by omega)) (O _ (by decide)) (R _ (by decide)) (R _ (by decide)), b.congr (fun k _ _ => R k (by omega)) (O _ (by decide)) (R _ (by decide)) (R _ (by decide)) (congrFun (R _ (by decide)) _) (congrFun (R _ (by decide)) _), c.congr (R _ (by decide)) (R _ (by decide)) (R _ (by decide)) (R _ (by decide)) (R _ (by decide)) (R _ (by decide)) (R _ (by decide)) (congrFun (R _ (by decide)) _) (R _ (by decide)), d.congr (R _ (by decide)) (R _ (by decide)) (R _ (by decide)) (R _ (by decide)) (R _ (by decide)) (R _ (by decide)) (R _ (by decide)) (congrFun (R _ (by decide)) _) (R _ (by decide)), e.congr (fun k _ _ => R k (by omega)) (fun k _ _ => R k (by omega)) (O _ (by decide)) (congrFun (R _ (by decide)) _), f.congr (R _ (by decide)) (R _ (by decide)) (R _ (by decide)) (R _ (by decide)) (O _ (by decide)) (congrFun (R _ (by decide)) _), g.congr (congrFun (R _ (by decide)) _) (O _ (by decide)), i.congr (R _ (by decide)) (R _ (by decide)) (O _ (by decide)) (O _ (by decide)) h1 h2⟩
section TH
variable {N j : Nat}
theorem th_wh (hN : N ≤ 60) (hj : j < 8) : ∀ (d i : Nat) (s : ax_Me), i + d = N → (¬ s 137 j ≤ 0) → (∀ b, b ≠ 144 → (ax_wh (f_X10_alike_39 (nI N) (nI j)) (d + 1) (nI i, s)).2 b = s b) ∧ (∀ k, k ≠ j → (ax_wh (f_X10_alike_39 (nI N) (nI j)) (d + 1) (nI i, s)).2 144 k = s 144 k) ∧ (∀ x, s 144 j = gy (s 137 j) (s 138 80) x j i → (ax_wh (f_X10_alike_39 (nI N) (nI j)) (d + 1) (nI i, s)).2 144 j = gy (s 137 j) (s 138 80) x j N)
  | 0, i, s, hi, hc => by
    have e : f_X10_alike_39 (nI N) (nI j) (nI i, s) = none := by
      simp only [f_X10_alike_39]
      rw [if_pos (nI_le (by omega) (by omega))]
    rw [ax_wh, e]
    refine ⟨fun _ _ => rfl, fun _ _ => rfl, fun x hx => ?_⟩
    rw [show N = i by omega]
    exact hx
  | d + 1, i, s, hi, hc => by
    have e : f_X10_alike_39 (nI N) (nI j) (nI i, s) = some (nI (i + 1), ax_u s 144 j (yst (s 137 j) (s 138 80 + nI i) (s 144 j) j)) := by
      simp only [f_X10_alike_39]
      rw [if_neg (nI_ge (by omega) (by omega)), nI_clamp (show j < 2 ^ 31 by omega), if_neg hc, show (80 : Int32).toNatClampNeg = 80 from rfl, nI_1, yst, if_neg hc]
    rw [ax_wh, e]
    dsimp only
    have r : ∀ b, b ≠ 144 → ax_u s 144 j (yst (s 137 j) (s 138 80 + nI i) (s 144 j) j) b = s b := fun b hb => u_row hb
    obtain ⟨g1, g2, g3⟩ := th_wh hN hj d (i + 1) (ax_u s 144 j (yst (s 137 j) (s 138 80 + nI i) (s 144 j) j)) (by omega) (by rw [r 137 (by decide)]; exact hc)
    refine ⟨fun b hb => (g1 b hb).trans (r b hb), fun k hk => (g2 k hk).trans (u_off hk), fun x hx => ?_⟩
    rw [r 137 (by decide), r 138 (by decide)] at g3
    refine g3 x ?_
    rw [ax_u_self, hx]
    rfl
theorem th_one (hN : N ≤ 60) (hj : j < 8) (m0 s : ax_Me) : (∀ b, b ≠ 144 → f_X10_alike_17 m0 (nI N) j s b = s b) ∧ (∀ k, k ≠ j → f_X10_alike_17 m0 (nI N) j s 144 k = s 144 k) ∧ f_X10_alike_17 m0 (nI N) j s 144 j = gy (s 137 j) (s 138 80) (s 138 j) j N := by
  simp only [f_X10_alike_17]
  rw [nI_clamp (show N < 2 ^ 31 by omega), nI_clamp (show j < 2 ^ 31 by omega)]
  have r : ∀ b, b ≠ 144 → ax_u s 144 j (s 138 j) b = s b := fun b hb => u_row hb
  by_cases c : s 137 j ≤ 0
  · have e : f_X10_alike_39 (nI N) (nI j) (0, ax_u s 144 j (s 138 j)) = none := by
      simp only [f_X10_alike_39]
      split
      · rfl
      · rw [nI_clamp (show j < 2 ^ 31 by omega), r 137 (by decide), if_pos c]
    rw [ax_wh, e]
    refine ⟨fun b hb => r b hb, fun k hk => u_off hk, ?_⟩
    rw [gy_0 c]
    exact ax_u_self
  · obtain ⟨g1, g2, g3⟩ := th_wh hN hj N 0 (ax_u s 144 j (s 138 j)) (by omega) (by rw [r 137 (by decide)]; exact c)
    rw [nI_0] at g1 g2 g3
    refine ⟨fun b hb => (g1 b hb).trans (r b hb), fun k hk => (g2 k hk).trans (u_off hk), ?_⟩
    rw [r 137 (by decide), r 138 (by decide)] at g3
    exact g3 (s 138 j) ax_u_self
theorem th_all (hN : N ≤ 60) {n : Nat} (hn : n ≤ 8) (m0 m : ax_Me) : (∀ b, b ≠ 144 → ax_it (f_X10_alike_17 m0 (nI N)) n 0 m b = m b) ∧ (∀ k, k < n → ax_it (f_X10_alike_17 m0 (nI N)) n 0 m 144 k = gy (m 137 k) (m 138 80) (m 138 k) k N) := by
  have key := ax_it_ind (f := f_X10_alike_17 m0 (nI N)) (fun i (s : ax_Me) => (∀ b, b ≠ 144 → s b = m b) ∧ (∀ k, k < i → s 144 k = gy (m 137 k) (m 138 80) (m 138 k) k N)) n 0 m ⟨fun _ _ => rfl, fun k hk => absurd hk (by omega)⟩ (fun i s _ hi hs => by
    obtain ⟨h1, h2⟩ := hs
    obtain ⟨g1, g2, g3⟩ := th_one (j := i) hN (by omega) m0 s
    refine ⟨fun b hb => (g1 b hb).trans (h1 b hb), fun k hk => ?_⟩
    by_cases d : k = i
    · subst d
      rw [g3, h1 137 (by decide), h1 138 (by decide)]
    · exact (g2 k d).trans (h2 k (by omega)))
  rw [Nat.zero_add] at key
  exact key
end TH
section TW
variable {n : Nat} {m1 m2 : ax_Me}
theorem twin_eq (hn : n ≤ 8) (h1 : m1 8 4 = nI n) (h2 : m2 136 0 = nI n) (he : ∀ k, k < n → m1 9 k = m2 144 k) (p0 : Int32) : F_X5_firstTwins m1 8 = (match ax_lp (f_X10_alike_99 m2 p0) 64 0 () with | .inl b => b | .inr () => (-1)) := by
  unfold F_X5_firstTwins
  rw [h1, nI_clamp (by omega)]
  have mk : ∀ k, k < n → F_X5_marksOf m1 8 (nI k) = m2 144 k := fun k hk => by
    unfold F_X5_marksOf
    rw [has1 hn h1 (vp_in_nI hk (by omega)), if_neg (by decide), nI_clamp (by omega)]
    exact he k hk
  have ff : ∀ i j, i < 8 → j < 8 → f_X10_alike_99 m2 p0 (8 * i + j) () = if nI j ≤ nI i then .inr () else if nI n ≤ nI j then .inr () else if m2 144 i = m2 144 j then .inl (10 * nI i + nI j) else .inr () := fun i j hi hj => by
    simp only [f_X10_alike_99]
    rw [rem8 hi hj, div8 hi hj, h2, nI_clamp (show j < 2 ^ 31 by omega), nI_clamp (show i < 2 ^ 31 by omega)]
  have e : ax_lp (f_X5_firstTwins_2 m1 8) n 0 () = ax_lp (f_X10_alike_99 m2 p0) 64 0 () := by
    have e1 := ax_lp_nest (F := f_X10_alike_99 m2 p0) 8 0 ()
    rw [show 8 * 8 = 64 from rfl, show 8 * 0 = 0 from rfl] at e1
    rw [← e1, ax_lp_ext (n := n) (N := 8) hn]
    · refine ax_lp_congr _ _ _ (fun i s _ hi => ?_)
      rw [ax_lp_ext (n := n) (N := 8) hn]
      · have ea := ax_lp_app (f := fun j s => f_X10_alike_99 m2 p0 (8 * i + j) s) (i + 1) (n - (i + 1)) 0 ()
        rw [show i + 1 + (n - (i + 1)) = n by omega] at ea
        rw [ea, ax_lp_skip (i + 1) 0 () (fun k s h3 h4 => by
          rw [ff i k (by omega) (by omega), if_pos (nI_le (by omega) (by omega))])]
        unfold f_X5_firstTwins_2
        rw [h1, nI_clamp (by omega), Nat.zero_add]
        have eb : ax_lp (f_X5_firstTwins_14 m1 8 (nI i)) (n - (i + 1)) (i + 1) () = ax_lp (fun j s => f_X10_alike_99 m2 p0 (8 * i + j) s) (n - (i + 1)) (i + 1) () := by
          refine ax_lp_congr _ _ _ (fun j s h3 h4 => ?_)
          rw [ff i j (by omega) (by omega), if_neg (nI_ge (by omega) (by omega)), if_neg (nI_ge (by omega) (by omega))]
          simp only [f_X5_firstTwins_14]
          rw [mk i (by omega), mk j (by omega)]
        rw [eb]
        show _ = ax_lp (fun j s => f_X10_alike_99 m2 p0 (8 * i + j) s) (n - (i + 1)) (i + 1) ()
        cases ax_lp (fun j s => f_X10_alike_99 m2 p0 (8 * i + j) s) (n - (i + 1)) (i + 1) () <;> rfl
      · intro j s h3 h4
        rw [ff i j (by omega) (by omega)]
        split
        · rfl
        · rw [if_pos (nI_le (by omega) (by omega))]
    · intro i s h3 h4
      refine ax_lp_skip _ _ _ (fun j s h5 h6 => ?_)
      rw [ff i j (by omega) (by omega)]
      by_cases c : j ≤ i
      · rw [if_pos (nI_le c (by omega))]
      · rw [if_neg (nI_ge (by omega) (by omega)), if_pos (nI_le (by omega) (by omega))]
  rw [e]
  cases ax_lp (f_X10_alike_99 m2 p0) 64 0 () <;> rfl
end TW
theorem st_alike {G : ax_G} {l : Launch} (p0 : Int32) : ST G l INV mX9_alike mX10_alike [.int p0] := by
  intro m hI
  obtain ⟨n, h⟩ := id hI
  obtain ⟨hn, hc, hch, hp⟩ := id h.1
  have ew : ∀ m' : ax_Me, F_X9_isWithin m p0 0 60 = F_X10_in m' p0.toInt64 0 60 := fun m' => wi_in (by decide) (by decide)
  have s9 := s_X9_alike (G := G) (l := l) m p0
  by_cases c : F_X9_isWithin m p0 0 60 = 0
  · have s10 := s_X10_alike (G := G) (l := l) m p0 hI.mp
    rw [show F_X9_alike m p0 = (-1000000002, m) by unfold F_X9_alike; rw [if_pos c]] at s9
    rw [show F_X10_alike m p0 = (-1000000002, m) by unfold F_X10_alike; rw [← ew m, if_pos c]] at s10
    exact ⟨_, _, _, _, _, by omega, by omega, s9, s10, hI⟩
  · have cp : vp_in p0 61 := by
      rw [vp_in_iff]
      have := wi_iff.mp c
      have g1 : (0 : Int32).toInt = 0 := by decide
      have g2 : (60 : Int32).toInt = 60 := by decide
      omega
    obtain ⟨N, hN, rfl⟩ := vp_in_of cp (by omega)
    obtain ⟨b1, b2, b3, b4, b5⟩ := become_all m (a := 8) (b := 3) (by omega)
    obtain ⟨y1, y2, y3, y4⟩ := py_all (m := F_X5_become m 8 3) (a := 8) (n := n) hn (b2.trans hp.1) (show N ≤ 60 by omega)
    have e9 : F_X9_alike m (nI N) = (F_X5_firstTwins (F_X5_passYears (F_X5_become m 8 3) 8 (nI N)) 8, F_X5_passYears (F_X5_become m 8 3) 8 (nI N)) := by
      unfold F_X9_alike
      rw [if_neg c]
    have r1 : ∀ b, ¬ (8 ≤ b ∧ b ≤ 12) → F_X5_passYears (F_X5_become m 8 3) 8 (nI N) b = m b := fun b hb => (y1 b (by omega) (by omega)).trans (b1 b (by omega))
    have i84 : F_X5_passYears (F_X5_become m 8 3) 8 (nI N) 8 4 = nI n := by
      rw [y2 4 (by decide), b2]
      exact hp.1
    have i9 : ∀ k, k < n → F_X5_passYears (F_X5_become m 8 3) 8 (nI N) 9 k = gy (m 137 k) (m 138 80) (m 138 k) k N := fun k hk => by
      rw [y4 k hk, (b4 k (by omega)).1, (b4 k (by omega)).2.1, b3]
      have := hp.2.2.1 k hk
      rw [hp.2.1, this.1, this.2.1]
    rw [e9] at s9
    dsimp only at s9
    generalize F_X5_passYears (F_X5_become m 8 3) 8 (nI N) = m1 at s9 r1 i84 i9
    have hc1 : m1 136 0 = nI n := by
      rw [r1 136 (by decide)]
      exact hc
    have s10 := s_X10_alike (G := G) (l := l) m1 (nI N) ⟨by rw [hc1]; exact nI_pos (by omega), by rw [hc1]; exact nI_le (b := 8) hn (by decide)⟩
    obtain ⟨t1, t2⟩ := th_all (N := N) (by omega) hn m1 m1
    have e10 : F_X10_alike m1 (nI N) = (F_X5_firstTwins m1 8, ax_it (f_X10_alike_17 m1 (nI N)) n 0 m1) := by
      unfold F_X10_alike
      rw [← ew m1, if_neg c, hc1, nI_clamp (show n < 2 ^ 31 by omega), show (64 : Int32).toNatClampNeg = 64 from rfl]
      rw [twin_eq (m1 := m1) (m2 := ax_it (f_X10_alike_17 m1 (nI N)) n 0 m1) hn i84 (by rw [t1 136 (by decide)]; exact hc1) (fun k hk => by rw [t2 k hk, i9 k hk, r1 137 (by decide), r1 138 (by decide)]) (nI N)]
      cases ax_lp (f_X10_alike_99 (ax_it (f_X10_alike_17 m1 (nI N)) n 0 m1) (nI N)) 64 0 () <;> rfl
    rw [e10] at s10
    dsimp only at s10
    refine ⟨_, _, _, _, _, by omega, by omega, s9, s10, n, ?_⟩
    exact h.scr (fun b q1 _ _ _ _ _ q2 => (t1 b q2).trans (r1 b q1)) (fun k _ _ _ _ => by rw [t1 136 (by decide), r1 136 (by decide)]) (by rw [t1 1 (by decide), r1 1 (by decide)]) (by rw [t1 1 (by decide), r1 1 (by decide)])
