/-! ===== undo, keep, goBack ===== -/
theorem iA.tail {n : Nat} {m m2 : ax_Me} (h : iA n m) (R : ∀ b, (b = 1 ∨ b = 2 ∨ (115 ≤ b ∧ b < 123) ∨ b = 139 ∨ (145 ≤ b ∧ b ≤ 150)) → m2 b = m b) (O : ∀ k, (k = 5 ∨ k = 6 ∨ k = 17 ∨ k = 22) → m2 136 k = m 136 k) : iS n m2 ∧ iB n m2 ∧ iT m2 := by
  obtain ⟨-, -, -, -, hS, hB, -, hT⟩ := h
  exact ⟨hS.congr (fun k _ _ => R k (by omega)) (fun k _ _ => R k (by omega)) (O _ (by omega)) (congrFun (R _ (by omega)) _), hB.congr (R _ (by omega)) (R _ (by omega)) (R _ (by omega)) (R _ (by omega)) (O _ (by omega)) (congrFun (R _ (by omega)) _), hT.congr (R _ (by omega)) (R _ (by omega)) (O _ (by omega)) (O _ (by omega)) (congrFun (R _ (by omega)) _) (congrFun (R _ (by omega)) _)⟩
theorem iG.cg {n : Nat} {m m' : ax_Me} {g i : Nat} (hn : n ≤ 8) (h0 : ∀ k, k < 6 → m' (g + k) = m (g + k)) (h6 : ∀ k, k < 82 → m' 151 (82 * i + k) = m 151 (82 * i + k)) (h7 : m' 152 i = m 152 i) (h8 : m' 137 = m 137) (h : iG n m g i) : iG n m' g i := by
  have e0 : m' g = m g := h0 0 (by omega)
  unfold iG at *
  rw [e0, h7, h6 81 (by omega)]
  refine ⟨h.1, ?_⟩
  rcases h.2 with c | ⟨c1, c2, c3⟩
  · exact Or.inl c
  · refine Or.inr ⟨c1, c2.cg hn ?_ ?_ (fun k hk => ⟨?_, ?_, ?_⟩) (fun k hk => ?_) h8 (fun k hk => h6 k (by omega)), c3⟩
    · rw [h0 1 (by omega)]
    · rw [h0 1 (by omega)]
    · exact congrFun (h0 2 (by omega)) k
    · exact congrFun (h0 3 (by omega)) k
    · exact congrFun (h0 4 (by omega)) k
    · exact congrFun (h0 5 (by omega)) k
theorem undo10 {m : ax_Me} {c : Nat} (hc : c < 20) (e : m 136 14 = nI c) (m0 : ax_Me) : (∀ b, b ≠ 138 → ax_it (f_X10_undo_22 m0) 81 0 m b = m b) ∧ (∀ k, k < 81 → ax_it (f_X10_undo_22 m0) 81 0 m 138 k = m 143 (81 * c + k)) := by
  have key := ax_it_ind (f := f_X10_undo_22 m0) (fun i (s : ax_Me) => (∀ b, b ≠ 138 → s b = m b) ∧ (∀ k, k < i → s 138 k = m 143 (81 * c + k))) 81 0 m ⟨fun _ _ => rfl, fun k hk => absurd hk (by omega)⟩ (fun i s _ hi hs => by
    obtain ⟨h1, h2⟩ := hs
    simp only [f_X10_undo_22]
    rw [h1 136 (by decide), e, show (81 : Int32) = nI 81 from rfl, pk_mul, nI_add, nI_clamp (show i < 2 ^ 31 by omega), nI_clamp (show 81 * c + i < 2 ^ 31 by omega), h1 143 (by decide)]
    refine ⟨fun b hb => (u_row hb).trans (h1 b hb), fun k hk => ?_⟩
    by_cases d : k = i
    · subst d
      exact ax_u_self
    · rw [u_off d]
      exact h2 k (by omega))
  rw [Nat.zero_add] at key
  exact key
theorem st_undo {G : ax_G} {l : Launch} : ST G l INV mX9_undo mX10_undo [] := by
  intro m hI
  obtain ⟨n, h⟩ := id hI
  obtain ⟨hn, hc, hch, hp⟩ := id h.1
  obtain ⟨x1, x2, -, -⟩ := h.px
  obtain ⟨hN, ⟨c, q, c1, c2, c3, c4, c5, c6⟩, h1, h2, hS, hB, hD, hT⟩ := id h
  have s9 := s_X9_undo (G := G) (l := l) m x1
  by_cases z : c = 0
  · subst z
    have s10 := s_X10_undo (G := G) (l := l) m x2
    rw [show F_X9_undo m = (-1000000003, m) by unfold F_X9_undo F_X4_popInto; rw [if_pos (show m 13 2 = (0 : Int32) from c4), if_pos rfl]] at s9
    rw [show F_X10_undo m = (-1000000003, m) by unfold F_X10_undo; rw [if_pos (show m 136 14 = (0 : Int32) from c3)]] at s10
    exact ⟨_, _, _, _, _, by omega, by omega, s9, s10, hI⟩
  · obtain ⟨d, rfl⟩ : ∃ d, c = d + 1 := ⟨c - 1, by omega⟩
    have ez : ((m 13 1 + 20) - 1) - ((m 13 1 + 20) - 1) / 20 * 20 = nI ((q + 19) % 20) := by
      have : (m 13 1 + 20) - 1 = nI (q + 19) := by
        rw [c5, show nI q + 20 = nI (q + 20) from nI_add q 20]
        exact nI_pred (q + 19)
      rw [this, show (20 : Int32) = nI 20 from rfl, pk_rem (by omega) (by omega) (by omega)]
    have lz : (q + 19) % 20 < 20 := Nat.mod_lt _ (by omega)
    obtain ⟨b1, b2, b3, b4, b5⟩ := become_all m (a := 3) (b := 15 + 5 * ((q + 19) % 20)) (by omega)
    have e13 : F_X5_become m 3 (15 + 5 * ((q + 19) % 20)) 13 2 = nI (d + 1) := by
      rw [b1 13 (by omega)]
      exact c4
    have e9 : F_X9_undo m = (nI d, ax_u (ax_u (F_X5_become m 3 (15 + 5 * ((q + 19) % 20))) 13 1 (nI ((q + 19) % 20))) 13 2 (nI d)) := by
      have ep : F_X4_popInto m 3 = (1, ax_u (ax_u (F_X5_become m 3 (15 + 5 * ((q + 19) % 20))) 13 1 (nI ((q + 19) % 20))) 13 2 (nI d)) := by
        unfold F_X4_popInto
        rw [if_neg (show ¬ m 13 2 = (0 : Int32) by rw [c4]; exact nI_ne0 (by omega) (by omega)), ez, nI_clamp (by omega), u_off (show 2 ≠ 1 by decide), e13, nI_pred]
      unfold F_X9_undo
      rw [ep, if_neg (show ¬ (1 : Int32) = 0 by decide)]
      dsimp only
      rw [ax_u_self]
    rw [e9] at s9
    dsimp only at s9
    have r1 : ∀ b, b ≠ 13 → ax_u (ax_u (F_X5_become m 3 (15 + 5 * ((q + 19) % 20))) 13 1 (nI ((q + 19) % 20))) 13 2 (nI d) b = F_X5_become m 3 (15 + 5 * ((q + 19) % 20)) b := fun b hb => by rw [u_row hb, u_row hb]
    have w1 : ax_u (ax_u (F_X5_become m 3 (15 + 5 * ((q + 19) % 20))) 13 1 (nI ((q + 19) % 20))) 13 2 (nI d) 13 1 = nI ((q + 19) % 20) := by rw [u_off (by decide), ax_u_self]
    have w2 : ax_u (ax_u (F_X5_become m 3 (15 + 5 * ((q + 19) % 20))) 13 1 (nI ((q + 19) % 20))) 13 2 (nI d) 13 2 = nI d := ax_u_self
    generalize ax_u (ax_u (F_X5_become m 3 (15 + 5 * ((q + 19) % 20))) 13 1 (nI ((q + 19) % 20))) 13 2 (nI d) = m1 at s9 r1 w1 w2
    have R : ∀ b, b ≠ 13 → (b < 3 ∨ 7 < b) → m1 b = m b := fun b g1 g2 => (r1 b g1).trans (b1 b (by omega))
    have e136 := R 136 (by decide) (by omega)
    have s10 := s_X10_undo (G := G) (l := l) m1 (by unfold mu; rw [e136]; exact x2)
    have ea : ax_u m1 136 14 (m1 136 14 - 1) = ax_u m1 136 14 (nI d) := by rw [e136, c3, nI_pred]
    obtain ⟨t1, t2⟩ := undo10 (m := ax_u m1 136 14 (nI d)) (c := d) (by omega) ax_u_self (ax_u m1 136 14 (nI d))
    have e10 : F_X10_undo m1 = (nI d, ax_it (f_X10_undo_22 (ax_u m1 136 14 (nI d))) 81 0 (ax_u m1 136 14 (nI d))) := by
      unfold F_X10_undo
      rw [if_neg (show ¬ m1 136 14 = (0 : Int32) by rw [e136, c3]; exact nI_ne0 (by omega) (by omega)), ea, show (81 : Int32).toNatClampNeg = 81 from rfl, t1 136 (by decide), ax_u_self]
    rw [e10] at s10
    dsimp only at s10
    generalize ax_it (f_X10_undo_22 (ax_u m1 136 14 (nI d))) 81 0 (ax_u m1 136 14 (nI d)) = m2 at s10 t1 t2
    have Q : ∀ b, b ≠ 136 → b ≠ 138 → m2 b = m1 b := fun b g1 g2 => (t1 b g2).trans (u_row g1)
    have QR : ∀ b, (b ≠ 13 ∧ (b < 3 ∨ 7 < b) ∧ b ≠ 136 ∧ b ≠ 138) → m2 b = m b := fun b g => (Q b g.2.2.1 g.2.2.2).trans (R b g.1 g.2.1)
    have O : ∀ k, k ≠ 14 → m2 136 k = m 136 k := fun k g => by rw [t1 136 (by decide), u_off g, e136]
    have m137 : m2 137 = m 137 := QR _ (by omega)
    have old := c6 d (by omega)
    rw [show (q + 20 - (d + 1) + d) % 20 = (q + 19) % 20 by omega] at old
    obtain ⟨hS', hB', hT'⟩ := h.tail (m2 := m2) (fun b g => QR b (by omega)) (fun k g => O k (by omega))
    refine ⟨_, _, _, _, _, by omega, by omega, s9, s10, n, ⟨hn, (O 0 (by decide)).trans hc, by rw [m137]; exact hch, ?_⟩, ⟨d, (q + 19) % 20, by omega, lz, ?_, ?_, ?_, fun j hj => ?_⟩, h1.congr (QR _ (by omega)) (QR _ (by omega)) (QR _ (by omega)) (QR _ (by omega)) (QR _ (by omega)) (QR _ (by omega)) (QR _ (by omega)) (congrFun (QR _ (by omega)) _) m137, h2.congr (QR _ (by omega)) (QR _ (by omega)) (QR _ (by omega)) (QR _ (by omega)) (QR _ (by omega)) (QR _ (by omega)) (QR _ (by omega)) (congrFun (QR _ (by omega)) _) m137, hS', hB', hD.congr (congrFun (QR _ (by omega)) _) (O _ (by decide)), hT'⟩
    · have P : ∀ b, 3 ≤ b → b ≤ 7 → m2 b = F_X5_become m 3 (15 + 5 * ((q + 19) % 20)) b := fun b g1 g2 => (Q b (by omega) (by omega)).trans (r1 b (by omega))
      refine old.cg hn ?_ ?_ (fun k hk => ?_) (fun k hk => ?_) m137 (fun k hk => ?_)
      · rw [P 3 (by omega) (by omega)]
        exact b2
      · rw [P 3 (by omega) (by omega)]
        exact b3
      · rw [P (3 + 1) (by omega) (by omega), P (3 + 2) (by omega) (by omega), P (3 + 3) (by omega) (by omega)]
        exact b4 k hk
      · rw [P (3 + 4) (by omega) (by omega)]
        exact b5 k hk
      · rw [t2 k hk, u_row (by decide), R 143 (by decide) (by omega)]
    · rw [t1 136 (by decide), ax_u_self]
    · rw [Q 13 (by decide) (by decide), w2]
    · rw [Q 13 (by decide) (by decide), w1]
    · have o := c6 j (by omega)
      rw [show ((q + 19) % 20 + 20 - d + j) % 20 = (q + 20 - (d + 1) + j) % 20 by omega]
      have lt : (q + 20 - (d + 1) + j) % 20 < 20 := Nat.mod_lt _ (by omega)
      refine o.congr (QR _ (by omega)) (QR _ (by omega)) (QR _ (by omega)) (QR _ (by omega)) (QR _ (by omega)) m137 ?_
      rw [QR 143 (by omega)]
section IMG
variable {n : Nat} {m : ax_Me} {i : Nat}
theorem ix82 {k : Nat} (hi : i < 2) (hk : k < 82) : ((82 * nI i) + nI k).toNatClampNeg = 82 * i + k := by
  rw [show (82 : Int32) = nI 82 from rfl, pk_mul, nI_add, nI_clamp (by omega)]
theorem keep10 (hi : i < 2) (m0 : ax_Me) : (∀ b, b ≠ 151 → ax_it (f_X10_keep_15 m0 (nI i)) 81 0 m b = m b) ∧ (∀ k, k < 81 → ax_it (f_X10_keep_15 m0 (nI i)) 81 0 m 151 (82 * i + k) = m 138 k) ∧ (∀ t, (t < 82 * i ∨ 82 * i + 81 ≤ t) → ax_it (f_X10_keep_15 m0 (nI i)) 81 0 m 151 t = m 151 t) := by
  have key := ax_it_ind (f := f_X10_keep_15 m0 (nI i)) (fun j (s : ax_Me) => (∀ b, b ≠ 151 → s b = m b) ∧ (∀ k, k < j → s 151 (82 * i + k) = m 138 k) ∧ (∀ t, (t < 82 * i ∨ 82 * i + 81 ≤ t) → s 151 t = m 151 t)) 81 0 m ⟨fun _ _ => rfl, fun k hk => absurd hk (by omega), fun _ _ => rfl⟩ (fun j s _ hj hs => by
    obtain ⟨h1, h2, h3⟩ := hs
    simp only [f_X10_keep_15]
    rw [ix82 hi (by omega), nI_clamp (show j < 2 ^ 31 by omega), h1 138 (by decide)]
    refine ⟨fun b hb => (u_row hb).trans (h1 b hb), fun k hk => ?_, fun t ht => (u_off (by omega)).trans (h3 t ht)⟩
    by_cases d : k = j
    · subst d
      exact ax_u_self
    · rw [u_off (by omega)]
      exact h2 k (by omega))
  rw [Nat.zero_add] at key
  exact key
theorem back10 (hi : i < 2) (m0 : ax_Me) : (∀ b, b ≠ 138 → ax_it (f_X10_goBack_27 m0 (nI i)) 81 0 m b = m b) ∧ (∀ k, k < 81 → ax_it (f_X10_goBack_27 m0 (nI i)) 81 0 m 138 k = m 151 (82 * i + k)) := by
  have key := ax_it_ind (f := f_X10_goBack_27 m0 (nI i)) (fun j (s : ax_Me) => (∀ b, b ≠ 138 → s b = m b) ∧ (∀ k, k < j → s 138 k = m 151 (82 * i + k))) 81 0 m ⟨fun _ _ => rfl, fun k hk => absurd hk (by omega)⟩ (fun j s _ hj hs => by
    obtain ⟨h1, h2⟩ := hs
    simp only [f_X10_goBack_27]
    rw [ix82 hi (by omega), nI_clamp (show j < 2 ^ 31 by omega), h1 151 (by decide)]
    refine ⟨fun b hb => (u_row hb).trans (h1 b hb), fun k hk => ?_⟩
    by_cases d : k = j
    · subst d
      exact ax_u_self
    · rw [u_off (by omega)]
      exact h2 k (by omega))
  rw [Nat.zero_add] at key
  exact key
theorem in01i {m' : ax_Me} (hi : i < 2) : F_X10_in m' (nI i).toInt64 0 1 = 1 := by
  refine in01.resolve_left (in_iff.mpr ?_)
  rw [Int32.toInt_toInt64, nI_toInt (by omega)]
  show (0 : Int) ≤ i ∧ (i : Int) ≤ 1
  omega
theorem not01 {m' : ax_Me} {p : Int32} (h0 : ¬ p = 0) (h1 : ¬ p = 1) : F_X10_in m' p.toInt64 0 1 = 0 := by
  refine Classical.byContradiction fun c => ?_
  have := in_iff.mp c
  rw [Int32.toInt_toInt64] at this
  have g : (0 : Int) ≤ p.toInt ∧ p.toInt ≤ 1 := this
  have : p.toInt = 0 ∨ p.toInt = 1 := by omega
  rcases this with e | e
  · exact h0 (Int32.toInt_inj.mp e)
  · exact h1 (Int32.toInt_inj.mp e)
end IMG
theorem keep_go {G : ax_G} {l : Launch} {n : Nat} {m : ax_Me} (h : iA n m) {g g' i i' : Nat} (hg : (g = 124 ∧ i = 0 ∧ g' = 130 ∧ i' = 1) ∨ (g = 130 ∧ i = 1 ∧ g' = 124 ∧ i' = 0)) (hG' : iG n m g' i') (e9 : F_X9_keep m (nI i) = (1, F_X4_empty (F_X3_take m g 3 (m 123 0)))) : ∃ (r : Int32) (d9 d10 : Nat) (m1 m2 : ax_Me), d9 ≤ 7 ∧ d10 ≤ 7 ∧ AD G l d9 mX9_keep (.ref 0 :: [.int (nI i)]) m (some (.int r)) m1 ∧ AD G l d10 mX10_keep (.ref 136 :: [.int (nI i)]) m1 (some (.int r)) m2 ∧ (iN n m2 ∧ iP n m2 ∧ iG n m2 g i ∧ iG n m2 g' i' ∧ iS n m2 ∧ iB n m2 ∧ iD m2 ∧ iT m2) := by
  obtain ⟨hn, hc, hch, hp⟩ := id h.1
  obtain ⟨hN, ⟨c, q, c1, c2, c3, c4, c5, c6⟩, -, -, hS, hB, hD, hT⟩ := id h
  have s9 := s_X9_keep (G := G) (l := l) m (nI i)
  rw [e9] at s9
  dsimp only at s9
  obtain ⟨b1, b2, b3, b4, b5⟩ := become_all m (a := g + 1) (b := 3) (by omega)
  have r1 : ∀ b, b ≠ 13 → b ≠ g → F_X4_empty (F_X3_take m g 3 (m 123 0)) b = F_X5_become m (g + 1) 3 b := fun b g1 g2 => by
    unfold F_X4_empty F_X3_take
    rw [u_row g1, u_row g2, u_row g2]
  have w13 : F_X4_empty (F_X3_take m g 3 (m 123 0)) 13 2 = nI 0 := ax_u_self
  have w131 : F_X4_empty (F_X3_take m g 3 (m 123 0)) 13 1 = nI q := by
    unfold F_X4_empty F_X3_take
    rw [u_off (by decide), u_row (by omega), u_row (by omega), b1 13 (by omega), c5]
  have wg1 : F_X4_empty (F_X3_take m g 3 (m 123 0)) g 1 = m 123 0 := by
    unfold F_X4_empty F_X3_take
    rw [u_row (by omega), u_off (by decide), ax_u_self]
  have wg2 : F_X4_empty (F_X3_take m g 3 (m 123 0)) g 2 = 1 := by
    unfold F_X4_empty F_X3_take
    rw [u_row (by omega), ax_u_self]
  generalize F_X4_empty (F_X3_take m g 3 (m 123 0)) = m1 at s9 r1 w13 w131 wg1 wg2
  have R : ∀ b, b ≠ 13 → (b < g ∨ g + 5 < b) → m1 b = m b := fun b g1 g2 => (r1 b g1 (by omega)).trans (b1 b (by omega))
  have s10 := s_X10_keep (G := G) (l := l) m1 (nI i)
  obtain ⟨t1, t2, t3⟩ := keep10 (m := m1) (i := i) (by omega) m1
  have ix81 : ((82 * nI i) + 81).toNatClampNeg = 82 * i + 81 := ix82 (i := i) (k := 81) (by omega) (by omega)
  have e10 : F_X10_keep m1 (nI i) = (1, ax_u (ax_u (ax_u (ax_it (f_X10_keep_15 m1 (nI i)) 81 0 m1) 151 (82 * i + 81) (m 136 3)) 152 i 1) 136 14 0) := by
    unfold F_X10_keep
    rw [in01i (by omega), if_neg (by decide), show (81 : Int32).toNatClampNeg = 81 from rfl, ix81, nI_clamp (show i < 2 ^ 31 by omega), t1 136 (by decide), R 136 (by decide) (by omega)]
  rw [e10] at s10
  dsimp only at s10
  generalize ax_it (f_X10_keep_15 m1 (nI i)) 81 0 m1 = ma at s10 t1 t2 t3
  have v1 : ∀ b, b ≠ 136 → b ≠ 151 → b ≠ 152 → ax_u (ax_u (ax_u ma 151 (82 * i + 81) (m 136 3)) 152 i 1) 136 14 0 b = m1 b := fun b g1 g2 g3 => by rw [u_row g1, u_row g3, u_row g2, t1 b g2]
  have O : ∀ k, k ≠ 14 → ax_u (ax_u (ax_u ma 151 (82 * i + 81) (m 136 3)) 152 i 1) 136 14 0 136 k = m 136 k := fun k g => by rw [u_off g, u_row (by decide), u_row (by decide), t1 136 (by decide), R 136 (by decide) (by omega)]
  have v14 : ax_u (ax_u (ax_u ma 151 (82 * i + 81) (m 136 3)) 152 i 1) 136 14 0 136 14 = nI 0 := ax_u_self
  have v152 : ax_u (ax_u (ax_u ma 151 (82 * i + 81) (m 136 3)) 152 i 1) 136 14 0 152 i = 1 := by rw [u_row (by decide), ax_u_self]
  have v152' : ax_u (ax_u (ax_u ma 151 (82 * i + 81) (m 136 3)) 152 i 1) 136 14 0 152 i' = m 152 i' := by rw [u_row (by decide), u_off (by omega), u_row (by decide), t1 152 (by decide), R 152 (by decide) (by omega)]
  have v151 : ∀ k, k < 81 → ax_u (ax_u (ax_u ma 151 (82 * i + 81) (m 136 3)) 152 i 1) 136 14 0 151 (82 * i + k) = m 138 k := fun k hk => by rw [u_row (by decide), u_row (by decide), u_off (by omega), t2 k hk, R 138 (by decide) (by omega)]
  have v151s : ax_u (ax_u (ax_u ma 151 (82 * i + 81) (m 136 3)) 152 i 1) 136 14 0 151 (82 * i + 81) = m 136 3 := by rw [u_row (by decide), u_row (by decide), ax_u_self]
  have v151' : ∀ k, k < 82 → ax_u (ax_u (ax_u ma 151 (82 * i + 81) (m 136 3)) 152 i 1) 136 14 0 151 (82 * i' + k) = m 151 (82 * i' + k) := fun k hk => by rw [u_row (by decide), u_row (by decide), u_off (by omega), t3 _ (by omega), R 151 (by decide) (by omega)]
  generalize ax_u (ax_u (ax_u ma 151 (82 * i + 81) (m 136 3)) 152 i 1) 136 14 0 = m2 at s10 v1 O v14 v152 v152' v151 v151s v151'
  have QR : ∀ b, (b ≠ 13 ∧ (b < g ∨ g + 5 < b) ∧ b ≠ 136 ∧ b ≠ 151 ∧ b ≠ 152) → m2 b = m b := fun b g => (v1 b g.2.2.1 g.2.2.2.1 g.2.2.2.2).trans (R b g.1 g.2.1)
  have m137 : m2 137 = m 137 := QR _ (by omega)
  obtain ⟨hS', hB', hT'⟩ := h.tail (m2 := m2) (fun b g => QR b (by omega)) (fun k g => O k (by omega))
  refine ⟨_, _, _, _, _, by omega, by omega, s9, s10, hN.congr (fun k _ _ => QR k (by omega)) (O _ (by decide)) m137 (QR _ (by omega)), ⟨0, q, by omega, c2, v14, by rw [v1 13 (by decide) (by decide) (by decide)]; exact w13, by rw [v1 13 (by decide) (by decide) (by decide)]; exact w131, fun j hj => absurd hj (by omega)⟩, ⟨?_, Or.inr ⟨v152, ?_, ?_, ?_⟩⟩, hG'.cg hn (fun k hk => QR _ (by omega)) v151' v152' m137, hS', hB', hD.congr (congrFun (QR _ (by omega)) _) (O _ (by decide)), hT'⟩
  · rw [v152, v1 g (by omega) (by omega) (by omega), wg2]
  · have P : ∀ b, g + 1 ≤ b → b ≤ g + 5 → m2 b = F_X5_become m (g + 1) 3 b := fun b g1 g2 => (v1 b (by omega) (by omega) (by omega)).trans (r1 b (by omega) (by omega))
    refine hp.cg hn ?_ ?_ (fun k hk => ?_) (fun k hk => ?_) m137 (fun k hk => ?_)
    · rw [P _ (by omega) (by omega)]
      exact b2
    · rw [P _ (by omega) (by omega)]
      exact b3
    · rw [P _ (by omega) (by omega), P _ (by omega) (by omega), P _ (by omega) (by omega)]
      exact b4 k hk
    · rw [P _ (by omega) (by omega)]
      exact b5 k hk
    · exact v151 k hk
  · rw [v151s, v1 g (by omega) (by omega) (by omega), wg1]
    exact hD.1
  · rw [v151s]
    exact hD.2
theorem st_keep {G : ax_G} {l : Launch} (p0 : Int32) : ST G l INV mX9_keep mX10_keep [.int p0] := by
  intro m hI
  obtain ⟨n, h⟩ := id hI
  by_cases c0 : p0 = 0
  · subst c0
    obtain ⟨r, d9, d10, m1, m2, a1, a2, a3, a4, a5⟩ := keep_go (G := G) (l := l) h (g := 124) (g' := 130) (i := 0) (i' := 1) (by omega) h.2.2.2.1 rfl
    exact ⟨r, d9, d10, m1, m2, a1, a2, a3, a4, n, a5⟩
  · by_cases c1 : p0 = 1
    · subst c1
      obtain ⟨r, d9, d10, m1, m2, a1, a2, a3, a4, b1, b2, b3, b4, b5⟩ := keep_go (G := G) (l := l) h (g := 130) (g' := 124) (i := 1) (i' := 0) (by omega) h.2.2.1 rfl
      exact ⟨r, d9, d10, m1, m2, a1, a2, a3, a4, n, b1, b2, b4, b3, b5⟩
    · have s9 := s_X9_keep (G := G) (l := l) m p0
      have s10 := s_X10_keep (G := G) (l := l) m p0
      rw [show F_X9_keep m p0 = (-1000000001, m) by unfold F_X9_keep; rw [if_neg c0, if_neg c1]] at s9
      rw [show F_X10_keep m p0 = (-1000000001, m) by unfold F_X10_keep; rw [if_pos (not01 c0 c1)]] at s10
      exact ⟨_, _, _, _, _, by omega, by omega, s9, s10, hI⟩
