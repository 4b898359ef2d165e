/-! ===== place ===== -/
section TR
variable {m : ax_Me} {c : Nat}
theorem tr10 (hc : c ≤ 8) (h0 : m 136 0 = nI c) (m0 : ax_Me) : (∀ b, b ≠ 137 → b ≠ 138 → ax_it (f_X10_takeRead_10 m0) 8 0 m b = m b) ∧ (∀ k, k < 8 → ax_it (f_X10_takeRead_10 m0) 8 0 m 138 k = (if k < c then m 140 k else 0) ∧ ax_it (f_X10_takeRead_10 m0) 8 0 m 138 (8 + k) = (if k < c then nI k else 0) ∧ ax_it (f_X10_takeRead_10 m0) 8 0 m 137 k = (if k < c then m 141 k else 0)) := by
  have key := ax_it_ind (f := f_X10_takeRead_10 m0) (fun j (s : ax_Me) => (∀ b, b ≠ 137 → b ≠ 138 → s b = m b) ∧ (∀ k, k < j → s 138 k = (if k < c then m 140 k else 0) ∧ s 138 (8 + k) = (if k < c then nI k else 0) ∧ s 137 k = (if k < c then m 141 k else 0))) 8 0 m ⟨fun _ _ _ => rfl, fun k hk => absurd hk (by omega)⟩ (fun j s _ hj hs => by
    obtain ⟨h1, h2⟩ := hs
    simp only [f_X10_takeRead_10]
    rw [nI_clamp (show j < 2 ^ 31 by omega), ix8 (show j < 8 by omega), h1 136 (by decide) (by decide), h0, h1 140 (by decide) (by decide), u_row (show 141 ≠ 138 by decide), u_row (show 141 ≠ 138 by decide), h1 141 (by decide) (by decide)]
    have gen : ∀ x y z : Int32, x = (if j < c then m 140 j else 0) → y = (if j < c then nI j else 0) → z = (if j < c then m 141 j else 0) → (∀ b, b ≠ 137 → b ≠ 138 → ax_u (ax_u (ax_u s 138 j x) 138 (8 + j) y) 137 j z b = m b) ∧ (∀ k, k < j + 1 → ax_u (ax_u (ax_u s 138 j x) 138 (8 + j) y) 137 j z 138 k = (if k < c then m 140 k else 0) ∧ ax_u (ax_u (ax_u s 138 j x) 138 (8 + j) y) 137 j z 138 (8 + k) = (if k < c then nI k else 0) ∧ ax_u (ax_u (ax_u s 138 j x) 138 (8 + j) y) 137 j z 137 k = (if k < c then m 141 k else 0)) := fun x y z ex ey ez => by
      refine ⟨fun b g1 g2 => by rw [u_row g1, u_row g2, u_row g2, h1 b g1 g2], fun k hk => ?_⟩
      rw [u_row (show 138 ≠ 137 by decide)]
      by_cases d : k = j
      · subst d
        rw [ax_u_self, ax_u_self, u_off (by omega), ax_u_self]
        exact ⟨ex, ey, ez⟩
      · rw [u_off (show k ≠ j from d), u_off (show k ≠ 8 + j by omega), u_off d, u_off (show 8 + k ≠ 8 + j by omega), u_off (show 8 + k ≠ j by omega), u_row (show 137 ≠ 138 by decide), u_row (show 137 ≠ 138 by decide)]
        exact h2 k (by omega)
    by_cases d : j < c
    · rw [if_neg (nI_ge d (by omega))]
      exact gen _ _ _ (if_pos d).symm (if_pos d).symm (if_pos d).symm
    · rw [if_pos (nI_le (by omega) (by omega))]
      exact gen _ _ _ (if_neg d).symm (if_neg d).symm (if_neg d).symm)
  rw [Nat.zero_add] at key
  exact key
theorem tr96 (m0 : ax_Me) : (∀ b, b ≠ 138 → ax_it (f_X10_takeRead_96 m0) 64 0 m b = m b) ∧ (∀ k, k < 16 → ax_it (f_X10_takeRead_96 m0) 64 0 m 138 k = m 138 k) ∧ (∀ k, k < 64 → ax_it (f_X10_takeRead_96 m0) 64 0 m 138 (16 + k) = (if m 142 k = 0 then -1 else m 138 (k % 8))) := by
  have key := ax_it_ind (f := f_X10_takeRead_96 m0) (fun j (s : ax_Me) => (∀ b, b ≠ 138 → s b = m b) ∧ (∀ k, k < 16 → s 138 k = m 138 k) ∧ (∀ k, k < j → s 138 (16 + k) = (if m 142 k = 0 then -1 else m 138 (k % 8)))) 64 0 m ⟨fun _ _ => rfl, fun _ _ => rfl, fun k hk => absurd hk (by omega)⟩ (fun j s _ hj hs => by
    obtain ⟨h1, h2, h3⟩ := hs
    have em : j % 8 < 8 := Nat.mod_lt _ (by omega)
    simp only [f_X10_takeRead_96]
    rw [nI_clamp (show j < 2 ^ 31 by omega), ix16 (show j < 64 by omega), h1 142 (by decide), show (8 : Int32) = nI 8 from rfl, pk_rem (by omega) (by omega) (by omega), nI_clamp (by omega), h2 (j % 8) (by omega)]
    have gen : ∀ x : Int32, x = (if m 142 j = 0 then -1 else m 138 (j % 8)) → (∀ b, b ≠ 138 → ax_u s 138 (16 + j) x b = m b) ∧ (∀ k, k < 16 → ax_u s 138 (16 + j) x 138 k = m 138 k) ∧ (∀ k, k < j + 1 → ax_u s 138 (16 + j) x 138 (16 + k) = (if m 142 k = 0 then -1 else m 138 (k % 8))) := fun x ex => by
      refine ⟨fun b g1 => by rw [u_row g1, h1 b g1], fun k hk => by rw [u_off (by omega)]; exact h2 k hk, fun k hk => ?_⟩
      by_cases d : k = j
      · subst d
        rw [ax_u_self]
        exact ex
      · rw [u_off (by omega)]
        exact h3 k (by omega)
    by_cases d : m 142 j = 0
    · rw [if_pos d]
      exact gen _ (if_pos d).symm
    · rw [if_neg d]
      exact gen _ (if_neg d).symm)
  rw [Nat.zero_add] at key
  exact key
theorem tread (hc : c ≤ 8) (h : m 136 10 = nI c) : (∀ b, b ≠ 136 → b ≠ 137 → b ≠ 138 → F_X10_takeRead m b = m b) ∧ (∀ k, k ≠ 0 → F_X10_takeRead m 136 k = m 136 k) ∧ F_X10_takeRead m 136 0 = nI c ∧
    (∀ k, k < 8 → F_X10_takeRead m 138 k = (if k < c then m 140 k else 0) ∧ F_X10_takeRead m 138 (8 + k) = (if k < c then nI k else 0) ∧ F_X10_takeRead m 137 k = (if k < c then m 141 k else 0)) ∧
    (∀ i j, i < 8 → j < 8 → F_X10_takeRead m 138 (16 + 8 * i + j) = (if m 142 (8 * i + j) = 0 then -1 else (if j < c then m 140 j else 0))) ∧ F_X10_takeRead m 138 80 = 0 := by
  unfold F_X10_takeRead
  rw [h, show (8 : Int32).toNatClampNeg = 8 from rfl, show (64 : Int32).toNatClampNeg = 64 from rfl, show (80 : Int32).toNatClampNeg = 80 from rfl]
  obtain ⟨a1, a2⟩ := tr10 (m := ax_u m 136 0 (nI c)) hc ax_u_self (ax_u m 136 0 (nI c))
  generalize ax_it (f_X10_takeRead_10 (ax_u m 136 0 (nI c))) 8 0 (ax_u m 136 0 (nI c)) = A at a1 a2
  obtain ⟨b1, b2, b3⟩ := tr96 (m := A) A
  generalize ax_it (f_X10_takeRead_96 A) 64 0 A = B at b1 b2 b3
  rw [u_row (show 140 ≠ 136 by decide), u_row (show 141 ≠ 136 by decide)] at a2
  refine ⟨fun b g1 g2 g3 => ?_, fun k hk => ?_, ?_, fun k hk => ⟨?_, ?_, ?_⟩, fun i j hi hj => ?_, ax_u_self⟩
  · rw [u_row g3, b1 b g3, a1 b g2 g3, u_row g1]
  · rw [u_row (by decide), b1 136 (by decide), a1 136 (by decide) (by decide), u_off hk]
  · rw [u_row (by decide), b1 136 (by decide), a1 136 (by decide) (by decide), ax_u_self]
  · rw [u_off (by omega), b2 k (by omega)]
    exact (a2 k hk).1
  · rw [u_off (by omega), b2 (8 + k) (by omega)]
    exact (a2 k hk).2.1
  · rw [u_row (by decide), b1 137 (by decide)]
    exact (a2 k hk).2.2
  · rw [u_off (by omega), show 16 + 8 * i + j = 16 + (8 * i + j) by omega, b3 (8 * i + j) (by omega), a1 142 (by decide) (by decide), u_row (by decide), show (8 * i + j) % 8 = j by omega, (a2 j hj).1]
end TR
/-- a fault in the text: all else is as it was -/
theorem iA.scrT {n : Nat} {m m' : ax_Me} (h : iA n m) (R : ∀ b, (¬ (8 ≤ b ∧ b ≤ 12) ∧ b ≠ 1 ∧ b ≠ 136 ∧ b ≠ 140 ∧ b ≠ 141 ∧ b ≠ 142) → m' b = m b) (O : ∀ k, (k ≠ 5 ∧ k ≠ 6 ∧ k ≠ 7 ∧ k ≠ 8 ∧ k ≠ 9 ∧ k ≠ 10) → m' 136 k = m 136 k) (hT : iT m') : iA n m' := by
  obtain ⟨a, b, c, d, e, f, g, i⟩ := h
  exact ⟨a.congr (fun k _ _ => R k (by omega)) (O _ (by decide)) (R _ (by decide)) (R _ (by decide)), b.congr (fun k _ _ => R k (by omega)) (O _ (by decide)) (R _ (by decide)) (R _ (by decide)) (congrFun (R _ (by decide)) _) (congrFun (R _ (by decide)) _), c.congr (R _ (by decide)) (R _ (by decide)) (R _ (by decide)) (R _ (by decide)) (R _ (by decide)) (R _ (by decide)) (R _ (by decide)) (congrFun (R _ (by decide)) _) (R _ (by decide)), d.congr (R _ (by decide)) (R _ (by decide)) (R _ (by decide)) (R _ (by decide)) (R _ (by decide)) (R _ (by decide)) (R _ (by decide)) (congrFun (R _ (by decide)) _) (R _ (by decide)), e.congr (fun k _ _ => R k (by omega)) (fun k _ _ => R k (by omega)) (O _ (by decide)) (congrFun (R _ (by decide)) _), f.congr (R _ (by decide)) (R _ (by decide)) (R _ (by decide)) (R _ (by decide)) (O _ (by decide)) (congrFun (R _ (by decide)) _), g.congr (congrFun (R _ (by decide)) _) (O _ (by decide)), hT⟩
/-- what place() does behind the reading, without a fault -/
def X9p (m : ax_Me) : ax_Me := F_X3_drop (F_X3_drop (F_X0_empty (F_X7_empty (F_X4_empty (F_X5_become (F_X8_empty m) 3 8)))) 124) 130
def X10p (m : ax_Me) : ax_Me := ax_u (ax_u (ax_u (ax_u (ax_u (F_X10_takeRead (ax_u m 136 5 0)) 136 17 0) 136 22 0) 136 14 0) 152 0 0) 152 1 0
theorem place9 (m : ax_Me) : F_X9_place m = if (F_X8_tellInto m 8).2 1 3 = 0 then (X9p (F_X8_tellInto m 8).2 3 4, X9p (F_X8_tellInto m 8).2) else ((-10) - (F_X8_tellInto m 8).2 1 3, ax_u (F_X8_tellInto m 8).2 1 1 0) := by
  have e : (F_X8_tellInto m 8).1 = (F_X8_tellInto m 8).2 1 3 := by
    unfold F_X8_tellInto
    rfl
  unfold F_X9_place
  rw [e]
  rfl
theorem place10 (m : ax_Me) : R_X10_place m = (if (ax_wx f_X10_place_38 301 (0, S10 m)).1 ≤ 0 then X10p (ax_wx f_X10_place_38 301 (0, S10 m)).2 136 0 else (-10) - (ax_wx f_X10_place_38 301 (0, S10 m)).1) ∧ N_X10_place m = (if (ax_wx f_X10_place_38 301 (0, S10 m)).1 ≤ 0 then X10p (ax_wx f_X10_place_38 301 (0, S10 m)).2 else ax_u (ax_wx f_X10_place_38 301 (0, S10 m)).2 136 5 0) := by
  have e : F_X10_place m = if (ax_wx f_X10_place_38 301 (0, S10 m)).1 ≤ 0 then (X10p (ax_wx f_X10_place_38 301 (0, S10 m)).2 136 0, X10p (ax_wx f_X10_place_38 301 (0, S10 m)).2) else ((-10) - (ax_wx f_X10_place_38 301 (0, S10 m)).1, ax_u (ax_wx f_X10_place_38 301 (0, S10 m)).2 136 5 0) := by
    unfold F_X10_place X10p S10
    rfl
  unfold R_X10_place N_X10_place
  rw [e]
  generalize ax_wx f_X10_place_38 301 (0, S10 m) = W
  by_cases c : W.1 ≤ 0
  · generalize X10p W.2 = Z
    simp only [if_pos c, and_self]
  · generalize ax_u W.2 136 5 0 = Z
    simp only [if_neg c, and_self]
theorem st_place {G : ax_G} {l : Launch} : ST G l INV mX9_place mX10_place [] := by
  intro m hI
  obtain ⟨n, h⟩ := id hI
  obtain ⟨hN, ⟨c0, q0, x1, x2, x3, x4, x5, x6⟩, hG1, hG2, hS, hB, hD, t, t1, t2, t3, t4, t5⟩ := id h
  have hl : (m 1 1).toInt ≤ 240 := by
    rw [t3, nI_toInt (by omega)]
    omega
  have s9 := s_X9_place (G := G) (l := l) m hl
  have hL : ∀ k, k < t → vp_in (m 139 k) 256 := fun k hk => (t5 k hk).2
  have h2 : ∀ k, k < t → m 2 k = m 139 k := fun k hk => (t5 k hk).1
  have e9 := place9 m
  -- the class's cells ahead of the reference's reading: only its own have changed
  have T0 := texts (t := t) (L := m 139) (m := m) (mR := m) t1 hL t3 h2 t2 (fun _ _ => rfl)
  obtain ⟨f9, -, -⟩ := T0
  have go : ∀ m1 : ax_Me, (∀ b, 136 ≤ b → m1 b = m b) → EN t (m 139) m m1 (F_X8_tellInto m 8).2 (ax_wx f_X10_place_38 301 (0, S10 m1)).2 (ax_wx f_X10_place_38 301 (0, S10 m1)).1 := fun m1 hm => texts t1 hL t3 h2 (by rw [hm 136 (by omega)]; exact t2) (fun k _ => by rw [hm 139 (by omega)])
  generalize (F_X8_tellInto m 8).2 = mF at e9 f9 go
  have pre : ∀ m1 : ax_Me, (∀ b, 136 ≤ b → m1 b = m b) → (m1 136 5).toInt ≤ 240 := fun m1 hm => by
    rw [hm 136 (by omega), t2, nI_toInt (by omega)]
    omega
  by_cases cf : mF 1 3 = 0
  · rw [if_pos cf] at e9
    rw [e9] at s9
    dsimp only at s9
    obtain ⟨b1, b2, b3, b4, b5⟩ := become_all (F_X8_empty mF) (a := 3) (b := 8) (by omega)
    have W : ∀ b, b ≠ 13 → b ≠ 115 → b ≠ 120 → b ≠ 124 → b ≠ 130 → X9p mF b = F_X5_become (F_X8_empty mF) 3 8 b := fun b g1 g2 g3 g4 g5 => by
      unfold X9p F_X3_drop F_X0_empty F_X7_empty F_X4_empty
      rw [u_row g5, u_row g4, u_row g3, u_row g2, u_row g1]
    have w13 : X9p mF 13 2 = 0 ∧ X9p mF 13 1 = mF 13 1 := by
      unfold X9p F_X3_drop F_X0_empty F_X7_empty F_X4_empty
      rw [u_row (by decide), u_row (by decide), u_row (by decide), u_row (by decide)]
      refine ⟨ax_u_self, ?_⟩
      rw [u_off (by decide), b1 13 (by omega)]
      unfold F_X8_empty
      rw [u_row (by decide)]
    have w115 : X9p mF 115 4 = 0 := by
      unfold X9p F_X3_drop F_X0_empty F_X7_empty
      rw [u_row (by decide), u_row (by decide), u_row (by decide), ax_u_self]
    have w120 : X9p mF 120 2 = 0 := by
      unfold X9p F_X3_drop F_X0_empty
      rw [u_row (by decide), u_row (by decide), ax_u_self]
    have w124 : X9p mF 124 2 = 0 := by
      unfold X9p F_X3_drop
      rw [u_row (by decide), ax_u_self]
    have w130 : X9p mF 130 2 = 0 := by
      unfold X9p F_X3_drop
      rw [ax_u_self]
    have E : ∀ b, b ≠ 1 → F_X8_empty mF b = mF b := fun b hb => u_row hb
    have w34 : X9p mF 3 4 = mF 8 4 := by rw [W 3 (by decide) (by decide) (by decide) (by decide) (by decide), b2, E 8 (by decide)]
    have w35 : X9p mF 3 5 = mF 8 5 := by rw [W 3 (by decide) (by decide) (by decide) (by decide) (by decide), b3, E 8 (by decide)]
    have w4 : ∀ k, k < 8 → X9p mF 4 k = mF 9 k ∧ X9p mF 5 k = mF 10 k ∧ X9p mF 6 k = mF 11 k := fun k hk => by
      rw [W 4 (by decide) (by decide) (by decide) (by decide) (by decide), W 5 (by decide) (by decide) (by decide) (by decide) (by decide), W 6 (by decide) (by decide) (by decide) (by decide) (by decide)]
      have := b4 k hk
      rw [E (8 + 1) (by decide), E (8 + 2) (by decide), E (8 + 3) (by decide)] at this
      exact this
    have w7 : ∀ k, k < 64 → X9p mF 7 k = mF 12 k := fun k hk => by
      rw [W 7 (by decide) (by decide) (by decide) (by decide) (by decide)]
      have := b5 k hk
      rw [E (8 + 4) (by decide)] at this
      exact this
    have w1 : X9p mF 1 1 = 0 ∧ X9p mF 1 2 = mF 1 2 := by
      rw [W 1 (by decide) (by decide) (by decide) (by decide) (by decide), b1 1 (by omega)]
      unfold F_X8_empty
      exact ⟨ax_u_self, u_off (by decide)⟩
    have wr : ∀ b, (b ≠ 1 ∧ (b < 3 ∨ 12 < b) ∧ b ≠ 13 ∧ b ≠ 115 ∧ b ≠ 120 ∧ b ≠ 124 ∧ b ≠ 130) → X9p mF b = m b := fun b g => by
      rw [W b (by omega) (by omega) (by omega) (by omega) (by omega), b1 b (by omega), E b (by omega), f9.1 b (by omega) (by omega)]
    have w131 : mF 13 1 = m 13 1 := by rw [f9.1 13 (by decide) (by decide)]
    have hm : ∀ b, 136 ≤ b → X9p mF b = m b := fun b hb => wr b (by omega)
    generalize X9p mF = m1 at s9 W w13 w115 w120 w124 w130 w34 w35 w4 w7 w1 wr hm
    have s10 := s_X10_place (G := G) (l := l) m1 (pre m1 hm)
    obtain ⟨p1, p2⟩ := place10 m1
    obtain ⟨-, g2, g3⟩ := go m1 hm
    rcases g3 with ⟨k1, c, q, k2⟩ | ⟨F, k1, k2, k3, k4, -⟩
    · rw [k1, if_pos (by decide)] at p1 p2
      generalize (ax_wx f_X10_place_38 301 (0, S10 m1)).2 = mr at p1 p2 g2 k2
      obtain ⟨t9, t10, z3, z2, z6, hc, c9, c10, y5, hk, hm'⟩ := k2
      obtain ⟨v1, v2, v3, v4, v5, v6⟩ := tread (m := ax_u mr 136 5 0) hc ((u_off (by decide)).trans c10)
      rw [u_row (show 140 ≠ 136 by decide), u_row (show 141 ≠ 136 by decide)] at v4
      rw [u_row (show 142 ≠ 136 by decide), u_row (show 140 ≠ 136 by decide)] at v5
      have Z : ∀ b, b ≠ 136 → b ≠ 137 → b ≠ 138 → b ≠ 152 → X10p mr b = mr b := fun b g1 g2 g3 g4 => by
        unfold X10p
        rw [u_row g4, u_row g4, u_row g1, u_row g1, u_row g1, v1 b g1 g2 g3, u_row g1]
      have Z7 : ∀ b, (b = 137 ∨ b = 138) → X10p mr b = F_X10_takeRead (ax_u mr 136 5 0) b := fun b g => by
        unfold X10p
        rw [u_row (by omega), u_row (by omega), u_row (by omega), u_row (by omega), u_row (by omega)]
      have Z6 : ∀ k, k ≠ 0 → k ≠ 5 → k ≠ 14 → k ≠ 17 → k ≠ 22 → X10p mr 136 k = mr 136 k := fun k a1 a2 a3 a4 a5 => by
        unfold X10p
        rw [u_row (by decide), u_row (by decide), u_off a3, u_off a5, u_off a4, v2 k a1, u_off a2]
      have Z0 : X10p mr 136 0 = nI c := by
        unfold X10p
        rw [u_row (by decide), u_row (by decide), u_off (by decide), u_off (by decide), u_off (by decide), v3]
      have Z5 : X10p mr 136 5 = nI 0 := by
        unfold X10p
        rw [u_row (by decide), u_row (by decide), u_off (by decide), u_off (by decide), u_off (by decide), v2 5 (by decide), ax_u_self]
        rfl
      have Z14 : X10p mr 136 14 = nI 0 := by
        unfold X10p
        rw [u_row (by decide), u_row (by decide), ax_u_self]
        rfl
      have Z17 : X10p mr 136 17 = nI 0 := by
        unfold X10p
        rw [u_row (by decide), u_row (by decide), u_off (by decide), u_off (by decide), ax_u_self]
        rfl
      have Z22 : X10p mr 136 22 = nI 0 := by
        unfold X10p
        rw [u_row (by decide), u_row (by decide), u_off (by decide), ax_u_self]
        rfl
      have Z152 : X10p mr 152 0 = 0 ∧ X10p mr 152 1 = 0 := by
        unfold X10p
        exact ⟨by rw [u_off (by decide), ax_u_self], ax_u_self⟩
      rw [p1, p2, Z0] at s10
      rw [w34, c9] at s9
      generalize X10p mr = m2 at s10 Z Z7 Z6 Z0 Z5 Z14 Z17 Z22 Z152
      have Q : ∀ b, b < 136 → m2 b = m1 b := fun b hb => (Z b (by omega) (by omega) (by omega) (by omega)).trans (g2.1 b (by omega) (by omega) (by omega) (by omega))
      have e138 := Z7 138 (by omega)
      have e137 := Z7 137 (by omega)
      have n1 : ∀ k, k < c → m2 138 k = mr 140 k ∧ m2 138 (8 + k) = nI k ∧ m2 137 k = mr 141 k := fun k hk' => by
        rw [e138, e137]
        have a := v4 k (by omega)
        rw [if_pos hk', if_pos hk', if_pos hk'] at a
        exact a
      have n2 : ∀ k, c ≤ k → k < 8 → m2 138 k = 0 ∧ m2 138 (8 + k) = 0 ∧ m2 137 k = 0 := fun k h1 h2 => by
        rw [e138, e137]
        have a := v4 k h2
        rw [if_neg (by omega), if_neg (by omega), if_neg (by omega)] at a
        exact a
      have n3 : ∀ i j, i < 8 → j < 8 → (m2 138 (16 + 8 * i + j) = -1 ∧ mF 12 (8 * i + j) = -1) ∨ (m2 138 (16 + 8 * i + j) = mr 140 j ∧ mF 12 (8 * i + j) = mr 140 j ∧ i < c ∧ j < c ∧ i ≠ j) := fun i j hi hj => by
        rw [e138, v5 i j hi hj]
        rcases hm' i j hi hj with ⟨o1, o2⟩ | ⟨o1, o2, o3, o4, o5⟩
        · rw [if_pos o1]
          exact Or.inl ⟨rfl, o2⟩
        · rw [if_neg (by rw [o1]; decide), if_pos o3]
          exact Or.inr ⟨rfl, o5, o2, o3, o4⟩
      refine ⟨_, _, _, _, _, by omega, by omega, s9, s10, c, ⟨hc, Z0, fun k hk' => ?_, ?_, ?_, fun k hk' => ?_, fun i j hi hj hij => ?_, fun k hk' => ?_, fun k hk' => ?_, fun k hk' => ?_, fun i j hi hj => ?_, ?_⟩, ⟨0, q0, by omega, x2, Z14, ?_, ?_, fun j hj => absurd hj (by omega)⟩, ⟨?_, Or.inl Z152.1⟩, ⟨?_, Or.inl Z152.2⟩, ⟨0, by omega, Z17, ?_, fun k hk' => absurd hk' (by omega)⟩, ⟨0, by omega, Z22, ?_, fun k hk' => absurd hk' (by omega)⟩, hD.congr ?_ ?_, ⟨0, by omega, Z5, ?_, ?_, fun k hk' => absurd hk' (by omega)⟩⟩
      · by_cases d : k < c
        · rw [(n1 k d).2.2]
          exact (hk k d).2.2.2.1
        · rw [(n2 k (by omega) hk').2.2]
          exact vp0 (by omega)
      · rw [Q 3 (by omega), w34, c9]
      · rw [Q 3 (by omega), w35, y5, e138, v6]
      · show m2 4 k = _ ∧ m2 5 k = m2 137 k ∧ m2 6 k = _
        obtain ⟨a1, a2, a3⟩ := w4 k (by omega)
        obtain ⟨r1, r2, r3, r4, r5⟩ := hk k hk'
        rw [Q 4 (by omega), Q 5 (by omega), Q 6 (by omega), a1, a2, a3, (n1 k hk').1, (n1 k hk').2.1, (n1 k hk').2.2, r1, r3, r5]
        exact ⟨rfl, rfl, rfl⟩
      · show m2 7 (8 * i + j) = _
        rw [Q 7 (by omega), w7 _ (by omega)]
        rcases n3 i j (by omega) (by omega) with ⟨o1, o2⟩ | ⟨o1, o2, -⟩
        · rw [o1, o2]
        · rw [o1, o2]
      · by_cases d : k < c
        · rw [(n1 k d).1]
          exact (hk k d).2.1
        · rw [(n2 k (by omega) hk').1]
          exact vp0 (by omega)
      · rw [(n1 k hk').2.1]
        exact vp_in_nI hk' (by omega)
      · by_cases d : k < c
        · rw [(n1 k d).2.1]
          exact vp_in_nI (by omega) (by omega)
        · rw [(n2 k (by omega) hk').2.1]
          exact vp0 (by omega)
      · rcases n3 i j (by omega) (by omega) with ⟨o1, o2⟩ | ⟨o1, o2, o3, o4, o5⟩
        · exact Or.inl o1
        · rw [o1]
          exact Or.inr ⟨(hk j o4).2.1, o3, o4, o5⟩
      · rw [e138, v6]
        exact vp0 (by omega)
      · rw [Q 13 (by omega)]
        exact w13.1
      · rw [Q 13 (by omega), w13.2, w131]
        exact x5
      · rw [Q 124 (by omega), w124, Z152.1]
      · rw [Q 130 (by omega), w130, Z152.2]
      · rw [Q 115 (by omega)]
        exact w115
      · rw [Q 120 (by omega)]
        exact w120
      · rw [Q 123 (by omega), wr 123 (by omega)]
      · rw [Z6 3 (by decide) (by decide) (by decide) (by decide) (by decide), g2.2 3 (by decide), hm 136 (by omega)]
      · rw [Q 1 (by omega)]
        exact w1.1
      · rw [Q 1 (by omega), w1.2, z2, Z6 6 (by decide) (by decide) (by decide) (by decide) (by decide), z6]
    · rw [cf] at k4
      exact absurd k4.symm (nI_ne0 (by omega) (by omega))
  · rw [if_neg cf] at e9
    rw [e9] at s9
    dsimp only at s9
    have hm : ∀ b, 136 ≤ b → ax_u mF 1 1 0 b = m b := fun b hb => by rw [u_row (by omega), f9.1 b (by omega) (by omega)]
    have s10 := s_X10_place (G := G) (l := l) (ax_u mF 1 1 0) (pre _ hm)
    obtain ⟨p1, p2⟩ := place10 (ax_u mF 1 1 0)
    obtain ⟨-, g2, g3⟩ := go _ hm
    rcases g3 with ⟨k1, c, q, k2⟩ | ⟨F, k1, k2, k3, k4, k5⟩
    · exact absurd k2.2.2.1 cf
    · have np : ¬ nI F ≤ 0 := nI_nle (by omega) (by omega)
      rw [k3, if_neg np] at p1 p2
      generalize (ax_wx f_X10_place_38 301 (0, S10 (ax_u mF 1 1 0))).2 = mr at p1 p2 g2 k5
      rw [p1, p2] at s10
      rw [k4] at s9
      refine ⟨_, _, _, _, _, by omega, by omega, s9, s10, n, h.scrT (fun b g => ?_) (fun k g => ?_) ⟨0, by omega, ax_u_self, ?_, ?_, fun k hk => absurd hk (by omega)⟩⟩
      · rw [u_row (by omega), g2.1 b (by omega) (by omega) (by omega) (by omega), u_row (by omega), f9.1 b (by omega) (by omega)]
      · rw [u_off (by omega), g2.2 k (by omega), u_row (by decide), f9.1 136 (by decide) (by decide)]
      · rw [u_row (by decide), g2.1 1 (by decide) (by decide) (by decide) (by decide), ax_u_self]
        rfl
      · rw [u_row (by decide), g2.1 1 (by decide) (by decide) (by decide) (by decide), u_off (by decide), u_off (by decide), k5]
