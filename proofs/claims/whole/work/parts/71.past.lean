/-! ===== what is kept to be undone ===== -/
theorem gd.cg {n : Nat} {v v' : Nat → Int32} (hn : n ≤ 8) (hv : ∀ k, k < 81 → v' k = v k) (h : gd n v) : gd n v' := by
  obtain ⟨g1, g2, g3, g4, g5⟩ := h
  refine ⟨fun k hk => ?_, fun k hk => ?_, fun k hk => ?_, fun i j hi hj => ?_, ?_⟩
  · rw [hv k (by omega)]
    exact g1 k hk
  · rw [hv (8 + k) (by omega)]
    exact g2 k hk
  · rw [hv (8 + k) (by omega)]
    exact g3 k hk
  · rw [hv (16 + 8 * i + j) (by omega)]
    exact g4 i j hi hj
  · rw [hv 80 (by omega)]
    exact g5
theorem pl.cg {n : Nat} {m m' : ax_Me} {a a' : Nat} {v v' : Nat → Int32} (hn : n ≤ 8) (h4 : m' a' 4 = m a 4) (h5 : m' a' 5 = m a 5) (h1 : ∀ k, k < 8 → m' (a' + 1) k = m (a + 1) k ∧ m' (a' + 2) k = m (a + 2) k ∧ m' (a' + 3) k = m (a + 3) k) (h6 : ∀ k, k < 64 → m' (a' + 4) k = m (a + 4) k) (hc : m' 137 = m 137) (hv : ∀ k, k < 81 → v' k = v k) (h : pl n m a v) : pl n m' a' v' := by
  obtain ⟨p1, p2, p3, p4, p5⟩ := h
  refine ⟨h4.trans p1, ?_, fun k hk => ?_, fun i j hi hj hij => ?_, p5.cg hn hv⟩
  · rw [h5, p2, hv 80 (by omega)]
  · obtain ⟨a1, a2, a3⟩ := h1 k (by omega)
    obtain ⟨b1, b2, b3⟩ := p3 k hk
    rw [a1, a2, a3, b1, b2, b3, hc, hv k (by omega), hv (8 + k) (by omega)]
    exact ⟨rfl, rfl, rfl⟩
  · rw [h6 (8 * i + j) (by omega), p4 i j hi hj hij, hv (16 + 8 * i + j) (by omega)]
section PUSH
variable {m : ax_Me} {q c : Nat}
theorem push_all (hq : q < 20) (hc : c ≤ 20) (e1 : m 13 1 = nI q) (e2 : m 13 2 = nI c) : (∀ b, b ≠ 13 → (b < 15 + 5 * q ∨ 15 + 5 * q + 4 < b) → F_X4_push m 3 b = m b) ∧ F_X4_push m 3 13 1 = nI ((q + 1) % 20) ∧ F_X4_push m 3 13 2 = nI (min (c + 1) 20) ∧ (∀ b, b ≠ 13 → F_X4_push m 3 b = F_X5_become m (15 + 5 * q) 3 b) := by
  obtain ⟨b1, -⟩ := become_all m (a := 15 + 5 * q) (b := 3) (by omega)
  have g1 : F_X5_become m (15 + 5 * q) 3 13 1 = nI q := by
    rw [b1 13 (by omega)]
    exact e1
  have g2 : F_X5_become m (15 + 5 * q) 3 13 2 = nI c := by
    rw [b1 13 (by omega)]
    exact e2
  unfold F_X4_push
  rw [e1, nI_clamp (show q < 2 ^ 31 by omega), g1, nI_1, show (20 : Int32) = nI 20 from rfl, pk_rem (by omega) (by omega) (by omega), u_off (show 2 ≠ 1 by decide), g2, nI_1]
  refine ⟨fun b hb hb' => ?_, ?_, ?_, fun b hb => ?_⟩
  · rw [u_row hb, u_row hb]
    exact b1 b hb'
  · rw [u_off (by decide), ax_u_self]
  · rw [ax_u_self]
    by_cases d : c = 20
    · subst d
      rfl
    · rw [if_neg (nI_nlt (by omega) (by omega)), Nat.min_eq_left (by omega)]
  · rw [u_row hb, u_row hb]
theorem rem52 (hc : c < 20) (e : m 136 14 = nI c) (m0 : ax_Me) : (∀ b, b ≠ 143 → ax_it (f_X10_remember_52 m0) 81 0 m b = m b) ∧ (∀ k, k < 81 → ax_it (f_X10_remember_52 m0) 81 0 m 143 (81 * c + k) = m 138 k) ∧ (∀ t, t < 81 * c → ax_it (f_X10_remember_52 m0) 81 0 m 143 t = m 143 t) := by
  have key := ax_it_ind (f := f_X10_remember_52 m0) (fun i (s : ax_Me) => (∀ b, b ≠ 143 → s b = m b) ∧ (∀ k, k < i → s 143 (81 * c + k) = m 138 k) ∧ (∀ t, t < 81 * c → s 143 t = m 143 t)) 81 0 m ⟨fun _ _ => rfl, fun k hk => absurd hk (by omega), fun _ _ => rfl⟩ (fun i s _ hi hs => by
    obtain ⟨h1, h2, h3⟩ := hs
    simp only [f_X10_remember_52]
    rw [h1 136 (by decide), e, show (81 : Int32) = nI 81 from rfl, pk_mul, nI_add, nI_clamp (by omega), nI_clamp (by omega), h1 138 (by decide)]
    refine ⟨fun b hb => (u_row hb).trans (h1 b hb), fun k hk => ?_, fun t ht => (u_off (by omega)).trans (h3 t ht)⟩
    by_cases d : k = i
    · subst d
      exact ax_u_self
    · rw [u_off (by omega)]
      exact h2 k (by omega))
  rw [Nat.zero_add] at key
  exact key
theorem rem12 (m0 : ax_Me) : (∀ b, b ≠ 143 → ax_it (f_X10_remember_12 m0) 1539 81 m b = m b) ∧ (∀ t, t < 1539 → ax_it (f_X10_remember_12 m0) 1539 81 m 143 t = m 143 (t + 81)) := by
  have key := ax_it_ind (f := f_X10_remember_12 m0) (fun i (s : ax_Me) => (∀ b, b ≠ 143 → s b = m b) ∧ (∀ t, t + 81 < i → s 143 t = m 143 (t + 81)) ∧ (∀ t, i ≤ t + 81 → s 143 t = m 143 t)) 1539 81 m ⟨fun _ _ => rfl, fun k hk => absurd hk (by omega), fun _ _ => rfl⟩ (fun i s hi0 hi hs => by
    obtain ⟨h1, h2, h3⟩ := hs
    simp only [f_X10_remember_12]
    rw [show (81 : Int32) = nI 81 from rfl, pk_sub (by omega), nI_clamp (by omega), nI_clamp (by omega), h3 i (by omega)]
    refine ⟨fun b hb => (u_row hb).trans (h1 b hb), fun t ht => ?_, fun t ht => (u_off (by omega)).trans (h3 t (by omega))⟩
    by_cases d : t = i - 81
    · subst d
      rw [ax_u_self]
      congr 1
      omega
    · rw [u_off d]
      exact h2 t (by omega))
  exact ⟨key.1, fun t ht => key.2.1 t (by omega)⟩
theorem rem_all (hc : c ≤ 20) (e : m 136 14 = nI c) : (∀ b, b ≠ 136 → b ≠ 143 → F_X10_remember m b = m b) ∧ (∀ k, k ≠ 14 → F_X10_remember m 136 k = m 136 k) ∧ F_X10_remember m 136 14 = nI (min (c + 1) 20) ∧ (∀ k, k < 81 → F_X10_remember m 143 (81 * (min (c + 1) 20 - 1) + k) = m 138 k) ∧ (∀ j k, j < min (c + 1) 20 - 1 → k < 81 → F_X10_remember m 143 (81 * j + k) = m 143 (81 * (j + (c + 1 - min (c + 1) 20)) + k)) := by
  unfold F_X10_remember
  rw [show (81 : Int32).toNatClampNeg = 81 from rfl, show (1620 : Int32).toNatClampNeg - 81 = 1539 from rfl]
  by_cases d : c = 20
  · subst d
    rw [if_pos (show m 136 14 = (20 : Int32) from e)]
    obtain ⟨s1, s2⟩ := rem12 (m := m) m
    generalize ax_it (f_X10_remember_12 m) 1539 81 m = ma at s1 s2
    have e1 : ma 136 14 = nI 20 := by
      rw [s1 136 (by decide)]
      exact e
    rw [e1, show nI 20 - 1 = nI 19 from nI_pred 19]
    obtain ⟨t1, t2, t3⟩ := rem52 (m := ax_u ma 136 14 (nI 19)) (c := 19) (by omega) ax_u_self (ax_u ma 136 14 (nI 19))
    generalize ax_it (f_X10_remember_52 (ax_u ma 136 14 (nI 19))) 81 0 (ax_u ma 136 14 (nI 19)) = mb at t1 t2 t3
    rw [show min (20 + 1) 20 = 20 from rfl]
    refine ⟨fun b h1 h2 => ?_, fun k hk => ?_, ?_, fun k hk => ?_, fun j k hj hk => ?_⟩
    · rw [u_row h1, t1 b h2, u_row h1, s1 b h2]
    · rw [u_off hk, t1 136 (by decide), u_off hk, s1 136 (by decide)]
    · rw [ax_u_self, t1 136 (by decide), ax_u_self]
      rfl
    · rw [u_row (by decide), t2 k hk, u_row (by decide), s1 138 (by decide)]
    · rw [u_row (by decide), t3 (81 * j + k) (by omega), u_row (by decide), s2 (81 * j + k) (by omega)]
      congr 1
      omega
  · rw [if_neg (show ¬ m 136 14 = (20 : Int32) from fun g => d ((nI_eq (b := 20) (by omega) (by decide)).mp (e.symm.trans g)))]
    obtain ⟨t1, t2, t3⟩ := rem52 (m := m) (c := c) (by omega) e m
    generalize ax_it (f_X10_remember_52 m) 81 0 m = mb at t1 t2 t3
    rw [show min (c + 1) 20 = c + 1 from Nat.min_eq_left (by omega)]
    refine ⟨fun b h1 h2 => ?_, fun k hk => ?_, ?_, fun k hk => ?_, fun j k hj hk => ?_⟩
    · rw [u_row h1, t1 b h2]
    · rw [u_off hk, t1 136 (by decide)]
    · rw [ax_u_self, t1 136 (by decide), e, nI_1]
    · rw [u_row (by decide), show c + 1 - 1 = c from rfl, t2 k hk]
    · rw [u_row (by decide), t3 (81 * j + k) (by omega)]
      congr 1
      omega
end PUSH
/-- what is done, done by both: the state ahead of it is kept on both sides -/
theorem iA.done {n : Nat} {m m1 m2 : ax_Me} (h : iA n m)
    (p1 : ∀ b, b < 136 → ¬ (3 ≤ b ∧ b ≤ 7) → b ≠ 123 → m1 b = F_X4_push m 3 b) (p2 : ∀ b, 136 ≤ b → m1 b = m b)
    (q1 : ∀ b, b ≠ 136 → b ≠ 138 → b ≠ 143 → m2 b = m1 b) (q2 : ∀ k, k ≠ 14 → k ≠ 3 → m2 136 k = m1 136 k)
    (q3 : m2 143 = F_X10_remember m1 143) (q4 : m2 136 14 = F_X10_remember m1 136 14) (hp : pl n m2 3 (m2 138)) (hD : iD m2) : iA n m2 := by
  obtain ⟨⟨hn, hc, hch, hpl⟩, ⟨c, q, c1, c2, c3, c4, c5, c6⟩, h1, h2, hS, hB, -, hT⟩ := h
  obtain ⟨u1, u2, u3, u4⟩ := push_all (m := m) c2 c1 c5 c4
  obtain ⟨b1, b2, b3, b4, b5⟩ := become_all m (a := 15 + 5 * q) (b := 3) (by omega)
  obtain ⟨-, -, r3, r4, r5⟩ := rem_all (m := m1) c1 ((congrFun (p2 136 (by omega)) 14).trans c3)
  have R : ∀ b, b ≠ 13 → (b < 15 ∨ 115 ≤ b) → ¬ (3 ≤ b ∧ b ≤ 7) → b ≠ 123 → b ≠ 136 → b ≠ 138 → b ≠ 143 → m2 b = m b := fun b g1 g2 g3 g4 g5 g6 g7 => by
    rw [q1 b g5 g6 g7]
    by_cases d : b < 136
    · rw [p1 b d g3 g4]
      exact u1 b g1 (by omega)
    · exact p2 b (by omega)
  have R' : ∀ b, (b ≠ 13 ∧ (b < 15 ∨ 115 ≤ b) ∧ ¬ (3 ≤ b ∧ b ≤ 7) ∧ b ≠ 123 ∧ b ≠ 136 ∧ b ≠ 138 ∧ b ≠ 143) → m2 b = m b := fun b g => R b g.1 g.2.1 g.2.2.1 g.2.2.2.1 g.2.2.2.2.1 g.2.2.2.2.2.1 g.2.2.2.2.2.2
  have O : ∀ k, (k ≠ 14 ∧ k ≠ 3) → m2 136 k = m 136 k := fun k g => (q2 k g.1 g.2).trans (by rw [p2 136 (by omega)])
  have w13 : m2 13 = F_X4_push m 3 13 := (q1 13 (by decide) (by decide) (by decide)).trans (p1 13 (by decide) (by decide) (by decide))
  have m137 : m2 137 = m 137 := R' _ (by decide)
  refine ⟨⟨hn, (O 0 (by decide)).trans hc, by rw [m137]; exact hch, hp⟩, ⟨min (c + 1) 20, (q + 1) % 20, by omega, by omega, q4.trans r3, by rw [w13]; exact u3, by rw [w13]; exact u2, fun j hj => ?_⟩, h1.congr (R' _ (by decide)) (R' _ (by decide)) (R' _ (by decide)) (R' _ (by decide)) (R' _ (by decide)) (R' _ (by decide)) (R' _ (by decide)) (congrFun (R' _ (by decide)) _) m137, h2.congr (R' _ (by decide)) (R' _ (by decide)) (R' _ (by decide)) (R' _ (by decide)) (R' _ (by decide)) (R' _ (by decide)) (R' _ (by decide)) (congrFun (R' _ (by decide)) _) m137, hS.congr (fun k _ _ => R' k (by omega)) (fun k _ _ => R' k (by omega)) (O _ (by decide)) (congrFun (R' _ (by decide)) _), hB.congr (R' _ (by decide)) (R' _ (by decide)) (R' _ (by decide)) (R' _ (by decide)) (O _ (by decide)) (congrFun (R' _ (by decide)) _), hD, hT.congr (R' _ (by decide)) (R' _ (by decide)) (O _ (by decide)) (O _ (by decide)) (congrFun (R' _ (by decide)) _) (congrFun (R' _ (by decide)) _)⟩
  have W : ∀ b, 15 ≤ b → b < 115 → m2 b = F_X5_become m (15 + 5 * q) 3 b := fun b g1 g2 => by
    rw [q1 b (by omega) (by omega) (by omega), p1 b (by omega) (by omega) (by omega)]
    exact u4 b (by omega)
  by_cases d : j = min (c + 1) 20 - 1
  · have es : ((q + 1) % 20 + 20 - min (c + 1) 20 + j) % 20 = q := by omega
    rw [es]
    refine hpl.cg hn ?_ ?_ (fun k hk => ?_) (fun k hk => ?_) m137 (fun k hk => ?_)
    · rw [W _ (by omega) (by omega)]
      exact b2
    · rw [W _ (by omega) (by omega)]
      exact b3
    · rw [W _ (by omega) (by omega), W _ (by omega) (by omega), W _ (by omega) (by omega)]
      exact b4 k hk
    · rw [W _ (by omega) (by omega)]
      exact b5 k hk
    · rw [q3, d, r4 k hk, p2 138 (by omega)]
  · have es : ((q + 1) % 20 + 20 - min (c + 1) 20 + j) % 20 = (q + 20 - c + (j + (c + 1 - min (c + 1) 20))) % 20 := by omega
    have ne : (q + 20 - c + (j + (c + 1 - min (c + 1) 20))) % 20 ≠ q := by omega
    have old := c6 (j + (c + 1 - min (c + 1) 20)) (by omega)
    rw [es]
    have lt : (q + 20 - c + (j + (c + 1 - min (c + 1) 20))) % 20 < 20 := Nat.mod_lt _ (by omega)
    generalize (q + 20 - c + (j + (c + 1 - min (c + 1) 20))) % 20 = z at ne lt old
    have W2 : ∀ i, i < 5 → m2 (15 + 5 * z + i) = m (15 + 5 * z + i) := fun i hi => by
      rw [W _ (by omega) (by omega)]
      exact b1 _ (by omega)
    refine old.cg hn ?_ ?_ (fun k hk => ⟨?_, ?_, ?_⟩) (fun k hk => ?_) m137 (fun k hk => ?_)
    · exact congrFun (W2 0 (by omega)) 4
    · exact congrFun (W2 0 (by omega)) 5
    · rw [W2 1 (by omega)]
    · rw [W2 2 (by omega)]
    · rw [W2 3 (by omega)]
    · rw [W2 4 (by omega)]
    · rw [q3, r5 j k (by omega) hk, p2 143 (by omega)]
