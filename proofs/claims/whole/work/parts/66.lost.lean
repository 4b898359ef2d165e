/-! ===== loops in loops; lost ===== -/
theorem ax_lp_app {α β : Type} {f : Nat → α → β ⊕ α} : ∀ (a b j : Nat) (s : α), ax_lp f (a + b) j s = (match ax_lp f a j s with | .inl x => .inl x | .inr s' => ax_lp f b (j + a) s')
  | 0, b, j, s => by
    rw [Nat.zero_add]
    rfl
  | a + 1, b, j, s => by
    rw [show a + 1 + b = (a + b) + 1 by omega, ax_lp, ax_lp]
    cases f j s with
    | inl x => rfl
    | inr s' =>
      dsimp only
      rw [ax_lp_app a b (j + 1) s', show j + 1 + a = j + (a + 1) by omega]
theorem ax_lp_skip {α β : Type} {f : Nat → α → β ⊕ α} : ∀ (b j : Nat) (s : α), (∀ k s, j ≤ k → k < j + b → f k s = .inr s) → ax_lp f b j s = .inr s
  | 0, _, _, _ => rfl
  | b + 1, j, s, h => by
    rw [ax_lp, h j s (Nat.le_refl _) (by omega)]
    exact ax_lp_skip b (j + 1) s (fun k s h1 h2 => h k s (by omega) (by omega))
theorem ax_lp_ext {α β : Type} {f : Nat → α → β ⊕ α} {n N : Nat} (hn : n ≤ N) (s : α) (h : ∀ k s, n ≤ k → k < N → f k s = .inr s) : ax_lp f N 0 s = ax_lp f n 0 s := by
  have e := ax_lp_app (f := f) n (N - n) 0 s
  rw [show n + (N - n) = N by omega] at e
  rw [e]
  cases ax_lp f n 0 s with
  | inl x => rfl
  | inr s' =>
    dsimp only
    exact ax_lp_skip _ _ _ (fun k s h1 h2 => h k s (by omega) (by omega))
theorem ax_lp_sh {α β : Type} {F : Nat → α → β ⊕ α} (c : Nat) : ∀ (N j : Nat) (s : α), ax_lp (fun k s => F (c + k) s) N j s = ax_lp F N (c + j) s
  | 0, _, _ => rfl
  | N + 1, j, s => by
    rw [ax_lp, ax_lp]
    cases F (c + j) s with
    | inl x => rfl
    | inr s' => exact ax_lp_sh c N (j + 1) s'
theorem ax_lp_nest {α β : Type} {F : Nat → α → β ⊕ α} : ∀ (N i : Nat) (s : α), ax_lp (fun i s => ax_lp (fun j s => F (8 * i + j) s) 8 0 s) N i s = ax_lp F (8 * N) (8 * i) s
  | 0, _, _ => rfl
  | N + 1, i, s => by
    rw [ax_lp, show 8 * (N + 1) = 8 + 8 * N by omega, ax_lp_app, ax_lp_sh, Nat.add_zero]
    cases ax_lp F 8 (8 * i) s with
    | inl x => rfl
    | inr s' =>
      dsimp only
      rw [ax_lp_nest N (i + 1) s', show 8 * (i + 1) = 8 * i + 8 by omega]
theorem apart_comm {m : ax_Me} {x y : Int32} : F_X10_apart m x y = F_X10_apart m y x := by
  unfold F_X10_apart
  rw [Int32.xor_comm]
theorem div8 {i j : Nat} (hi : i < 8) (hj : j < 8) : nI (8 * i + j) / 8 = nI i := by
  rw [show (8 : Int32) = nI 8 from rfl, pk_div (by omega) (by omega) (by omega)]
  congr 1
  omega
theorem rem8 {i j : Nat} (hi : i < 8) (hj : j < 8) : nI (8 * i + j) - nI (8 * i + j) / 8 * 8 = nI j := by
  rw [show (8 : Int32) = nI 8 from rfl, pk_rem (by omega) (by omega) (by omega)]
  congr 1
  omega
theorem ix16 {k : Nat} (hk : k < 64) : (16 + nI k).toNatClampNeg = 16 + k := by
  rw [show (16 : Int32) + nI k = nI (16 + k) from nI_add 16 k, nI_clamp (by omega)]
section LOST
variable {n : Nat} {m : ax_Me}
theorem lost_f {i j : Nat} (hi : i < 8) (hj : j < 8) (p0 s : Int32) : f_X10_lost_4 m p0 (8 * i + j) s = if m 138 (16 + 8 * i + j) < 0 then .inr s else if F_X10_apart m (m 138 (16 + 8 * i + j)) (m 138 j) < 3 then .inr s else if s = p0 then .inl (10 * nI i + nI j) else .inr (s + 1) := by
  simp only [f_X10_lost_4]
  rw [rem8 hi hj, div8 hi hj, ix16 (by omega), nI_clamp (show j < 2 ^ 31 by omega), show 16 + (8 * i + j) = 16 + 8 * i + j by omega]
theorem lost_in (h : iN n m) {i : Nat} (hi : i < n) (p0 s : Int32) : f_X5_fadedPair_4 m 3 p0 i s = ax_lp (fun j s => f_X10_lost_4 m p0 (8 * i + j) s) 8 0 s := by
  obtain ⟨hn, hc, -, hp⟩ := id h
  have e : f_X5_fadedPair_4 m 3 p0 i s = ax_lp (f_X5_fadedPair_15 m 3 p0 (nI i)) n 0 s := by
    unfold f_X5_fadedPair_4
    rw [hp.1, nI_clamp (by omega)]
    dsimp only
    cases ax_lp (f_X5_fadedPair_15 m 3 p0 (nI i)) n 0 s <;> rfl
  rw [e, ax_lp_ext (n := n) (N := 8) hn]
  · refine ax_lp_congr _ _ _ (fun j s _ hj => ?_)
    rw [lost_f (by omega) (by omega)]
    simp only [f_X5_fadedPair_15]
    by_cases q : m 138 (16 + 8 * i + j) < 0
    · obtain ⟨k1, k2⟩ := kn0 h hi (show j < n by omega) q
      have ef : F_X5_isFaded m 3 (nI i) (nI j) = 0 := by
        unfold F_X5_isFaded
        rw [if_pos k1]
      rw [if_pos ef, if_pos q]
    · obtain ⟨k1, k2, k3, k4, k5⟩ := kn1 h hi (show j < n by omega) q
      have ef : F_X5_isFaded m 3 (nI i) (nI j) = if F_X10_apart m (m 138 (16 + 8 * i + j)) (m 138 j) < 3 then 0 else 1 := by
        unfold F_X5_isFaded
        rw [k1, if_neg (show ¬ (1 : Int32) = 0 by decide), k3, marks_v hn hp (show j < n by omega), apart_eq k5 (hp.2.2.2.2.1 j (by omega)), apart_comm]
      rw [if_neg q]
      by_cases c : F_X10_apart m (m 138 (16 + 8 * i + j)) (m 138 j) < 3
      · rw [if_pos c] at ef
        rw [if_pos ef, if_pos c]
      · rw [if_neg c] at ef
        rw [if_neg (by rw [ef]; decide), if_neg c]
  · intro j s h1 h2
    rw [lost_f (by omega) (by omega), if_pos]
    rcases hp.2.2.2.2.2.2.2.1 i j (by omega) (by omega) with q | q
    · rw [q]
      decide
    · exact absurd q.2.2.1 (by omega)
theorem lost_eq (h : iN n m) (p0 : Int32) : F_X9_lost m p0 = F_X10_lost m p0 := by
  obtain ⟨hn, hc, -, hp⟩ := id h
  unfold F_X9_lost F_X5_fadedPair F_X10_lost
  rw [hp.1, nI_clamp (by omega), show (64 : Int32).toNatClampNeg = 64 from rfl]
  have e : ax_lp (f_X5_fadedPair_4 m 3 p0) n 0 0 = ax_lp (f_X10_lost_4 m p0) 64 0 0 := by
    have e1 := ax_lp_nest (F := f_X10_lost_4 m p0) 8 0 0
    rw [show 8 * 8 = 64 from rfl, show 8 * 0 = 0 from rfl] at e1
    rw [← e1, ax_lp_ext (n := n) (N := 8) hn]
    · exact ax_lp_congr _ _ _ (fun i s _ hi => lost_in h (by omega) p0 s)
    · intro i s h1 h2
      refine ax_lp_skip _ _ _ (fun j s h3 h4 => ?_)
      rw [lost_f (by omega) (by omega), if_pos]
      rcases hp.2.2.2.2.2.2.2.1 i j (by omega) (by omega) with q | q
      · rw [q]
        decide
      · exact absurd q.2.1 (by omega)
  rw [e]
  cases ax_lp (f_X10_lost_4 m p0) 64 0 0 <;> rfl
end LOST
theorem st_lost {G : ax_G} {l : Launch} (p0 : Int32) : ST G l INV mX9_lost mX10_lost [.int p0] :=
  st_q (d9 := 6) (d10 := 2) (by omega) (by omega) (fun m => F_X9_lost m p0) (fun m => F_X10_lost m p0) (fun m _ => s_X9_lost m p0) (fun m _ => s_X10_lost m p0) (fun m ⟨n, h⟩ => lost_eq h.1 p0)
