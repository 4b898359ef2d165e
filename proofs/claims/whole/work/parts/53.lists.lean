/-! ===== the book, the sightings, the text ===== -/
theorem nI_toN {n : Nat} (h : n < 2 ^ 31) : (nI n).toNatClampNeg = n := nI_clamp h
theorem iv_mono {x : Int32} {n k : Nat} (h : vp_in x n) (hk : n ≤ k) : vp_in x k := fun q => h (q.imp id (fun c => Nat.le_trans hk c))
/-- the rest of the invariant behind writes that leave its cells alone -/
theorem iA.rest {n : Nat} {m m' : ax_Me} (h : iA n m) (hr : ∀ b, b ≠ 1 → b ≠ 2 → b ≠ 115 → b ≠ 116 → b ≠ 117 → b ≠ 118 → b ≠ 119 → b ≠ 120 → b ≠ 121 → b ≠ 122 → b ≠ 136 → b ≠ 139 → b ≠ 145 → b ≠ 146 → b ≠ 147 → b ≠ 148 → b ≠ 149 → b ≠ 150 → m' b = m b) (ho : ∀ j, j ≠ 5 → j ≠ 17 → j ≠ 22 → m' 136 j = m 136 j) (hS : iS n m') (hB : iB n m') (hT : iT m') : iA n m' := by
  obtain ⟨a, b, c, d, -, -, e, -⟩ := h
  refine ⟨a.congr (fun k _ _ => hr k (by omega) (by omega) (by omega) (by omega) (by omega) (by omega) (by omega) (by omega) (by omega) (by omega) (by omega) (by omega) (by omega) (by omega) (by omega) (by omega) (by omega) (by omega)) (ho _ (by decide) (by decide) (by decide)) ?_ ?_, b.congr (fun k _ _ => hr k (by omega) (by omega) (by omega) (by omega) (by omega) (by omega) (by omega) (by omega) (by omega) (by omega) (by omega) (by omega) (by omega) (by omega) (by omega) (by omega) (by omega) (by omega)) (ho _ (by decide) (by decide) (by decide)) ?_ ?_ ?_ ?_, c.congr ?_ ?_ ?_ ?_ ?_ ?_ ?_ ?_ ?_, d.congr ?_ ?_ ?_ ?_ ?_ ?_ ?_ ?_ ?_, hS, hB, e.congr ?_ (ho _ (by decide) (by decide) (by decide)), hT⟩
  all_goals first
    | exact hr _ (by decide) (by decide) (by decide) (by decide) (by decide) (by decide) (by decide) (by decide) (by decide) (by decide) (by decide) (by decide) (by decide) (by decide) (by decide) (by decide) (by decide) (by decide)
    | exact congrFun (hr _ (by decide) (by decide) (by decide) (by decide) (by decide) (by decide) (by decide) (by decide) (by decide) (by decide) (by decide) (by decide) (by decide) (by decide) (by decide) (by decide) (by decide) (by decide)) _
theorem st_tear {G : ax_G} {l : Launch} : ST G l INV mX9_tear mX10_tear [] := by
  intro m hI
  obtain ⟨n, h⟩ := id hI
  obtain ⟨hN, hP, h1, h2, hS, hB, hD, hT⟩ := id h
  obtain ⟨s, s1, s2, s3, -⟩ := hS
  obtain ⟨b, b1, b2, b3, -⟩ := hB
  refine ⟨(F_X9_tear m).1, 1, 0, _, (F_X10_tear (F_X9_tear m).2).2, by omega, by omega, s_X9_tear m, ?_, n, ?_⟩
  · have e : (F_X9_tear m).1 = (F_X10_tear (F_X9_tear m).2).1 := by
      show m 115 4 + m 120 2 = (ax_u (ax_u m 115 4 0) 120 2 0) 136 17 + (ax_u (ax_u m 115 4 0) 120 2 0) 136 22
      rw [u_row (by decide), u_row (by decide), s2, s3, b2, b3]
    rw [e]
    exact s_X10_tear _
  · have e : (F_X10_tear (F_X9_tear m).2).2 = ax_u (ax_u (ax_u (ax_u m 115 4 0) 120 2 0) 136 17 0) 136 22 0 := rfl
    rw [e]
    have r : ∀ b, b ≠ 115 → b ≠ 120 → b ≠ 136 → ax_u (ax_u (ax_u (ax_u m 115 4 0) 120 2 0) 136 17 0) 136 22 0 b = m b := fun b q1 q2 q3 => by rw [u_row q3, u_row q3, u_row q2, u_row q1]
    have o : ∀ j, j ≠ 17 → j ≠ 22 → ax_u (ax_u (ax_u (ax_u m 115 4 0) 120 2 0) 136 17 0) 136 22 0 136 j = m 136 j := fun j q1 q2 => by rw [u_off q2, u_off q1, u_row (by decide), u_row (by decide)]
    refine h.rest (fun b _ _ q _ _ _ _ q2 _ _ q3 _ _ _ _ _ _ _ => r b q q2 q3) (fun j _ q1 q2 => o j q1 q2) ⟨0, by omega, ?_, ?_, fun k hk => absurd hk (by omega)⟩ ⟨0, by omega, ?_, ?_, fun k hk => absurd hk (by omega)⟩ (hT.congr (r _ (by decide) (by decide) (by decide)) (r _ (by decide) (by decide) (by decide)) (o _ (by decide) (by decide)) (o _ (by decide) (by decide)) (congrFun (r _ (by decide) (by decide) (by decide)) _) (congrFun (r _ (by decide) (by decide) (by decide)) _))
    · rw [u_off (by decide), ax_u_self]
      rfl
    · rw [u_row (by decide), u_row (by decide), u_row (by decide), ax_u_self]
      rfl
    · rw [ax_u_self]
      rfl
    · rw [u_row (by decide), u_row (by decide), ax_u_self]
      rfl
theorem judge_eq {n : Nat} {m : ax_Me} (hN : iN n m) (hB : iB n m) : F_X9_judge m = F_X10_judge m := by
  obtain ⟨hn, hc, -, hp⟩ := hN
  obtain ⟨b, b1, b2, b3, b4⟩ := hB
  unfold F_X9_judge F_X0_firstWrong F_X10_judge
  rw [b2, b3, nI_clamp (by omega), Nat.min_eq_left b1]
  have e : ax_lp (f_X0_firstWrong_2 m 3) b 0 () = ax_lp (f_X10_judge_2 m) b 0 () := by
    refine ax_lp_congr _ _ _ (fun k s _ hk => ?_)
    cases s
    obtain ⟨⟨c1, c2⟩, c3⟩ := b4 k (by omega)
    simp only [f_X0_firstWrong_2, f_X10_judge_2]
    rw [nI_clamp (by omega), c1, c2]
    obtain ⟨i, hi, e⟩ := vp_in_of c3 (by omega)
    rw [e, ident_v hn hp hi, ix8 (by omega)]
  rw [e]
  cases ax_lp (f_X10_judge_2 m) b 0 () with
  | inl b => rfl
  | inr u => rfl
theorem st_judge {G : ax_G} {l : Launch} : ST G l INV mX9_judge mX10_judge [] :=
  st_q (d9 := 3) (d10 := 0) (by omega) (by omega) F_X9_judge F_X10_judge (fun m _ => s_X9_judge m) (fun m h => by
    obtain ⟨n, hN, -, -, -, -, ⟨b, b1, b2, b3, b4⟩, -⟩ := h
    refine s_X10_judge m ⟨?_, ?_⟩ (fun k hk => ?_)
    · rw [b2]
      exact nI_pos (by omega)
    · rw [b2]
      exact nI_le (b := 15) b1 (by decide)
    · rw [b2, nI_clamp (by omega)] at hk
      exact iv_mono (b4 k hk).2 hN.1) (fun m ⟨n, h⟩ => judge_eq h.1 h.2.2.2.2.2.1)
