/-! ===== sure, bestRow, ask, odds ===== -/
section KN
variable {n : Nat} {m : ax_Me} {i j : Nat}
theorem kn0 (h : iN n m) (hi : i < n) (hj : j < n) (q : m 138 (16 + 8 * i + j) < 0) : F_X5_knows m 3 (nI i) (nI j) = 0 ∧ F_X10_unknownTo m (nI i) (nI j) = -1000000003 := by
  obtain ⟨hn, hc, -, hp⟩ := h
  refine ⟨(knows_v hn hp hi hj).mpr q, ?_⟩
  unfold F_X10_unknownTo
  rw [rem_v (by omega) (by omega), if_neg (Int32.not_le.mpr q)]
theorem kn1 (h : iN n m) (hi : i < n) (hj : j < n) (q : ¬ m 138 (16 + 8 * i + j) < 0) : F_X5_knows m 3 (nI i) (nI j) = 1 ∧ F_X10_unknownTo m (nI i) (nI j) = 0 ∧ F_X5_memoryOf m 3 (nI i) (nI j) = m 138 (16 + 8 * i + j) ∧ F_X10_remembered m (nI i) (nI j) = m 138 (16 + 8 * i + j) ∧ vp_in (m 138 (16 + 8 * i + j)) 256 := by
  obtain ⟨hn, hc, -, hp⟩ := h
  refine ⟨?_, ?_, memory_v hn hp hi hj, rem_v (by omega) (by omega), ?_⟩
  · have := fun c => q ((knows_v hn hp hi hj).mp c)
    unfold F_X5_knows at this ⊢
    split
    · next c => rw [if_pos c] at this; exact absurd rfl this
    · rfl
  · unfold F_X10_unknownTo
    rw [rem_v (by omega) (by omega), if_pos (Int32.not_lt.mp q)]
  · rcases hp.2.2.2.2.2.2.2.1 i j (by omega) (by omega) with c | c
    · rw [c] at q
      exact absurd q (by decide)
    · exact c.1
end KN
section SURE
variable {n : Nat} {m : ax_Me}
/-- the class's lead of one with marks y, over the best of the others, is how surely the reference picks him -/
theorem lead_eq {m' : ax_Me} (h : iN n m) (h' : zM n m') {x y : Int32} (hx : vp_in x 256) {k j : Nat} (hk : k < 2 ^ n) (hj : j < n) (hb : k.testBit j = true) (h2 : 2 ≤ F_X10_bits m (nI k)) (hy : m' 138 j = y) (ho : ∀ q, q < n → q ≠ j → m' 138 q = m 138 q) :
    F_X2_lead m 3 x (nI j) y (F_X2_pick m 3 x (nI k &&& ((1 <<< (nI j &&& 31)) ^^^ (-1)))) = F_X10_sureBy m' x (nI j) (nI k) ∧ (F_X10_pickBy m' x (nI k) = nI j ↔ ¬ F_X2_lead m 3 x (nI j) y (F_X2_pick m 3 x (nI k &&& ((1 <<< (nI j &&& 31)) ^^^ (-1)))) < 1) := by
  obtain ⟨hn, hc, -, hp⟩ := id h
  have hk8 : k < 256 := Nat.lt_of_lt_of_le hk (pow_le8 hn).1
  rw [anot hk8 (by omega), pick_eq h hx]
  have e0 : F_X10_pickBy m x (nI (k &&& (255 ^^^ 2 ^ j))) = F_X10_pickBy m' x (nI (k &&& (255 ^^^ 2 ^ j))) := by
    rw [pick_def h.zM, pick_def h']
    refine congrArg Prod.fst (ax_it_congr _ _ _ (fun q s _ hq => ?_))
    obtain ⟨s0, s1⟩ := s
    simp only [f_X10_pickBy_9]
    rw [nI_clamp (show q < 2 ^ 31 by omega)]
    by_cases c : q = j
    · have d : F_X10_has m (nI (k &&& (255 ^^^ 2 ^ j))) (nI q) = 0 := Classical.byContradiction fun q' => (((has_tb (anot_lt hk8) (by omega)).trans (anot_tb (by omega))).mp q').2 c
      have d' : F_X10_has m' (nI (k &&& (255 ^^^ 2 ^ j))) (nI q) = 0 := d
      rw [if_pos d, if_pos d']
    · rw [ho q (by omega) c]
      rfl
  rw [e0]
  obtain ⟨t, t1, t2, t3, t4, t5⟩ := sure_char h' hx hk hj hb (by rw [bits_m m' m]; exact h2)
  rw [t3]
  have b1 := zA_rng h' hx hj
  have b2 := zA_rng h' hx t1
  have hyv : vp_in y 256 := by rw [← hy]; exact h'.2.2 j hj
  have a1 : F_X2_apart m x y = F_X10_apart m' (m' 138 j) x := by
    rw [hy]
    exact apart_eq hx hyv
  have a2 : F_X2_apartOf m 3 x (nI t) = F_X10_apart m' (m' 138 t) x := by
    rw [ho t t1 t2]
    exact apartOf_eq hn hp hx t1
  have a3 : ax_it (f_X10_sureBy_19 m' x (nI j) (nI k)) n 0 99 = F_X10_apart m' (m' 138 t) x := Int32.toInt_inj.mp t5
  unfold F_X2_lead F_X10_sureBy
  rw [a1, a2, h'.2.1, nI_clamp (show n < 2 ^ 31 by omega), a3, nI_clamp (show j < 2 ^ 31 by omega)]
  have l1 : (F_X10_apart m' (m' 138 j) x < F_X10_apart m' (m' 138 t) x) ↔ zA m' x j < zA m' x t := Int32.lt_iff_toInt_lt
  have l2 : (F_X10_apart m' (m' 138 j) x = F_X10_apart m' (m' 138 t) x) ↔ zA m' x j = zA m' x t := Int32.toInt_inj.symm
  have l3 : (nI t ≤ nI j) ↔ t ≤ j := nI_leI (by omega) (by omega)
  have v1 : zA m' x j ≤ zA m' x t → ¬ (1 + F_X10_apart m' (m' 138 t) x) - F_X10_apart m' (m' 138 j) x < 1 := by
    intro g q
    obtain ⟨A, hA, eA⟩ := nI_of2 (x := F_X10_apart m' (m' 138 j) x) (M := 8) (n := 8) rfl (apart_le (h'.2.2 j hj) hx).1 (apart_le (h'.2.2 j hj) hx).2
    obtain ⟨B, hB, eB⟩ := nI_of2 (x := F_X10_apart m' (m' 138 t) x) (M := 8) (n := 8) rfl (apart_le (h'.2.2 t t1) hx).1 (apart_le (h'.2.2 t t1) hx).2
    have g' : (F_X10_apart m' (m' 138 j) x).toInt ≤ (F_X10_apart m' (m' 138 t) x).toInt := g
    rw [eA, eB] at q g'
    rw [nI_toInt (by omega), nI_toInt (by omega)] at g'
    have : (1 + nI B) - nI A = nI (1 + B - A) := by
      rw [show (1 : Int32) + nI B = nI (1 + B) from nI_add 1 B, pk_sub (by omega)]
    rw [this] at q
    exact absurd q (show ¬ nI (1 + B - A) < nI 1 from nI_nlt (by omega) (by omega))
  by_cases c1 : F_X10_apart m' (m' 138 j) x < F_X10_apart m' (m' 138 t) x
  · have c1' := l1.mp c1
    have c2 := t4.mpr (Or.inl c1')
    rw [if_pos c1, if_pos c2]
    exact ⟨rfl, fun _ => v1 (by omega), fun _ => c2⟩
  · have c1' : ¬ zA m' x j < zA m' x t := fun g => c1 (l1.mpr g)
    rw [if_neg c1]
    by_cases c3 : F_X10_apart m' (m' 138 j) x = F_X10_apart m' (m' 138 t) x
    · have c3' := l2.mp c3
      rw [if_pos c3]
      by_cases c4 : nI t ≤ nI j
      · have c4' := l3.mp c4
        have c2 : ¬ F_X10_pickBy m' x (nI k) = nI j := fun q => by
          have := t4.mp q
          omega
        rw [if_pos c4, if_neg c2]
        exact ⟨rfl, fun q => absurd q c2, fun q => absurd (by decide) q⟩
      · have c4' : ¬ t ≤ j := fun g => c4 (l3.mpr g)
        have c2 := t4.mpr (Or.inr ⟨c3', by omega⟩)
        rw [if_neg c4, if_pos c2]
        exact ⟨rfl, fun _ => v1 (by omega), fun _ => c2⟩
    · have c3' : ¬ zA m' x j = zA m' x t := fun g => c3 (l2.mpr g)
      have c2 : ¬ F_X10_pickBy m' x (nI k) = nI j := fun q => by
        have := t4.mp q
        omega
      rw [if_neg c3, if_neg c2]
      exact ⟨rfl, fun q => absurd q c2, fun q => absurd (by decide) q⟩
theorem sureness_eq (h : iN n m) {x : Int32} (hx : vp_in x 256) {k j : Nat} (hk : k < 2 ^ n) (hj : j < n) (hb : ¬ F_X10_has m (nI k) (nI j) = 0) (h2 : 2 ≤ F_X10_bits m (nI k)) : F_X2_sureness m 3 x (nI k) (nI j) = F_X10_sureBy m x (nI j) (nI k) := by
  obtain ⟨hn, hc, -, hp⟩ := id h
  have hk8 : k < 256 := Nat.lt_of_lt_of_le hk (pow_le8 hn).1
  unfold F_X2_sureness
  rw [marks_v hn hp hj]
  exact (lead_eq h h.zM hx hk hj ((has_tb hk8 (by omega)).mp hb) h2 rfl (fun _ _ _ => rfl)).1
theorem sure_eq (h : iN n m) (p0 p1 p2 : Int32) : F_X9_sure m p0 p1 p2 = F_X10_sure m p0 p1 p2 := by
  by_cases c : F_X9_isAsked m p0 p1 p2 = 0
  · have e := asked0 h c
    unfold F_X9_sure F_X10_sure
    rw [e, c]
    simp [F_X9_refusal]
  · obtain ⟨i, j, k, hi, hj, hij, hk, rfl, rfl, rfl, c1, c2, e⟩ := asked1 h c
    have hn := h.1
    have hk8 : k < 256 := Nat.lt_of_lt_of_le hk (pow_le8 hn).1
    have hl := long_eq (m := m) (vp_in_nI hk8 (by omega))
    have hb := has_eq (m := m) (x := nI k) (vp_in_nI (show j < 8 by omega) (by omega))
    unfold F_X9_sure F_X10_sure
    by_cases d : 2 ≤ F_X10_bits m (nI k)
    · rw [if_pos d] at e hl
      rw [e, c1, hl, hb]
      by_cases d2 : F_X10_has m (nI k) (nI j) = 0
      · simp [d2, F_X9_refusal]
      · by_cases q : m 138 (16 + 8 * i + j) < 0
        · obtain ⟨k1, k2⟩ := kn0 h hi hj q
          simp [d2, F_X9_refusal, k1, k2]
        · obtain ⟨k1, k2, k3, k4, k5⟩ := kn1 h hi hj q
          simp [d2, F_X9_refusal, k1, k2, k3, k4]
          exact sureness_eq h k5 hk hj d2 d
    · rw [if_neg d] at e hl
      rw [e, c1, hl, hb]
      simp [F_X9_refusal]
end SURE
theorem st_sure {G : ax_G} {l : Launch} (p0 p1 p2 : Int32) : ST G l INV mX9_sure mX10_sure [.int p0, .int p1, .int p2] :=
  st_q (d9 := 5) (d10 := 4) (by omega) (by omega) (fun m => F_X9_sure m p0 p1 p2) (fun m => F_X10_sure m p0 p1 p2) (fun m _ => s_X9_sure m p0 p1 p2) (fun m h => s_X10_sure m p0 p1 p2 h.mp) (fun m ⟨n, h⟩ => sure_eq h.1 p0 p1 p2)
