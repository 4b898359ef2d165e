/-! ===== questions that change nothing ===== -/
theorem st_q {G : ax_G} {l : Launch} {M9 M10 : ax_M} {as : List Value} {d9 d10 : Nat} (h9 : d9 ≤ 7) (h10 : d10 ≤ 7) (f g : ax_Me → Int32) (hf : ∀ m, INV m → AD G l d9 M9 (.ref 0 :: as) m (some (.int (f m))) m) (hg : ∀ m, INV m → AD G l d10 M10 (.ref 136 :: as) m (some (.int (g m))) m) (he : ∀ m, INV m → f m = g m) : ST G l INV M9 M10 as := by
  intro m hI
  refine ⟨f m, d9, d10, m, m, h9, h10, hf m hI, ?_, hI⟩
  rw [he m hI]
  exact hg m hI
theorem iN.mp {n : Nat} {m : ax_Me} (h : iN n m) : mp m := by
  obtain ⟨a, b, -⟩ := h
  refine ⟨?_, ?_⟩
  · rw [b]
    exact nI_pos (by omega)
  · rw [b]
    exact nI_le (b := 8) a (by decide)
theorem INV.mp {m : ax_Me} (h : INV m) : mp m := by
  obtain ⟨n, h⟩ := h
  exact h.1.mp
section ASKS
variable {n : Nat} {m : ax_Me}
theorem knownBy_eq (h : iN n m) {i : Nat} (hi : i < n) : F_X5_knownBy m 3 (nI i) = F_X10_knownBy m (nI i) := by
  obtain ⟨hn, hc, -, hp⟩ := h
  unfold F_X5_knownBy F_X10_knownBy
  rw [hp.1, hc, nI_clamp (by omega)]
  refine ax_it_congr _ _ _ (fun k s _ hk => ?_)
  have e := knows_v hn hp hi (show k < n by omega)
  simp only [f_X5_knownBy_4, f_X10_knownBy_4]
  rw [rem_v (by omega) (by omega)]
  by_cases c : m 138 (16 + 8 * i + k) < 0
  · rw [if_pos (e.mpr c), if_pos c, Int32.or_zero]
  · rw [if_neg (fun q => c (e.mp q)), if_neg c]
theorem knowers_eq (h : iN n m) {i : Nat} (hi : i < n) : F_X5_knowersOf m 3 (nI i) = F_X10_whoKnow m (nI i) := by
  obtain ⟨hn, hc, -, hp⟩ := h
  unfold F_X5_knowersOf F_X10_whoKnow
  rw [hp.1, hc, nI_clamp (by omega)]
  refine ax_it_congr _ _ _ (fun k s _ hk => ?_)
  have e := knows_v hn hp (show k < n by omega) hi
  simp only [f_X5_knowersOf_4, f_X10_whoKnow_4]
  rw [rem_v (by omega) (by omega)]
  by_cases c : m 138 (16 + 8 * k + i) < 0
  · rw [if_pos (e.mpr c), if_pos c, Int32.or_zero]
  · rw [if_neg (fun q => c (e.mp q)), if_neg c]
theorem ix8 {i : Nat} (hi : i < 8) : (8 + nI i).toNatClampNeg = 8 + i := by
  have : (8 : Int32) + nI i = nI (8 + i) := nI_add 8 i
  rw [this, nI_clamp (by omega)]
theorem person_eq (h : iN n m) (p0 p1 : Int32) : F_X9_person m p0 p1 = F_X10_person m p0 p1 := by
  have hN := h
  obtain ⟨hn, hc, -, hp⟩ := h
  unfold F_X9_person F_X10_person
  by_cases c : vp_in p0 n
  · rw [has1 hn hp.1 c, isP1 hn hc c, if_neg (show ¬ (1 : Int32) = 0 by decide), if_neg (show ¬ (1 : Int32) = 0 by decide)]
    obtain ⟨i, hi, rfl⟩ := vp_in_of c (by omega)
    rw [marks_v hn hp hi, changes_v hn hp hi, ident_v hn hp hi, knownBy_eq hN hi, knowers_eq hN hi, nI_clamp (by omega), ix8 (by omega)]
  · rw [has0 hn hp.1 c, isP0 hn hc c, if_pos rfl, if_pos rfl]
theorem pair_eq (h : iN n m) (p0 p1 : Int32) : F_X5_isPair m 3 p0 p1 = F_X10_areTwo m p0 p1 := by
  obtain ⟨hn, hc, -, hp⟩ := h
  unfold F_X5_isPair F_X10_areTwo
  by_cases c : vp_in p0 n
  · rw [has1 hn hp.1 c, isP1 hn hc c]
    by_cases c1 : vp_in p1 n
    · rw [has1 hn hp.1 c1, isP1 hn hc c1]
    · rw [has0 hn hp.1 c1, isP0 hn hc c1]
  · rw [has0 hn hp.1 c, isP0 hn hc c, if_pos rfl, if_pos rfl]
theorem iv_two (h : iN n m) {p0 p1 : Int32} (c : ¬ F_X10_areTwo m p0 p1 = 0) : ∃ i j : Nat, i < n ∧ j < n ∧ i ≠ j ∧ p0 = nI i ∧ p1 = nI j := by
  obtain ⟨hn, hc, -, hp⟩ := h
  unfold F_X10_areTwo at c
  by_cases c0 : vp_in p0 n
  · by_cases c1 : vp_in p1 n
    · obtain ⟨i, hi, rfl⟩ := vp_in_of c0 (by omega)
      obtain ⟨j, hj, rfl⟩ := vp_in_of c1 (by omega)
      rw [isP1 hn hc c0, isP1 hn hc c1, if_neg (by decide), if_neg (by decide)] at c
      refine ⟨i, j, hi, hj, fun q => c ?_, rfl, rfl⟩
      rw [q, if_pos rfl]
    · rw [isP0 hn hc c1, isP1 hn hc c0] at c
      simp at c
  · rw [isP0 hn hc c0] at c
    simp at c
theorem remembers_eq (h : iN n m) (p0 p1 : Int32) : F_X9_remembers m p0 p1 = F_X10_remembers m p0 p1 := by
  unfold F_X9_remembers F_X10_remembers
  rw [pair_eq h]
  by_cases c : F_X10_areTwo m p0 p1 = 0
  · rw [if_pos c, if_pos c]
  · rw [if_neg c, if_neg c]
    obtain ⟨i, j, hi, hj, hij, rfl, rfl⟩ := iv_two h c
    obtain ⟨hn, hc, -, hp⟩ := h
    rw [memory_v hn hp hi hj, rem_v (by omega) (by omega)]
end ASKS
theorem st_person {G : ax_G} {l : Launch} (p0 p1 : Int32) : ST G l INV mX9_person mX10_person [.int p0, .int p1] :=
  st_q (d9 := 5) (d10 := 2) (by omega) (by omega) (fun m => F_X9_person m p0 p1) (fun m => F_X10_person m p0 p1) (fun m _ => s_X9_person m p0 p1) (fun m h => s_X10_person m p0 p1 h.mp) (fun m ⟨n, h⟩ => person_eq h.1 p0 p1)
theorem st_remembers {G : ax_G} {l : Launch} (p0 p1 : Int32) : ST G l INV mX9_remembers mX10_remembers [.int p0, .int p1] :=
  st_q (d9 := 3) (d10 := 3) (by omega) (by omega) (fun m => F_X9_remembers m p0 p1) (fun m => F_X10_remembers m p0 p1) (fun m _ => s_X9_remembers m p0 p1) (fun m h => s_X10_remembers m p0 p1 h.mp) (fun m ⟨n, h⟩ => remembers_eq h.1 p0 p1)
/-! bits -/
theorem bc_m (m m' : ax_Me) (x : Int32) : F_J6_bitCount_0f7a4 m x = F_J6_bitCount_0f7a4 m' x := rfl
theorem bits_m (m m' : ax_Me) (x : Int32) : F_X10_bits m x = F_X10_bits m' x := rfl
theorem bc_all : ∀ k : Fin 256, F_J6_bitCount_0f7a4 mem0 (nI k.val) = F_X10_bits mem0 (nI k.val) := by decide +kernel
theorem bc_eq {m : ax_Me} {x : Int32} (h : vp_in x 256) : F_J6_bitCount_0f7a4 m x = F_X10_bits m x := by
  obtain ⟨j, hj, rfl⟩ := vp_in_of h (by omega)
  rw [bc_m m mem0, bits_m m mem0]
  exact bc_all ⟨j, hj⟩
theorem or_all : ∀ (k : Fin 256) (j : Fin 8), ((nI k.val ||| (1 <<< (nI j.val &&& 31))).toNatClampNeg < 256 ∧ ¬ (nI k.val ||| (1 <<< (nI j.val &&& 31))) < 0) := by decide +kernel
theorem or_in {x : Int32} {j : Nat} (h : vp_in x 256) (hj : j < 8) : vp_in (x ||| (1 <<< (nI j &&& 31))) 256 := by
  obtain ⟨k, hk, rfl⟩ := vp_in_of h (by omega)
  have := or_all ⟨k, hk⟩ ⟨j, hj⟩
  intro q
  rcases q with q | q
  · exact this.2 q
  · exact absurd this.1 (Nat.not_lt.mpr q)
