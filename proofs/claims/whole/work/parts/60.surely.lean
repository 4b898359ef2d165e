/-! ===== whom a witness picks, said plainly; how surely ===== -/
/-- the reference's persons and marks, enough to look along a row -/
def zM (n : Nat) (m : ax_Me) : Prop := n ≤ 8 ∧ m 136 0 = nI n ∧ ∀ q, q < n → vp_in (m 138 q) 256
theorem iN.zM {n : Nat} {m : ax_Me} (h : iN n m) : zM n m := ⟨h.1, h.2.1, fun q hq => h.2.2.2.2.2.2.2.1 q (by have := h.1; omega)⟩
def zA (m : ax_Me) (x : Int32) (q : Nat) : Int := (F_X10_apart m (m 138 q) x).toInt
theorem zA_rng {n : Nat} {m : ax_Me} {x : Int32} (h : zM n m) (hx : vp_in x 256) {q : Nat} (hq : q < n) : 0 ≤ zA m x q ∧ zA m x q ≤ 8 := by
  have := apart_le (m := m) (h.2.2 q hq) hx
  have h1 := Int32.le_iff_toInt_le.mp (Int32.not_lt.mp this.1)
  have h2 := Int32.le_iff_toInt_le.mp this.2
  exact ⟨h1, h2⟩
def zI (R : Nat → Prop) (A : Nat → Int) (k : Nat) (s : Int32 × Int32) : Prop := (s = (-1, 99) ∧ ∀ q, q < k → ¬ R q) ∨ ∃ t, t < k ∧ s.1 = nI t ∧ s.2.toInt = A t ∧ R t ∧ (∀ q, q < k → R q → A t ≤ A q) ∧ ∀ q, q < t → R q → A t < A q
section ZI
variable {R : Nat → Prop} {A : Nat → Int} {k : Nat} {s : Int32 × Int32}
theorem zI_no (h : zI R A k s) (c : ¬ R k) : zI R A (k + 1) s := by
  rcases h with ⟨e, h1⟩ | ⟨t, h1, h2, h3, h4, h5, h6⟩
  · refine Or.inl ⟨e, fun q hq => ?_⟩
    by_cases d : q = k
    · rw [d]
      exact c
    · exact h1 q (by omega)
  · refine Or.inr ⟨t, by omega, h2, h3, h4, fun q hq hR => ?_, h6⟩
    by_cases d : q = k
    · rw [d] at hR
      exact absurd hR c
    · exact h5 q (by omega) hR
theorem zI_keep (h : zI R A k s) (c : s.2.toInt ≤ A k) (h8 : A k ≤ 8) : zI R A (k + 1) s := by
  rcases h with ⟨e, h1⟩ | ⟨t, h1, h2, h3, h4, h5, h6⟩
  · rw [e] at c
    have : (99 : Int32).toInt = 99 := by decide
    exact absurd c (by show ¬ (99 : Int32).toInt ≤ _; omega)
  · refine Or.inr ⟨t, by omega, h2, h3, h4, fun q hq hR => ?_, h6⟩
    by_cases d : q = k
    · rw [d]
      omega
    · exact h5 q (by omega) hR
theorem zI_new (h : zI R A k s) (hR : R k) (c : A k < s.2.toInt) {y : Int32} (hy : y.toInt = A k) : zI R A (k + 1) (nI k, y) := by
  rcases h with ⟨e, h1⟩ | ⟨t, h1, h2, h3, h4, h5, h6⟩
  · refine Or.inr ⟨k, by omega, rfl, hy, hR, fun q hq hq2 => ?_, fun q hq hq2 => absurd hq2 (h1 q hq)⟩
    by_cases d : q = k
    · rw [d]
      omega
    · exact absurd hq2 (h1 q (by omega))
  · refine Or.inr ⟨k, by omega, rfl, hy, hR, fun q hq hq2 => ?_, fun q hq hq2 => ?_⟩
    · by_cases d : q = k
      · rw [d]
        omega
      · have := h5 q (by omega) hq2
        omega
    · have := h5 q (by omega) hq2
      omega
end ZI
section ZP
variable {n : Nat} {m : ax_Me} {x : Int32}
theorem pick_fold (h : zM n m) (hx : vp_in x 256) (r : Int32) : zI (fun q => ¬ F_X10_has m r (nI q) = 0) (zA m x) n (ax_it (f_X10_pickBy_9 m x r) n 0 (-1, 99)) := by
  have hn := h.1
  have key := ax_it_ind (zI (fun q => ¬ F_X10_has m r (nI q) = 0) (zA m x)) (f := f_X10_pickBy_9 m x r) n 0 (-1, 99) (Or.inl ⟨rfl, fun q hq => absurd hq (by omega)⟩) (fun k s _ hk hP => by
    obtain ⟨x0, x1⟩ := s
    have hr := zA_rng h hx (q := k) (by omega)
    simp only [f_X10_pickBy_9]
    rw [nI_clamp (show k < 2 ^ 31 by omega)]
    by_cases c : F_X10_has m r (nI k) = 0
    · rw [if_pos c]
      have e : x1 ≤ 99 := by
        rcases hP with ⟨e, -⟩ | ⟨t, h1, h2, h3, -⟩
        · cases e
          decide
        · have := zA_rng h hx (q := t) (by omega)
          rw [Int32.le_iff_toInt_le]
          have e99 : (99 : Int32).toInt = 99 := by decide
          dsimp only at h3
          omega
      rw [if_pos e]
      exact zI_no hP (fun q => q c)
    · rw [if_neg c]
      by_cases d : x1 ≤ F_X10_apart m (m 138 k) x
      · rw [if_pos d]
        exact zI_keep hP (Int32.le_iff_toInt_le.mp d) hr.2
      · rw [if_neg d]
        exact zI_new hP c (Int32.lt_iff_toInt_lt.mp (Int32.not_le.mp d)) rfl)
  rw [Nat.zero_add] at key
  exact key
theorem pick_def (h : zM n m) (r : Int32) : F_X10_pickBy m x r = (ax_it (f_X10_pickBy_9 m x r) n 0 (-1, 99)).1 := by
  unfold F_X10_pickBy
  have hn := h.1
  rw [h.2.1, nI_clamp (by omega)]
theorem least_fold (hn : n ≤ 8) {k j : Nat} (hk : k < 256) (hj : j < 8) : ax_it (f_X10_sureBy_19 m x (nI j) (nI k)) n 0 99 = (ax_it (f_X10_pickBy_9 m x (nI (k &&& (255 ^^^ 2 ^ j)))) n 0 (-1, 99)).2 := by
  refine ax_it_rel (fun (s : Int32) (t : Int32 × Int32) => s = t.2) n 0 99 (-1, 99) rfl (fun q s t _ hq e => ?_)
  obtain ⟨t0, t1⟩ := t
  dsimp only at e
  subst e
  simp only [f_X10_sureBy_19, f_X10_pickBy_9]
  have e1 := has_tb (m := m) (q := q) hk (by omega)
  have e2 := has_tb (m := m) (q := q) (anot_lt (j := j) hk) (by omega)
  rw [anot_tb (by omega)] at e2
  by_cases c : F_X10_has m (nI k) (nI q) = 0
  · have d : F_X10_has m (nI (k &&& (255 ^^^ 2 ^ j))) (nI q) = 0 := Classical.byContradiction fun q' => (e1.mpr (e2.mp q').1) c
    rw [if_pos c, if_pos d]
    split <;> rfl
  · rw [if_neg c]
    by_cases c2 : q = j
    · have d : F_X10_has m (nI (k &&& (255 ^^^ 2 ^ j))) (nI q) = 0 := Classical.byContradiction fun q' => (e2.mp q').2 c2
      rw [if_pos (by rw [c2]), if_pos d]
      split <;> rfl
    · rw [if_neg (fun e => c2 ((nI_eq (by omega) (by omega)).mp e)), if_neg (e2.mpr ⟨e1.mp c, c2⟩)]
      split <;> rfl
/-- in a row of two or more with j: the best of the others; when j is picked -/
theorem sure_char (h : zM n m) (hx : vp_in x 256) {k j : Nat} (hk : k < 2 ^ n) (hj : j < n) (hb : k.testBit j = true) (h2 : 2 ≤ F_X10_bits m (nI k)) :
    ∃ t, t < n ∧ t ≠ j ∧ F_X10_pickBy m x (nI (k &&& (255 ^^^ 2 ^ j))) = nI t ∧ ((F_X10_pickBy m x (nI k) = nI j) ↔ (zA m x j < zA m x t ∨ (zA m x j = zA m x t ∧ j < t))) ∧ (ax_it (f_X10_sureBy_19 m x (nI j) (nI k)) n 0 99).toInt = zA m x t := by
  have hn := h.1
  have hk8 : k < 256 := Nat.lt_of_lt_of_le hk (pow_le8 hn).1
  have e1 : ∀ q, q < 8 → ((¬ F_X10_has m (nI k) (nI q) = 0) ↔ k.testBit q = true) := fun q hq => has_tb hk8 hq
  have e2 : ∀ q, q < 8 → ((¬ F_X10_has m (nI (k &&& (255 ^^^ 2 ^ j))) (nI q) = 0) ↔ (k.testBit q = true ∧ q ≠ j)) := fun q hq => (has_tb (anot_lt hk8) hq).trans (anot_tb hq)
  have f1 := pick_fold h hx (nI k)
  have f2 := pick_fold h hx (nI (k &&& (255 ^^^ 2 ^ j)))
  rw [least_fold hn hk8 (by omega), pick_def h, pick_def h]
  obtain ⟨o, o1, o2, o3⟩ := two_tb hk8 (show j < 8 by omega) h2
  have on := tb_lt hk o3
  rcases f2 with ⟨-, q⟩ | ⟨t, t1, t2, t3, t4, t5, t6⟩
  · exact absurd ((e2 o o1).mpr ⟨o3, o2⟩) (q o on)
  have t7 := (e2 t (by omega)).mp t4
  refine ⟨t, t1, t7.2, t2, ?_, t3⟩
  rcases f1 with ⟨-, q⟩ | ⟨s, s1, s2, s3, s4, s5, s6⟩
  · exact absurd ((e1 j (by omega)).mpr hb) (q j hj)
  rw [s2, nI_eq (by omega) (by omega)]
  have a1 := s5 t t1 ((e1 t (by omega)).mpr t7.1)
  have a2 := s5 j hj ((e1 j (by omega)).mpr hb)
  constructor
  · intro e
    subst e
    by_cases c : zA m x s < zA m x t
    · exact Or.inl c
    · refine Or.inr ⟨by omega, ?_⟩
      refine Classical.byContradiction fun d => ?_
      have := s6 t (by have := t7.2; omega) ((e1 t (by omega)).mpr t7.1)
      omega
  · intro e
    refine Classical.byContradiction fun d => ?_
    have b1 := (e2 s (by omega)).mpr ⟨(e1 s (by omega)).mp s4, d⟩
    have b2 := t5 s s1 b1
    rcases e with e | ⟨e, e'⟩
    · omega
    · by_cases g : j < s
      · have := s6 j g ((e1 j (by omega)).mpr hb)
        omega
      · have := t6 s (by omega) b1
        omega
end ZP
