/-! ===== told: two of one, nobodies, pairs ===== -/
theorem pw_sx {k N : Nat} (hk : k ≤ N) : 2 ^ k ≤ 2 ^ N := Nat.pow_le_pow_right (by omega) hk
theorem tb_or2 {K k q : Nat} : ((K ||| 2 ^ k).testBit q = true) ↔ (K.testBit q = true ∨ q = k) := by
  rw [Nat.testBit_or, Nat.testBit_two_pow]
  by_cases c : k = q
  · subst c
    simp
  · have c' : q ≠ k := fun e => c e.symm
    simp [c, c']
theorem or_fold (P : Nat → Prop) {f : Nat → Int32 → Int32} {N : Nat} (hN : N ≤ 8) (hf : ∀ k s, k < N → (P k → f k s = s ||| (1 <<< (nI k &&& 31))) ∧ (¬ P k → f k s = s)) : ∃ K, K < 2 ^ N ∧ ax_it f N 0 0 = nI K ∧ ∀ q, K.testBit q = true ↔ q < N ∧ P q := by
  have key := ax_it_ind (f := f) (fun k (s : Int32) => ∃ K, K < 2 ^ k ∧ s = nI K ∧ ∀ q, K.testBit q = true ↔ q < k ∧ P q) N 0 0 ⟨0, by decide, rfl, fun q => by simp⟩ (fun k s _ hk hs => by
    obtain ⟨K, h1, rfl, h3⟩ := hs
    obtain ⟨f1, f2⟩ := hf k (nI K) (by omega)
    by_cases c : P k
    · rw [f1 c, one_sh (by omega), nI_or]
      refine ⟨K ||| 2 ^ k, Nat.or_lt_two_pow (Nat.lt_of_lt_of_le h1 (pw_sx (by omega))) (Nat.pow_lt_pow_right (by omega) (by omega)), rfl, fun q => ?_⟩
      rw [tb_or2, h3]
      constructor
      · rintro (⟨h4, h5⟩ | rfl)
        · exact ⟨by omega, h5⟩
        · exact ⟨by omega, c⟩
      · rintro ⟨h4, h5⟩
        by_cases d : q = k
        · exact Or.inr d
        · exact Or.inl ⟨by omega, h5⟩
    · rw [f2 c]
      refine ⟨K, Nat.lt_of_lt_of_le h1 (pw_sx (by omega)), rfl, fun q => ?_⟩
      rw [h3]
      constructor
      · rintro ⟨h4, h5⟩
        exact ⟨by omega, h5⟩
      · rintro ⟨h4, h5⟩
        refine ⟨?_, h5⟩
        by_cases d : q = k
        · rw [d] at h5
          exact absurd h5 c
        · omega)
  rw [Nat.zero_add] at key
  exact key
theorem more_all : ∀ K : Fin 256, F_X10_bits mem0 (nI K.val) ≤ 1 ↔ ¬ ∃ p q : Fin 8, p ≠ q ∧ K.val.testBit p.val = true ∧ K.val.testBit q.val = true := by decide +kernel
section TOLD
variable {n : Nat} {m : ax_Me}
theorem whoAre_v (h : iN n m) {w : Nat} (hw : w < n) : ∃ K, K < 2 ^ n ∧ F_X5_whoAre m 3 (nI w) = nI K ∧ ∀ q, K.testBit q = true ↔ q < n ∧ m 138 (8 + q) = nI w := by
  obtain ⟨hn, hc, -, hp⟩ := id h
  unfold F_X5_whoAre
  rw [hp.1, nI_clamp (by omega)]
  refine or_fold (fun q => m 138 (8 + q) = nI w) hn (fun k s hk => ?_)
  simp only [f_X5_whoAre_4]
  rw [ident_v hn hp hk]
  exact ⟨fun c => if_pos c, fun c => if_neg c⟩
theorem two_cls (h : iN n m) : ∃ K, K < 256 ∧ F_X5_twoOfOne m 3 = nI K ∧ ∀ q, K.testBit q = true ↔ q < n ∧ ∃ q', q' < n ∧ q' ≠ q ∧ m 138 (8 + q) = m 138 (8 + q') := by
  obtain ⟨hn, hc, -, hp⟩ := id h
  have hp8 := pow_le8 hn
  unfold F_X5_twoOfOne
  rw [hp.1, nI_clamp (by omega)]
  have key := ax_it_ind (f := f_X5_twoOfOne_4 m 3) (fun k (s : Int32) => ∃ K, K < 256 ∧ s = nI K ∧ ∀ q, K.testBit q = true ↔ q < n ∧ ∃ w, w < k ∧ m 138 (8 + q) = nI w ∧ ∃ q', q' < n ∧ q' ≠ q ∧ m 138 (8 + q') = nI w) n 0 0 ⟨0, by decide, rfl, fun q => by simp⟩ (fun k s _ hk hs => by
    obtain ⟨K, h1, rfl, h3⟩ := hs
    obtain ⟨W, w1, w2, w3⟩ := whoAre_v h (show k < n by omega)
    simp only [f_X5_twoOfOne_4]
    rw [w2, bc_eq (vp_in_nI (show W < 256 by omega) (by omega))]
    have hm := more_all ⟨W, by omega⟩
    rw [bits_m mem0 m] at hm
    dsimp only at hm
    by_cases c : F_X10_bits m (nI W) ≤ 1
    · rw [if_pos c]
      refine ⟨K, h1, rfl, fun q => ?_⟩
      rw [h3]
      constructor
      · rintro ⟨a, w, b, d⟩
        exact ⟨a, w, by omega, d⟩
      · rintro ⟨a, w, b, d, q', e, f, g⟩
        refine ⟨a, w, ?_, d, q', e, f, g⟩
        by_cases i : w = k
        · subst i
          exact absurd ⟨⟨q, by omega⟩, ⟨q', by omega⟩, fun j => f (Fin.mk.inj j).symm, (w3 q).mpr ⟨a, d⟩, (w3 q').mpr ⟨e, g⟩⟩ (hm.mp c)
        · omega
    · rw [if_neg c, nI_or]
      refine ⟨K ||| W, Nat.or_lt_two_pow (n := 8) h1 (by omega), rfl, fun q => ?_⟩
      rw [Nat.testBit_or, Bool.or_eq_true, h3, w3]
      constructor
      · rintro (⟨a, w, b, d⟩ | ⟨a, b⟩)
        · exact ⟨a, w, by omega, d⟩
        · refine ⟨a, k, by omega, b, ?_⟩
          obtain ⟨p1, p2, h4, h5, h6⟩ := Classical.byContradiction (fun g => c (hm.mpr g))
          have h5' := (w3 p1.val).mp h5
          have h6' := (w3 p2.val).mp h6
          by_cases i : p1.val = q
          · exact ⟨p2.val, h6'.1, fun j => h4 (Fin.ext (i.trans j.symm)), h6'.2⟩
          · exact ⟨p1.val, h5'.1, i, h5'.2⟩
      · rintro ⟨a, w, b, d, e⟩
        by_cases i : w = k
        · subst i
          exact Or.inr ⟨a, d⟩
        · exact Or.inl ⟨a, w, by omega, d, e⟩)
  rw [Nat.zero_add] at key
  obtain ⟨K, h1, h2, h3⟩ := key
  refine ⟨K, h1, h2, fun q => ?_⟩
  rw [h3]
  constructor
  · rintro ⟨a, w, b, d, q', e, f, g⟩
    exact ⟨a, q', e, f, d.trans g.symm⟩
  · rintro ⟨a, q', e, f, g⟩
    obtain ⟨w, hw, ew⟩ := vp_in_of (hp.2.2.2.2.2.1 q a) (by omega)
    exact ⟨a, w, hw, ew, q', e, f, g.symm.trans ew⟩
theorem two_ref (h : iN n m) : ∃ K, K < 256 ∧ F_X10_twoOfOne m = nI K ∧ ∀ q, K.testBit q = true ↔ q < n ∧ ∃ q', q' < n ∧ q' ≠ q ∧ m 138 (8 + q) = m 138 (8 + q') := by
  obtain ⟨hn, hc, -, hp⟩ := id h
  unfold F_X10_twoOfOne
  rw [hc, nI_clamp (by omega)]
  have key := ax_it_ind (f := f_X10_twoOfOne_4 m) (fun k (s : Int32) => ∃ K, K < 256 ∧ s = nI K ∧ ∀ q, K.testBit q = true ↔ q < k ∧ ∃ q', q' < n ∧ q' ≠ q ∧ m 138 (8 + q) = m 138 (8 + q')) n 0 0 ⟨0, by decide, rfl, fun q => by simp⟩ (fun p s _ hp8 hs => by
    obtain ⟨K0, h1, rfl, h3⟩ := hs
    simp only [f_X10_twoOfOne_4]
    rw [hc, nI_clamp (show n < 2 ^ 31 by omega)]
    have inner := ax_it_ind (f := f_X10_twoOfOne_14 m (nI p)) (fun k (s : Int32) => ∃ K, K < 256 ∧ s = nI K ∧ ∀ q, K.testBit q = true ↔ K0.testBit q = true ∨ (q = p ∧ ∃ q', q' < k ∧ q' ≠ p ∧ m 138 (8 + p) = m 138 (8 + q'))) n 0 (nI K0) ⟨K0, h1, rfl, fun q => by simp⟩ (fun k s _ hk hs => by
      obtain ⟨K, k1, rfl, k3⟩ := hs
      simp only [f_X10_twoOfOne_14]
      rw [ix8 (show p < 8 by omega), ix8 (show k < 8 by omega), Int32.or_zero, one_sh (show p < 8 by omega), nI_or]
      have no : (¬ (k ≠ p ∧ m 138 (8 + p) = m 138 (8 + k))) → ∃ K', K' < 256 ∧ nI K = nI K' ∧ ∀ q, K'.testBit q = true ↔ K0.testBit q = true ∨ (q = p ∧ ∃ q', q' < k + 1 ∧ q' ≠ p ∧ m 138 (8 + p) = m 138 (8 + q')) := fun no => by
        refine ⟨K, k1, rfl, fun q => ?_⟩
        rw [k3]
        constructor
        · rintro (a | ⟨a, q', b, d⟩)
          · exact Or.inl a
          · exact Or.inr ⟨a, q', by omega, d⟩
        · rintro (a | ⟨a, q', b, d⟩)
          · exact Or.inl a
          · refine Or.inr ⟨a, q', ?_, d⟩
            by_cases i : q' = k
            · subst i
              exact absurd d no
            · omega
      by_cases c1 : p = k
      · rw [if_pos (by rw [c1])]
        exact no (fun g => g.1 c1.symm)
      · rw [if_neg (fun g => c1 ((nI_eq (by omega) (by omega)).mp g))]
        by_cases c2 : m 138 (8 + p) = m 138 (8 + k)
        · rw [if_pos c2]
          refine ⟨K ||| 2 ^ p, Nat.or_lt_two_pow (n := 8) k1 (pw_lt (by omega)), rfl, fun q => ?_⟩
          rw [tb_or2, k3]
          constructor
          · rintro ((a | ⟨a, q', b, d⟩) | a)
            · exact Or.inl a
            · exact Or.inr ⟨a, q', by omega, d⟩
            · exact Or.inr ⟨a, k, by omega, fun g => c1 g.symm, c2⟩
          · rintro (a | ⟨a, q', b, d⟩)
            · exact Or.inl (Or.inl a)
            · exact Or.inr a
        · rw [if_neg c2]
          exact no (fun g => c2 g.2))
    rw [Nat.zero_add] at inner
    obtain ⟨K, k1, k2, k3⟩ := inner
    refine ⟨K, k1, k2, fun q => ?_⟩
    rw [k3, h3]
    constructor
    · rintro (⟨a, b⟩ | ⟨rfl, b⟩)
      · exact ⟨by omega, b⟩
      · exact ⟨by omega, b⟩
    · rintro ⟨a, b⟩
      by_cases d : q = p
      · subst d
        exact Or.inr ⟨rfl, b⟩
      · exact Or.inl ⟨by omega, b⟩)
  rw [Nat.zero_add] at key
  exact key
theorem tb_same {K K' : Nat} (h : ∀ q, K.testBit q = true ↔ K'.testBit q = true) : K = K' := Nat.eq_of_testBit_eq (fun q => by
  have := h q
  cases a : K.testBit q <;> cases b : K'.testBit q <;> simp_all)
theorem two_eq (h : iN n m) : F_X5_twoOfOne m 3 = F_X10_twoOfOne m := by
  obtain ⟨K, -, e1, k1⟩ := two_cls h
  obtain ⟨K', -, e2, k2⟩ := two_ref h
  rw [e1, e2, tb_same (fun q => (k1 q).trans (k2 q).symm)]
theorem nob_eq (h : iN n m) : F_X5_nobodies m 3 = F_X10_nobody m := by
  obtain ⟨hn, hc, -, hp⟩ := id h
  have hp8 := pow_le8 hn
  have a : ∃ K, K < 2 ^ n ∧ F_X5_nobodies m 3 = nI K ∧ ∀ q, K.testBit q = true ↔ q < n ∧ ∀ p, p < n → m 138 (8 + p) ≠ nI q := by
    unfold F_X5_nobodies
    rw [hp.1, nI_clamp (by omega)]
    refine or_fold (fun q => ∀ p, p < n → m 138 (8 + p) ≠ nI q) hn (fun k s hk => ?_)
    simp only [f_X5_nobodies_4]
    obtain ⟨W, w1, w2, w3⟩ := whoAre_v h hk
    rw [w2]
    constructor
    · intro c
      have : W = 0 := Nat.eq_of_testBit_eq (fun q => by
        rw [Nat.zero_testBit]
        cases e : W.testBit q with
        | false => rfl
        | true => exact absurd ((w3 q).mp e).2 (c q ((w3 q).mp e).1))
      rw [this]
      exact if_pos rfl
    · intro c
      refine if_neg (fun e => c (fun p hp' e' => ?_))
      have : W = 0 := (nI_eq (b := 0) (by omega) (by omega)).mp e
      have := (w3 p).mpr ⟨hp', e'⟩
      rw [‹W = 0›, Nat.zero_testBit] at this
      cases this
  have b : ∃ K, K < 256 ∧ F_X10_nobody m = nI K ∧ ∀ q, K.testBit q = true ↔ q < n ∧ ∀ p, p < n → m 138 (8 + p) ≠ nI q := by
    unfold F_X10_nobody
    rw [hc, nI_clamp (by omega), mask_all ⟨n, by omega⟩]
    dsimp only
    have key := ax_it_ind (f := f_X10_nobody_11 m) (fun k (s : Int32) => ∃ K, K < 256 ∧ s = nI K ∧ ∀ q, K.testBit q = true ↔ q < n ∧ ∀ p, p < k → m 138 (8 + p) ≠ nI q) n 0 (nI (2 ^ n - 1)) ⟨2 ^ n - 1, by omega, rfl, fun q => by simp⟩ (fun k s _ hk hs => by
      obtain ⟨K, k1, rfl, k3⟩ := hs
      simp only [f_X10_nobody_11]
      rw [ix8 (by omega)]
      obtain ⟨w, hw, ew⟩ := vp_in_of (hp.2.2.2.2.2.1 k (by omega)) (by omega)
      rw [ew, anot k1 (by omega)]
      refine ⟨_, anot_lt k1, rfl, fun q => ?_⟩
      by_cases hq : q < 8
      · rw [anot_tb hq, k3]
        constructor
        · rintro ⟨⟨a, b⟩, c⟩
          refine ⟨a, fun p hp' e => ?_⟩
          by_cases d : p = k
          · subst d
            rw [ew] at e
            exact c ((nI_eq (by omega) (by omega)).mp e).symm
          · exact b p (by omega) e
        · rintro ⟨a, b⟩
          refine ⟨⟨a, fun p hp' => b p (by omega)⟩, fun e => ?_⟩
          subst e
          exact b k (by omega) ew
      · constructor
        · intro e
          exact absurd (tb_lt (n := 8) (anot_lt k1) e) hq
        · rintro ⟨a, -⟩
          omega)
    rw [Nat.zero_add] at key
    exact key
  obtain ⟨K, -, e1, k1⟩ := a
  obtain ⟨K', -, e2, k2⟩ := b
  rw [e1, e2, tb_same (fun q => (k1 q).trans (k2 q).symm)]
theorem knownBy_in (h : iN n m) {i : Nat} (hi : i < n) : vp_in (F_X5_knownBy m 3 (nI i)) 256 := by
  obtain ⟨hn, hc, -, hp⟩ := id h
  have hp8 := pow_le8 hn
  have : ∃ K, K < 2 ^ n ∧ F_X5_knownBy m 3 (nI i) = nI K ∧ ∀ q, K.testBit q = true ↔ q < n ∧ ¬ F_X5_knows m 3 (nI i) (nI q) = 0 := by
    unfold F_X5_knownBy
    rw [hp.1, nI_clamp (by omega)]
    refine or_fold (fun q => ¬ F_X5_knows m 3 (nI i) (nI q) = 0) hn (fun k s hk => ?_)
    simp only [f_X5_knownBy_4]
    exact ⟨fun c => if_neg c, fun c => if_pos (Classical.byContradiction c)⟩
  obtain ⟨K, k1, k2, -⟩ := this
  rw [k2]
  exact vp_in_nI (by omega) (by omega)
theorem pairs_eq (h : iN n m) : F_X5_countAcquaintances m 3 = F_X10_pairs m := by
  obtain ⟨hn, hc, -, hp⟩ := id h
  unfold F_X5_countAcquaintances F_X10_pairs
  rw [hp.1, hc, nI_clamp (by omega)]
  refine ax_it_congr _ _ _ (fun k s _ hk => ?_)
  simp only [f_X5_countAcquaintances_4, f_X10_pairs_4]
  rw [bc_eq (knownBy_in h (show k < n by omega)), knownBy_eq h (show k < n by omega)]
theorem told_eq (h : iA n m) (p0 : Int32) : F_X9_told m p0 = F_X10_told m p0 := by
  obtain ⟨hN, hP, -, -, hS, hB, -, hT⟩ := id h
  obtain ⟨c, q, -, -, c1, c2, -⟩ := hP
  obtain ⟨s, -, s1, s2, -⟩ := hS
  obtain ⟨b, -, b1, b2, -⟩ := hB
  obtain ⟨t, -, t1, t2, -⟩ := hT
  obtain ⟨hn, hc, -, hp⟩ := id hN
  unfold F_X9_told F_X10_told
  rw [two_eq hN, nob_eq hN, pairs_eq hN, hp.1, hc, hp.2.1, c1, c2, s1, s2, b1, b2, t1, t2]
  rfl
end TOLD
theorem st_told {G : ax_G} {l : Launch} (p0 : Int32) : ST G l INV mX9_told mX10_told [.int p0] :=
  st_q (d9 := 6) (d10 := 3) (by omega) (by omega) (fun m => F_X9_told m p0) (fun m => F_X10_told m p0) (fun m _ => s_X9_told m p0) (fun m h => s_X10_told m p0 h.mp) (fun m ⟨n, h⟩ => told_eq h p0)
