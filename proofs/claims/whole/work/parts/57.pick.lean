/-! ===== whom a witness picks ===== -/
theorem ax_it_rel {α β : Type} (R : α → β → Prop) {f : Nat → α → α} {g : Nat → β → β} : ∀ (n j : Nat) (s : α) (t : β), R s t → (∀ k s t, j ≤ k → k < j + n → R s t → R (f k s) (g k t)) → R (ax_it f n j s) (ax_it g n j t)
  | 0, _, _, _, h, _ => h
  | n + 1, j, s, t, h, hs => by
    rw [ax_it, ax_it]
    exact ax_it_rel R n (j + 1) _ _ (hs j s t (Nat.le_refl _) (by omega) h) (fun k s t h1 h2 => hs k s t (by omega) (by omega))
theorem bits_le : ∀ k : Fin 256, ¬ F_X10_bits mem0 (nI k.val) < 0 ∧ F_X10_bits mem0 (nI k.val) ≤ 8 := by decide +kernel
theorem nI_xor {a b : Nat} : nI a ^^^ nI b = nI (a ^^^ b) := by
  apply Int32.toBitVec_inj.mp
  show BitVec.ofNat 32 a ^^^ BitVec.ofNat 32 b = BitVec.ofNat 32 (a ^^^ b)
  rw [BitVec.ofNat_xor]
theorem xor_in {x y : Int32} (hx : vp_in x 256) (hy : vp_in y 256) : vp_in (x ^^^ y) 256 := by
  obtain ⟨a, ha, rfl⟩ := vp_in_of hx (by omega)
  obtain ⟨b, hb, rfl⟩ := vp_in_of hy (by omega)
  rw [nI_xor]
  exact vp_in_nI (Nat.xor_lt_two_pow (n := 8) ha hb) (by omega)
theorem apart_eq {m : ax_Me} {x y : Int32} (hx : vp_in x 256) (hy : vp_in y 256) : F_X2_apart m x y = F_X10_apart m y x := by
  unfold F_X2_apart F_X10_apart
  rw [bc_eq (xor_in hx hy), Int32.xor_comm]
theorem apart_le {m : ax_Me} {x y : Int32} (hx : vp_in x 256) (hy : vp_in y 256) : ¬ F_X10_apart m x y < 0 ∧ F_X10_apart m x y ≤ 8 := by
  unfold F_X10_apart
  obtain ⟨a, ha, e⟩ := vp_in_of (xor_in hx hy) (by omega)
  rw [e, bits_m m mem0]
  exact bits_le ⟨a, ha⟩
section PICK
variable {n : Nat} {m : ax_Me} {a : Nat} {v : Nat → Int32}
theorem apartOf_eq (hn : n ≤ 8) (h : pl n m a v) {x : Int32} (hx : vp_in x 256) {i : Nat} (hi : i < n) : F_X2_apartOf m a x (nI i) = F_X10_apart m (v i) x := by
  unfold F_X2_apartOf
  rw [marks_v hn h hi]
  exact apart_eq hx (h.2.2.2.2.1 i (by omega))
theorem pick_eq (h : iN n m) {x : Int32} (hx : vp_in x 256) (r : Int32) : F_X2_pick m 3 x r = F_X10_pickBy m x r := by
  obtain ⟨hn, hc, -, hp⟩ := h
  unfold F_X2_pick F_X10_pickBy
  rw [hp.1, hc, nI_clamp (by omega)]
  have key := ax_it_rel (fun (s t : Int32 × Int32) => (s = (-1, 9) ∧ t = (-1, 99)) ∨ (s = t ∧ s.2 ≤ 8)) (f := f_X2_pick_9 m 3 x r) (g := f_X10_pickBy_9 m x r) n 0 (-1, 9) (-1, 99) (Or.inl ⟨rfl, rfl⟩) (fun k s t _ hk hR => by
    obtain ⟨s0, s1⟩ := s
    obtain ⟨t0, t1⟩ := t
    simp only [f_X2_pick_9, f_X10_pickBy_9]
    rw [has_eq (vp_in_nI (show k < 8 by omega) (by omega)), apartOf_eq hn hp hx (show k < n by omega), nI_clamp (by omega)]
    have hb := apart_le (m := m) (hp.2.2.2.2.1 k (by omega)) hx
    by_cases c : F_X10_has m r (nI k) = 0
    · rw [if_pos c, if_pos c]
      rcases hR with ⟨e1, e2⟩ | ⟨e1, e2⟩
      · cases e1
        cases e2
        rw [if_pos (by decide)]
        exact Or.inl ⟨rfl, rfl⟩
      · cases e1
        rw [if_pos (Int32.le_trans e2 (by decide))]
        exact Or.inr ⟨rfl, e2⟩
    · rw [if_neg c, if_neg c]
      rcases hR with ⟨e1, e2⟩ | ⟨e1, e2⟩
      · cases e1
        cases e2
        rw [if_neg (fun q => absurd (Int32.le_trans q hb.2) (by decide)), if_neg (fun q => absurd (Int32.le_trans q hb.2) (by decide))]
        exact Or.inr ⟨rfl, hb.2⟩
      · cases e1
        by_cases d : s1 ≤ F_X10_apart m (m 138 k) x
        · rw [if_pos d]
          exact Or.inr ⟨rfl, e2⟩
        · rw [if_neg d]
          exact Or.inr ⟨rfl, hb.2⟩)
  rcases key with ⟨e1, e2⟩ | ⟨e1, e2⟩
  · rw [e1, e2]
  · rw [e1]
end PICK
