/-! ===== the reference: place ===== -/
/-- the place of reading is a or behind it -/
def mg (k a : Int) (m : ax_Me) : Prop := mt k m ∧ a ≤ (m 136 7).toInt
theorem mg_ne {k a : Int} {m : ax_Me} {x j : Nat} {v : Int32} (h : mg k a m) (h7 : ¬ (x = 136 ∧ j = 7)) (h5 : ¬ (x = 136 ∧ j = 5)) : mg k a (ax_u m x j v) := ⟨mt_ne h.1 h7 h5, by rw [ax_u_ne (by omega)]; exact h.2⟩
theorem mg_in {k a : Int} {m : ax_Me} (h : mg k a m) (hk : 240 ≤ k) (c : ¬ m 136 5 ≤ m 136 7) : mg k a (ax_u m 136 7 (m 136 7 + 1)) := by
  refine ⟨(mt_in h.1 hk c).1, ?_⟩
  obtain ⟨⟨h1, h2, h3⟩, h4⟩ := h
  rw [Int32.le_iff_toInt_le] at c
  rw [ax_u_self, inc_toInt (by omega)]
  omega
theorem mg_here {k a : Int} {m : ax_Me} (h : mg k a m) (hk : 240 ≤ k) : mg k a (N_X10_here m) := by
  rw [here_2]
  refine ax_wh_inv (mg k a) (fun s s' e hs => ?_) _ _ h
  obtain ⟨c, rfl⟩ := here_some e
  exact mg_in hs hk c
theorem mg_tnL {k a : Int} {m : ax_Me} {lo hi : Int32} (h : mg k a m) (hk : 240 ≤ k) : mg k a (tnL m lo hi) := by
  unfold tnL
  refine ax_wh_inv (mg k a) (fun s s' e hs => ?_) _ _ (mg_ne (mg_ne (mg_here h hk) (by omega) (by omega)) (by omega) (by omega))
  obtain ⟨c, v, rfl⟩ := tn_step e
  refine mg_in (mg_ne hs (by omega) (by omega)) hk ?_
  rw [ax_u_ne (by decide), ax_u_ne (by decide)]
  exact c
theorem mg_tn {k a : Int} {m : ax_Me} {lo hi : Int32} (h : mg k a m) (hk : 240 ≤ k) : mg k a (N_X10_takeNumber m lo hi) :=
  tn_all (P := fun q => mg k a q.2) m lo hi (mg_ne (mg_here h hk) (by omega) (by omega)) (mg_ne (mg_tnL h hk) (by omega) (by omega)) (fun _ => mg_tnL h hk)
theorem mg_into {k a : Int} {m : ax_Me} {r : Nat} {x lo hi : Int32} (h : mg k a m) (hk : 240 ≤ k) (hr : r ≠ 136) : mg k a (N_X10_into m r x lo hi) := by
  rw [(into_eq m r x lo hi).2]
  exact mg_ne (mg_tn h hk) (by omega) (by omega)
theorem mg_person {k a : Int} {m : ax_Me} (h : mg k a m) (hk : 240 ≤ k) : mg k a (N_X10_takePerson m) := by
  rw [(tp_eq m).2]
  have h1 : mg k a (ax_u m 136 10 (m 136 10 + 1)) := mg_ne h (by omega) (by omega)
  split
  · exact mg_into (mg_into h1 hk (by decide)) hk (by decide)
  · exact mg_into h1 hk (by decide)
theorem mg_knows {k a : Int} {m : ax_Me} (h : mg k a m) (hk : 240 ≤ k) : mg k a (N_X10_takeKnows m) :=
  tk_all (P := mg k a) m (mg_tn h hk) (mg_tn (mg_tn h hk) hk) (fun _ _ q => mg_ne q (by omega) (by omega)) (fun _ _ _ q => mg_ne q (by omega) (by omega))
theorem here_1 {m : ax_Me} (h : ¬ R_X10_here m = -1) : ¬ N_X10_here m 136 5 ≤ N_X10_here m 136 7 := by
  intro c
  apply h
  rw [here_2] at c
  rw [R_X10_here, F_X10_here, if_pos c]
def st1 (m : ax_Me) : ax_Me := ax_u (N_X10_here m) 136 7 (N_X10_here m 136 7 + 1)
theorem tc_zero (m : ax_Me) (h : R_X10_takeClause m = 0) : ∃ M, ((R_X10_here m = 112 ∧ (¬ N_X10_here m 136 10 = 8) ∧ M = N_X10_takePerson (st1 m) ∧ R_X10_takePerson (st1 m) = 0) ∨ (R_X10_here m = 107 ∧ M = N_X10_takeKnows (st1 m) ∧ R_X10_takeKnows (st1 m) = 0)) ∧ R_X10_here M = 59 ∧ N_X10_takeClause m = ax_u (N_X10_here M) 136 7 (N_X10_here M 136 7 + 1) := by
  by_cases c1 : R_X10_here m = 112
  · by_cases c2 : N_X10_here m 136 10 = 8
    · rw [R_X10_takeClause, F_X10_takeClause, if_pos c1, if_pos c2] at h
      exact absurd (show (3 : Int32) = 0 from h) (by decide)
    · by_cases c3 : R_X10_takePerson (st1 m) = 0
      · by_cases c4 : R_X10_here (N_X10_takePerson (st1 m)) = 59
        · refine ⟨_, Or.inl ⟨c1, c2, rfl, c3⟩, c4, ?_⟩
          unfold st1 at c3 c4 ⊢
          rw [N_X10_takeClause, F_X10_takeClause, if_pos c1, if_neg c2, if_pos c3, if_pos c4]
        · unfold st1 at c3 c4
          rw [R_X10_takeClause, F_X10_takeClause, if_pos c1, if_neg c2, if_pos c3, if_neg c4] at h
          exact absurd (show (1 : Int32) = 0 from h) (by decide)
      · unfold st1 at c3
        rw [R_X10_takeClause, F_X10_takeClause, if_pos c1, if_neg c2, if_neg c3] at h
        dsimp only at h
        exact (c3 h).elim
  · by_cases c2 : R_X10_here m = 107
    · by_cases c3 : R_X10_takeKnows (st1 m) = 0
      · by_cases c4 : R_X10_here (N_X10_takeKnows (st1 m)) = 59
        · refine ⟨_, Or.inr ⟨c2, rfl, c3⟩, c4, ?_⟩
          unfold st1 at c3 c4 ⊢
          rw [N_X10_takeClause, F_X10_takeClause, if_neg c1, if_pos c2, if_pos c3, if_pos c4]
        · unfold st1 at c3 c4
          rw [R_X10_takeClause, F_X10_takeClause, if_neg c1, if_pos c2, if_pos c3, if_neg c4] at h
          exact absurd (show (1 : Int32) = 0 from h) (by decide)
      · unfold st1 at c3
        rw [R_X10_takeClause, F_X10_takeClause, if_neg c1, if_pos c2, if_neg c3] at h
        dsimp only at h
        exact (c3 h).elim
    · rw [R_X10_takeClause, F_X10_takeClause, if_neg c1, if_neg c2] at h
      exact absurd (show (1 : Int32) = 0 from h) (by decide)
theorem mt_step {k a : Int} {m : ax_Me} (h : mg k a m) (hk : k ≤ 1000) : mg (k + 1) (a + 1) (ax_u m 136 7 (m 136 7 + 1)) := by
  refine ⟨mt_at h.1 hk, ?_⟩
  obtain ⟨⟨h1, h2, h3⟩, h4⟩ := h
  rw [ax_u_self, inc_toInt (by omega)]
  omega
theorem mg_mono {k a k' a' : Int} {m : ax_Me} (h : mg k a m) (hk : k ≤ k') (ha : a' ≤ a) : mg k' a' m := ⟨mt_mono h.1 hk, Int.le_trans ha h.2⟩
theorem st1_mg {m : ax_Me} (ht : mt 241 m) (hh : ¬ R_X10_here m = -1) : mg 240 ((m 136 7).toInt + 1) (st1 m) := by
  have g1 : mg 241 (m 136 7).toInt (N_X10_here m) := mg_here ⟨ht, Int.le_refl _⟩ (by decide)
  have c := here_1 hh
  rw [Int32.le_iff_toInt_le] at c
  have g2 : mg 239 (m 136 7).toInt (N_X10_here m) := ⟨⟨g1.1.1, by have := g1.1.2.2; omega, g1.1.2.2⟩, g1.2⟩
  exact mg_mono (mt_step g2 (by decide)) (by decide) (Int.le_refl _)
theorem tc_ok {m : ax_Me} (ht : mt 241 m) (hr : mr m) (h : R_X10_takeClause m = 0) : mt 241 (N_X10_takeClause m) ∧ mr (N_X10_takeClause m) ∧ (m 136 7).toInt < (N_X10_takeClause m 136 7).toInt := by
  refine (tc_zero m h).elim (fun M q => ?_)
  have e := q.2.2
  have key : mg 240 ((m 136 7).toInt + 1) M ∧ mr M := by
    refine q.1.elim (fun h1 => ?_) (fun h1 => ?_)
    · have c1 := h1.1
      have c2 := h1.2.1
      have g := st1_mg ht (by rw [c1]; decide)
      rw [h1.2.2.1]
      refine ⟨mg_person g (by decide), mr_person (mr_7 (mr_here hr)) ?_⟩
      unfold st1
      rw [ax_u_ne (by decide)]
      exact c2
    · have c1 := h1.1
      have g := st1_mg ht (by rw [c1]; decide)
      rw [h1.2.1]
      exact ⟨mg_knows g (by decide), mr_knows (mr_7 (mr_here hr))⟩
  have g2 := mt_step (mg_here key.1 (by decide)) (by decide)
  rw [e]
  refine ⟨mt_mono g2.1 (by decide), mr_7 (mr_here key.2), ?_⟩
  have := g2.2
  omega
theorem pl_dec {x0 : Int32} {m : ax_Me} {n : Nat} (hmu : (if x0 = 0 then 300 - (m 136 7).toNatClampNeg else 0) < n + 1) (c : x0 = 0) (ht : mt 241 m) (hr : mr m) : (if R_X10_takeClause (N_X10_here m) = 0 then 300 - (N_X10_takeClause (N_X10_here m) 136 7).toNatClampNeg else 0) < n := by
  rw [if_pos c] at hmu
  have g1 : mg 241 (m 136 7).toInt (N_X10_here m) := mg_here ⟨ht, Int.le_refl _⟩ (by decide)
  have n1 : (m 136 7).toNatClampNeg = (m 136 7).toInt.toNat := rfl
  have t1 := ht.2.1
  have t0 := ht.1
  split
  · next h =>
    obtain ⟨a1, a2, a3⟩ := tc_ok g1.1 (mr_here hr) h
    have n2 : (N_X10_takeClause (N_X10_here m) 136 7).toNatClampNeg = (N_X10_takeClause (N_X10_here m) 136 7).toInt.toNat := rfl
    have t2 := a1.2.1
    have t3 := g1.2
    omega
  · omega
theorem pl_inv {m : ax_Me} (ht : mt 241 m) (hr : mr m) : R_X10_takeClause (N_X10_here m) = 0 → (mt 241 (N_X10_takeClause (N_X10_here m)) ∧ mr (N_X10_takeClause (N_X10_here m))) := fun h => by
  obtain ⟨a1, a2, -⟩ := tc_ok (mt_here ht (by decide)) (mr_here hr) h
  exact ⟨a1, a2⟩
def f_X10_place_17 (mem : ax_Me)   (j : Nat) (s : ax_Me) : ax_Me :=
  match s with
  | m => (ax_u m 142 (nI j).toNatClampNeg 0)
def f_X10_place_38   (s : Int32 × ax_Me) : (Int32 × ax_Me) ⊕ (Int32 × ax_Me) :=
  match s with
  | (x0, m) => (if x0 = 0 then (if (R_X10_here m) < 0 then (Sum.inl (x0, (N_X10_here m))) else (Sum.inr ((R_X10_takeClause (N_X10_here m)), (N_X10_takeClause (N_X10_here m))))) else (Sum.inl (x0, m)))
def F_X10_place (mem : ax_Me)  : Int32 × ax_Me :=
  (if (ax_wx (f_X10_place_38) (301) (0, (ax_it (f_X10_place_17 ((ax_u (ax_u (ax_u mem 136 6 (-1)) 136 7 0) 136 10 0))) ((64 : Int32).toNatClampNeg) (0) (ax_u (ax_u (ax_u mem 136 6 (-1)) 136 7 0) 136 10 0)))).1 ≤ 0 then (((ax_u (ax_u (ax_u (ax_u (ax_u (F_X10_takeRead (ax_u (ax_wx (f_X10_place_38) (301) (0, (ax_it (f_X10_place_17 ((ax_u (ax_u (ax_u mem 136 6 (-1)) 136 7 0) 136 10 0))) ((64 : Int32).toNatClampNeg) (0) (ax_u (ax_u (ax_u mem 136 6 (-1)) 136 7 0) 136 10 0)))).2 136 5 0)) 136 17 0) 136 22 0) 136 14 0) 152 (0 : Int32).toNatClampNeg 0) 152 (1 : Int32).toNatClampNeg 0) 136 0), (ax_u (ax_u (ax_u (ax_u (ax_u (F_X10_takeRead (ax_u (ax_wx (f_X10_place_38) (301) (0, (ax_it (f_X10_place_17 ((ax_u (ax_u (ax_u mem 136 6 (-1)) 136 7 0) 136 10 0))) ((64 : Int32).toNatClampNeg) (0) (ax_u (ax_u (ax_u mem 136 6 (-1)) 136 7 0) 136 10 0)))).2 136 5 0)) 136 17 0) 136 22 0) 136 14 0) 152 (0 : Int32).toNatClampNeg 0) 152 (1 : Int32).toNatClampNeg 0)) else (((-10) - (ax_wx (f_X10_place_38) (301) (0, (ax_it (f_X10_place_17 ((ax_u (ax_u (ax_u mem 136 6 (-1)) 136 7 0) 136 10 0))) ((64 : Int32).toNatClampNeg) (0) (ax_u (ax_u (ax_u mem 136 6 (-1)) 136 7 0) 136 10 0)))).1), (ax_u (ax_wx (f_X10_place_38) (301) (0, (ax_it (f_X10_place_17 ((ax_u (ax_u (ax_u mem 136 6 (-1)) 136 7 0) 136 10 0))) ((64 : Int32).toNatClampNeg) (0) (ax_u (ax_u (ax_u mem 136 6 (-1)) 136 7 0) 136 10 0)))).2 136 5 0)))
def R_X10_place (mem : ax_Me)  : Int32 := (F_X10_place mem).1
def N_X10_place (mem : ax_Me)  : ax_Me := (F_X10_place mem).2
set_option maxRecDepth 20000 in
theorem lp_X10_place_17 {G : ax_G} {l : Launch} {Q : Option Value → ax_H → Prop} (mem : ax_Me)    : ∀ (n j : Nat) (m : ax_Me), j + n = (64 : Int32).toNatClampNeg → AX G l mX10_place 5 36 [.ref 136, .int (nI ((64 : Int32).toNatClampNeg))] [] 153 0 (ax_hm (ax_it (f_X10_place_17 mem) n j m)) 153 0 Q → AX G l mX10_place 5 17 [.ref 136, .int (nI j)] [] 153 0 (ax_hm m) 153 0 Q := by
  intro n
  induction n with
  | zero =>
    intro j m hj hx
    refine ax_iload_n (j := 1) dX10_place_17 rfl rfl rfl ?_
    refine ax_bipush (v := 64) dX10_place_18 (by decide) rfl ?_
    refine ax_icmp_ge (tgt := 36) dX10_place_20 (by decide) rfl (fun c20 => ?_) (fun c20 => ?_)
    · have q := hx
      simp only [ax_it] at q
      rw [show ((64 : Int32).toNatClampNeg) = j by omega] at q
      exact q
    · exact absurd (cl_ge (by omega)) c20
  | succ n ih =>
    intro j m hj hx
    refine ax_iload_n (j := 1) dX10_place_17 rfl rfl rfl ?_
    refine ax_bipush (v := 64) dX10_place_18 (by decide) rfl ?_
    refine ax_icmp_ge (tgt := 36) dX10_place_20 (by decide) rfl (fun c20 => ?_) (fun c20 => ?_)
    · exact absurd c20 (cl_nle (by omega))
    · refine ax_aload_n (j := 0) dX10_place_23 rfl rfl rfl ?_
      refine am_getR flX10_29 dX10_place_24 rfl is136 rfl ?_
      refine ax_iload_n (j := 1) dX10_place_27 rfl rfl rfl ?_
      refine ax_iconst (v := 0) dX10_place_28 (by decide) rfl ?_
      refine am_zast dX10_place_29 rfl is142 (vp_in_nI (by have := c64; omega) (by decide)) rfl ?_
      refine ax_iinc1 (v := nI (j + 1)) dX10_place_30 rfl (cl_inc j) (Nat.le_of_ble_eq_true rfl) rfl ?_
      refine ax_goto (tgt := 17) dX10_place_33 (by decide) ?_
      have e1 : f_X10_place_17 mem j m = (ax_u m 142 (nI j).toNatClampNeg 0) := by simp only [f_X10_place_17]
      simp only [ax_it, e1] at hx
      exact ih (j + 1) ((ax_u m 142 (nI j).toNatClampNeg 0)) (by omega) hx
theorem clr_136 (m : ax_Me) (n j : Nat) : (ax_it (f_X10_place_17 m) n j m) 136 = m 136 := by
  refine ax_it_inv (fun s => s 136 = m 136) (fun k s hs => ?_) n j m rfl
  unfold f_X10_place_17
  try dsimp only
  rw [ax_u_off (by decide)]
  exact hs
theorem pl_start {m : ax_Me} (hl : (m 136 5).toInt ≤ 240) {n j : Nat} : mt 241 (ax_it (f_X10_place_17 (ax_u (ax_u (ax_u m 136 6 (-1)) 136 7 0) 136 10 0)) n j (ax_u (ax_u (ax_u m 136 6 (-1)) 136 7 0) 136 10 0)) ∧ mr (ax_it (f_X10_place_17 (ax_u (ax_u (ax_u m 136 6 (-1)) 136 7 0) 136 10 0)) n j (ax_u (ax_u (ax_u m 136 6 (-1)) 136 7 0) 136 10 0)) := by
  unfold mt mr
  rw [clr_136]
  refine ⟨⟨?_, ?_, ?_⟩, ?_, ?_⟩
  · rw [ax_u_ne (by decide), ax_u_self]; decide
  · rw [ax_u_ne (by decide), ax_u_self]; decide
  · rw [ax_u_ne (by decide), ax_u_ne (by decide), ax_u_ne (by decide)]; exact hl
  · rw [ax_u_self]; decide
  · rw [ax_u_self]; decide
set_option maxRecDepth 20000 in
theorem lp_X10_place_38 {G : ax_G} {l : Launch} {Q : Option Value → ax_H → Prop}    : ∀ (n : Nat) (x0 : Int32) (m : ax_Me), (if x0 = 0 then 300 - (m 136 7).toNatClampNeg else 0) < n → (x0 = 0 → (mt 241 m ∧ mr m)) → AX G l mX10_place 5 57 [.ref 136, .int (ax_wx (f_X10_place_38) n (x0, m)).1] [] 153 0 (ax_hm (ax_wx (f_X10_place_38) n (x0, m)).2) 153 0 Q → AX G l mX10_place 5 38 [.ref 136, .int x0] [] 153 0 (ax_hm m) 153 0 Q := by
  intro n
  induction n with
  | zero =>
    intro x0 m hmu
    exact absurd hmu (Nat.not_lt_zero _)
  | succ n ih =>
    intro x0 m hmu hi hx
    refine ax_iload_n (j := 1) dX10_place_38 rfl rfl rfl ?_
    refine ax_if_ne (tgt := 57) dX10_place_39 (by decide) rfl (fun c39 => ?_) (fun c39 => ?_)
    · have e1 : f_X10_place_38 (x0, m) = .inl (x0, m) := by simp only [f_X10_place_38, if_neg c39]
      simp only [ax_wx, e1] at hx
      exact hx
    · refine ax_aload_n (j := 0) dX10_place_42 rfl rfl rfl ?_
      refine ad_V0 ksX10_here lkX10_84 dX10_place_43 rfl is136 rfl (Nat.le_of_ble_eq_true rfl) (Nat.le_of_ble_eq_true rfl) (s_X10_here _ (mt_mono (hi c39).1 (by decide))) ?_
      refine ax_if_lt (tgt := 57) dX10_place_46 (by decide) rfl (fun c46 => ?_) (fun c46 => ?_)
      · have e1 : f_X10_place_38 (x0, m) = .inl (x0, (N_X10_here m)) := by simp only [f_X10_place_38, if_pos c39, if_pos c46]
        simp only [ax_wx, e1] at hx
        exact hx
      · refine ax_aload_n (j := 0) dX10_place_49 rfl rfl rfl ?_
        refine ad_V0 ksX10_takeClause lkX10_118 dX10_place_50 rfl is136 rfl (Nat.le_of_ble_eq_true rfl) (Nat.le_of_ble_eq_true rfl) (s_X10_takeClause _ (mr_here (hi c39).2) (mt_here (hi c39).1 (by decide))) ?_
        refine ax_ist1 dX10_place_53 rfl rfl (Nat.le_of_ble_eq_true rfl) rfl ?_
        refine ax_goto (tgt := 38) dX10_place_54 (by decide) ?_
        have e1 : f_X10_place_38 (x0, m) = .inr ((R_X10_takeClause (N_X10_here m)), (N_X10_takeClause (N_X10_here m))) := by simp only [f_X10_place_38, if_pos c39, if_neg c46]
        simp only [ax_wx, e1] at hx
        exact ih ((R_X10_takeClause (N_X10_here m))) ((N_X10_takeClause (N_X10_here m))) (pl_dec hmu c39 (hi c39).1 (hi c39).2) (pl_inv (hi c39).1 (hi c39).2) hx
set_option maxRecDepth 20000 in
theorem s_X10_place {G : ax_G} {l : Launch} (mem : ax_Me)  (hl : (mem 136 5).toInt ≤ 240) : AD G l 5 mX10_place [.ref 136] mem (some (.int (R_X10_place mem))) (N_X10_place mem) := by
  refine ax_start (ls := [.ref 136, .float 0]) (u := 1) (by decide +kernel) (Nat.le_of_ble_eq_true rfl) (Nat.le_refl _) (Nat.le_refl _) rfl ?_
  refine ax_aload_n (j := 0) dX10_place_0 rfl rfl rfl ?_
  refine ax_iconst (v := (-1)) dX10_place_1 (by decide) rfl ?_
  refine am_putI flX10_19 dX10_place_2 rfl is136 rfl rfl rfl ?_
  refine ax_aload_n (j := 0) dX10_place_5 rfl rfl rfl ?_
  refine ax_iconst (v := 0) dX10_place_6 (by decide) rfl ?_
  refine am_putI flX10_81 dX10_place_7 rfl is136 rfl rfl rfl ?_
  refine ax_aload_n (j := 0) dX10_place_10 rfl rfl rfl ?_
  refine ax_iconst (v := 0) dX10_place_11 (by decide) rfl ?_
  refine am_putI flX10_105 dX10_place_12 rfl is136 rfl rfl rfl ?_
  refine ax_iconst (v := 0) dX10_place_15 (by decide) rfl ?_
  refine ax_ist1 dX10_place_16 rfl rfl (Nat.le_of_ble_eq_true rfl) rfl ?_
  refine lp_X10_place_17 ((ax_u (ax_u (ax_u mem 136 6 (-1)) 136 7 0) 136 10 0))     ((64 : Int32).toNatClampNeg) (0) ((ax_u (ax_u (ax_u mem 136 6 (-1)) 136 7 0) 136 10 0)) (Nat.zero_add _)  ?_
  refine ax_iconst (v := 0) dX10_place_36 (by decide) rfl ?_
  refine ax_ist1 dX10_place_37 rfl rfl (Nat.le_of_ble_eq_true rfl) rfl ?_
  refine lp_X10_place_38    (301) (0) ((ax_it (f_X10_place_17 ((ax_u (ax_u (ax_u mem 136 6 (-1)) 136 7 0) 136 10 0))) ((64 : Int32).toNatClampNeg) (0) (ax_u (ax_u (ax_u mem 136 6 (-1)) 136 7 0) 136 10 0))) (by split <;> omega) (fun _ => pl_start hl) ?_
  refine ax_aload_n (j := 0) dX10_place_57 rfl rfl rfl ?_
  refine ax_iconst (v := 0) dX10_place_58 (by decide) rfl ?_
  refine am_putI flX10_77 dX10_place_59 rfl is136 rfl rfl rfl ?_
  refine ax_iload_n (j := 1) dX10_place_62 rfl rfl rfl ?_
  refine ax_if_le (tgt := 71) dX10_place_63 (by decide) rfl (fun c63 => ?_) (fun c63 => ?_)
  · refine ax_aload_n (j := 0) dX10_place_71 rfl rfl rfl ?_
    refine ad_V0v ksX10_takeRead lkX10_121 dX10_place_72 rfl is136 rfl (Nat.le_of_ble_eq_true rfl) (Nat.le_of_ble_eq_true rfl) (s_X10_takeRead _ ) ?_
    refine ax_aload_n (j := 0) dX10_place_75 rfl rfl rfl ?_
    refine ax_iconst (v := 0) dX10_place_76 (by decide) rfl ?_
    refine am_putI flX10_124 dX10_place_77 rfl is136 rfl rfl rfl ?_
    refine ax_aload_n (j := 0) dX10_place_80 rfl rfl rfl ?_
    refine ax_iconst (v := 0) dX10_place_81 (by decide) rfl ?_
    refine am_putI flX10_127 dX10_place_82 rfl is136 rfl rfl rfl ?_
    refine ax_aload_n (j := 0) dX10_place_85 rfl rfl rfl ?_
    refine ax_iconst (v := 0) dX10_place_86 (by decide) rfl ?_
    refine am_putI flX10_130 dX10_place_87 rfl is136 rfl rfl rfl ?_
    refine ax_aload_n (j := 0) dX10_place_90 rfl rfl rfl ?_
    refine am_getR flX10_60 dX10_place_91 rfl is136 rfl ?_
    refine ax_iconst (v := 0) dX10_place_94 (by decide) rfl ?_
    refine ax_iconst (v := 0) dX10_place_95 (by decide) rfl ?_
    refine am_zast dX10_place_96 rfl is152 (by unfold vp_in; decide) rfl ?_
    refine ax_aload_n (j := 0) dX10_place_97 rfl rfl rfl ?_
    refine am_getR flX10_60 dX10_place_98 rfl is136 rfl ?_
    refine ax_iconst (v := 1) dX10_place_101 (by decide) rfl ?_
    refine ax_iconst (v := 0) dX10_place_102 (by decide) rfl ?_
    refine am_zast dX10_place_103 rfl is152 (by unfold vp_in; decide) rfl ?_
    refine ax_aload_n (j := 0) dX10_place_104 rfl rfl rfl ?_
    refine am_getI flX10_63 dX10_place_105 rfl is136 rfl ?_
    exact ax_ireturn rfl dX10_place_108 ⟨by simp only [R_X10_place, N_X10_place, F_X10_place, if_pos c63], by simp only [R_X10_place, N_X10_place, F_X10_place, if_pos c63]⟩
  · refine ax_bipush (v := (-10)) dX10_place_66 (by decide) rfl ?_
    refine ax_iload_n (j := 1) dX10_place_68 rfl rfl rfl ?_
    refine ax_isub dX10_place_69 rfl ?_
    exact ax_ireturn rfl dX10_place_70 ⟨by simp only [R_X10_place, N_X10_place, F_X10_place, if_neg c63], by simp only [R_X10_place, N_X10_place, F_X10_place, if_neg c63]⟩

