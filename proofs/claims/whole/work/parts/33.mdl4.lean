/-! ===== the reference: the text ===== -/
def ax_wx {α : Type} (f : α → α ⊕ α) : Nat → α → α
  | 0, s => s
  | n + 1, s => match f s with
    | .inl s' => s'
    | .inr s' => ax_wx f n s'
def mt (k : Int) (m : ax_Me) : Prop := 0 ≤ (m 136 7).toInt ∧ (m 136 7).toInt ≤ k ∧ (m 136 5).toInt ≤ 240
theorem mt_mono {k k' : Int} {m : ax_Me} (h : mt k m) (hk : k ≤ k') : mt k' m := ⟨h.1, Int.le_trans h.2.1 hk, h.2.2⟩
theorem mt_at {k : Int} {m : ax_Me} (h : mt k m) (hk : k ≤ 1000) : mt (k + 1) (ax_u m 136 7 (m 136 7 + 1)) := by
  obtain ⟨h1, h2, h3⟩ := h
  have e := inc_toInt (x := m 136 7) (by omega)
  refine ⟨?_, ?_, ?_⟩
  · rw [ax_u_self]; omega
  · rw [ax_u_self]; omega
  · rw [ax_u_ne (by decide)]; exact h3
theorem mt_in {k : Int} {m : ax_Me} (h : mt k m) (hk : 240 ≤ k) (c : ¬ m 136 5 ≤ m 136 7) : mt k (ax_u m 136 7 (m 136 7 + 1)) ∧ (m 136 7 + 1).toNatClampNeg = (m 136 7).toNatClampNeg + 1 ∧ (m 136 7).toNatClampNeg < 240 := by
  obtain ⟨h1, h2, h3⟩ := h
  rw [Int32.le_iff_toInt_le] at c
  have e := inc_toInt (x := m 136 7) (by omega)
  have n1 : (m 136 7).toNatClampNeg = (m 136 7).toInt.toNat := rfl
  have n2 : (m 136 7 + 1).toNatClampNeg = (m 136 7 + 1).toInt.toNat := rfl
  refine ⟨⟨?_, ?_, ?_⟩, by omega, by omega⟩
  · rw [ax_u_self]; omega
  · rw [ax_u_self]; omega
  · rw [ax_u_ne (by decide)]; exact h3
theorem mt_vp {k : Int} {m : ax_Me} (h : mt k m) (c : ¬ m 136 5 ≤ m 136 7) : vp_in (m 136 7) 240 := by
  obtain ⟨h1, h2, h3⟩ := h
  rw [Int32.le_iff_toInt_le] at c
  rw [vp_in_iff]
  omega
theorem mt_ne {k : Int} {m : ax_Me} {a j : Nat} {v : Int32} (h : mt k m) (h7 : ¬ (a = 136 ∧ j = 7)) (h5 : ¬ (a = 136 ∧ j = 5)) : mt k (ax_u m a j v) := by
  unfold mt
  rw [ax_u_ne (by omega), ax_u_ne (by omega)]
  exact h
theorem tx_vp {m : ax_Me} (h : 0 ≤ (m 136 5).toInt ∧ (m 136 5).toInt ≤ 240) (c : ¬ m 136 5 = 240) : vp_in (m 136 5) 240 := by
  have h3 : ¬ (m 136 5).toInt = (240 : Int32).toInt := fun q => c (Int32.toInt_inj.mp q)
  have e9 : (240 : Int32).toInt = 240 := rfl
  rw [vp_in_iff]
  omega
def F_X10_feed (mem : ax_Me) (p0 : Int32) : Int32 × ax_Me :=
  (if (F_X10_in mem p0.toInt64 0 (255)) = 0 then ((-1000000002), mem) else (if (mem 136 5) = 240 then ((-1000000004), mem) else (((ax_u (ax_u mem 139 (mem 136 5).toNatClampNeg p0) 136 5 (((ax_u mem 139 (mem 136 5).toNatClampNeg p0) 136 5) + 1)) 136 5), (ax_u (ax_u mem 139 (mem 136 5).toNatClampNeg p0) 136 5 (((ax_u mem 139 (mem 136 5).toNatClampNeg p0) 136 5) + 1)))))
set_option maxRecDepth 20000 in
theorem s_X10_feed {G : ax_G} {l : Launch} (mem : ax_Me) (p0 : Int32) (ht : 0 ≤ (mem 136 5).toInt ∧ (mem 136 5).toInt ≤ 240) : AD G l 1 mX10_feed [.ref 136, .int p0] mem (some (.int (F_X10_feed mem p0).1)) (F_X10_feed mem p0).2 := by
  refine ax_start (ls := [.ref 136, .int p0]) (u := 0) (by decide +kernel) (Nat.le_of_ble_eq_true rfl) (Nat.le_refl _) (Nat.le_refl _) rfl ?_
  refine ax_iload_n (j := 1) dX10_feed_0 rfl rfl rfl ?_
  refine ax_i2l dX10_feed_1 rfl ?_
  refine ax_lconst (v := 0) dX10_feed_2 (by decide) rfl ?_
  refine ax_ldc2 dX10_feed_3 cnX10_74 rfl ?_
  refine ad_S3 ksX10_in lkX10_66 dX10_feed_6 rfl (Nat.le_of_ble_eq_true rfl) (Nat.le_of_ble_eq_true rfl) (s_X10_in _ _ _ _) ?_
  refine ax_if_ne (tgt := 15) dX10_feed_9 (by decide) rfl (fun c9 => ?_) (fun c9 => ?_)
  · refine ax_aload_n (j := 0) dX10_feed_15 rfl rfl rfl ?_
    refine am_getI flX10_77 dX10_feed_16 rfl is136 rfl ?_
    refine ax_sipush (v := 240) dX10_feed_19 (by decide) rfl ?_
    refine ax_icmp_ne (tgt := 28) dX10_feed_22 (by decide) rfl (fun c22 => ?_) (fun c22 => ?_)
    · refine ax_aload_n (j := 0) dX10_feed_28 rfl rfl rfl ?_
      refine am_getR flX10_16 dX10_feed_29 rfl is136 rfl ?_
      refine ax_aload_n (j := 0) dX10_feed_32 rfl rfl rfl ?_
      refine am_getI flX10_77 dX10_feed_33 rfl is136 rfl ?_
      refine ax_iload_n (j := 1) dX10_feed_36 rfl rfl rfl ?_
      refine am_iast dX10_feed_37 rfl is139 (tx_vp ht c22) ?_
      refine ax_aload_n (j := 0) dX10_feed_38 rfl rfl rfl ?_
      refine ax_dup dX10_feed_39 rfl rfl ?_
      refine am_getI flX10_77 dX10_feed_40 rfl is136 rfl ?_
      refine ax_iconst (v := 1) dX10_feed_43 (by decide) rfl ?_
      refine ax_iadd dX10_feed_44 rfl ?_
      refine am_putI flX10_77 dX10_feed_45 rfl is136 rfl rfl rfl ?_
      refine ax_aload_n (j := 0) dX10_feed_48 rfl rfl rfl ?_
      refine am_getI flX10_77 dX10_feed_49 rfl is136 rfl ?_
      exact ax_ireturn rfl dX10_feed_52 ⟨by simp only [F_X10_feed, if_neg c9, if_neg c22], by simp only [F_X10_feed, if_neg c9, if_neg c22]⟩
    · refine ax_ldc dX10_feed_25 cnX10_80 rfl ?_
      exact ax_ireturn rfl dX10_feed_27 ⟨by simp only [F_X10_feed, if_neg c9, if_pos c22], by simp only [F_X10_feed, if_neg c9, if_pos c22]⟩
  · refine ax_ldc dX10_feed_12 cnX10_76 rfl ?_
    exact ax_ireturn rfl dX10_feed_14 ⟨by simp only [F_X10_feed, if_pos c9], by simp only [F_X10_feed, if_pos c9]⟩

def f_X10_here_0   (s : ax_Me) : Option (ax_Me) :=
  match s with
  | m => (if (m 136 5) ≤ (m 136 7) then none else (if (m 139 (m 136 7).toNatClampNeg) = 32 then (some (ax_u m 136 7 ((m 136 7) + 1))) else none))
def F_X10_here (mem : ax_Me)  : Int32 × ax_Me :=
  (if ((ax_wh (f_X10_here_0) (241) mem) 136 5) ≤ ((ax_wh (f_X10_here_0) (241) mem) 136 7) then ((-1), (ax_wh (f_X10_here_0) (241) mem)) else (((ax_wh (f_X10_here_0) (241) mem) 139 ((ax_wh (f_X10_here_0) (241) mem) 136 7).toNatClampNeg), (ax_wh (f_X10_here_0) (241) mem)))
def R_X10_here (mem : ax_Me)  : Int32 := (F_X10_here mem).1
def N_X10_here (mem : ax_Me)  : ax_Me := (F_X10_here mem).2
set_option maxRecDepth 20000 in
theorem lp_X10_here_0 {G : ax_G} {l : Launch} {Q : Option Value → ax_H → Prop}    : ∀ (n : Nat) (m : ax_Me), (240 - (m 136 7).toNatClampNeg) < n → mt 300 m → AX G l mX10_here 0 38 [.ref 136] [] 153 0 (ax_hm (ax_wh (f_X10_here_0) n m)) 153 0 Q → AX G l mX10_here 0 0 [.ref 136] [] 153 0 (ax_hm m) 153 0 Q := by
  intro n
  induction n with
  | zero =>
    intro m hmu
    exact absurd hmu (Nat.not_lt_zero _)
  | succ n ih =>
    intro m hmu hi hx
    refine ax_aload_n (j := 0) dX10_here_0 rfl rfl rfl ?_
    refine am_getI flX10_81 dX10_here_1 rfl is136 rfl ?_
    refine ax_aload_n (j := 0) dX10_here_4 rfl rfl rfl ?_
    refine am_getI flX10_77 dX10_here_5 rfl is136 rfl ?_
    refine ax_icmp_ge (tgt := 38) dX10_here_8 (by decide) rfl (fun c8 => ?_) (fun c8 => ?_)
    · have e1 : f_X10_here_0 m = none := by simp only [f_X10_here_0, if_pos c8]
      simp only [ax_wh, e1] at hx
      exact hx
    · refine ax_aload_n (j := 0) dX10_here_11 rfl rfl rfl ?_
      refine am_getR flX10_16 dX10_here_12 rfl is136 rfl ?_
      refine ax_aload_n (j := 0) dX10_here_15 rfl rfl rfl ?_
      refine am_getI flX10_81 dX10_here_16 rfl is136 rfl ?_
      refine am_iald dX10_here_19 rfl is139 (mt_vp hi c8) ?_
      refine ax_bipush (v := 32) dX10_here_20 (by decide) rfl ?_
      refine ax_icmp_ne (tgt := 38) dX10_here_22 (by decide) rfl (fun c22 => ?_) (fun c22 => ?_)
      · have e1 : f_X10_here_0 m = none := by simp only [f_X10_here_0, if_neg c8, if_neg c22]
        simp only [ax_wh, e1] at hx
        exact hx
      · refine ax_aload_n (j := 0) dX10_here_25 rfl rfl rfl ?_
        refine ax_dup dX10_here_26 rfl rfl ?_
        refine am_getI flX10_81 dX10_here_27 rfl is136 rfl ?_
        refine ax_iconst (v := 1) dX10_here_30 (by decide) rfl ?_
        refine ax_iadd dX10_here_31 rfl ?_
        refine am_putI flX10_81 dX10_here_32 rfl is136 rfl rfl rfl ?_
        refine ax_goto (tgt := 0) dX10_here_35 (by decide) ?_
        have e1 : f_X10_here_0 m = some (ax_u m 136 7 ((m 136 7) + 1)) := by simp only [f_X10_here_0, if_neg c8, if_pos c22]
        simp only [ax_wh, e1] at hx
        exact ih ((ax_u m 136 7 ((m 136 7) + 1))) (by have q := (mt_in hi (by decide) c8).2; simp only [ax_u_self]; omega) (mt_in hi (by decide) c8).1 hx
theorem here_some {m m' : ax_Me} (h : f_X10_here_0 m = some m') : (¬ m 136 5 ≤ m 136 7) ∧ m' = ax_u m 136 7 (m 136 7 + 1) := by
  unfold f_X10_here_0 at h
  dsimp only at h
  split at h
  · cases h
  · next c =>
    split at h
    · exact ⟨c, (Option.some.inj h).symm⟩
    · cases h
theorem mt_hw {k : Int} {m : ax_Me} {n : Nat} (h : mt k m) (hk : 240 ≤ k) : mt k (ax_wh f_X10_here_0 n m) := by
  refine ax_wh_inv (mt k) (fun s s' e hs => ?_) _ _ h
  obtain ⟨c, rfl⟩ := here_some e
  exact (mt_in hs hk c).1
set_option maxRecDepth 20000 in
theorem s_X10_here {G : ax_G} {l : Launch} (mem : ax_Me)  (ht : mt 300 mem) : AD G l 0 mX10_here [.ref 136] mem (some (.int (R_X10_here mem))) (N_X10_here mem) := by
  refine ax_start (ls := [.ref 136]) (u := 0) (by decide +kernel) (Nat.le_of_ble_eq_true rfl) (Nat.le_refl _) (Nat.le_refl _) rfl ?_
  refine lp_X10_here_0    (241) (mem) (by omega) ht ?_
  refine ax_aload_n (j := 0) dX10_here_38 rfl rfl rfl ?_
  refine am_getI flX10_81 dX10_here_39 rfl is136 rfl ?_
  refine ax_aload_n (j := 0) dX10_here_42 rfl rfl rfl ?_
  refine am_getI flX10_77 dX10_here_43 rfl is136 rfl ?_
  refine ax_icmp_ge (tgt := 61) dX10_here_46 (by decide) rfl (fun c46 => ?_) (fun c46 => ?_)
  · refine ax_iconst (v := (-1)) dX10_here_61 (by decide) rfl ?_
    exact ax_ireturn rfl dX10_here_62 ⟨by simp only [R_X10_here, N_X10_here, F_X10_here, if_pos c46], by simp only [R_X10_here, N_X10_here, F_X10_here, if_pos c46]⟩
  · refine ax_aload_n (j := 0) dX10_here_49 rfl rfl rfl ?_
    refine am_getR flX10_16 dX10_here_50 rfl is136 rfl ?_
    refine ax_aload_n (j := 0) dX10_here_53 rfl rfl rfl ?_
    refine am_getI flX10_81 dX10_here_54 rfl is136 rfl ?_
    refine am_iald dX10_here_57 rfl is139 (mt_vp (mt_hw ht (by decide)) c46) ?_
    refine ax_goto (tgt := 62) dX10_here_58 (by decide) ?_
    exact ax_ireturn rfl dX10_here_62 ⟨by simp only [R_X10_here, N_X10_here, F_X10_here, if_neg c46], by simp only [R_X10_here, N_X10_here, F_X10_here, if_neg c46]⟩

theorem here_2 (m : ax_Me) : (N_X10_here m) = ax_wh f_X10_here_0 241 m := by
  unfold N_X10_here F_X10_here
  split <;> rfl
theorem mt_here {k : Int} {m : ax_Me} (h : mt k m) (hk : 240 ≤ k) : mt k (N_X10_here m) := by
  rw [here_2]
  exact mt_hw h hk
def F_X10_fails (mem : ax_Me) (p0 : Int32) (p1 : Int32) : Int32 × ax_Me :=
  (p0, (ax_u mem 136 6 p1))
set_option maxRecDepth 20000 in
theorem s_X10_fails {G : ax_G} {l : Launch} (mem : ax_Me) (p0 : Int32) (p1 : Int32)  : AD G l 0 mX10_fails [.ref 136, .int p0, .int p1] mem (some (.int (F_X10_fails mem p0 p1).1)) (F_X10_fails mem p0 p1).2 := by
  refine ax_start (ls := [.ref 136, .int p0, .int p1]) (u := 0) (by decide +kernel) (Nat.le_of_ble_eq_true rfl) (Nat.le_refl _) (Nat.le_refl _) rfl ?_
  refine ax_aload_n (j := 0) dX10_fails_0 rfl rfl rfl ?_
  refine ax_iload_n (j := 2) dX10_fails_1 rfl rfl rfl ?_
  refine am_putI flX10_19 dX10_fails_2 rfl is136 rfl rfl rfl ?_
  refine ax_iload_n (j := 1) dX10_fails_5 rfl rfl rfl ?_
  exact ax_ireturn rfl dX10_fails_6 ⟨by simp only [F_X10_fails], by simp only [F_X10_fails]⟩

theorem mt_fails {k : Int} {m : ax_Me} {a b : Int32} (h : mt k m) : mt k (F_X10_fails m a b).2 := mt_ne h (by omega) (by omega)
theorem mt_up8 {k : Int} {m : ax_Me} {v : Int32} (h : mt k m) (c : ¬ m 136 5 ≤ m 136 7) (hk : 240 ≤ k := by decide) : mt k (ax_u (ax_u m 136 8 v) 136 7 (ax_u m 136 8 v 136 7 + 1)) := by
  have h2 : mt k (ax_u m 136 8 v) := mt_ne h (by omega) (by omega)
  refine (mt_in h2 hk ?_).1
  rw [ax_u_ne (by decide), ax_u_ne (by decide)]
  exact c
def f_X10_takeNumber_42 (p0 : Int32) (p1 : Int32) (v3 : Int32) (s : ax_Me) : Option (ax_Me) :=
  match s with
  | m => (if (m 136 5) ≤ (m 136 7) then none else (if (F_X10_in m (m 139 (m 136 7).toNatClampNeg).toInt64 (48) (57)) = 0 then none else (if (m 136 8) ≤ 10000 then (some (ax_u (ax_u m 136 8 (((10 * (m 136 8)) + (m 139 (m 136 7).toNatClampNeg)) - 48)) 136 7 (((ax_u m 136 8 (((10 * (m 136 8)) + (m 139 (m 136 7).toNatClampNeg)) - 48)) 136 7) + 1))) else (some (ax_u (ax_u m 136 8 (m 136 8)) 136 7 (((ax_u m 136 8 (m 136 8)) 136 7) + 1))))))
def F_X10_takeNumber (mem : ax_Me) (p0 : Int32) (p1 : Int32) : Int32 × ax_Me :=
  (if (F_X10_in (N_X10_here mem) (R_X10_here mem).toInt64 (48) (57)) = 0 then ((F_X10_fails (N_X10_here mem) 1 ((N_X10_here mem) 136 7)).1, (F_X10_fails (N_X10_here mem) 1 ((N_X10_here mem) 136 7)).2) else (if 3 < (((ax_wh (f_X10_takeNumber_42 p0 p1 ((R_X10_here mem))) (241) (ax_u (ax_u (N_X10_here mem) 136 9 ((N_X10_here mem) 136 7)) 136 8 0)) 136 7) - ((ax_wh (f_X10_takeNumber_42 p0 p1 ((R_X10_here mem))) (241) (ax_u (ax_u (N_X10_here mem) 136 9 ((N_X10_here mem) 136 7)) 136 8 0)) 136 9)) then ((F_X10_fails (ax_wh (f_X10_takeNumber_42 p0 p1 ((R_X10_here mem))) (241) (ax_u (ax_u (N_X10_here mem) 136 9 ((N_X10_here mem) 136 7)) 136 8 0)) 2 ((ax_wh (f_X10_takeNumber_42 p0 p1 ((R_X10_here mem))) (241) (ax_u (ax_u (N_X10_here mem) 136 9 ((N_X10_here mem) 136 7)) 136 8 0)) 136 9)).1, (F_X10_fails (ax_wh (f_X10_takeNumber_42 p0 p1 ((R_X10_here mem))) (241) (ax_u (ax_u (N_X10_here mem) 136 9 ((N_X10_here mem) 136 7)) 136 8 0)) 2 ((ax_wh (f_X10_takeNumber_42 p0 p1 ((R_X10_here mem))) (241) (ax_u (ax_u (N_X10_here mem) 136 9 ((N_X10_here mem) 136 7)) 136 8 0)) 136 9)).2) else (if (F_X10_in (ax_wh (f_X10_takeNumber_42 p0 p1 ((R_X10_here mem))) (241) (ax_u (ax_u (N_X10_here mem) 136 9 ((N_X10_here mem) 136 7)) 136 8 0)) ((ax_wh (f_X10_takeNumber_42 p0 p1 ((R_X10_here mem))) (241) (ax_u (ax_u (N_X10_here mem) 136 9 ((N_X10_here mem) 136 7)) 136 8 0)) 136 8).toInt64 p0.toInt64 p1.toInt64) = 0 then ((F_X10_fails (ax_wh (f_X10_takeNumber_42 p0 p1 ((R_X10_here mem))) (241) (ax_u (ax_u (N_X10_here mem) 136 9 ((N_X10_here mem) 136 7)) 136 8 0)) 2 ((ax_wh (f_X10_takeNumber_42 p0 p1 ((R_X10_here mem))) (241) (ax_u (ax_u (N_X10_here mem) 136 9 ((N_X10_here mem) 136 7)) 136 8 0)) 136 9)).1, (F_X10_fails (ax_wh (f_X10_takeNumber_42 p0 p1 ((R_X10_here mem))) (241) (ax_u (ax_u (N_X10_here mem) 136 9 ((N_X10_here mem) 136 7)) 136 8 0)) 2 ((ax_wh (f_X10_takeNumber_42 p0 p1 ((R_X10_here mem))) (241) (ax_u (ax_u (N_X10_here mem) 136 9 ((N_X10_here mem) 136 7)) 136 8 0)) 136 9)).2) else (0, (ax_wh (f_X10_takeNumber_42 p0 p1 ((R_X10_here mem))) (241) (ax_u (ax_u (N_X10_here mem) 136 9 ((N_X10_here mem) 136 7)) 136 8 0))))))
def R_X10_takeNumber (mem : ax_Me) (p0 : Int32) (p1 : Int32) : Int32 := (F_X10_takeNumber mem p0 p1).1
def N_X10_takeNumber (mem : ax_Me) (p0 : Int32) (p1 : Int32) : ax_Me := (F_X10_takeNumber mem p0 p1).2
set_option maxRecDepth 20000 in
theorem lp_X10_takeNumber_42 {G : ax_G} {l : Launch} {Q : Option Value → ax_H → Prop} (p0 : Int32) (p1 : Int32) (v3 : Int32)  : ∀ (n : Nat) (m : ax_Me), (240 - (m 136 7).toNatClampNeg) < n → mt 300 m → AX G l mX10_takeNumber 1 129 [.ref 136, .int p0, .int p1, .int v3] [] 153 0 (ax_hm (ax_wh (f_X10_takeNumber_42 p0 p1 v3) n m)) 153 0 Q → AX G l mX10_takeNumber 1 42 [.ref 136, .int p0, .int p1, .int v3] [] 153 0 (ax_hm m) 153 0 Q := by
  intro n
  induction n with
  | zero =>
    intro m hmu
    exact absurd hmu (Nat.not_lt_zero _)
  | succ n ih =>
    intro m hmu hi hx
    refine ax_aload_n (j := 0) dX10_takeNumber_42 rfl rfl rfl ?_
    refine am_getI flX10_81 dX10_takeNumber_43 rfl is136 rfl ?_
    refine ax_aload_n (j := 0) dX10_takeNumber_46 rfl rfl rfl ?_
    refine am_getI flX10_77 dX10_takeNumber_47 rfl is136 rfl ?_
    refine ax_icmp_ge (tgt := 129) dX10_takeNumber_50 (by decide) rfl (fun c50 => ?_) (fun c50 => ?_)
    · have e1 : f_X10_takeNumber_42 p0 p1 v3 m = none := by simp only [f_X10_takeNumber_42, if_pos c50]
      simp only [ax_wh, e1] at hx
      exact hx
    · refine ax_aload_n (j := 0) dX10_takeNumber_53 rfl rfl rfl ?_
      refine am_getR flX10_16 dX10_takeNumber_54 rfl is136 rfl ?_
      refine ax_aload_n (j := 0) dX10_takeNumber_57 rfl rfl rfl ?_
      refine am_getI flX10_81 dX10_takeNumber_58 rfl is136 rfl ?_
      refine am_iald dX10_takeNumber_61 rfl is139 (mt_vp hi c50) ?_
      refine ax_i2l dX10_takeNumber_62 rfl ?_
      refine ax_ldc2 dX10_takeNumber_63 cnX10_88 rfl ?_
      refine ax_ldc2 dX10_takeNumber_66 cnX10_90 rfl ?_
      refine ad_S3 ksX10_in lkX10_66 dX10_takeNumber_69 rfl (Nat.le_of_ble_eq_true rfl) (Nat.le_of_ble_eq_true rfl) (s_X10_in _ _ _ _) ?_
      refine ax_if_eq (tgt := 129) dX10_takeNumber_72 (by decide) rfl (fun c72 => ?_) (fun c72 => ?_)
      · have e1 : f_X10_takeNumber_42 p0 p1 v3 m = none := by simp only [f_X10_takeNumber_42, if_neg c50, if_pos c72]
        simp only [ax_wh, e1] at hx
        exact hx
      · refine ax_aload_n (j := 0) dX10_takeNumber_75 rfl rfl rfl ?_
        refine ax_aload_n (j := 0) dX10_takeNumber_76 rfl rfl rfl ?_
        refine am_getI flX10_99 dX10_takeNumber_77 rfl is136 rfl ?_
        refine ax_sipush (v := 10000) dX10_takeNumber_80 (by decide) rfl ?_
        refine ax_icmp_le (tgt := 93) dX10_takeNumber_83 (by decide) rfl (fun c83 => ?_) (fun c83 => ?_)
        · refine ax_bipush (v := 10) dX10_takeNumber_93 (by decide) rfl ?_
          refine ax_aload_n (j := 0) dX10_takeNumber_95 rfl rfl rfl ?_
          refine am_getI flX10_99 dX10_takeNumber_96 rfl is136 rfl ?_
          refine ax_imul dX10_takeNumber_99 rfl ?_
          refine ax_aload_n (j := 0) dX10_takeNumber_100 rfl rfl rfl ?_
          refine am_getR flX10_16 dX10_takeNumber_101 rfl is136 rfl ?_
          refine ax_aload_n (j := 0) dX10_takeNumber_104 rfl rfl rfl ?_
          refine am_getI flX10_81 dX10_takeNumber_105 rfl is136 rfl ?_
          refine am_iald dX10_takeNumber_108 rfl is139 (mt_vp hi c50) ?_
          refine ax_iadd dX10_takeNumber_109 rfl ?_
          refine ax_bipush (v := 48) dX10_takeNumber_110 (by decide) rfl ?_
          refine ax_isub dX10_takeNumber_112 rfl ?_
          refine am_putI flX10_99 dX10_takeNumber_113 rfl is136 rfl rfl rfl ?_
          refine ax_aload_n (j := 0) dX10_takeNumber_116 rfl rfl rfl ?_
          refine ax_dup dX10_takeNumber_117 rfl rfl ?_
          refine am_getI flX10_81 dX10_takeNumber_118 rfl is136 rfl ?_
          refine ax_iconst (v := 1) dX10_takeNumber_121 (by decide) rfl ?_
          refine ax_iadd dX10_takeNumber_122 rfl ?_
          refine am_putI flX10_81 dX10_takeNumber_123 rfl is136 rfl rfl rfl ?_
          refine ax_goto (tgt := 42) dX10_takeNumber_126 (by decide) ?_
          have e1 : f_X10_takeNumber_42 p0 p1 v3 m = some (ax_u (ax_u m 136 8 (((10 * (m 136 8)) + (m 139 (m 136 7).toNatClampNeg)) - 48)) 136 7 (((ax_u m 136 8 (((10 * (m 136 8)) + (m 139 (m 136 7).toNatClampNeg)) - 48)) 136 7) + 1)) := by simp only [f_X10_takeNumber_42, if_neg c50, if_neg c72, if_pos c83]
          simp only [ax_wh, e1] at hx
          exact ih ((ax_u (ax_u m 136 8 (((10 * (m 136 8)) + (m 139 (m 136 7).toNatClampNeg)) - 48)) 136 7 (((ax_u m 136 8 (((10 * (m 136 8)) + (m 139 (m 136 7).toNatClampNeg)) - 48)) 136 7) + 1))) (by have q := (mt_in hi (by decide) c50).2; simp only [ax_u_self, ax_u_ne (show ¬ (136 = 136 ∧ 7 = 8) by decide)]; omega) (mt_up8 hi c50) hx
        · refine ax_aload_n (j := 0) dX10_takeNumber_86 rfl rfl rfl ?_
          refine am_getI flX10_99 dX10_takeNumber_87 rfl is136 rfl ?_
          refine ax_goto (tgt := 113) dX10_takeNumber_90 (by decide) ?_
          refine am_putI flX10_99 dX10_takeNumber_113 rfl is136 rfl rfl rfl ?_
          refine ax_aload_n (j := 0) dX10_takeNumber_116 rfl rfl rfl ?_
          refine ax_dup dX10_takeNumber_117 rfl rfl ?_
          refine am_getI flX10_81 dX10_takeNumber_118 rfl is136 rfl ?_
          refine ax_iconst (v := 1) dX10_takeNumber_121 (by decide) rfl ?_
          refine ax_iadd dX10_takeNumber_122 rfl ?_
          refine am_putI flX10_81 dX10_takeNumber_123 rfl is136 rfl rfl rfl ?_
          refine ax_goto (tgt := 42) dX10_takeNumber_126 (by decide) ?_
          have e1 : f_X10_takeNumber_42 p0 p1 v3 m = some (ax_u (ax_u m 136 8 (m 136 8)) 136 7 (((ax_u m 136 8 (m 136 8)) 136 7) + 1)) := by simp only [f_X10_takeNumber_42, if_neg c50, if_neg c72, if_neg c83]
          simp only [ax_wh, e1] at hx
          exact ih ((ax_u (ax_u m 136 8 (m 136 8)) 136 7 (((ax_u m 136 8 (m 136 8)) 136 7) + 1))) (by have q := (mt_in hi (by decide) c50).2; simp only [ax_u_self, ax_u_ne (show ¬ (136 = 136 ∧ 7 = 8) by decide)]; omega) (mt_up8 hi c50) hx
set_option maxRecDepth 20000 in
theorem s_X10_takeNumber {G : ax_G} {l : Launch} (mem : ax_Me) (p0 : Int32) (p1 : Int32) (ht : mt 300 mem) : AD G l 1 mX10_takeNumber [.ref 136, .int p0, .int p1] mem (some (.int (R_X10_takeNumber mem p0 p1))) (N_X10_takeNumber mem p0 p1) := by
  refine ax_start (ls := [.ref 136, .int p0, .int p1, .float 0]) (u := 1) (by decide +kernel) (Nat.le_of_ble_eq_true rfl) (Nat.le_refl _) (Nat.le_refl _) rfl ?_
  refine ax_aload_n (j := 0) dX10_takeNumber_0 rfl rfl rfl ?_
  refine ad_V0 ksX10_here lkX10_84 dX10_takeNumber_1 rfl is136 rfl (Nat.le_of_ble_eq_true rfl) (Nat.le_of_ble_eq_true rfl) (s_X10_here _ ht) ?_
  refine ax_ist3 dX10_takeNumber_4 rfl rfl (Nat.le_of_ble_eq_true rfl) rfl ?_
  refine ax_iload_n (j := 3) dX10_takeNumber_5 rfl rfl rfl ?_
  refine ax_i2l dX10_takeNumber_6 rfl ?_
  refine ax_ldc2 dX10_takeNumber_7 cnX10_88 rfl ?_
  refine ax_ldc2 dX10_takeNumber_10 cnX10_90 rfl ?_
  refine ad_S3 ksX10_in lkX10_66 dX10_takeNumber_13 rfl (Nat.le_of_ble_eq_true rfl) (Nat.le_of_ble_eq_true rfl) (s_X10_in _ _ _ _) ?_
  refine ax_if_ne (tgt := 29) dX10_takeNumber_16 (by decide) rfl (fun c16 => ?_) (fun c16 => ?_)
  · refine ax_aload_n (j := 0) dX10_takeNumber_29 rfl rfl rfl ?_
    refine ax_aload_n (j := 0) dX10_takeNumber_30 rfl rfl rfl ?_
    refine am_getI flX10_81 dX10_takeNumber_31 rfl is136 rfl ?_
    refine am_putI flX10_96 dX10_takeNumber_34 rfl is136 rfl rfl rfl ?_
    refine ax_aload_n (j := 0) dX10_takeNumber_37 rfl rfl rfl ?_
    refine ax_iconst (v := 0) dX10_takeNumber_38 (by decide) rfl ?_
    refine am_putI flX10_99 dX10_takeNumber_39 rfl is136 rfl rfl rfl ?_
    refine lp_X10_takeNumber_42 p0 p1 ((R_X10_here mem))  (241) ((ax_u (ax_u (N_X10_here mem) 136 9 ((N_X10_here mem) 136 7)) 136 8 0)) (by omega) (mt_ne (mt_ne (mt_here ht (by decide)) (by omega) (by omega)) (by omega) (by omega)) ?_
    refine ax_aload_n (j := 0) dX10_takeNumber_129 rfl rfl rfl ?_
    refine am_getI flX10_81 dX10_takeNumber_130 rfl is136 rfl ?_
    refine ax_aload_n (j := 0) dX10_takeNumber_133 rfl rfl rfl ?_
    refine am_getI flX10_96 dX10_takeNumber_134 rfl is136 rfl ?_
    refine ax_isub dX10_takeNumber_137 rfl ?_
    refine ax_iconst (v := 3) dX10_takeNumber_138 (by decide) rfl ?_
    refine ax_icmp_gt (tgt := 157) dX10_takeNumber_139 (by decide) rfl (fun c139 => ?_) (fun c139 => ?_)
    · refine ax_aload_n (j := 0) dX10_takeNumber_157 rfl rfl rfl ?_
      refine ax_iconst (v := 2) dX10_takeNumber_158 (by decide) rfl ?_
      refine ax_aload_n (j := 0) dX10_takeNumber_159 rfl rfl rfl ?_
      refine am_getI flX10_96 dX10_takeNumber_160 rfl is136 rfl ?_
      refine ad_V2 ksX10_fails lkX10_92 dX10_takeNumber_163 rfl is136 rfl (Nat.le_of_ble_eq_true rfl) (Nat.le_of_ble_eq_true rfl) (s_X10_fails _ _ _) ?_
      refine ax_goto (tgt := 170) dX10_takeNumber_166 (by decide) ?_
      exact ax_ireturn rfl dX10_takeNumber_170 ⟨by simp only [R_X10_takeNumber, N_X10_takeNumber, F_X10_takeNumber, if_neg c16, if_pos c139], by simp only [R_X10_takeNumber, N_X10_takeNumber, F_X10_takeNumber, if_neg c16, if_pos c139]⟩
    · refine ax_aload_n (j := 0) dX10_takeNumber_142 rfl rfl rfl ?_
      refine am_getI flX10_99 dX10_takeNumber_143 rfl is136 rfl ?_
      refine ax_i2l dX10_takeNumber_146 rfl ?_
      refine ax_iload_n (j := 1) dX10_takeNumber_147 rfl rfl rfl ?_
      refine ax_i2l dX10_takeNumber_148 rfl ?_
      refine ax_iload_n (j := 2) dX10_takeNumber_149 rfl rfl rfl ?_
      refine ax_i2l dX10_takeNumber_150 rfl ?_
      refine ad_S3 ksX10_in lkX10_66 dX10_takeNumber_151 rfl (Nat.le_of_ble_eq_true rfl) (Nat.le_of_ble_eq_true rfl) (s_X10_in _ _ _ _) ?_
      refine ax_if_ne (tgt := 169) dX10_takeNumber_154 (by decide) rfl (fun c154 => ?_) (fun c154 => ?_)
      · refine ax_iconst (v := 0) dX10_takeNumber_169 (by decide) rfl ?_
        exact ax_ireturn rfl dX10_takeNumber_170 ⟨by simp only [R_X10_takeNumber, N_X10_takeNumber, F_X10_takeNumber, if_neg c16, if_neg c139, if_neg c154], by simp only [R_X10_takeNumber, N_X10_takeNumber, F_X10_takeNumber, if_neg c16, if_neg c139, if_neg c154]⟩
      · refine ax_aload_n (j := 0) dX10_takeNumber_157 rfl rfl rfl ?_
        refine ax_iconst (v := 2) dX10_takeNumber_158 (by decide) rfl ?_
        refine ax_aload_n (j := 0) dX10_takeNumber_159 rfl rfl rfl ?_
        refine am_getI flX10_96 dX10_takeNumber_160 rfl is136 rfl ?_
        refine ad_V2 ksX10_fails lkX10_92 dX10_takeNumber_163 rfl is136 rfl (Nat.le_of_ble_eq_true rfl) (Nat.le_of_ble_eq_true rfl) (s_X10_fails _ _ _) ?_
        refine ax_goto (tgt := 170) dX10_takeNumber_166 (by decide) ?_
        exact ax_ireturn rfl dX10_takeNumber_170 ⟨by simp only [R_X10_takeNumber, N_X10_takeNumber, F_X10_takeNumber, if_neg c16, if_neg c139, if_pos c154], by simp only [R_X10_takeNumber, N_X10_takeNumber, F_X10_takeNumber, if_neg c16, if_neg c139, if_pos c154]⟩
  · refine ax_aload_n (j := 0) dX10_takeNumber_19 rfl rfl rfl ?_
    refine ax_iconst (v := 1) dX10_takeNumber_20 (by decide) rfl ?_
    refine ax_aload_n (j := 0) dX10_takeNumber_21 rfl rfl rfl ?_
    refine am_getI flX10_81 dX10_takeNumber_22 rfl is136 rfl ?_
    refine ad_V2 ksX10_fails lkX10_92 dX10_takeNumber_25 rfl is136 rfl (Nat.le_of_ble_eq_true rfl) (Nat.le_of_ble_eq_true rfl) (s_X10_fails _ _ _) ?_
    exact ax_ireturn rfl dX10_takeNumber_28 ⟨by simp only [R_X10_takeNumber, N_X10_takeNumber, F_X10_takeNumber, if_pos c16], by simp only [R_X10_takeNumber, N_X10_takeNumber, F_X10_takeNumber, if_pos c16]⟩

