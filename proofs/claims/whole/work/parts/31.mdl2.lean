/-! ===== the reference: what it does, tries, sees ===== -/
theorem ax_it_ind {α : Type} {f : Nat → α → α} (P : Nat → α → Prop) : ∀ (n j : Nat) (s : α), P j s → (∀ k s, j ≤ k → k < j + n → P k s → P (k + 1) (f k s)) → P (j + n) (ax_it f n j s)
  | 0, j, s, h, _ => h
  | n + 1, j, s, h, hs => by
    have := ax_it_ind P n (j + 1) (f j s) (hs j s (Nat.le_refl _) (by omega) h) (fun k s h1 h2 => hs k s (by omega) (by omega))
    rw [show j + 1 + n = j + (n + 1) by omega] at this
    exact this
theorem ax_it_inv {α : Type} {f : Nat → α → α} (P : α → Prop) (hs : ∀ k s, P s → P (f k s)) (n j : Nat) (s : α) (h : P s) : P (ax_it f n j s) := ax_it_ind (fun _ => P) n j s h (fun k s _ _ => hs k s)
theorem c1620 : (1620 : Int32).toNatClampNeg = 1620 := rfl
theorem c81 : (81 : Int32).toNatClampNeg = 81 := rfl
theorem c64 : (64 : Int32).toNatClampNeg = 64 := rfl
theorem c256 : (256 : Int32).toNatClampNeg = 256 := rfl
theorem c8 : (8 : Int32).toNatClampNeg = 8 := rfl
theorem in_past {u : Int32} {j : Nat} (hu : vp_in u 20) (hj : j < 81) : vp_in ((81 * u) + nI j) 1620 ∧ ((81 * u) + nI j).toNatClampNeg = 81 * u.toNatClampNeg + j := by
  obtain ⟨i, hi, rfl⟩ := vp_in_of hu (by decide)
  rw [show (81 : Int32) = nI 81 from rfl, pk_mul, nI_add, nI_clamp (by omega), nI_clamp (by omega)]
  exact ⟨vp_in_nI (by omega) (by decide), rfl⟩
def mu (m : ax_Me) : Prop := ¬ m 136 14 < 0 ∧ m 136 14 ≤ 20
theorem u_lt {m : ax_Me} (h : mu m) (c : ¬ m 136 14 = 20) : vp_in (m 136 14) 20 := by
  obtain ⟨h1, h2⟩ := h
  rw [Int32.lt_iff_toInt_lt] at h1
  rw [Int32.le_iff_toInt_le] at h2
  have e0 : (0 : Int32).toInt = 0 := rfl
  have e9 : (20 : Int32).toInt = 20 := rfl
  have h3 : ¬ (m 136 14).toInt = (20 : Int32).toInt := fun q => c (Int32.toInt_inj.mp q)
  rw [vp_in_iff]
  omega
theorem u_dec {m : ax_Me} (h : mu m) (c : ¬ m 136 14 = 0) : vp_in (m 136 14 - 1) 20 ∧ (m 136 14 - 1).toNatClampNeg = (m 136 14).toNatClampNeg - 1 ∧ 1 ≤ (m 136 14).toNatClampNeg := by
  obtain ⟨k, hk, e⟩ := nI_of2 (M := 20) (n := 20) rfl h.1 h.2
  rw [e] at c ⊢
  cases k with
  | zero => exact absurd rfl c
  | succ k =>
    rw [nI_pred, nI_clamp (by omega), nI_clamp (by omega)]
    exact ⟨vp_in_nI (by omega) (by decide), by omega, by omega⟩
def f_X10_remember_52 (mem : ax_Me)   (j : Nat) (s : ax_Me) : ax_Me :=
  match s with
  | m => (ax_u m 143 ((81 * (m 136 14)) + (nI j)).toNatClampNeg (m 138 (nI j).toNatClampNeg))
def f_X10_remember_12 (mem : ax_Me)   (j : Nat) (s : ax_Me) : ax_Me :=
  match s with
  | m => (ax_u m 143 ((nI j) - 81).toNatClampNeg (m 143 (nI j).toNatClampNeg))
def F_X10_remember (mem : ax_Me)  : ax_Me :=
  (if (mem 136 14) = 20 then (ax_u (ax_it (f_X10_remember_52 ((ax_u (ax_it (f_X10_remember_12 mem) ((1620 : Int32).toNatClampNeg - 81) (81) mem) 136 14 (((ax_it (f_X10_remember_12 mem) ((1620 : Int32).toNatClampNeg - 81) (81) mem) 136 14) - 1)))) ((81 : Int32).toNatClampNeg) (0) (ax_u (ax_it (f_X10_remember_12 mem) ((1620 : Int32).toNatClampNeg - 81) (81) mem) 136 14 (((ax_it (f_X10_remember_12 mem) ((1620 : Int32).toNatClampNeg - 81) (81) mem) 136 14) - 1))) 136 14 (((ax_it (f_X10_remember_52 ((ax_u (ax_it (f_X10_remember_12 mem) ((1620 : Int32).toNatClampNeg - 81) (81) mem) 136 14 (((ax_it (f_X10_remember_12 mem) ((1620 : Int32).toNatClampNeg - 81) (81) mem) 136 14) - 1)))) ((81 : Int32).toNatClampNeg) (0) (ax_u (ax_it (f_X10_remember_12 mem) ((1620 : Int32).toNatClampNeg - 81) (81) mem) 136 14 (((ax_it (f_X10_remember_12 mem) ((1620 : Int32).toNatClampNeg - 81) (81) mem) 136 14) - 1))) 136 14) + 1)) else (ax_u (ax_it (f_X10_remember_52 mem) ((81 : Int32).toNatClampNeg) (0) mem) 136 14 (((ax_it (f_X10_remember_52 mem) ((81 : Int32).toNatClampNeg) (0) mem) 136 14) + 1)))
set_option maxRecDepth 20000 in
theorem lp_X10_remember_52 {G : ax_G} {l : Launch} {Q : Option Value → ax_H → Prop} (mem : ax_Me)   (hv : vp_in (mem 136 14) 20) : ∀ (n j : Nat) (m : ax_Me), j + n = (81 : Int32).toNatClampNeg → m 136 = mem 136 → AX G l mX10_remember 0 84 [.ref 136, .int (nI ((81 : Int32).toNatClampNeg))] [] 153 0 (ax_hm (ax_it (f_X10_remember_52 mem) n j m)) 153 0 Q → AX G l mX10_remember 0 52 [.ref 136, .int (nI j)] [] 153 0 (ax_hm m) 153 0 Q := by
  intro n
  induction n with
  | zero =>
    intro j m hj hi hx
    refine ax_iload_n (j := 1) dX10_remember_52 rfl rfl rfl ?_
    refine ax_bipush (v := 81) dX10_remember_53 (by decide) rfl ?_
    refine ax_icmp_ge (tgt := 84) dX10_remember_55 (by decide) rfl (fun c55 => ?_) (fun c55 => ?_)
    · have q := hx
      simp only [ax_it] at q
      rw [show ((81 : Int32).toNatClampNeg) = j by omega] at q
      exact q
    · exact absurd (cl_ge (by omega)) c55
  | succ n ih =>
    intro j m hj hi hx
    refine ax_iload_n (j := 1) dX10_remember_52 rfl rfl rfl ?_
    refine ax_bipush (v := 81) dX10_remember_53 (by decide) rfl ?_
    refine ax_icmp_ge (tgt := 84) dX10_remember_55 (by decide) rfl (fun c55 => ?_) (fun c55 => ?_)
    · exact absurd c55 (cl_nle (by omega))
    · refine ax_aload_n (j := 0) dX10_remember_58 rfl rfl rfl ?_
      refine am_getR flX10_33 dX10_remember_59 rfl is136 rfl ?_
      refine ax_bipush (v := 81) dX10_remember_62 (by decide) rfl ?_
      refine ax_aload_n (j := 0) dX10_remember_64 rfl rfl rfl ?_
      refine am_getI flX10_130 dX10_remember_65 rfl is136 rfl ?_
      refine ax_imul dX10_remember_68 rfl ?_
      refine ax_iload_n (j := 1) dX10_remember_69 rfl rfl rfl ?_
      refine ax_iadd dX10_remember_70 rfl ?_
      refine ax_aload_n (j := 0) dX10_remember_71 rfl rfl rfl ?_
      refine am_getR flX10_13 dX10_remember_72 rfl is136 rfl ?_
      refine ax_iload_n (j := 1) dX10_remember_75 rfl rfl rfl ?_
      refine am_iald dX10_remember_76 rfl is138 (vp_in_nI (by have := c81; omega) (by decide)) ?_
      refine am_iast dX10_remember_77 rfl is143 (by rw [hi]; exact (in_past hv (by have := c81; omega)).1) ?_
      refine ax_iinc1 (v := nI (j + 1)) dX10_remember_78 rfl (cl_inc j) (Nat.le_of_ble_eq_true rfl) rfl ?_
      refine ax_goto (tgt := 52) dX10_remember_81 (by decide) ?_
      have e1 : f_X10_remember_52 mem j m = (ax_u m 143 ((81 * (m 136 14)) + (nI j)).toNatClampNeg (m 138 (nI j).toNatClampNeg)) := by simp only [f_X10_remember_52]
      simp only [ax_it, e1] at hx
      exact ih (j + 1) ((ax_u m 143 ((81 * (m 136 14)) + (nI j)).toNatClampNeg (m 138 (nI j).toNatClampNeg))) (by omega) (by rw [ax_u_off (by decide)]; exact hi) hx
set_option maxRecDepth 20000 in
theorem lp_X10_remember_12 {G : ax_G} {l : Launch} {Q : Option Value → ax_H → Prop} (mem : ax_Me)    : ∀ (n j : Nat) (m : ax_Me), j + n = (1620 : Int32).toNatClampNeg → (81 ≤ j ∧ m 136 = mem 136) → AX G l mX10_remember 0 40 [.ref 136, .int (nI ((1620 : Int32).toNatClampNeg))] [] 153 0 (ax_hm (ax_it (f_X10_remember_12 mem) n j m)) 153 0 Q → AX G l mX10_remember 0 12 [.ref 136, .int (nI j)] [] 153 0 (ax_hm m) 153 0 Q := by
  intro n
  induction n with
  | zero =>
    intro j m hj hi hx
    refine ax_iload_n (j := 1) dX10_remember_12 rfl rfl rfl ?_
    refine ax_sipush (v := 1620) dX10_remember_13 (by decide) rfl ?_
    refine ax_icmp_ge (tgt := 40) dX10_remember_16 (by decide) rfl (fun c16 => ?_) (fun c16 => ?_)
    · have q := hx
      simp only [ax_it] at q
      rw [show ((1620 : Int32).toNatClampNeg) = j by omega] at q
      exact q
    · exact absurd (cl_ge (by omega)) c16
  | succ n ih =>
    intro j m hj hi hx
    refine ax_iload_n (j := 1) dX10_remember_12 rfl rfl rfl ?_
    refine ax_sipush (v := 1620) dX10_remember_13 (by decide) rfl ?_
    refine ax_icmp_ge (tgt := 40) dX10_remember_16 (by decide) rfl (fun c16 => ?_) (fun c16 => ?_)
    · exact absurd c16 (cl_nle (by omega))
    · refine ax_aload_n (j := 0) dX10_remember_19 rfl rfl rfl ?_
      refine am_getR flX10_33 dX10_remember_20 rfl is136 rfl ?_
      refine ax_iload_n (j := 1) dX10_remember_23 rfl rfl rfl ?_
      refine ax_bipush (v := 81) dX10_remember_24 (by decide) rfl ?_
      refine ax_isub dX10_remember_26 rfl ?_
      refine ax_aload_n (j := 0) dX10_remember_27 rfl rfl rfl ?_
      refine am_getR flX10_33 dX10_remember_28 rfl is136 rfl ?_
      refine ax_iload_n (j := 1) dX10_remember_31 rfl rfl rfl ?_
      refine am_iald dX10_remember_32 rfl is143 (vp_in_nI (by have := c1620; omega) (by decide)) ?_
      refine am_iast dX10_remember_33 rfl is143 (by rw [show nI j - 81 = nI (j - 81) from pk_sub (a := j) (b := 81) hi.1]; exact vp_in_nI (by have := c1620; omega) (by decide)) ?_
      refine ax_iinc1 (v := nI (j + 1)) dX10_remember_34 rfl (cl_inc j) (Nat.le_of_ble_eq_true rfl) rfl ?_
      refine ax_goto (tgt := 12) dX10_remember_37 (by decide) ?_
      have e1 : f_X10_remember_12 mem j m = (ax_u m 143 ((nI j) - 81).toNatClampNeg (m 143 (nI j).toNatClampNeg)) := by simp only [f_X10_remember_12]
      simp only [ax_it, e1] at hx
      exact ih (j + 1) ((ax_u m 143 ((nI j) - 81).toNatClampNeg (m 143 (nI j).toNatClampNeg))) (by omega) ⟨by omega, by rw [ax_u_off (by decide)]; exact hi.2⟩ hx
theorem shift_136 (m : ax_Me) (n j : Nat) : (ax_it (f_X10_remember_12 m) n j m) 136 = m 136 := by
  refine ax_it_inv (fun s => s 136 = m 136) (fun k s hs => ?_) n j m rfl
  unfold f_X10_remember_12
  try dsimp only
  rw [ax_u_off (by decide)]
  exact hs
set_option maxRecDepth 20000 in
theorem s_X10_remember {G : ax_G} {l : Launch} (mem : ax_Me)  (hu : mu mem) : AD G l 0 mX10_remember [.ref 136] mem none (F_X10_remember mem) := by
  refine ax_start (ls := [.ref 136, .float 0]) (u := 1) (by decide +kernel) (Nat.le_of_ble_eq_true rfl) (Nat.le_refl _) (Nat.le_refl _) rfl ?_
  refine ax_aload_n (j := 0) dX10_remember_0 rfl rfl rfl ?_
  refine am_getI flX10_130 dX10_remember_1 rfl is136 rfl ?_
  refine ax_bipush (v := 20) dX10_remember_4 (by decide) rfl ?_
  refine ax_icmp_ne (tgt := 50) dX10_remember_6 (by decide) rfl (fun c6 => ?_) (fun c6 => ?_)
  · refine ax_iconst (v := 0) dX10_remember_50 (by decide) rfl ?_
    refine ax_ist1 dX10_remember_51 rfl rfl (Nat.le_of_ble_eq_true rfl) rfl ?_
    refine lp_X10_remember_52 mem    (u_lt hu c6) ((81 : Int32).toNatClampNeg) (0) (mem) (Nat.zero_add _) rfl ?_
    refine ax_aload_n (j := 0) dX10_remember_84 rfl rfl rfl ?_
    refine ax_dup dX10_remember_85 rfl rfl ?_
    refine am_getI flX10_130 dX10_remember_86 rfl is136 rfl ?_
    refine ax_iconst (v := 1) dX10_remember_89 (by decide) rfl ?_
    refine ax_iadd dX10_remember_90 rfl ?_
    refine am_putI flX10_130 dX10_remember_91 rfl is136 rfl rfl rfl ?_
    exact ax_vreturn rfl dX10_remember_94 ⟨rfl, by simp only [F_X10_remember, if_neg c6]⟩
  · refine ax_bipush (v := 81) dX10_remember_9 (by decide) rfl ?_
    refine ax_ist1 dX10_remember_11 rfl rfl (Nat.le_of_ble_eq_true rfl) rfl ?_
    refine lp_X10_remember_12 mem     ((1620 : Int32).toNatClampNeg - 81) (81) (mem) (by decide) ⟨Nat.le_refl _, rfl⟩ ?_
    refine ax_aload_n (j := 0) dX10_remember_40 rfl rfl rfl ?_
    refine ax_dup dX10_remember_41 rfl rfl ?_
    refine am_getI flX10_130 dX10_remember_42 rfl is136 rfl ?_
    refine ax_iconst (v := 1) dX10_remember_45 (by decide) rfl ?_
    refine ax_isub dX10_remember_46 rfl ?_
    refine am_putI flX10_130 dX10_remember_47 rfl is136 rfl rfl rfl ?_
    refine ax_iconst (v := 0) dX10_remember_50 (by decide) rfl ?_
    refine ax_ist1 dX10_remember_51 rfl rfl (Nat.le_of_ble_eq_true rfl) rfl ?_
    refine lp_X10_remember_52 ((ax_u (ax_it (f_X10_remember_12 mem) ((1620 : Int32).toNatClampNeg - 81) (81) mem) 136 14 (((ax_it (f_X10_remember_12 mem) ((1620 : Int32).toNatClampNeg - 81) (81) mem) 136 14) - 1)))    (by rw [ax_u_self, shift_136, c6]; unfold vp_in; decide) ((81 : Int32).toNatClampNeg) (0) ((ax_u (ax_it (f_X10_remember_12 mem) ((1620 : Int32).toNatClampNeg - 81) (81) mem) 136 14 (((ax_it (f_X10_remember_12 mem) ((1620 : Int32).toNatClampNeg - 81) (81) mem) 136 14) - 1))) (Nat.zero_add _) rfl ?_
    refine ax_aload_n (j := 0) dX10_remember_84 rfl rfl rfl ?_
    refine ax_dup dX10_remember_85 rfl rfl ?_
    refine am_getI flX10_130 dX10_remember_86 rfl is136 rfl ?_
    refine ax_iconst (v := 1) dX10_remember_89 (by decide) rfl ?_
    refine ax_iadd dX10_remember_90 rfl ?_
    refine am_putI flX10_130 dX10_remember_91 rfl is136 rfl rfl rfl ?_
    exact ax_vreturn rfl dX10_remember_94 ⟨rfl, by simp only [F_X10_remember, if_pos c6]⟩

theorem rem_136 (m : ax_Me) (k : Nat) (hk : k ≠ 14) : F_X10_remember m 136 k = m 136 k := by
  have key : ∀ (m1 : ax_Me) (n j : Nat), (ax_it (f_X10_remember_52 m1) n j m1) 136 = m1 136 := by
    intro m1 n j
    refine ax_it_inv (fun s => s 136 = m1 136) (fun k s hs => ?_) n j m1 rfl
    unfold f_X10_remember_52
    try dsimp only
    rw [ax_u_off (by decide)]
    exact hs
  unfold F_X10_remember
  split
  · rw [ax_u_ne (by omega), key, ax_u_ne (by omega), shift_136]
  · rw [ax_u_ne (by omega), key]
theorem mp_rem {m : ax_Me} (h : mp m) : mp (F_X10_remember m) := mp_off h (rem_136 m 0 (by decide))
def f_X10_pass_2 (mem : ax_Me)   (j : Nat) (s : ax_Me) : ax_Me :=
  match s with
  | m => (if (m 137 (nI j).toNatClampNeg) ≤ 0 then (ax_u m 138 (nI j).toNatClampNeg ((m 138 (nI j).toNatClampNeg) ^^^ 0)) else (ax_u m 138 (nI j).toNatClampNeg ((m 138 (nI j).toNatClampNeg) ^^^ (1 <<< (((((m 138 (80 : Int32).toNatClampNeg) * (m 137 (nI j).toNatClampNeg)) + (nI j)) - (((m 138 (80 : Int32).toNatClampNeg) * (m 137 (nI j).toNatClampNeg)) + (nI j)) / 8 * 8) &&& 31)))))
def F_X10_pass (mem : ax_Me)  : ax_Me :=
  (ax_u (ax_it (f_X10_pass_2 mem) (((mem 136 0) : Int32).toNatClampNeg) (0) mem) 138 (80 : Int32).toNatClampNeg (((ax_it (f_X10_pass_2 mem) (((mem 136 0) : Int32).toNatClampNeg) (0) mem) 138 (80 : Int32).toNatClampNeg) + 1))
set_option maxRecDepth 20000 in
theorem lp_X10_pass_2 {G : ax_G} {l : Launch} {Q : Option Value → ax_H → Prop} (mem : ax_Me)   (hc : mp mem) : ∀ (n j : Nat) (m : ax_Me), j + n = ((mem 136 0) : Int32).toNatClampNeg → m 136 0 = mem 136 0 → AX G l mX10_pass 0 61 [.ref 136, .int (nI (((mem 136 0) : Int32).toNatClampNeg)), .float 0] [] 153 0 (ax_hm (ax_it (f_X10_pass_2 mem) n j m)) 153 0 Q → AX G l mX10_pass 0 2 [.ref 136, .int (nI j), .float 0] [] 153 0 (ax_hm m) 153 0 Q := by
  intro n
  induction n with
  | zero =>
    intro j m hj hi hx
    refine ax_iload_n (j := 1) dX10_pass_2 rfl rfl rfl ?_
    refine ax_aload_n (j := 0) dX10_pass_3 rfl rfl rfl ?_
    refine am_getI flX10_63 dX10_pass_4 rfl is136 rfl ?_
    refine ax_icmp_ge (tgt := 61) dX10_pass_7 (by decide) rfl (fun c7 => ?_) (fun c7 => ?_)
    · have q := hx
      simp only [ax_it] at q
      rw [show (((mem 136 0) : Int32).toNatClampNeg) = j by omega] at q
      exact q
    · exact absurd (cl_ge (by rw [hi]; omega)) c7
  | succ n ih =>
    intro j m hj hi hx
    refine ax_iload_n (j := 1) dX10_pass_2 rfl rfl rfl ?_
    refine ax_aload_n (j := 0) dX10_pass_3 rfl rfl rfl ?_
    refine am_getI flX10_63 dX10_pass_4 rfl is136 rfl ?_
    refine ax_icmp_ge (tgt := 61) dX10_pass_7 (by decide) rfl (fun c7 => ?_) (fun c7 => ?_)
    · exact absurd c7 (cl_nle (by rw [hi]; omega))
    · refine ax_aload_n (j := 0) dX10_pass_10 rfl rfl rfl ?_
      refine am_getR flX10_13 dX10_pass_11 rfl is136 rfl ?_
      refine ax_bipush (v := 80) dX10_pass_14 (by decide) rfl ?_
      refine am_iald dX10_pass_16 rfl is138 (by unfold vp_in; decide) ?_
      refine ax_aload_n (j := 0) dX10_pass_17 rfl rfl rfl ?_
      refine am_getR flX10_7 dX10_pass_18 rfl is136 rfl ?_
      refine ax_iload_n (j := 1) dX10_pass_21 rfl rfl rfl ?_
      refine am_iald dX10_pass_22 rfl is137 (vp_in_nI (by have := hc.le; omega) (by decide)) ?_
      refine ax_imul dX10_pass_23 rfl ?_
      refine ax_iload_n (j := 1) dX10_pass_24 rfl rfl rfl ?_
      refine ax_iadd dX10_pass_25 rfl ?_
      refine ax_bipush (v := 8) dX10_pass_26 (by decide) rfl ?_
      refine ax_irem dX10_pass_28 (by decide) rfl ?_
      refine ax_ist2 dX10_pass_29 rfl rfl (Nat.le_of_ble_eq_true rfl) rfl ?_
      refine ax_aload_n (j := 0) dX10_pass_30 rfl rfl rfl ?_
      refine am_getR flX10_13 dX10_pass_31 rfl is136 rfl ?_
      refine ax_iload_n (j := 1) dX10_pass_34 rfl rfl rfl ?_
      refine ax_dup2 dX10_pass_35 rfl rfl rfl ?_
      refine am_iald dX10_pass_36 rfl is138 (vp_in_nI (by have := hc.le; omega) (by decide)) ?_
      refine ax_aload_n (j := 0) dX10_pass_37 rfl rfl rfl ?_
      refine am_getR flX10_7 dX10_pass_38 rfl is136 rfl ?_
      refine ax_iload_n (j := 1) dX10_pass_41 rfl rfl rfl ?_
      refine am_iald dX10_pass_42 rfl is137 (vp_in_nI (by have := hc.le; omega) (by decide)) ?_
      refine ax_if_le (tgt := 52) dX10_pass_43 (by decide) rfl (fun c43 => ?_) (fun c43 => ?_)
      · refine ax_iconst (v := 0) dX10_pass_52 (by decide) rfl ?_
        refine ax_ixor dX10_pass_53 rfl ?_
        refine am_iast dX10_pass_54 rfl is138 (vp_in_nI (by have := hc.le; omega) (by decide)) ?_
        refine ax_iinc1 (v := nI (j + 1)) dX10_pass_55 rfl (cl_inc j) (Nat.le_of_ble_eq_true rfl) rfl ?_
        refine ax_goto (tgt := 2) dX10_pass_58 (by decide) ?_
        refine ax_fg2 ?_
        have e1 : f_X10_pass_2 mem j m = (ax_u m 138 (nI j).toNatClampNeg ((m 138 (nI j).toNatClampNeg) ^^^ 0)) := by simp only [f_X10_pass_2, if_pos c43]
        simp only [ax_it, e1] at hx
        exact ih (j + 1) ((ax_u m 138 (nI j).toNatClampNeg ((m 138 (nI j).toNatClampNeg) ^^^ 0))) (by omega) (by rw [ax_u_off (by decide)]; exact hi) hx
      · refine ax_iconst (v := 1) dX10_pass_46 (by decide) rfl ?_
        refine ax_iload_n (j := 2) dX10_pass_47 rfl rfl rfl ?_
        refine ax_ishl dX10_pass_48 rfl ?_
        refine ax_goto (tgt := 53) dX10_pass_49 (by decide) ?_
        refine ax_ixor dX10_pass_53 rfl ?_
        refine am_iast dX10_pass_54 rfl is138 (vp_in_nI (by have := hc.le; omega) (by decide)) ?_
        refine ax_iinc1 (v := nI (j + 1)) dX10_pass_55 rfl (cl_inc j) (Nat.le_of_ble_eq_true rfl) rfl ?_
        refine ax_goto (tgt := 2) dX10_pass_58 (by decide) ?_
        refine ax_fg2 ?_
        have e1 : f_X10_pass_2 mem j m = (ax_u m 138 (nI j).toNatClampNeg ((m 138 (nI j).toNatClampNeg) ^^^ (1 <<< (((((m 138 (80 : Int32).toNatClampNeg) * (m 137 (nI j).toNatClampNeg)) + (nI j)) - (((m 138 (80 : Int32).toNatClampNeg) * (m 137 (nI j).toNatClampNeg)) + (nI j)) / 8 * 8) &&& 31)))) := by simp only [f_X10_pass_2, if_neg c43]
        simp only [ax_it, e1] at hx
        exact ih (j + 1) ((ax_u m 138 (nI j).toNatClampNeg ((m 138 (nI j).toNatClampNeg) ^^^ (1 <<< (((((m 138 (80 : Int32).toNatClampNeg) * (m 137 (nI j).toNatClampNeg)) + (nI j)) - (((m 138 (80 : Int32).toNatClampNeg) * (m 137 (nI j).toNatClampNeg)) + (nI j)) / 8 * 8) &&& 31))))) (by omega) (by rw [ax_u_off (by decide)]; exact hi) hx
set_option maxRecDepth 20000 in
theorem s_X10_pass {G : ax_G} {l : Launch} (mem : ax_Me)  (hc : mp mem) : AD G l 0 mX10_pass [.ref 136] mem none (F_X10_pass mem) := by
  refine ax_start (ls := [.ref 136, .float 0, .float 0]) (u := 2) (by decide +kernel) (Nat.le_of_ble_eq_true rfl) (Nat.le_refl _) (Nat.le_refl _) rfl ?_
  refine ax_iconst (v := 0) dX10_pass_0 (by decide) rfl ?_
  refine ax_ist1 dX10_pass_1 rfl rfl (Nat.le_of_ble_eq_true rfl) rfl ?_
  refine lp_X10_pass_2 mem   hc  (((mem 136 0) : Int32).toNatClampNeg) (0) (mem) (Nat.zero_add _) rfl ?_
  refine ax_aload_n (j := 0) dX10_pass_61 rfl rfl rfl ?_
  refine am_getR flX10_13 dX10_pass_62 rfl is136 rfl ?_
  refine ax_bipush (v := 80) dX10_pass_65 (by decide) rfl ?_
  refine ax_dup2 dX10_pass_67 rfl rfl rfl ?_
  refine am_iald dX10_pass_68 rfl is138 (by unfold vp_in; decide) ?_
  refine ax_iconst (v := 1) dX10_pass_69 (by decide) rfl ?_
  refine ax_iadd dX10_pass_70 rfl ?_
  refine am_iast dX10_pass_71 rfl is138 (by unfold vp_in; decide) ?_
  exact ax_vreturn rfl dX10_pass_72 ⟨rfl, by simp only [F_X10_pass]⟩

theorem pass_136 (m : ax_Me) : F_X10_pass m 136 = m 136 := by
  unfold F_X10_pass
  rw [ax_u_off (by decide)]
  refine ax_it_inv (fun s => s 136 = m 136) (fun k s hs => ?_) _ _ m rfl
  unfold f_X10_pass_2
  try dsimp only
  split <;> (rw [ax_u_off (by decide)]; exact hs)
theorem mp_pass {m : ax_Me} (h : mp m) : mp (F_X10_pass m) := mp_off h (by rw [pass_136])
def f_X10_year_18 (mem : ax_Me) (p0 : Int32) (v2 : Int32) (j : Nat) (s : ax_Me) : ax_Me :=
  match s with
  | m => (F_X10_pass m)
def F_X10_year (mem : ax_Me) (p0 : Int32) : Int32 × ax_Me :=
  (if (F_X10_yearsRefused mem p0) = 0 then (((ax_it (f_X10_year_18 ((F_X10_remember mem)) p0 ((F_X10_yearsRefused mem p0))) ((p0 : Int32).toNatClampNeg) (0) (F_X10_remember mem)) 138 (80 : Int32).toNatClampNeg), (ax_it (f_X10_year_18 ((F_X10_remember mem)) p0 ((F_X10_yearsRefused mem p0))) ((p0 : Int32).toNatClampNeg) (0) (F_X10_remember mem))) else ((F_X10_yearsRefused mem p0), mem))
set_option maxRecDepth 20000 in
theorem lp_X10_year_18 {G : ax_G} {l : Launch} {Q : Option Value → ax_H → Prop} (mem : ax_Me) (p0 : Int32) (v2 : Int32)  : ∀ (n j : Nat) (m : ax_Me), j + n = (p0 : Int32).toNatClampNeg → mp m → AX G l mX10_year 2 33 [.ref 136, .int p0, .int v2, .int (nI ((p0 : Int32).toNatClampNeg))] [] 153 0 (ax_hm (ax_it (f_X10_year_18 mem p0 v2) n j m)) 153 0 Q → AX G l mX10_year 2 18 [.ref 136, .int p0, .int v2, .int (nI j)] [] 153 0 (ax_hm m) 153 0 Q := by
  intro n
  induction n with
  | zero =>
    intro j m hj hi hx
    refine ax_iload_n (j := 3) dX10_year_18 rfl rfl rfl ?_
    refine ax_iload_n (j := 1) dX10_year_19 rfl rfl rfl ?_
    refine ax_icmp_ge (tgt := 33) dX10_year_20 (by decide) rfl (fun c20 => ?_) (fun c20 => ?_)
    · have q := hx
      simp only [ax_it] at q
      rw [show ((p0 : Int32).toNatClampNeg) = j by omega] at q
      exact q
    · exact absurd (cl_ge (by omega)) c20
  | succ n ih =>
    intro j m hj hi hx
    refine ax_iload_n (j := 3) dX10_year_18 rfl rfl rfl ?_
    refine ax_iload_n (j := 1) dX10_year_19 rfl rfl rfl ?_
    refine ax_icmp_ge (tgt := 33) dX10_year_20 (by decide) rfl (fun c20 => ?_) (fun c20 => ?_)
    · exact absurd c20 (cl_nle (by omega))
    · refine ax_aload_n (j := 0) dX10_year_23 rfl rfl rfl ?_
      refine ad_V0v ksX10_pass lkX10_178 dX10_year_24 rfl is136 rfl (Nat.le_of_ble_eq_true rfl) (Nat.le_of_ble_eq_true rfl) (s_X10_pass _ hi) ?_
      refine ax_iinc3 (v := nI (j + 1)) dX10_year_27 rfl (cl_inc j) (Nat.le_of_ble_eq_true rfl) rfl ?_
      refine ax_goto (tgt := 18) dX10_year_30 (by decide) ?_
      have e1 : f_X10_year_18 mem p0 v2 j m = (F_X10_pass m) := by simp only [f_X10_year_18]
      simp only [ax_it, e1] at hx
      exact ih (j + 1) ((F_X10_pass m)) (by omega) (mp_pass hi) hx
set_option maxRecDepth 20000 in
theorem s_X10_year {G : ax_G} {l : Launch} (mem : ax_Me) (p0 : Int32) (hc : mp mem) (hu : mu mem) : AD G l 2 mX10_year [.ref 136, .int p0] mem (some (.int (F_X10_year mem p0).1)) (F_X10_year mem p0).2 := by
  refine ax_start (ls := [.ref 136, .int p0, .float 0, .float 0]) (u := 2) (by decide +kernel) (Nat.le_of_ble_eq_true rfl) (Nat.le_refl _) (Nat.le_refl _) rfl ?_
  refine ax_aload_n (j := 0) dX10_year_0 rfl rfl rfl ?_
  refine ax_iload_n (j := 1) dX10_year_1 rfl rfl rfl ?_
  refine ad_V1 ksX10_yearsRefused lkX10_172 dX10_year_2 rfl is136 rfl (Nat.le_of_ble_eq_true rfl) (Nat.le_of_ble_eq_true rfl) (s_X10_yearsRefused _ _) ?_
  refine ax_ist2 dX10_year_5 rfl rfl (Nat.le_of_ble_eq_true rfl) rfl ?_
  refine ax_iload_n (j := 2) dX10_year_6 rfl rfl rfl ?_
  refine ax_if_eq (tgt := 12) dX10_year_7 (by decide) rfl (fun c7 => ?_) (fun c7 => ?_)
  · refine ax_aload_n (j := 0) dX10_year_12 rfl rfl rfl ?_
    refine ad_V0v ksX10_remember lkX10_175 dX10_year_13 rfl is136 rfl (Nat.le_of_ble_eq_true rfl) (Nat.le_of_ble_eq_true rfl) (s_X10_remember _ hu) ?_
    refine ax_iconst (v := 0) dX10_year_16 (by decide) rfl ?_
    refine ax_ist3 dX10_year_17 rfl rfl (Nat.le_of_ble_eq_true rfl) rfl ?_
    refine lp_X10_year_18 ((F_X10_remember mem)) p0 ((F_X10_yearsRefused mem p0))   ((p0 : Int32).toNatClampNeg) (0) ((F_X10_remember mem)) (Nat.zero_add _) (mp_rem hc) ?_
    refine ax_aload_n (j := 0) dX10_year_33 rfl rfl rfl ?_
    refine am_getR flX10_13 dX10_year_34 rfl is136 rfl ?_
    refine ax_bipush (v := 80) dX10_year_37 (by decide) rfl ?_
    refine am_iald dX10_year_39 rfl is138 (by unfold vp_in; decide) ?_
    exact ax_ireturn rfl dX10_year_40 ⟨by simp only [F_X10_year, if_pos c7], by simp only [F_X10_year, if_pos c7]⟩
  · refine ax_iload_n (j := 2) dX10_year_10 rfl rfl rfl ?_
    exact ax_ireturn rfl dX10_year_11 ⟨by simp only [F_X10_year, if_neg c7], by simp only [F_X10_year, if_neg c7]⟩

def F_X10_meet (mem : ax_Me) (p0 : Int32) (p1 : Int32) : Int32 × ax_Me :=
  (if (F_X10_areTwo mem p0 p1) = 0 then ((-1000000001), mem) else (if 0 ≤ (F_X10_remembered (F_X10_remember mem) p0 p1) then ((F_X10_apart (ax_u (F_X10_remember mem) 138 ((16 + (8 * p0)) + p1).toNatClampNeg ((F_X10_remember mem) 138 p1.toNatClampNeg)) (F_X10_remembered (F_X10_remember mem) p0 p1) ((ax_u (F_X10_remember mem) 138 ((16 + (8 * p0)) + p1).toNatClampNeg ((F_X10_remember mem) 138 p1.toNatClampNeg)) 138 p1.toNatClampNeg)), (ax_u (F_X10_remember mem) 138 ((16 + (8 * p0)) + p1).toNatClampNeg ((F_X10_remember mem) 138 p1.toNatClampNeg))) else ((-1), (ax_u (F_X10_remember mem) 138 ((16 + (8 * p0)) + p1).toNatClampNeg ((F_X10_remember mem) 138 p1.toNatClampNeg)))))
set_option maxRecDepth 20000 in
theorem s_X10_meet {G : ax_G} {l : Launch} (mem : ax_Me) (p0 : Int32) (p1 : Int32) (hc : mp mem) (hu : mu mem) : AD G l 3 mX10_meet [.ref 136, .int p0, .int p1] mem (some (.int (F_X10_meet mem p0 p1).1)) (F_X10_meet mem p0 p1).2 := by
  refine ax_start (ls := [.ref 136, .int p0, .int p1, .float 0]) (u := 1) (by decide +kernel) (Nat.le_of_ble_eq_true rfl) (Nat.le_refl _) (Nat.le_refl _) rfl ?_
  refine ax_aload_n (j := 0) dX10_meet_0 rfl rfl rfl ?_
  refine ax_iload_n (j := 1) dX10_meet_1 rfl rfl rfl ?_
  refine ax_iload_n (j := 2) dX10_meet_2 rfl rfl rfl ?_
  refine ad_V2 ksX10_areTwo lkX10_156 dX10_meet_3 rfl is136 rfl (Nat.le_of_ble_eq_true rfl) (Nat.le_of_ble_eq_true rfl) (s_X10_areTwo _ _ _) ?_
  refine ax_if_ne (tgt := 12) dX10_meet_6 (by decide) rfl (fun c6 => ?_) (fun c6 => ?_)
  · refine ax_aload_n (j := 0) dX10_meet_12 rfl rfl rfl ?_
    refine ad_V0v ksX10_remember lkX10_175 dX10_meet_13 rfl is136 rfl (Nat.le_of_ble_eq_true rfl) (Nat.le_of_ble_eq_true rfl) (s_X10_remember _ hu) ?_
    refine ax_aload_n (j := 0) dX10_meet_16 rfl rfl rfl ?_
    refine ax_iload_n (j := 1) dX10_meet_17 rfl rfl rfl ?_
    refine ax_iload_n (j := 2) dX10_meet_18 rfl rfl rfl ?_
    refine ad_V2 ksX10_remembered lkX10_133 dX10_meet_19 rfl is136 rfl (Nat.le_of_ble_eq_true rfl) (Nat.le_of_ble_eq_true rfl) (s_X10_remembered _ _ _ (in_mem (isp_in hc (two_of c6).1) (isp_in hc (two_of c6).2.1)).1) ?_
    refine ax_ist3 dX10_meet_22 rfl rfl (Nat.le_of_ble_eq_true rfl) rfl ?_
    refine ax_aload_n (j := 0) dX10_meet_23 rfl rfl rfl ?_
    refine am_getR flX10_13 dX10_meet_24 rfl is136 rfl ?_
    refine ax_bipush (v := 16) dX10_meet_27 (by decide) rfl ?_
    refine ax_bipush (v := 8) dX10_meet_29 (by decide) rfl ?_
    refine ax_iload_n (j := 1) dX10_meet_31 rfl rfl rfl ?_
    refine ax_imul dX10_meet_32 rfl ?_
    refine ax_iadd dX10_meet_33 rfl ?_
    refine ax_iload_n (j := 2) dX10_meet_34 rfl rfl rfl ?_
    refine ax_iadd dX10_meet_35 rfl ?_
    refine ax_aload_n (j := 0) dX10_meet_36 rfl rfl rfl ?_
    refine am_getR flX10_13 dX10_meet_37 rfl is136 rfl ?_
    refine ax_iload_n (j := 2) dX10_meet_40 rfl rfl rfl ?_
    refine am_iald dX10_meet_41 rfl is138 (vp_mono (isp_in hc (two_of c6).2.1) (by decide)) ?_
    refine am_iast dX10_meet_42 rfl is138 (in_mem (isp_in hc (two_of c6).1) (isp_in hc (two_of c6).2.1)).1 ?_
    refine ax_iload_n (j := 3) dX10_meet_43 rfl rfl rfl ?_
    refine ax_if_ge (tgt := 51) dX10_meet_44 (by decide) rfl (fun c44 => ?_) (fun c44 => ?_)
    · refine ax_iload_n (j := 3) dX10_meet_51 rfl rfl rfl ?_
      refine ax_aload_n (j := 0) dX10_meet_52 rfl rfl rfl ?_
      refine am_getR flX10_13 dX10_meet_53 rfl is136 rfl ?_
      refine ax_iload_n (j := 2) dX10_meet_56 rfl rfl rfl ?_
      refine am_iald dX10_meet_57 rfl is138 (vp_mono (isp_in hc (two_of c6).2.1) (by decide)) ?_
      refine ad_S2 ksX10_apart lkX10_163 dX10_meet_58 rfl (Nat.le_of_ble_eq_true rfl) (Nat.le_of_ble_eq_true rfl) (s_X10_apart _ _ _) ?_
      exact ax_ireturn rfl dX10_meet_61 ⟨by simp only [F_X10_meet, if_neg c6, if_pos c44], by simp only [F_X10_meet, if_neg c6, if_pos c44]⟩
    · refine ax_iconst (v := (-1)) dX10_meet_47 (by decide) rfl ?_
      refine ax_goto (tgt := 61) dX10_meet_48 (by decide) ?_
      exact ax_ireturn rfl dX10_meet_61 ⟨by simp only [F_X10_meet, if_neg c6, if_neg c44], by simp only [F_X10_meet, if_neg c6, if_neg c44]⟩
  · refine ax_ldc dX10_meet_9 cnX10_152 rfl ?_
    exact ax_ireturn rfl dX10_meet_11 ⟨by simp only [F_X10_meet, if_pos c6], by simp only [F_X10_meet, if_pos c6]⟩

def F_X10_forget (mem : ax_Me) (p0 : Int32) (p1 : Int32) : Int32 × ax_Me :=
  (if (F_X10_areTwo mem p0 p1) = 0 then ((-1000000001), mem) else (if 0 ≤ (F_X10_remembered mem p0 p1) then ((F_X10_remembered mem p0 p1), (ax_u (F_X10_remember mem) 138 ((16 + (8 * p0)) + p1).toNatClampNeg (-1))) else ((-1000000003), mem)))
set_option maxRecDepth 20000 in
theorem s_X10_forget {G : ax_G} {l : Launch} (mem : ax_Me) (p0 : Int32) (p1 : Int32) (hc : mp mem) (hu : mu mem) : AD G l 3 mX10_forget [.ref 136, .int p0, .int p1] mem (some (.int (F_X10_forget mem p0 p1).1)) (F_X10_forget mem p0 p1).2 := by
  refine ax_start (ls := [.ref 136, .int p0, .int p1, .float 0]) (u := 1) (by decide +kernel) (Nat.le_of_ble_eq_true rfl) (Nat.le_refl _) (Nat.le_refl _) rfl ?_
  refine ax_aload_n (j := 0) dX10_forget_0 rfl rfl rfl ?_
  refine ax_iload_n (j := 1) dX10_forget_1 rfl rfl rfl ?_
  refine ax_iload_n (j := 2) dX10_forget_2 rfl rfl rfl ?_
  refine ad_V2 ksX10_areTwo lkX10_156 dX10_forget_3 rfl is136 rfl (Nat.le_of_ble_eq_true rfl) (Nat.le_of_ble_eq_true rfl) (s_X10_areTwo _ _ _) ?_
  refine ax_if_ne (tgt := 12) dX10_forget_6 (by decide) rfl (fun c6 => ?_) (fun c6 => ?_)
  · refine ax_aload_n (j := 0) dX10_forget_12 rfl rfl rfl ?_
    refine ax_iload_n (j := 1) dX10_forget_13 rfl rfl rfl ?_
    refine ax_iload_n (j := 2) dX10_forget_14 rfl rfl rfl ?_
    refine ad_V2 ksX10_remembered lkX10_133 dX10_forget_15 rfl is136 rfl (Nat.le_of_ble_eq_true rfl) (Nat.le_of_ble_eq_true rfl) (s_X10_remembered _ _ _ (in_mem (isp_in hc (two_of c6).1) (isp_in hc (two_of c6).2.1)).1) ?_
    refine ax_ist3 dX10_forget_18 rfl rfl (Nat.le_of_ble_eq_true rfl) rfl ?_
    refine ax_iload_n (j := 3) dX10_forget_19 rfl rfl rfl ?_
    refine ax_if_ge (tgt := 26) dX10_forget_20 (by decide) rfl (fun c20 => ?_) (fun c20 => ?_)
    · refine ax_aload_n (j := 0) dX10_forget_26 rfl rfl rfl ?_
      refine ad_V0v ksX10_remember lkX10_175 dX10_forget_27 rfl is136 rfl (Nat.le_of_ble_eq_true rfl) (Nat.le_of_ble_eq_true rfl) (s_X10_remember _ hu) ?_
      refine ax_aload_n (j := 0) dX10_forget_30 rfl rfl rfl ?_
      refine am_getR flX10_13 dX10_forget_31 rfl is136 rfl ?_
      refine ax_bipush (v := 16) dX10_forget_34 (by decide) rfl ?_
      refine ax_bipush (v := 8) dX10_forget_36 (by decide) rfl ?_
      refine ax_iload_n (j := 1) dX10_forget_38 rfl rfl rfl ?_
      refine ax_imul dX10_forget_39 rfl ?_
      refine ax_iadd dX10_forget_40 rfl ?_
      refine ax_iload_n (j := 2) dX10_forget_41 rfl rfl rfl ?_
      refine ax_iadd dX10_forget_42 rfl ?_
      refine ax_iconst (v := (-1)) dX10_forget_43 (by decide) rfl ?_
      refine am_iast dX10_forget_44 rfl is138 (in_mem (isp_in hc (two_of c6).1) (isp_in hc (two_of c6).2.1)).1 ?_
      refine ax_iload_n (j := 3) dX10_forget_45 rfl rfl rfl ?_
      exact ax_ireturn rfl dX10_forget_46 ⟨by simp only [F_X10_forget, if_neg c6, if_pos c20], by simp only [F_X10_forget, if_neg c6, if_pos c20]⟩
    · refine ax_ldc dX10_forget_23 cnX10_171 rfl ?_
      exact ax_ireturn rfl dX10_forget_25 ⟨by simp only [F_X10_forget, if_neg c6, if_neg c20], by simp only [F_X10_forget, if_neg c6, if_neg c20]⟩
  · refine ax_ldc dX10_forget_9 cnX10_152 rfl ?_
    exact ax_ireturn rfl dX10_forget_11 ⟨by simp only [F_X10_forget, if_pos c6], by simp only [F_X10_forget, if_pos c6]⟩

theorem rr_two {m : ax_Me} {w p row : Int32} (h : F_X10_rowRefused m w p row = 0) : ¬ F_X10_areTwo m w p = 0 := by
  intro q
  unfold F_X10_rowRefused at h
  rw [if_pos q] at h
  exact absurd h (by decide)
theorem pick_rng {m : ax_Me} {mm row : Int32} (hc : mp m) : F_X10_pickBy m mm row = -1 ∨ vp_in (F_X10_pickBy m mm row) 8 := by
  unfold F_X10_pickBy
  have hle := hc.le
  refine ax_it_ind (fun _ (s : Int32 × Int32) => s.1 = -1 ∨ vp_in s.1 8) _ _ _ (Or.inl rfl) (fun k s _ h2 hs => ?_)
  obtain ⟨x, y⟩ := s
  unfold f_X10_pickBy_9
  dsimp only at hs ⊢
  repeat' split
  all_goals first | exact hs | exact Or.inr (vp_in_nI (by omega) (by decide))
theorem pick_8 {m : ax_Me} {mm row : Int32} (hc : mp m) : vp_in (8 + F_X10_pickBy m mm row) 81 := by
  rcases pick_rng (mm := mm) (row := row) hc with h | h
  · rw [h]
    unfold vp_in
    decide
  · exact (in_8 h).1
def F_X10_parade (mem : ax_Me) (p0 : Int32) (p1 : Int32) (p2 : Int32) : Int32 × ax_Me :=
  (if (F_X10_rowRefused mem p0 p1 p2) = 0 then (if (F_X10_unknownTo mem p0 p1) = 0 then ((F_X10_pickBy (F_X10_remember mem) (F_X10_remembered (F_X10_remember mem) p0 p1) p2), (ax_u (F_X10_remember mem) 138 (8 + (F_X10_pickBy (F_X10_remember mem) (F_X10_remembered (F_X10_remember mem) p0 p1) p2)).toNatClampNeg p1)) else ((F_X10_unknownTo mem p0 p1), mem)) else ((F_X10_rowRefused mem p0 p1 p2), mem))
set_option maxRecDepth 20000 in
theorem s_X10_parade {G : ax_G} {l : Launch} (mem : ax_Me) (p0 : Int32) (p1 : Int32) (p2 : Int32) (hc : mp mem) (hu : mu mem) : AD G l 4 mX10_parade [.ref 136, .int p0, .int p1, .int p2] mem (some (.int (F_X10_parade mem p0 p1 p2).1)) (F_X10_parade mem p0 p1 p2).2 := by
  refine ax_start (ls := [.ref 136, .int p0, .int p1, .int p2, .float 0, .float 0]) (u := 2) (by decide +kernel) (Nat.le_of_ble_eq_true rfl) (Nat.le_refl _) (Nat.le_refl _) rfl ?_
  refine ax_aload_n (j := 0) dX10_parade_0 rfl rfl rfl ?_
  refine ax_iload_n (j := 1) dX10_parade_1 rfl rfl rfl ?_
  refine ax_iload_n (j := 2) dX10_parade_2 rfl rfl rfl ?_
  refine ax_iload_n (j := 3) dX10_parade_3 rfl rfl rfl ?_
  refine ad_V3 ksX10_rowRefused lkX10_184 dX10_parade_4 rfl is136 rfl (Nat.le_of_ble_eq_true rfl) (Nat.le_of_ble_eq_true rfl) (s_X10_rowRefused _ _ _ _) ?_
  refine ax_ist4 dX10_parade_7 rfl (Nat.le_of_ble_eq_true rfl) rfl ?_
  refine ax_iload dX10_parade_9 rfl rfl ?_
  refine ax_if_eq (tgt := 19) dX10_parade_11 (by decide) rfl (fun c11 => ?_) (fun c11 => ?_)
  · refine ax_aload_n (j := 0) dX10_parade_19 rfl rfl rfl ?_
    refine ax_iload_n (j := 1) dX10_parade_20 rfl rfl rfl ?_
    refine ax_iload_n (j := 2) dX10_parade_21 rfl rfl rfl ?_
    refine ad_V2 ksX10_unknownTo lkX10_188 dX10_parade_22 rfl is136 rfl (Nat.le_of_ble_eq_true rfl) (Nat.le_of_ble_eq_true rfl) (s_X10_unknownTo _ _ _ (in_mem (isp_in hc (two_of (rr_two c11)).1) (isp_in hc (two_of (rr_two c11)).2.1)).1) ?_
    refine ax_ist4 dX10_parade_25 rfl (Nat.le_of_ble_eq_true rfl) rfl ?_
    refine ax_iload dX10_parade_27 rfl rfl ?_
    refine ax_if_eq (tgt := 35) dX10_parade_29 (by decide) rfl (fun c29 => ?_) (fun c29 => ?_)
    · refine ax_aload_n (j := 0) dX10_parade_35 rfl rfl rfl ?_
      refine ad_V0v ksX10_remember lkX10_175 dX10_parade_36 rfl is136 rfl (Nat.le_of_ble_eq_true rfl) (Nat.le_of_ble_eq_true rfl) (s_X10_remember _ hu) ?_
      refine ax_aload_n (j := 0) dX10_parade_39 rfl rfl rfl ?_
      refine ax_aload_n (j := 0) dX10_parade_40 rfl rfl rfl ?_
      refine ax_iload_n (j := 1) dX10_parade_41 rfl rfl rfl ?_
      refine ax_iload_n (j := 2) dX10_parade_42 rfl rfl rfl ?_
      refine ad_V2 ksX10_remembered lkX10_133 dX10_parade_43 rfl is136 rfl (Nat.le_of_ble_eq_true rfl) (Nat.le_of_ble_eq_true rfl) (s_X10_remembered _ _ _ (in_mem (isp_in hc (two_of (rr_two c11)).1) (isp_in hc (two_of (rr_two c11)).2.1)).1) ?_
      refine ax_iload_n (j := 3) dX10_parade_46 rfl rfl rfl ?_
      refine ad_V2 ksX10_pickBy lkX10_166 dX10_parade_47 rfl is136 rfl (Nat.le_of_ble_eq_true rfl) (Nat.le_of_ble_eq_true rfl) (s_X10_pickBy _ _ _ (mp_rem hc)) ?_
      refine ax_ist5 dX10_parade_50 rfl (Nat.le_of_ble_eq_true rfl) rfl ?_
      refine ax_aload_n (j := 0) dX10_parade_52 rfl rfl rfl ?_
      refine am_getR flX10_13 dX10_parade_53 rfl is136 rfl ?_
      refine ax_bipush (v := 8) dX10_parade_56 (by decide) rfl ?_
      refine ax_iload dX10_parade_58 rfl rfl ?_
      refine ax_iadd dX10_parade_60 rfl ?_
      refine ax_iload_n (j := 2) dX10_parade_61 rfl rfl rfl ?_
      refine am_iast dX10_parade_62 rfl is138 (pick_8 (mp_rem hc)) ?_
      refine ax_iload dX10_parade_63 rfl rfl ?_
      exact ax_ireturn rfl dX10_parade_65 ⟨by simp only [F_X10_parade, if_pos c11, if_pos c29], by simp only [F_X10_parade, if_pos c11, if_pos c29]⟩
    · refine ax_iload dX10_parade_32 rfl rfl ?_
      exact ax_ireturn rfl dX10_parade_34 ⟨by simp only [F_X10_parade, if_pos c11, if_neg c29], by simp only [F_X10_parade, if_pos c11, if_neg c29]⟩
  · refine ax_iload dX10_parade_14 rfl rfl ?_
    refine ax_goto (tgt := 25) dX10_parade_16 (by decide) ?_
    refine ax_ist4 dX10_parade_25 rfl (Nat.le_of_ble_eq_true rfl) rfl ?_
    refine ax_iload dX10_parade_27 rfl rfl ?_
    refine ax_if_eq (tgt := 35) dX10_parade_29 (by decide) rfl (fun c29 => ?_) (fun c29 => ?_)
    · exact absurd c29 c11
    · refine ax_iload dX10_parade_32 rfl rfl ?_
      exact ax_ireturn rfl dX10_parade_34 ⟨by simp only [F_X10_parade, if_neg c11], by simp only [F_X10_parade, if_neg c11]⟩

def F_X10_mark (mem : ax_Me) (p0 : Int32) (p1 : Int32) : Int32 × ax_Me :=
  (if (F_X10_isPerson mem p0) = 0 then ((-1000000001), mem) else (if (F_X10_in mem p1.toInt64 0 (7)) = 0 then ((-1000000002), mem) else (((ax_u (F_X10_remember mem) 138 p0.toNatClampNeg (((F_X10_remember mem) 138 p0.toNatClampNeg) ^^^ (1 <<< (p1 &&& 31)))) 138 p0.toNatClampNeg), (ax_u (F_X10_remember mem) 138 p0.toNatClampNeg (((F_X10_remember mem) 138 p0.toNatClampNeg) ^^^ (1 <<< (p1 &&& 31)))))))
set_option maxRecDepth 20000 in
theorem s_X10_mark {G : ax_G} {l : Launch} (mem : ax_Me) (p0 : Int32) (p1 : Int32) (hc : mp mem) (hu : mu mem) : AD G l 2 mX10_mark [.ref 136, .int p0, .int p1] mem (some (.int (F_X10_mark mem p0 p1).1)) (F_X10_mark mem p0 p1).2 := by
  refine ax_start (ls := [.ref 136, .int p0, .int p1]) (u := 0) (by decide +kernel) (Nat.le_of_ble_eq_true rfl) (Nat.le_refl _) (Nat.le_refl _) rfl ?_
  refine ax_aload_n (j := 0) dX10_mark_0 rfl rfl rfl ?_
  refine ax_iload_n (j := 1) dX10_mark_1 rfl rfl rfl ?_
  refine ad_V1 ksX10_isPerson lkX10_70 dX10_mark_2 rfl is136 rfl (Nat.le_of_ble_eq_true rfl) (Nat.le_of_ble_eq_true rfl) (s_X10_isPerson _ _) ?_
  refine ax_if_ne (tgt := 11) dX10_mark_5 (by decide) rfl (fun c5 => ?_) (fun c5 => ?_)
  · refine ax_iload_n (j := 2) dX10_mark_11 rfl rfl rfl ?_
    refine ax_i2l dX10_mark_12 rfl ?_
    refine ax_lconst (v := 0) dX10_mark_13 (by decide) rfl ?_
    refine ax_ldc2 dX10_mark_14 cnX10_191 rfl ?_
    refine ad_S3 ksX10_in lkX10_66 dX10_mark_17 rfl (Nat.le_of_ble_eq_true rfl) (Nat.le_of_ble_eq_true rfl) (s_X10_in _ _ _ _) ?_
    refine ax_if_ne (tgt := 26) dX10_mark_20 (by decide) rfl (fun c20 => ?_) (fun c20 => ?_)
    · refine ax_aload_n (j := 0) dX10_mark_26 rfl rfl rfl ?_
      refine ad_V0v ksX10_remember lkX10_175 dX10_mark_27 rfl is136 rfl (Nat.le_of_ble_eq_true rfl) (Nat.le_of_ble_eq_true rfl) (s_X10_remember _ hu) ?_
      refine ax_aload_n (j := 0) dX10_mark_30 rfl rfl rfl ?_
      refine am_getR flX10_13 dX10_mark_31 rfl is136 rfl ?_
      refine ax_iload_n (j := 1) dX10_mark_34 rfl rfl rfl ?_
      refine ax_dup2 dX10_mark_35 rfl rfl rfl ?_
      refine am_iald dX10_mark_36 rfl is138 (vp_mono (isp_in hc c5) (by decide)) ?_
      refine ax_iconst (v := 1) dX10_mark_37 (by decide) rfl ?_
      refine ax_iload_n (j := 2) dX10_mark_38 rfl rfl rfl ?_
      refine ax_ishl dX10_mark_39 rfl ?_
      refine ax_ixor dX10_mark_40 rfl ?_
      refine am_iast dX10_mark_41 rfl is138 (vp_mono (isp_in hc c5) (by decide)) ?_
      refine ax_aload_n (j := 0) dX10_mark_42 rfl rfl rfl ?_
      refine am_getR flX10_13 dX10_mark_43 rfl is136 rfl ?_
      refine ax_iload_n (j := 1) dX10_mark_46 rfl rfl rfl ?_
      refine am_iald dX10_mark_47 rfl is138 (vp_mono (isp_in hc c5) (by decide)) ?_
      exact ax_ireturn rfl dX10_mark_48 ⟨by simp only [F_X10_mark, if_neg c5, if_neg c20], by simp only [F_X10_mark, if_neg c5, if_neg c20]⟩
    · refine ax_ldc dX10_mark_23 cnX10_76 rfl ?_
      exact ax_ireturn rfl dX10_mark_25 ⟨by simp only [F_X10_mark, if_neg c5, if_pos c20], by simp only [F_X10_mark, if_neg c5, if_pos c20]⟩
  · refine ax_ldc dX10_mark_8 cnX10_152 rfl ?_
    exact ax_ireturn rfl dX10_mark_10 ⟨by simp only [F_X10_mark, if_pos c5], by simp only [F_X10_mark, if_pos c5]⟩

def F_X10_draw (mem : ax_Me) (p0 : Int32) : Int32 × ax_Me :=
  (((((ax_u mem 136 3 ((((mem 136 3).toInt64 * (1103515245)) + (12345)) - (((mem 136 3).toInt64 * (1103515245)) + (12345)) / (2147483648) * (2147483648)).toInt32) 136 3) / (65536)) - (((ax_u mem 136 3 ((((mem 136 3).toInt64 * (1103515245)) + (12345)) - (((mem 136 3).toInt64 * (1103515245)) + (12345)) / (2147483648) * (2147483648)).toInt32) 136 3) / (65536)) / p0 * p0), (ax_u mem 136 3 ((((mem 136 3).toInt64 * (1103515245)) + (12345)) - (((mem 136 3).toInt64 * (1103515245)) + (12345)) / (2147483648) * (2147483648)).toInt32))
set_option maxRecDepth 20000 in
theorem s_X10_draw {G : ax_G} {l : Launch} (mem : ax_Me) (p0 : Int32) (hn : ¬ p0 = 0) : AD G l 0 mX10_draw [.ref 136, .int p0] mem (some (.int (F_X10_draw mem p0).1)) (F_X10_draw mem p0).2 := by
  refine ax_start (ls := [.ref 136, .int p0]) (u := 0) (by decide +kernel) (Nat.le_of_ble_eq_true rfl) (Nat.le_refl _) (Nat.le_refl _) rfl ?_
  refine ax_aload_n (j := 0) dX10_draw_0 rfl rfl rfl ?_
  refine ax_aload_n (j := 0) dX10_draw_1 rfl rfl rfl ?_
  refine am_getI flX10_193 dX10_draw_2 rfl is136 rfl ?_
  refine ax_i2l dX10_draw_5 rfl ?_
  refine ax_ldc2 dX10_draw_6 cnX10_196 rfl ?_
  refine ax_lmul dX10_draw_9 rfl ?_
  refine ax_ldc2 dX10_draw_10 cnX10_198 rfl ?_
  refine ax_ladd dX10_draw_13 rfl ?_
  refine ax_ldc2 dX10_draw_14 cnX10_200 rfl ?_
  refine ax_lrem dX10_draw_17 (by decide) rfl ?_
  refine ax_l2i dX10_draw_18 rfl ?_
  refine am_putI flX10_193 dX10_draw_19 rfl is136 rfl rfl rfl ?_
  refine ax_aload_n (j := 0) dX10_draw_22 rfl rfl rfl ?_
  refine am_getI flX10_193 dX10_draw_23 rfl is136 rfl ?_
  refine ax_ldc dX10_draw_26 cnX10_202 rfl ?_
  refine ax_idiv dX10_draw_28 (by decide) rfl ?_
  refine ax_iload_n (j := 1) dX10_draw_29 rfl rfl rfl ?_
  refine ax_irem dX10_draw_30 hn rfl ?_
  exact ax_ireturn rfl dX10_draw_31 ⟨by simp only [F_X10_draw], by simp only [F_X10_draw]⟩

theorem draw_key {s : Nat} (h1 : s < 2147483648) (A C D : Nat) (h : s * A + C < 2 ^ 63) (hD : 0 < D) (hD2 : D < 2 ^ 63) : ((nI s).toInt64 * lN A + lN C - ((nI s).toInt64 * lN A + lN C) / lN D * lN D).toInt32 = nI ((s * A + C) % D) := by
  rw [nI_l h1, lN_mul, lN_add, pk_lRem h hD hD2, lN_i]
set_option maxRecDepth 100000 in
theorem draw_of {m : ax_Me} {n : Int32} (hs : ¬ m 136 3 < 0) : ∃ s : Nat, s < 2147483648 ∧ m 136 3 = nI s ∧ F_X10_draw m n = (nI ((s * 1103515245 + 12345) % 2147483648 / 65536) - nI ((s * 1103515245 + 12345) % 2147483648 / 65536) / n * n, ax_u m 136 3 (nI ((s * 1103515245 + 12345) % 2147483648))) := by
  obtain ⟨s, h1, e⟩ := nI_of hs
  refine ⟨s, h1, e, ?_⟩
  have h2 : s * 1103515245 < 2147483648 * 1103515245 := Nat.mul_lt_mul_of_pos_right h1 (by decide)
  have key : ((m 136 3).toInt64 * 1103515245 + 12345 - ((m 136 3).toInt64 * 1103515245 + 12345) / 2147483648 * 2147483648).toInt32 = nI ((s * 1103515245 + 12345) % 2147483648) := by
    rw [e]
    exact draw_key h1 1103515245 12345 2147483648 (Nat.lt_of_lt_of_le (Nat.add_lt_add_right h2 12345) (Nat.le_of_ble_eq_true rfl)) (Nat.le_of_ble_eq_true rfl) (Nat.le_of_ble_eq_true rfl)
  have hm : (s * 1103515245 + 12345) % 2147483648 < 2147483648 := Nat.mod_lt _ (by decide)
  unfold F_X10_draw
  rw [key, ax_u_self, show (65536 : Int32) = nI 65536 from rfl, pk_div (by omega) (by decide) (by decide)]
theorem draw_0 {m : ax_Me} {n : Int32} {k : Nat} (h : k ≠ 3) : (F_X10_draw m n).2 136 k = m 136 k := by
  unfold F_X10_draw
  exact ax_u_ne (by omega)
theorem draw_row {m : ax_Me} {n : Int32} {a : Nat} (h : a ≠ 136) : (F_X10_draw m n).2 a = m a := by
  unfold F_X10_draw
  exact ax_u_off h
theorem draw_rng {m : ax_Me} (hs : ¬ m 136 3 < 0) {c : Nat} (h1 : 1 ≤ c) (h8 : c ≤ 8) : vp_in (F_X10_draw m (nI c)).1 c ∧ ¬ (F_X10_draw m (nI c)).2 136 3 < 0 := by
  obtain ⟨s, hs1, e, ed⟩ := draw_of (n := nI c) hs
  have hm : (s * 1103515245 + 12345) % 2147483648 < 2147483648 := Nat.mod_lt _ (by decide)
  rw [ed]
  dsimp only
  rw [pk_rem (by omega) (by omega) (by omega), ax_u_self]
  exact ⟨vp_in_nI (Nat.mod_lt _ (by omega)) (by omega), nI_pos hm⟩
/-- what drift() needs ahead of each year -/
def md (m : ax_Me) : Prop := mp m ∧ (¬ m 136 0 = 0) ∧ ¬ m 136 3 < 0
theorem md.c {m : ax_Me} (h : md m) : ∃ c : Nat, 1 ≤ c ∧ c ≤ 8 ∧ m 136 0 = nI c := by
  obtain ⟨c, hc, e⟩ := h.1.of
  refine ⟨c, ?_, hc, e⟩
  cases c with
  | zero => exact absurd e h.2.1
  | succ c => omega
theorem md.draw {m : ax_Me} (h : md m) : vp_in (F_X10_draw m (m 136 0)).1 8 ∧ md (F_X10_draw m (m 136 0)).2 := by
  obtain ⟨c, h1, h8, e⟩ := h.c
  have q := draw_rng h.2.2 h1 h8
  rw [e]
  refine ⟨vp_mono q.1 h8, mp_off h.1 (draw_0 (by decide)), ?_, q.2⟩
  rw [draw_0 (by decide)]
  exact h.2.1
theorem md.set {m : ax_Me} {a k : Nat} {v : Int32} (h : md m) (ha : a ≠ 136) : md (ax_u m a k v) := by
  have e : ax_u m a k v 136 = m 136 := ax_u_off (fun q => ha q.symm)
  refine ⟨mp_off h.1 (by rw [e]), ?_, ?_⟩
  · rw [e]; exact h.2.1
  · rw [e]; exact h.2.2
theorem md.pass {m : ax_Me} (h : md m) : md (F_X10_pass m) := by
  refine ⟨mp_pass h.1, ?_, ?_⟩
  · rw [pass_136]; exact h.2.1
  · rw [pass_136]; exact h.2.2
theorem md.rem {m : ax_Me} (h : md m) : md (F_X10_remember m) := by
  refine ⟨mp_rem h.1, ?_, ?_⟩
  · rw [rem_136 m 0 (by decide)]; exact h.2.1
  · rw [rem_136 m 3 (by decide)]; exact h.2.2
theorem yr_0 {m : ax_Me} {n : Int32} (h : F_X10_yearsRefused m n = 0) : ¬ m 136 0 = 0 := by
  intro q
  unfold F_X10_yearsRefused at h
  rw [if_pos q] at h
  split at h <;> exact absurd h (by decide)
/-- what one draw of drift() does: who met whom, then a year -/
def g_drift (M : ax_Me) (w p : Int32) : ax_Me := F_X10_pass (ax_u M 138 ((16 + (8 * w)) + p).toNatClampNeg (if w = p then (-1) else (M 138 p.toNatClampNeg)))
set_option maxRecDepth 20000 in
theorem dr_43 {G : ax_G} {l : Launch} {Q : Option Value → ax_H → Prop} (M : ax_Me) (p0 v2 : Int32) (j : Nat) (w p : Int32) (hw : vp_in w 8) (hp : vp_in p 8) (hM : md M) (hx : AX G l mX10_drift 2 81 [.ref 136, .int p0, .int v2, .int (nI j), .int w, .int p] [] 153 0 (ax_hm (g_drift M w p)) 153 0 Q) : AX G l mX10_drift 2 43 [.ref 136, .int p0, .int v2, .int (nI j), .int w, .int p] [] 153 0 (ax_hm M) 153 0 Q := by
  refine ax_aload_n (j := 0) dX10_drift_43 rfl rfl rfl ?_
  refine am_getR flX10_13 dX10_drift_44 rfl is136 rfl ?_
  refine ax_bipush (v := 16) dX10_drift_47 (by decide) rfl ?_
  refine ax_bipush (v := 8) dX10_drift_49 (by decide) rfl ?_
  refine ax_iload dX10_drift_51 rfl rfl ?_
  refine ax_imul dX10_drift_53 rfl ?_
  refine ax_iadd dX10_drift_54 rfl ?_
  refine ax_iload dX10_drift_55 rfl rfl ?_
  refine ax_iadd dX10_drift_57 rfl ?_
  refine ax_iload dX10_drift_58 rfl rfl ?_
  refine ax_iload dX10_drift_60 rfl rfl ?_
  refine ax_icmp_ne (tgt := 69) dX10_drift_62 (by decide) rfl (fun c62 => ?_) (fun c62 => ?_)
  · refine ax_aload_n (j := 0) dX10_drift_69 rfl rfl rfl ?_
    refine am_getR flX10_13 dX10_drift_70 rfl is136 rfl ?_
    refine ax_iload dX10_drift_73 rfl rfl ?_
    refine am_iald dX10_drift_75 rfl is138 (vp_mono hp (by decide)) ?_
    refine am_iast dX10_drift_76 rfl is138 (in_mem hw hp).1 ?_
    refine ax_aload_n (j := 0) dX10_drift_77 rfl rfl rfl ?_
    refine ad_V0v ksX10_pass lkX10_178 dX10_drift_78 rfl is136 rfl (Nat.le_of_ble_eq_true rfl) (Nat.le_of_ble_eq_true rfl) (s_X10_pass _ (md.set hM (by decide)).1) ?_
    simp only [g_drift, if_neg c62] at hx
    exact hx
  · refine ax_iconst (v := (-1)) dX10_drift_65 (by decide) rfl ?_
    refine ax_goto (tgt := 76) dX10_drift_66 (by decide) ?_
    refine am_iast dX10_drift_76 rfl is138 (in_mem hw hp).1 ?_
    refine ax_aload_n (j := 0) dX10_drift_77 rfl rfl rfl ?_
    refine ad_V0v ksX10_pass lkX10_178 dX10_drift_78 rfl is136 rfl (Nat.le_of_ble_eq_true rfl) (Nat.le_of_ble_eq_true rfl) (s_X10_pass _ (md.set hM (by decide)).1) ?_
    simp only [g_drift, if_pos c62] at hx
    exact hx
theorem md.go {M : ax_Me} {w p : Int32} (h : md M) : md (g_drift M w p) := md.pass (md.set h (by decide))
def f_X10_drift_18 (mem : ax_Me) (p0 : Int32) (v2 : Int32) (j : Nat) (s : ax_Me) : ax_Me :=
  match s with
  | m => (g_drift (F_X10_draw (F_X10_draw m (m 136 0)).2 ((F_X10_draw m (m 136 0)).2 136 0)).2 (F_X10_draw m (m 136 0)).1 (F_X10_draw (F_X10_draw m (m 136 0)).2 ((F_X10_draw m (m 136 0)).2 136 0)).1)
def F_X10_drift (mem : ax_Me) (p0 : Int32) : Int32 × ax_Me :=
  (if (F_X10_yearsRefused mem p0) = 0 then (((ax_it (f_X10_drift_18 ((F_X10_remember mem)) p0 ((F_X10_yearsRefused mem p0))) ((p0 : Int32).toNatClampNeg) (0) (F_X10_remember mem)) 138 (80 : Int32).toNatClampNeg), (ax_it (f_X10_drift_18 ((F_X10_remember mem)) p0 ((F_X10_yearsRefused mem p0))) ((p0 : Int32).toNatClampNeg) (0) (F_X10_remember mem))) else ((F_X10_yearsRefused mem p0), mem))
set_option maxRecDepth 20000 in
theorem lp_X10_drift_18 {G : ax_G} {l : Launch} {Q : Option Value → ax_H → Prop} (mem : ax_Me) (p0 : Int32) (v2 : Int32)  : ∀ (n j : Nat) (m : ax_Me), j + n = (p0 : Int32).toNatClampNeg → md m → AX G l mX10_drift 2 87 [.ref 136, .int p0, .int v2, .int (nI ((p0 : Int32).toNatClampNeg)), .float 0, .float 0] [] 153 0 (ax_hm (ax_it (f_X10_drift_18 mem p0 v2) n j m)) 153 0 Q → AX G l mX10_drift 2 18 [.ref 136, .int p0, .int v2, .int (nI j), .float 0, .float 0] [] 153 0 (ax_hm m) 153 0 Q := by
  intro n
  induction n with
  | zero =>
    intro j m hj hi hx
    refine ax_iload_n (j := 3) dX10_drift_18 rfl rfl rfl ?_
    refine ax_iload_n (j := 1) dX10_drift_19 rfl rfl rfl ?_
    refine ax_icmp_ge (tgt := 87) dX10_drift_20 (by decide) rfl (fun c20 => ?_) (fun c20 => ?_)
    · have q := hx
      simp only [ax_it] at q
      rw [show ((p0 : Int32).toNatClampNeg) = j by omega] at q
      exact q
    · exact absurd (cl_ge (by omega)) c20
  | succ n ih =>
    intro j m hj hi hx
    refine ax_iload_n (j := 3) dX10_drift_18 rfl rfl rfl ?_
    refine ax_iload_n (j := 1) dX10_drift_19 rfl rfl rfl ?_
    refine ax_icmp_ge (tgt := 87) dX10_drift_20 (by decide) rfl (fun c20 => ?_) (fun c20 => ?_)
    · exact absurd c20 (cl_nle (by omega))
    · refine ax_aload_n (j := 0) dX10_drift_23 rfl rfl rfl ?_
      refine ax_aload_n (j := 0) dX10_drift_24 rfl rfl rfl ?_
      refine am_getI flX10_63 dX10_drift_25 rfl is136 rfl ?_
      refine ad_V1 ksX10_draw lkX10_203 dX10_drift_28 rfl is136 rfl (Nat.le_of_ble_eq_true rfl) (Nat.le_of_ble_eq_true rfl) (s_X10_draw _ _ hi.2.1) ?_
      refine ax_ist4 dX10_drift_31 rfl (Nat.le_of_ble_eq_true rfl) rfl ?_
      refine ax_aload_n (j := 0) dX10_drift_33 rfl rfl rfl ?_
      refine ax_aload_n (j := 0) dX10_drift_34 rfl rfl rfl ?_
      refine am_getI flX10_63 dX10_drift_35 rfl is136 rfl ?_
      refine ad_V1 ksX10_draw lkX10_203 dX10_drift_38 rfl is136 rfl (Nat.le_of_ble_eq_true rfl) (Nat.le_of_ble_eq_true rfl) (s_X10_draw _ _ hi.draw.2.2.1) ?_
      refine ax_ist5 dX10_drift_41 rfl (Nat.le_of_ble_eq_true rfl) rfl ?_
      refine dr_43 _ _ _ _ _ _ hi.draw.1 hi.draw.2.draw.1 hi.draw.2.draw.2 ?_
      refine ax_iinc3 (v := nI (j + 1)) dX10_drift_81 rfl (cl_inc j) (Nat.le_of_ble_eq_true rfl) rfl ?_
      refine ax_goto (tgt := 18) dX10_drift_84 (by decide) ?_
      refine ax_fg4 ?_
      refine ax_fg5 ?_
      have e1 : f_X10_drift_18 mem p0 v2 j m = (g_drift (F_X10_draw (F_X10_draw m (m 136 0)).2 ((F_X10_draw m (m 136 0)).2 136 0)).2 (F_X10_draw m (m 136 0)).1 (F_X10_draw (F_X10_draw m (m 136 0)).2 ((F_X10_draw m (m 136 0)).2 136 0)).1) := by simp only [f_X10_drift_18]
      simp only [ax_it, e1] at hx
      exact ih (j + 1) ((g_drift (F_X10_draw (F_X10_draw m (m 136 0)).2 ((F_X10_draw m (m 136 0)).2 136 0)).2 (F_X10_draw m (m 136 0)).1 (F_X10_draw (F_X10_draw m (m 136 0)).2 ((F_X10_draw m (m 136 0)).2 136 0)).1)) (by omega) (md.go hi.draw.2.draw.2) hx
set_option maxRecDepth 20000 in
theorem s_X10_drift {G : ax_G} {l : Launch} (mem : ax_Me) (p0 : Int32) (hc : mp mem) (hu : mu mem) (hs : ¬ mem 136 3 < 0) : AD G l 2 mX10_drift [.ref 136, .int p0] mem (some (.int (F_X10_drift mem p0).1)) (F_X10_drift mem p0).2 := by
  refine ax_start (ls := [.ref 136, .int p0, .float 0, .float 0, .float 0, .float 0]) (u := 4) (by decide +kernel) (Nat.le_of_ble_eq_true rfl) (Nat.le_refl _) (Nat.le_refl _) rfl ?_
  refine ax_aload_n (j := 0) dX10_drift_0 rfl rfl rfl ?_
  refine ax_iload_n (j := 1) dX10_drift_1 rfl rfl rfl ?_
  refine ad_V1 ksX10_yearsRefused lkX10_172 dX10_drift_2 rfl is136 rfl (Nat.le_of_ble_eq_true rfl) (Nat.le_of_ble_eq_true rfl) (s_X10_yearsRefused _ _) ?_
  refine ax_ist2 dX10_drift_5 rfl rfl (Nat.le_of_ble_eq_true rfl) rfl ?_
  refine ax_iload_n (j := 2) dX10_drift_6 rfl rfl rfl ?_
  refine ax_if_eq (tgt := 12) dX10_drift_7 (by decide) rfl (fun c7 => ?_) (fun c7 => ?_)
  · refine ax_aload_n (j := 0) dX10_drift_12 rfl rfl rfl ?_
    refine ad_V0v ksX10_remember lkX10_175 dX10_drift_13 rfl is136 rfl (Nat.le_of_ble_eq_true rfl) (Nat.le_of_ble_eq_true rfl) (s_X10_remember _ hu) ?_
    refine ax_iconst (v := 0) dX10_drift_16 (by decide) rfl ?_
    refine ax_ist3 dX10_drift_17 rfl rfl (Nat.le_of_ble_eq_true rfl) rfl ?_
    refine lp_X10_drift_18 ((F_X10_remember mem)) p0 ((F_X10_yearsRefused mem p0))   ((p0 : Int32).toNatClampNeg) (0) ((F_X10_remember mem)) (Nat.zero_add _) (md.rem ⟨hc, yr_0 c7, hs⟩) ?_
    refine ax_aload_n (j := 0) dX10_drift_87 rfl rfl rfl ?_
    refine am_getR flX10_13 dX10_drift_88 rfl is136 rfl ?_
    refine ax_bipush (v := 80) dX10_drift_91 (by decide) rfl ?_
    refine am_iald dX10_drift_93 rfl is138 (by unfold vp_in; decide) ?_
    exact ax_ireturn rfl dX10_drift_94 ⟨by simp only [F_X10_drift, if_pos c7], by simp only [F_X10_drift, if_pos c7]⟩
  · refine ax_iload_n (j := 2) dX10_drift_10 rfl rfl rfl ?_
    exact ax_ireturn rfl dX10_drift_11 ⟨by simp only [F_X10_drift, if_neg c7], by simp only [F_X10_drift, if_neg c7]⟩

