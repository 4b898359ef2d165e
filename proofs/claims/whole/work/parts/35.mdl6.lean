/-! ===== the reference: a clause, the place ===== -/
theorem mr_eq {m m' : ax_Me} (h : mr m) (e : m' 136 10 = m 136 10) : mr m' := by
  unfold mr
  rw [e]
  exact h
theorem mr_here {m : ax_Me} (h : mr m) : mr (N_X10_here m) := mr_eq h ((mq_here m).2 10 (by decide) (by decide) (by decide) (by decide))
theorem mr_7 {m : ax_Me} {v : Int32} (h : mr m) : mr (ax_u m 136 7 v) := mr_eq h (ax_u_ne (by decide))
theorem mr_lt {m : ax_Me} (h : mr m) (c : ¬ m 136 10 = 8) : vp_in (m 136 10) 8 := by
  obtain ⟨k, hk, e⟩ := h.of
  rw [e] at c ⊢
  have : k ≠ 8 := fun q => c (by rw [q]; rfl)
  exact vp_in_nI (by omega) (by decide)
theorem cl_hq {m : ax_Me} {v : Int32} (h : mr m) (c : ¬ m 136 10 = 8) : vp_in (ax_u m 136 7 v 136 10) 8 := by
  rw [ax_u_ne (by decide)]
  exact mr_lt h c
theorem into_eq (m : ax_Me) (r : Nat) (a lo hi : Int32) : R_X10_into m r a lo hi = R_X10_takeNumber m lo hi ∧ N_X10_into m r a lo hi = ax_u (N_X10_takeNumber m lo hi) r a.toNatClampNeg (N_X10_takeNumber m lo hi 136 8) := ⟨by rw [R_X10_into, F_X10_into], by rw [N_X10_into, F_X10_into]⟩
theorem tp_eq (m : ax_Me) : R_X10_takePerson m = (if R_X10_into (ax_u m 136 10 (m 136 10 + 1)) 140 (m 136 10) 0 255 ≤ 0 then R_X10_into (N_X10_into (ax_u m 136 10 (m 136 10 + 1)) 140 (m 136 10) 0 255) 141 (m 136 10) 0 7 else R_X10_into (ax_u m 136 10 (m 136 10 + 1)) 140 (m 136 10) 0 255) ∧ N_X10_takePerson m = (if R_X10_into (ax_u m 136 10 (m 136 10 + 1)) 140 (m 136 10) 0 255 ≤ 0 then N_X10_into (N_X10_into (ax_u m 136 10 (m 136 10 + 1)) 140 (m 136 10) 0 255) 141 (m 136 10) 0 7 else N_X10_into (ax_u m 136 10 (m 136 10 + 1)) 140 (m 136 10) 0 255) := by
  unfold R_X10_takePerson N_X10_takePerson F_X10_takePerson
  constructor
  · split
    · with_reducible rfl
    · with_reducible rfl
  · split
    · with_reducible rfl
    · with_reducible rfl
theorem mt_person {k : Int} {m : ax_Me} (h : mt k m) (hk : 240 ≤ k) : mt k (N_X10_takePerson m) := by
  rw [(tp_eq m).2]
  have h1 : mt k (ax_u m 136 10 (m 136 10 + 1)) := mt_ne h (by omega) (by omega)
  split
  · exact mt_into (mt_into h1 hk (by decide)) hk (by decide)
  · exact mt_into h1 hk (by decide)
theorem mr_into {m : ax_Me} {r : Nat} {a lo hi : Int32} (hr : r ≠ 136) : N_X10_into m r a lo hi 136 10 = m 136 10 := by
  rw [(into_eq m r a lo hi).2, ax_u_off (fun q => hr q.symm)]
  exact (mq_tn m lo hi).2 10 (by decide) (by decide) (by decide) (by decide)
theorem tp_10 (m : ax_Me) : N_X10_takePerson m 136 10 = m 136 10 + 1 := by
  rw [(tp_eq m).2]
  have h1 : ax_u m 136 10 (m 136 10 + 1) 136 10 = m 136 10 + 1 := ax_u_self
  split
  · rw [mr_into (by decide), mr_into (by decide), h1]
  · rw [mr_into (by decide), h1]
theorem mr_person {m : ax_Me} (h : mr m) (c : ¬ m 136 10 = 8) : mr (N_X10_takePerson m) := by
  obtain ⟨k, hk, e⟩ := h.of
  have hk2 : k ≠ 8 := fun q => c (by rw [e, q]; rfl)
  unfold mr
  rw [tp_10, e, nI_1]
  exact ⟨nI_pos (by omega), nI_le (b := 8) (by omega) (by decide)⟩
/-- what takeKnows() leaves: the second number's memory, or a pair noted, or a fault -/
theorem tk_all {P : ax_Me → Prop} (m : ax_Me) (h1 : P (N_X10_takeNumber m 0 (m 136 10 - 1))) (h2 : P (N_X10_takeNumber (N_X10_takeNumber m 0 (m 136 10 - 1)) 0 (N_X10_takeNumber m 0 (m 136 10 - 1) 136 10 - 1))) (hf : ∀ m1 v, P m1 → P (ax_u m1 136 6 v)) (hk : ∀ m1 j v, P m1 → P (ax_u m1 142 j v)) : P (N_X10_takeKnows m) := by
  unfold N_X10_takeKnows F_X10_takeKnows
  repeat' split
  all_goals first | with_reducible exact h1 | with_reducible exact h2 | exact hf _ _ h2 | exact hk _ _ _ h2 | exact hf _ _ h1
theorem mt_knows {k : Int} {m : ax_Me} (h : mt k m) (hk : 240 ≤ k) : mt k (N_X10_takeKnows m) :=
  tk_all (P := mt k) m (mt_tn h hk) (mt_tn (mt_tn h hk) hk) (fun _ _ q => mt_ne q (by omega) (by omega)) (fun _ _ _ q => mt_ne q (by omega) (by omega))
theorem mr_tn {m : ax_Me} {lo hi : Int32} (h : mr m) : mr (N_X10_takeNumber m lo hi) := mr_eq h ((mq_tn m lo hi).2 10 (by decide) (by decide) (by decide) (by decide))
theorem mr_knows {m : ax_Me} (h : mr m) : mr (N_X10_takeKnows m) :=
  tk_all (P := mr) m (mr_tn h) (mr_tn (mr_tn h)) (fun _ _ q => mr_eq q (ax_u_ne (by decide))) (fun _ _ _ q => mr_eq q (ax_u_ne (by omega)))
def F_X10_takeClause (mem : ax_Me)  : Int32 × ax_Me :=
  (if (R_X10_here mem) = 112 then (if ((N_X10_here mem) 136 10) = 8 then ((F_X10_fails (N_X10_here mem) 3 ((N_X10_here mem) 136 7)).1, (F_X10_fails (N_X10_here mem) 3 ((N_X10_here mem) 136 7)).2) else (if (R_X10_takePerson (ax_u (N_X10_here mem) 136 7 (((N_X10_here mem) 136 7) + 1))) = 0 then (if (R_X10_here (N_X10_takePerson (ax_u (N_X10_here mem) 136 7 (((N_X10_here mem) 136 7) + 1)))) = 59 then ((R_X10_takePerson (ax_u (N_X10_here mem) 136 7 (((N_X10_here mem) 136 7) + 1))), (ax_u (N_X10_here (N_X10_takePerson (ax_u (N_X10_here mem) 136 7 (((N_X10_here mem) 136 7) + 1)))) 136 7 (((N_X10_here (N_X10_takePerson (ax_u (N_X10_here mem) 136 7 (((N_X10_here mem) 136 7) + 1)))) 136 7) + 1))) else ((F_X10_fails (N_X10_here (N_X10_takePerson (ax_u (N_X10_here mem) 136 7 (((N_X10_here mem) 136 7) + 1)))) 1 ((N_X10_here (N_X10_takePerson (ax_u (N_X10_here mem) 136 7 (((N_X10_here mem) 136 7) + 1)))) 136 7)).1, (F_X10_fails (N_X10_here (N_X10_takePerson (ax_u (N_X10_here mem) 136 7 (((N_X10_here mem) 136 7) + 1)))) 1 ((N_X10_here (N_X10_takePerson (ax_u (N_X10_here mem) 136 7 (((N_X10_here mem) 136 7) + 1)))) 136 7)).2)) else ((R_X10_takePerson (ax_u (N_X10_here mem) 136 7 (((N_X10_here mem) 136 7) + 1))), (ax_u (N_X10_takePerson (ax_u (N_X10_here mem) 136 7 (((N_X10_here mem) 136 7) + 1))) 136 7 (((N_X10_takePerson (ax_u (N_X10_here mem) 136 7 (((N_X10_here mem) 136 7) + 1))) 136 7) + 1))))) else (if (R_X10_here mem) = 107 then (if (R_X10_takeKnows (ax_u (N_X10_here mem) 136 7 (((N_X10_here mem) 136 7) + 1))) = 0 then (if (R_X10_here (N_X10_takeKnows (ax_u (N_X10_here mem) 136 7 (((N_X10_here mem) 136 7) + 1)))) = 59 then ((R_X10_takeKnows (ax_u (N_X10_here mem) 136 7 (((N_X10_here mem) 136 7) + 1))), (ax_u (N_X10_here (N_X10_takeKnows (ax_u (N_X10_here mem) 136 7 (((N_X10_here mem) 136 7) + 1)))) 136 7 (((N_X10_here (N_X10_takeKnows (ax_u (N_X10_here mem) 136 7 (((N_X10_here mem) 136 7) + 1)))) 136 7) + 1))) else ((F_X10_fails (N_X10_here (N_X10_takeKnows (ax_u (N_X10_here mem) 136 7 (((N_X10_here mem) 136 7) + 1)))) 1 ((N_X10_here (N_X10_takeKnows (ax_u (N_X10_here mem) 136 7 (((N_X10_here mem) 136 7) + 1)))) 136 7)).1, (F_X10_fails (N_X10_here (N_X10_takeKnows (ax_u (N_X10_here mem) 136 7 (((N_X10_here mem) 136 7) + 1)))) 1 ((N_X10_here (N_X10_takeKnows (ax_u (N_X10_here mem) 136 7 (((N_X10_here mem) 136 7) + 1)))) 136 7)).2)) else ((R_X10_takeKnows (ax_u (N_X10_here mem) 136 7 (((N_X10_here mem) 136 7) + 1))), (ax_u (N_X10_takeKnows (ax_u (N_X10_here mem) 136 7 (((N_X10_here mem) 136 7) + 1))) 136 7 (((N_X10_takeKnows (ax_u (N_X10_here mem) 136 7 (((N_X10_here mem) 136 7) + 1))) 136 7) + 1)))) else ((F_X10_fails (N_X10_here mem) 1 ((N_X10_here mem) 136 7)).1, (F_X10_fails (N_X10_here mem) 1 ((N_X10_here mem) 136 7)).2)))
def R_X10_takeClause (mem : ax_Me)  : Int32 := (F_X10_takeClause mem).1
def N_X10_takeClause (mem : ax_Me)  : ax_Me := (F_X10_takeClause mem).2
set_option maxRecDepth 20000 in
theorem s_X10_takeClause {G : ax_G} {l : Launch} (mem : ax_Me)  (hr : mr mem) (ht : mt 241 mem) : AD G l 4 mX10_takeClause [.ref 136] mem (some (.int (R_X10_takeClause mem))) (N_X10_takeClause mem) := by
  refine ax_start (ls := [.ref 136, .float 0, .float 0]) (u := 2) (by decide +kernel) (Nat.le_of_ble_eq_true rfl) (Nat.le_refl _) (Nat.le_refl _) rfl ?_
  refine ax_aload_n (j := 0) dX10_takeClause_0 rfl rfl rfl ?_
  refine ad_V0 ksX10_here lkX10_84 dX10_takeClause_1 rfl is136 rfl (Nat.le_of_ble_eq_true rfl) (Nat.le_of_ble_eq_true rfl) (s_X10_here _ (mt_mono ht (by decide))) ?_
  refine ax_ist1 dX10_takeClause_4 rfl rfl (Nat.le_of_ble_eq_true rfl) rfl ?_
  refine ax_iload_n (j := 1) dX10_takeClause_5 rfl rfl rfl ?_
  refine ax_bipush (v := 112) dX10_takeClause_6 (by decide) rfl ?_
  refine ax_icmp_eq (tgt := 27) dX10_takeClause_8 (by decide) rfl (fun c8 => ?_) (fun c8 => ?_)
  · refine ax_iload_n (j := 1) dX10_takeClause_27 rfl rfl rfl ?_
    refine ax_bipush (v := 112) dX10_takeClause_28 (by decide) rfl ?_
    refine ax_icmp_ne (tgt := 52) dX10_takeClause_30 (by decide) rfl (fun c30 => ?_) (fun c30 => ?_)
    · exact absurd c8 c30
    · refine ax_aload_n (j := 0) dX10_takeClause_33 rfl rfl rfl ?_
      refine am_getI flX10_105 dX10_takeClause_34 rfl is136 rfl ?_
      refine ax_bipush (v := 8) dX10_takeClause_37 (by decide) rfl ?_
      refine ax_icmp_ne (tgt := 52) dX10_takeClause_39 (by decide) rfl (fun c39 => ?_) (fun c39 => ?_)
      · refine ax_aload_n (j := 0) dX10_takeClause_52 rfl rfl rfl ?_
        refine ax_dup dX10_takeClause_53 rfl rfl ?_
        refine am_getI flX10_81 dX10_takeClause_54 rfl is136 rfl ?_
        refine ax_iconst (v := 1) dX10_takeClause_57 (by decide) rfl ?_
        refine ax_iadd dX10_takeClause_58 rfl ?_
        refine am_putI flX10_81 dX10_takeClause_59 rfl is136 rfl rfl rfl ?_
        refine ax_iload_n (j := 1) dX10_takeClause_62 rfl rfl rfl ?_
        refine ax_bipush (v := 112) dX10_takeClause_63 (by decide) rfl ?_
        refine ax_icmp_ne (tgt := 75) dX10_takeClause_65 (by decide) rfl (fun c65 => ?_) (fun c65 => ?_)
        · exact absurd c8 c65
        · refine ax_aload_n (j := 0) dX10_takeClause_68 rfl rfl rfl ?_
          refine ad_V0 ksX10_takePerson lkX10_112 dX10_takeClause_69 rfl is136 rfl (Nat.le_of_ble_eq_true rfl) (Nat.le_of_ble_eq_true rfl) (s_X10_takePerson _ (cl_hq (mr_here hr) c39) (mt_mono (mt_at (mt_here ht (by decide)) (by decide)) (by decide))) ?_
          refine ax_goto (tgt := 79) dX10_takeClause_72 (by decide) ?_
          refine ax_ist2 dX10_takeClause_79 rfl rfl (Nat.le_of_ble_eq_true rfl) rfl ?_
          refine ax_iload_n (j := 2) dX10_takeClause_80 rfl rfl rfl ?_
          refine ax_if_ne (tgt := 103) dX10_takeClause_81 (by decide) rfl (fun c81 => ?_) (fun c81 => ?_)
          · refine ax_aload_n (j := 0) dX10_takeClause_103 rfl rfl rfl ?_
            refine ax_dup dX10_takeClause_104 rfl rfl ?_
            refine am_getI flX10_81 dX10_takeClause_105 rfl is136 rfl ?_
            refine ax_iconst (v := 1) dX10_takeClause_108 (by decide) rfl ?_
            refine ax_iadd dX10_takeClause_109 rfl ?_
            refine am_putI flX10_81 dX10_takeClause_110 rfl is136 rfl rfl rfl ?_
            refine ax_iload_n (j := 2) dX10_takeClause_113 rfl rfl rfl ?_
            exact ax_ireturn rfl dX10_takeClause_114 ⟨by simp only [R_X10_takeClause, N_X10_takeClause, F_X10_takeClause, if_pos c8, if_neg c39, if_neg c81], by simp only [R_X10_takeClause, N_X10_takeClause, F_X10_takeClause, if_pos c8, if_neg c39, if_neg c81]⟩
          · refine ax_aload_n (j := 0) dX10_takeClause_84 rfl rfl rfl ?_
            refine ad_V0 ksX10_here lkX10_84 dX10_takeClause_85 rfl is136 rfl (Nat.le_of_ble_eq_true rfl) (Nat.le_of_ble_eq_true rfl) (s_X10_here _ (mt_mono (mt_person (mt_at (mt_here ht (by decide)) (by decide)) (by decide)) (by decide))) ?_
            refine ax_bipush (v := 59) dX10_takeClause_88 (by decide) rfl ?_
            refine ax_icmp_eq (tgt := 103) dX10_takeClause_90 (by decide) rfl (fun c90 => ?_) (fun c90 => ?_)
            · refine ax_aload_n (j := 0) dX10_takeClause_103 rfl rfl rfl ?_
              refine ax_dup dX10_takeClause_104 rfl rfl ?_
              refine am_getI flX10_81 dX10_takeClause_105 rfl is136 rfl ?_
              refine ax_iconst (v := 1) dX10_takeClause_108 (by decide) rfl ?_
              refine ax_iadd dX10_takeClause_109 rfl ?_
              refine am_putI flX10_81 dX10_takeClause_110 rfl is136 rfl rfl rfl ?_
              refine ax_iload_n (j := 2) dX10_takeClause_113 rfl rfl rfl ?_
              exact ax_ireturn rfl dX10_takeClause_114 ⟨by simp only [R_X10_takeClause, N_X10_takeClause, F_X10_takeClause, if_pos c8, if_neg c39, if_pos c81, if_pos c90], by simp only [R_X10_takeClause, N_X10_takeClause, F_X10_takeClause, if_pos c8, if_neg c39, if_pos c81, if_pos c90]⟩
            · refine ax_aload_n (j := 0) dX10_takeClause_93 rfl rfl rfl ?_
              refine ax_iconst (v := 1) dX10_takeClause_94 (by decide) rfl ?_
              refine ax_aload_n (j := 0) dX10_takeClause_95 rfl rfl rfl ?_
              refine am_getI flX10_81 dX10_takeClause_96 rfl is136 rfl ?_
              refine ad_V2 ksX10_fails lkX10_92 dX10_takeClause_99 rfl is136 rfl (Nat.le_of_ble_eq_true rfl) (Nat.le_of_ble_eq_true rfl) (s_X10_fails _ _ _) ?_
              exact ax_ireturn rfl dX10_takeClause_102 ⟨by simp only [R_X10_takeClause, N_X10_takeClause, F_X10_takeClause, if_pos c8, if_neg c39, if_pos c81, if_neg c90], by simp only [R_X10_takeClause, N_X10_takeClause, F_X10_takeClause, if_pos c8, if_neg c39, if_pos c81, if_neg c90]⟩
      · refine ax_aload_n (j := 0) dX10_takeClause_42 rfl rfl rfl ?_
        refine ax_iconst (v := 3) dX10_takeClause_43 (by decide) rfl ?_
        refine ax_aload_n (j := 0) dX10_takeClause_44 rfl rfl rfl ?_
        refine am_getI flX10_81 dX10_takeClause_45 rfl is136 rfl ?_
        refine ad_V2 ksX10_fails lkX10_92 dX10_takeClause_48 rfl is136 rfl (Nat.le_of_ble_eq_true rfl) (Nat.le_of_ble_eq_true rfl) (s_X10_fails _ _ _) ?_
        exact ax_ireturn rfl dX10_takeClause_51 ⟨by simp only [R_X10_takeClause, N_X10_takeClause, F_X10_takeClause, if_pos c8, if_pos c39], by simp only [R_X10_takeClause, N_X10_takeClause, F_X10_takeClause, if_pos c8, if_pos c39]⟩
  · refine ax_iload_n (j := 1) dX10_takeClause_11 rfl rfl rfl ?_
    refine ax_bipush (v := 107) dX10_takeClause_12 (by decide) rfl ?_
    refine ax_icmp_eq (tgt := 27) dX10_takeClause_14 (by decide) rfl (fun c14 => ?_) (fun c14 => ?_)
    · refine ax_iload_n (j := 1) dX10_takeClause_27 rfl rfl rfl ?_
      refine ax_bipush (v := 112) dX10_takeClause_28 (by decide) rfl ?_
      refine ax_icmp_ne (tgt := 52) dX10_takeClause_30 (by decide) rfl (fun c30 => ?_) (fun c30 => ?_)
      · refine ax_aload_n (j := 0) dX10_takeClause_52 rfl rfl rfl ?_
        refine ax_dup dX10_takeClause_53 rfl rfl ?_
        refine am_getI flX10_81 dX10_takeClause_54 rfl is136 rfl ?_
        refine ax_iconst (v := 1) dX10_takeClause_57 (by decide) rfl ?_
        refine ax_iadd dX10_takeClause_58 rfl ?_
        refine am_putI flX10_81 dX10_takeClause_59 rfl is136 rfl rfl rfl ?_
        refine ax_iload_n (j := 1) dX10_takeClause_62 rfl rfl rfl ?_
        refine ax_bipush (v := 112) dX10_takeClause_63 (by decide) rfl ?_
        refine ax_icmp_ne (tgt := 75) dX10_takeClause_65 (by decide) rfl (fun c65 => ?_) (fun c65 => ?_)
        · refine ax_aload_n (j := 0) dX10_takeClause_75 rfl rfl rfl ?_
          refine ad_V0 ksX10_takeKnows lkX10_115 dX10_takeClause_76 rfl is136 rfl (Nat.le_of_ble_eq_true rfl) (Nat.le_of_ble_eq_true rfl) (s_X10_takeKnows _ (mr_7 (mr_here hr)) (mt_mono (mt_at (mt_here ht (by decide)) (by decide)) (by decide))) ?_
          refine ax_ist2 dX10_takeClause_79 rfl rfl (Nat.le_of_ble_eq_true rfl) rfl ?_
          refine ax_iload_n (j := 2) dX10_takeClause_80 rfl rfl rfl ?_
          refine ax_if_ne (tgt := 103) dX10_takeClause_81 (by decide) rfl (fun c81 => ?_) (fun c81 => ?_)
          · refine ax_aload_n (j := 0) dX10_takeClause_103 rfl rfl rfl ?_
            refine ax_dup dX10_takeClause_104 rfl rfl ?_
            refine am_getI flX10_81 dX10_takeClause_105 rfl is136 rfl ?_
            refine ax_iconst (v := 1) dX10_takeClause_108 (by decide) rfl ?_
            refine ax_iadd dX10_takeClause_109 rfl ?_
            refine am_putI flX10_81 dX10_takeClause_110 rfl is136 rfl rfl rfl ?_
            refine ax_iload_n (j := 2) dX10_takeClause_113 rfl rfl rfl ?_
            exact ax_ireturn rfl dX10_takeClause_114 ⟨by simp only [R_X10_takeClause, N_X10_takeClause, F_X10_takeClause, if_neg c8, if_pos c14, if_neg c81], by simp only [R_X10_takeClause, N_X10_takeClause, F_X10_takeClause, if_neg c8, if_pos c14, if_neg c81]⟩
          · refine ax_aload_n (j := 0) dX10_takeClause_84 rfl rfl rfl ?_
            refine ad_V0 ksX10_here lkX10_84 dX10_takeClause_85 rfl is136 rfl (Nat.le_of_ble_eq_true rfl) (Nat.le_of_ble_eq_true rfl) (s_X10_here _ (mt_mono (mt_knows (mt_at (mt_here ht (by decide)) (by decide)) (by decide)) (by decide))) ?_
            refine ax_bipush (v := 59) dX10_takeClause_88 (by decide) rfl ?_
            refine ax_icmp_eq (tgt := 103) dX10_takeClause_90 (by decide) rfl (fun c90 => ?_) (fun c90 => ?_)
            · refine ax_aload_n (j := 0) dX10_takeClause_103 rfl rfl rfl ?_
              refine ax_dup dX10_takeClause_104 rfl rfl ?_
              refine am_getI flX10_81 dX10_takeClause_105 rfl is136 rfl ?_
              refine ax_iconst (v := 1) dX10_takeClause_108 (by decide) rfl ?_
              refine ax_iadd dX10_takeClause_109 rfl ?_
              refine am_putI flX10_81 dX10_takeClause_110 rfl is136 rfl rfl rfl ?_
              refine ax_iload_n (j := 2) dX10_takeClause_113 rfl rfl rfl ?_
              exact ax_ireturn rfl dX10_takeClause_114 ⟨by simp only [R_X10_takeClause, N_X10_takeClause, F_X10_takeClause, if_neg c8, if_pos c14, if_pos c81, if_pos c90], by simp only [R_X10_takeClause, N_X10_takeClause, F_X10_takeClause, if_neg c8, if_pos c14, if_pos c81, if_pos c90]⟩
            · refine ax_aload_n (j := 0) dX10_takeClause_93 rfl rfl rfl ?_
              refine ax_iconst (v := 1) dX10_takeClause_94 (by decide) rfl ?_
              refine ax_aload_n (j := 0) dX10_takeClause_95 rfl rfl rfl ?_
              refine am_getI flX10_81 dX10_takeClause_96 rfl is136 rfl ?_
              refine ad_V2 ksX10_fails lkX10_92 dX10_takeClause_99 rfl is136 rfl (Nat.le_of_ble_eq_true rfl) (Nat.le_of_ble_eq_true rfl) (s_X10_fails _ _ _) ?_
              exact ax_ireturn rfl dX10_takeClause_102 ⟨by simp only [R_X10_takeClause, N_X10_takeClause, F_X10_takeClause, if_neg c8, if_pos c14, if_pos c81, if_neg c90], by simp only [R_X10_takeClause, N_X10_takeClause, F_X10_takeClause, if_neg c8, if_pos c14, if_pos c81, if_neg c90]⟩
        · exact absurd c65 c8
      · exact absurd c30 c8
    · refine ax_aload_n (j := 0) dX10_takeClause_17 rfl rfl rfl ?_
      refine ax_iconst (v := 1) dX10_takeClause_18 (by decide) rfl ?_
      refine ax_aload_n (j := 0) dX10_takeClause_19 rfl rfl rfl ?_
      refine am_getI flX10_81 dX10_takeClause_20 rfl is136 rfl ?_
      refine ad_V2 ksX10_fails lkX10_92 dX10_takeClause_23 rfl is136 rfl (Nat.le_of_ble_eq_true rfl) (Nat.le_of_ble_eq_true rfl) (s_X10_fails _ _ _) ?_
      exact ax_ireturn rfl dX10_takeClause_26 ⟨by simp only [R_X10_takeClause, N_X10_takeClause, F_X10_takeClause, if_neg c8, if_neg c14], by simp only [R_X10_takeClause, N_X10_takeClause, F_X10_takeClause, if_neg c8, if_neg c14]⟩

def f_X10_takeRead_10 (mem : ax_Me)   (j : Nat) (s : ax_Me) : ax_Me :=
  match s with
  | m => (if (m 136 0) ≤ (nI j) then (ax_u (ax_u (ax_u m 138 (nI j).toNatClampNeg 0) 138 (8 + (nI j)).toNatClampNeg 0) 137 (nI j).toNatClampNeg 0) else (ax_u (ax_u (ax_u m 138 (nI j).toNatClampNeg (m 140 (nI j).toNatClampNeg)) 138 (8 + (nI j)).toNatClampNeg (nI j)) 137 (nI j).toNatClampNeg ((ax_u (ax_u m 138 (nI j).toNatClampNeg (m 140 (nI j).toNatClampNeg)) 138 (8 + (nI j)).toNatClampNeg (nI j)) 141 (nI j).toNatClampNeg)))
def f_X10_takeRead_96 (mem : ax_Me)   (j : Nat) (s : ax_Me) : ax_Me :=
  match s with
  | m => (if (m 142 (nI j).toNatClampNeg) = 0 then (ax_u m 138 (16 + (nI j)).toNatClampNeg (-1)) else (ax_u m 138 (16 + (nI j)).toNatClampNeg (m 138 ((nI j) - (nI j) / 8 * 8).toNatClampNeg)))
def F_X10_takeRead (mem : ax_Me)  : ax_Me :=
  (ax_u (ax_it (f_X10_takeRead_96 ((ax_it (f_X10_takeRead_10 ((ax_u mem 136 0 (mem 136 10)))) ((8 : Int32).toNatClampNeg) (0) (ax_u mem 136 0 (mem 136 10))))) ((64 : Int32).toNatClampNeg) (0) (ax_it (f_X10_takeRead_10 ((ax_u mem 136 0 (mem 136 10)))) ((8 : Int32).toNatClampNeg) (0) (ax_u mem 136 0 (mem 136 10)))) 138 (80 : Int32).toNatClampNeg 0)
set_option maxRecDepth 20000 in
theorem lp_X10_takeRead_10 {G : ax_G} {l : Launch} {Q : Option Value → ax_H → Prop} (mem : ax_Me)    : ∀ (n j : Nat) (m : ax_Me), j + n = (8 : Int32).toNatClampNeg → AX G l mX10_takeRead 0 94 [.ref 136, .int (nI ((8 : Int32).toNatClampNeg)), .float 0] [] 153 0 (ax_hm (ax_it (f_X10_takeRead_10 mem) n j m)) 153 0 Q → AX G l mX10_takeRead 0 10 [.ref 136, .int (nI j), .float 0] [] 153 0 (ax_hm m) 153 0 Q := by
  intro n
  induction n with
  | zero =>
    intro j m hj hx
    refine ax_iload_n (j := 1) dX10_takeRead_10 rfl rfl rfl ?_
    refine ax_bipush (v := 8) dX10_takeRead_11 (by decide) rfl ?_
    refine ax_icmp_ge (tgt := 94) dX10_takeRead_13 (by decide) rfl (fun c13 => ?_) (fun c13 => ?_)
    · have q := hx
      simp only [ax_it] at q
      rw [show ((8 : Int32).toNatClampNeg) = j by omega] at q
      exact q
    · exact absurd (cl_ge (by omega)) c13
  | succ n ih =>
    intro j m hj hx
    refine ax_iload_n (j := 1) dX10_takeRead_10 rfl rfl rfl ?_
    refine ax_bipush (v := 8) dX10_takeRead_11 (by decide) rfl ?_
    refine ax_icmp_ge (tgt := 94) dX10_takeRead_13 (by decide) rfl (fun c13 => ?_) (fun c13 => ?_)
    · exact absurd c13 (cl_nle (by omega))
    · refine ax_iload_n (j := 1) dX10_takeRead_16 rfl rfl rfl ?_
      refine ax_aload_n (j := 0) dX10_takeRead_17 rfl rfl rfl ?_
      refine am_getI flX10_63 dX10_takeRead_18 rfl is136 rfl ?_
      refine ax_icmp_ge (tgt := 28) dX10_takeRead_21 (by decide) rfl (fun c21 => ?_) (fun c21 => ?_)
      · refine ax_iconst (v := 0) dX10_takeRead_28 (by decide) rfl ?_
        refine ax_ist2 dX10_takeRead_29 rfl rfl (Nat.le_of_ble_eq_true rfl) rfl ?_
        refine ax_aload_n (j := 0) dX10_takeRead_30 rfl rfl rfl ?_
        refine am_getR flX10_13 dX10_takeRead_31 rfl is136 rfl ?_
        refine ax_iload_n (j := 1) dX10_takeRead_34 rfl rfl rfl ?_
        refine ax_iload_n (j := 2) dX10_takeRead_35 rfl rfl rfl ?_
        refine ax_if_eq (tgt := 48) dX10_takeRead_36 (by decide) rfl (fun c36 => ?_) (fun c36 => ?_)
        · refine ax_iconst (v := 0) dX10_takeRead_48 (by decide) rfl ?_
          refine am_iast dX10_takeRead_49 rfl is138 (vp_in_nI (by have := c8; omega) (by decide)) ?_
          refine ax_aload_n (j := 0) dX10_takeRead_50 rfl rfl rfl ?_
          refine am_getR flX10_13 dX10_takeRead_51 rfl is136 rfl ?_
          refine ax_bipush (v := 8) dX10_takeRead_54 (by decide) rfl ?_
          refine ax_iload_n (j := 1) dX10_takeRead_56 rfl rfl rfl ?_
          refine ax_iadd dX10_takeRead_57 rfl ?_
          refine ax_iload_n (j := 2) dX10_takeRead_58 rfl rfl rfl ?_
          refine ax_if_eq (tgt := 66) dX10_takeRead_59 (by decide) rfl (fun c59 => ?_) (fun c59 => ?_)
          · refine ax_iconst (v := 0) dX10_takeRead_66 (by decide) rfl ?_
            refine am_iast dX10_takeRead_67 rfl is138 (in_8 (vp_in_nI (by have := c8; omega) (by decide))).1 ?_
            refine ax_aload_n (j := 0) dX10_takeRead_68 rfl rfl rfl ?_
            refine am_getR flX10_7 dX10_takeRead_69 rfl is136 rfl ?_
            refine ax_iload_n (j := 1) dX10_takeRead_72 rfl rfl rfl ?_
            refine ax_iload_n (j := 2) dX10_takeRead_73 rfl rfl rfl ?_
            refine ax_if_eq (tgt := 86) dX10_takeRead_74 (by decide) rfl (fun c74 => ?_) (fun c74 => ?_)
            · refine ax_iconst (v := 0) dX10_takeRead_86 (by decide) rfl ?_
              refine am_iast dX10_takeRead_87 rfl is137 (vp_in_nI (by have := c8; omega) (by decide)) ?_
              refine ax_iinc1 (v := nI (j + 1)) dX10_takeRead_88 rfl (cl_inc j) (Nat.le_of_ble_eq_true rfl) rfl ?_
              refine ax_goto (tgt := 10) dX10_takeRead_91 (by decide) ?_
              refine ax_fg2 ?_
              have e1 : f_X10_takeRead_10 mem j m = (ax_u (ax_u (ax_u m 138 (nI j).toNatClampNeg 0) 138 (8 + (nI j)).toNatClampNeg 0) 137 (nI j).toNatClampNeg 0) := by simp only [f_X10_takeRead_10, if_pos c21]
              simp only [ax_it, e1] at hx
              exact ih (j + 1) ((ax_u (ax_u (ax_u m 138 (nI j).toNatClampNeg 0) 138 (8 + (nI j)).toNatClampNeg 0) 137 (nI j).toNatClampNeg 0)) (by omega) hx
            · exact absurd (by decide) c74
          · exact absurd (by decide) c59
        · exact absurd (by decide) c36
      · refine ax_iconst (v := 1) dX10_takeRead_24 (by decide) rfl ?_
        refine ax_goto (tgt := 29) dX10_takeRead_25 (by decide) ?_
        refine ax_ist2 dX10_takeRead_29 rfl rfl (Nat.le_of_ble_eq_true rfl) rfl ?_
        refine ax_aload_n (j := 0) dX10_takeRead_30 rfl rfl rfl ?_
        refine am_getR flX10_13 dX10_takeRead_31 rfl is136 rfl ?_
        refine ax_iload_n (j := 1) dX10_takeRead_34 rfl rfl rfl ?_
        refine ax_iload_n (j := 2) dX10_takeRead_35 rfl rfl rfl ?_
        refine ax_if_eq (tgt := 48) dX10_takeRead_36 (by decide) rfl (fun c36 => ?_) (fun c36 => ?_)
        · exact absurd c36 (by decide)
        · refine ax_aload_n (j := 0) dX10_takeRead_39 rfl rfl rfl ?_
          refine am_getR flX10_23 dX10_takeRead_40 rfl is136 rfl ?_
          refine ax_iload_n (j := 1) dX10_takeRead_43 rfl rfl rfl ?_
          refine am_iald dX10_takeRead_44 rfl is140 (vp_in_nI (by have := c8; omega) (by decide)) ?_
          refine ax_goto (tgt := 49) dX10_takeRead_45 (by decide) ?_
          refine am_iast dX10_takeRead_49 rfl is138 (vp_in_nI (by have := c8; omega) (by decide)) ?_
          refine ax_aload_n (j := 0) dX10_takeRead_50 rfl rfl rfl ?_
          refine am_getR flX10_13 dX10_takeRead_51 rfl is136 rfl ?_
          refine ax_bipush (v := 8) dX10_takeRead_54 (by decide) rfl ?_
          refine ax_iload_n (j := 1) dX10_takeRead_56 rfl rfl rfl ?_
          refine ax_iadd dX10_takeRead_57 rfl ?_
          refine ax_iload_n (j := 2) dX10_takeRead_58 rfl rfl rfl ?_
          refine ax_if_eq (tgt := 66) dX10_takeRead_59 (by decide) rfl (fun c59 => ?_) (fun c59 => ?_)
          · exact absurd c59 (by decide)
          · refine ax_iload_n (j := 1) dX10_takeRead_62 rfl rfl rfl ?_
            refine ax_goto (tgt := 67) dX10_takeRead_63 (by decide) ?_
            refine am_iast dX10_takeRead_67 rfl is138 (in_8 (vp_in_nI (by have := c8; omega) (by decide))).1 ?_
            refine ax_aload_n (j := 0) dX10_takeRead_68 rfl rfl rfl ?_
            refine am_getR flX10_7 dX10_takeRead_69 rfl is136 rfl ?_
            refine ax_iload_n (j := 1) dX10_takeRead_72 rfl rfl rfl ?_
            refine ax_iload_n (j := 2) dX10_takeRead_73 rfl rfl rfl ?_
            refine ax_if_eq (tgt := 86) dX10_takeRead_74 (by decide) rfl (fun c74 => ?_) (fun c74 => ?_)
            · exact absurd c74 (by decide)
            · refine ax_aload_n (j := 0) dX10_takeRead_77 rfl rfl rfl ?_
              refine am_getR flX10_26 dX10_takeRead_78 rfl is136 rfl ?_
              refine ax_iload_n (j := 1) dX10_takeRead_81 rfl rfl rfl ?_
              refine am_iald dX10_takeRead_82 rfl is141 (vp_in_nI (by have := c8; omega) (by decide)) ?_
              refine ax_goto (tgt := 87) dX10_takeRead_83 (by decide) ?_
              refine am_iast dX10_takeRead_87 rfl is137 (vp_in_nI (by have := c8; omega) (by decide)) ?_
              refine ax_iinc1 (v := nI (j + 1)) dX10_takeRead_88 rfl (cl_inc j) (Nat.le_of_ble_eq_true rfl) rfl ?_
              refine ax_goto (tgt := 10) dX10_takeRead_91 (by decide) ?_
              refine ax_fg2 ?_
              have e1 : f_X10_takeRead_10 mem j m = (ax_u (ax_u (ax_u m 138 (nI j).toNatClampNeg (m 140 (nI j).toNatClampNeg)) 138 (8 + (nI j)).toNatClampNeg (nI j)) 137 (nI j).toNatClampNeg ((ax_u (ax_u m 138 (nI j).toNatClampNeg (m 140 (nI j).toNatClampNeg)) 138 (8 + (nI j)).toNatClampNeg (nI j)) 141 (nI j).toNatClampNeg)) := by simp only [f_X10_takeRead_10, if_neg c21]
              simp only [ax_it, e1] at hx
              exact ih (j + 1) ((ax_u (ax_u (ax_u m 138 (nI j).toNatClampNeg (m 140 (nI j).toNatClampNeg)) 138 (8 + (nI j)).toNatClampNeg (nI j)) 137 (nI j).toNatClampNeg ((ax_u (ax_u m 138 (nI j).toNatClampNeg (m 140 (nI j).toNatClampNeg)) 138 (8 + (nI j)).toNatClampNeg (nI j)) 141 (nI j).toNatClampNeg))) (by omega) hx
set_option maxRecDepth 20000 in
theorem lp_X10_takeRead_96 {G : ax_G} {l : Launch} {Q : Option Value → ax_H → Prop} (mem : ax_Me)    : ∀ (n j : Nat) (m : ax_Me), j + n = (64 : Int32).toNatClampNeg → AX G l mX10_takeRead 0 139 [.ref 136, .int (nI ((64 : Int32).toNatClampNeg)), .float 0] [] 153 0 (ax_hm (ax_it (f_X10_takeRead_96 mem) n j m)) 153 0 Q → AX G l mX10_takeRead 0 96 [.ref 136, .int (nI j), .float 0] [] 153 0 (ax_hm m) 153 0 Q := by
  intro n
  induction n with
  | zero =>
    intro j m hj hx
    refine ax_iload_n (j := 1) dX10_takeRead_96 rfl rfl rfl ?_
    refine ax_bipush (v := 64) dX10_takeRead_97 (by decide) rfl ?_
    refine ax_icmp_ge (tgt := 139) dX10_takeRead_99 (by decide) rfl (fun c99 => ?_) (fun c99 => ?_)
    · have q := hx
      simp only [ax_it] at q
      rw [show ((64 : Int32).toNatClampNeg) = j by omega] at q
      exact q
    · exact absurd (cl_ge (by omega)) c99
  | succ n ih =>
    intro j m hj hx
    refine ax_iload_n (j := 1) dX10_takeRead_96 rfl rfl rfl ?_
    refine ax_bipush (v := 64) dX10_takeRead_97 (by decide) rfl ?_
    refine ax_icmp_ge (tgt := 139) dX10_takeRead_99 (by decide) rfl (fun c99 => ?_) (fun c99 => ?_)
    · exact absurd c99 (cl_nle (by omega))
    · refine ax_aload_n (j := 0) dX10_takeRead_102 rfl rfl rfl ?_
      refine am_getR flX10_13 dX10_takeRead_103 rfl is136 rfl ?_
      refine ax_bipush (v := 16) dX10_takeRead_106 (by decide) rfl ?_
      refine ax_iload_n (j := 1) dX10_takeRead_108 rfl rfl rfl ?_
      refine ax_iadd dX10_takeRead_109 rfl ?_
      refine ax_aload_n (j := 0) dX10_takeRead_110 rfl rfl rfl ?_
      refine am_getR flX10_29 dX10_takeRead_111 rfl is136 rfl ?_
      refine ax_iload_n (j := 1) dX10_takeRead_114 rfl rfl rfl ?_
      refine am_zald dX10_takeRead_115 rfl is142 (vp_in_nI (by have := c64; omega) (by decide)) ?_
      refine ax_if_eq (tgt := 131) dX10_takeRead_116 (by decide) rfl (fun c116 => ?_) (fun c116 => ?_)
      · refine ax_iconst (v := (-1)) dX10_takeRead_131 (by decide) rfl ?_
        refine am_iast dX10_takeRead_132 rfl is138 (by rw [show (16 : Int32) + nI j = nI (16 + j) from nI_add 16 j]; exact vp_in_nI (by have := c64; omega) (by decide)) ?_
        refine ax_iinc1 (v := nI (j + 1)) dX10_takeRead_133 rfl (cl_inc j) (Nat.le_of_ble_eq_true rfl) rfl ?_
        refine ax_goto (tgt := 96) dX10_takeRead_136 (by decide) ?_
        have e1 : f_X10_takeRead_96 mem j m = (ax_u m 138 (16 + (nI j)).toNatClampNeg (-1)) := by simp only [f_X10_takeRead_96, if_pos c116]
        simp only [ax_it, e1] at hx
        exact ih (j + 1) ((ax_u m 138 (16 + (nI j)).toNatClampNeg (-1))) (by omega) hx
      · refine ax_aload_n (j := 0) dX10_takeRead_119 rfl rfl rfl ?_
        refine am_getR flX10_13 dX10_takeRead_120 rfl is136 rfl ?_
        refine ax_iload_n (j := 1) dX10_takeRead_123 rfl rfl rfl ?_
        refine ax_bipush (v := 8) dX10_takeRead_124 (by decide) rfl ?_
        refine ax_irem dX10_takeRead_126 (by decide) rfl ?_
        refine am_iald dX10_takeRead_127 rfl is138 (by rw [show nI j - nI j / 8 * 8 = nI (j % 8) from pk_rem (by have := c64; omega) (by decide) (by decide)]; exact vp_in_nI (by omega) (by decide)) ?_
        refine ax_goto (tgt := 132) dX10_takeRead_128 (by decide) ?_
        refine am_iast dX10_takeRead_132 rfl is138 (by rw [show (16 : Int32) + nI j = nI (16 + j) from nI_add 16 j]; exact vp_in_nI (by have := c64; omega) (by decide)) ?_
        refine ax_iinc1 (v := nI (j + 1)) dX10_takeRead_133 rfl (cl_inc j) (Nat.le_of_ble_eq_true rfl) rfl ?_
        refine ax_goto (tgt := 96) dX10_takeRead_136 (by decide) ?_
        have e1 : f_X10_takeRead_96 mem j m = (ax_u m 138 (16 + (nI j)).toNatClampNeg (m 138 ((nI j) - (nI j) / 8 * 8).toNatClampNeg)) := by simp only [f_X10_takeRead_96, if_neg c116]
        simp only [ax_it, e1] at hx
        exact ih (j + 1) ((ax_u m 138 (16 + (nI j)).toNatClampNeg (m 138 ((nI j) - (nI j) / 8 * 8).toNatClampNeg))) (by omega) hx
set_option maxRecDepth 20000 in
theorem s_X10_takeRead {G : ax_G} {l : Launch} (mem : ax_Me)   : AD G l 0 mX10_takeRead [.ref 136] mem none (F_X10_takeRead mem) := by
  refine ax_start (ls := [.ref 136, .float 0, .float 0]) (u := 2) (by decide +kernel) (Nat.le_of_ble_eq_true rfl) (Nat.le_refl _) (Nat.le_refl _) rfl ?_
  refine ax_aload_n (j := 0) dX10_takeRead_0 rfl rfl rfl ?_
  refine ax_aload_n (j := 0) dX10_takeRead_1 rfl rfl rfl ?_
  refine am_getI flX10_105 dX10_takeRead_2 rfl is136 rfl ?_
  refine am_putI flX10_63 dX10_takeRead_5 rfl is136 rfl rfl rfl ?_
  refine ax_iconst (v := 0) dX10_takeRead_8 (by decide) rfl ?_
  refine ax_ist1 dX10_takeRead_9 rfl rfl (Nat.le_of_ble_eq_true rfl) rfl ?_
  refine lp_X10_takeRead_10 ((ax_u mem 136 0 (mem 136 10)))     ((8 : Int32).toNatClampNeg) (0) ((ax_u mem 136 0 (mem 136 10))) (Nat.zero_add _)  ?_
  refine ax_iconst (v := 0) dX10_takeRead_94 (by decide) rfl ?_
  refine ax_ist1 dX10_takeRead_95 rfl rfl (Nat.le_of_ble_eq_true rfl) rfl ?_
  refine lp_X10_takeRead_96 ((ax_it (f_X10_takeRead_10 ((ax_u mem 136 0 (mem 136 10)))) ((8 : Int32).toNatClampNeg) (0) (ax_u mem 136 0 (mem 136 10))))     ((64 : Int32).toNatClampNeg) (0) ((ax_it (f_X10_takeRead_10 ((ax_u mem 136 0 (mem 136 10)))) ((8 : Int32).toNatClampNeg) (0) (ax_u mem 136 0 (mem 136 10)))) (Nat.zero_add _)  ?_
  refine ax_aload_n (j := 0) dX10_takeRead_139 rfl rfl rfl ?_
  refine am_getR flX10_13 dX10_takeRead_140 rfl is136 rfl ?_
  refine ax_bipush (v := 80) dX10_takeRead_143 (by decide) rfl ?_
  refine ax_iconst (v := 0) dX10_takeRead_145 (by decide) rfl ?_
  refine am_iast dX10_takeRead_146 rfl is138 (by unfold vp_in; decide) ?_
  exact ax_vreturn rfl dX10_takeRead_147 ⟨rfl, by simp only [F_X10_takeRead]⟩

