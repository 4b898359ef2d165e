/-! ===== the reference: what it tries and sees ===== -/
def f_X10_undo_22 (mem : ax_Me)   (j : Nat) (s : ax_Me) : ax_Me :=
  match s with
  | m => (ax_u m 138 (nI j).toNatClampNeg (m 143 ((81 * (m 136 14)) + (nI j)).toNatClampNeg))
def F_X10_undo (mem : ax_Me)  : Int32 × ax_Me :=
  (if (mem 136 14) = 0 then ((-1000000003), mem) else (((ax_it (f_X10_undo_22 ((ax_u mem 136 14 ((mem 136 14) - 1)))) ((81 : Int32).toNatClampNeg) (0) (ax_u mem 136 14 ((mem 136 14) - 1))) 136 14), (ax_it (f_X10_undo_22 ((ax_u mem 136 14 ((mem 136 14) - 1)))) ((81 : Int32).toNatClampNeg) (0) (ax_u mem 136 14 ((mem 136 14) - 1)))))
set_option maxRecDepth 20000 in
theorem lp_X10_undo_22 {G : ax_G} {l : Launch} {Q : Option Value → ax_H → Prop} (mem : ax_Me)   (hv : vp_in (mem 136 14) 20) : ∀ (n j : Nat) (m : ax_Me), j + n = (81 : Int32).toNatClampNeg → m 136 = mem 136 → AX G l mX10_undo 0 54 [.ref 136, .int (nI ((81 : Int32).toNatClampNeg))] [] 153 0 (ax_hm (ax_it (f_X10_undo_22 mem) n j m)) 153 0 Q → AX G l mX10_undo 0 22 [.ref 136, .int (nI j)] [] 153 0 (ax_hm m) 153 0 Q := by
  intro n
  induction n with
  | zero =>
    intro j m hj hi hx
    refine ax_iload_n (j := 1) dX10_undo_22 rfl rfl rfl ?_
    refine ax_bipush (v := 81) dX10_undo_23 (by decide) rfl ?_
    refine ax_icmp_ge (tgt := 54) dX10_undo_25 (by decide) rfl (fun c25 => ?_) (fun c25 => ?_)
    · have q := hx
      simp only [ax_it] at q
      rw [show ((81 : Int32).toNatClampNeg) = j by omega] at q
      exact q
    · exact absurd (cl_ge (by omega)) c25
  | succ n ih =>
    intro j m hj hi hx
    refine ax_iload_n (j := 1) dX10_undo_22 rfl rfl rfl ?_
    refine ax_bipush (v := 81) dX10_undo_23 (by decide) rfl ?_
    refine ax_icmp_ge (tgt := 54) dX10_undo_25 (by decide) rfl (fun c25 => ?_) (fun c25 => ?_)
    · exact absurd c25 (cl_nle (by omega))
    · refine ax_aload_n (j := 0) dX10_undo_28 rfl rfl rfl ?_
      refine am_getR flX10_13 dX10_undo_29 rfl is136 rfl ?_
      refine ax_iload_n (j := 1) dX10_undo_32 rfl rfl rfl ?_
      refine ax_aload_n (j := 0) dX10_undo_33 rfl rfl rfl ?_
      refine am_getR flX10_33 dX10_undo_34 rfl is136 rfl ?_
      refine ax_bipush (v := 81) dX10_undo_37 (by decide) rfl ?_
      refine ax_aload_n (j := 0) dX10_undo_39 rfl rfl rfl ?_
      refine am_getI flX10_130 dX10_undo_40 rfl is136 rfl ?_
      refine ax_imul dX10_undo_43 rfl ?_
      refine ax_iload_n (j := 1) dX10_undo_44 rfl rfl rfl ?_
      refine ax_iadd dX10_undo_45 rfl ?_
      refine am_iald dX10_undo_46 rfl is143 (by rw [hi]; exact (in_past hv (by have := c81; omega)).1) ?_
      refine am_iast dX10_undo_47 rfl is138 (vp_in_nI (by have := c81; omega) (by decide)) ?_
      refine ax_iinc1 (v := nI (j + 1)) dX10_undo_48 rfl (cl_inc j) (Nat.le_of_ble_eq_true rfl) rfl ?_
      refine ax_goto (tgt := 22) dX10_undo_51 (by decide) ?_
      have e1 : f_X10_undo_22 mem j m = (ax_u m 138 (nI j).toNatClampNeg (m 143 ((81 * (m 136 14)) + (nI j)).toNatClampNeg)) := by simp only [f_X10_undo_22]
      simp only [ax_it, e1] at hx
      exact ih (j + 1) ((ax_u m 138 (nI j).toNatClampNeg (m 143 ((81 * (m 136 14)) + (nI j)).toNatClampNeg))) (by omega) (by rw [ax_u_off (by decide)]; exact hi) hx
set_option maxRecDepth 20000 in
theorem s_X10_undo {G : ax_G} {l : Launch} (mem : ax_Me)  (hu : mu mem) : AD G l 0 mX10_undo [.ref 136] mem (some (.int (F_X10_undo mem).1)) (F_X10_undo mem).2 := by
  refine ax_start (ls := [.ref 136, .float 0]) (u := 1) (by decide +kernel) (Nat.le_of_ble_eq_true rfl) (Nat.le_refl _) (Nat.le_refl _) rfl ?_
  refine ax_aload_n (j := 0) dX10_undo_0 rfl rfl rfl ?_
  refine am_getI flX10_130 dX10_undo_1 rfl is136 rfl ?_
  refine ax_if_ne (tgt := 10) dX10_undo_4 (by decide) rfl (fun c4 => ?_) (fun c4 => ?_)
  · refine ax_aload_n (j := 0) dX10_undo_10 rfl rfl rfl ?_
    refine ax_dup dX10_undo_11 rfl rfl ?_
    refine am_getI flX10_130 dX10_undo_12 rfl is136 rfl ?_
    refine ax_iconst (v := 1) dX10_undo_15 (by decide) rfl ?_
    refine ax_isub dX10_undo_16 rfl ?_
    refine am_putI flX10_130 dX10_undo_17 rfl is136 rfl rfl rfl ?_
    refine ax_iconst (v := 0) dX10_undo_20 (by decide) rfl ?_
    refine ax_ist1 dX10_undo_21 rfl rfl (Nat.le_of_ble_eq_true rfl) rfl ?_
    refine lp_X10_undo_22 ((ax_u mem 136 14 ((mem 136 14) - 1)))    (by rw [ax_u_self]; exact (u_dec hu c4).1) ((81 : Int32).toNatClampNeg) (0) ((ax_u mem 136 14 ((mem 136 14) - 1))) (Nat.zero_add _) rfl ?_
    refine ax_aload_n (j := 0) dX10_undo_54 rfl rfl rfl ?_
    refine am_getI flX10_130 dX10_undo_55 rfl is136 rfl ?_
    exact ax_ireturn rfl dX10_undo_58 ⟨by simp only [F_X10_undo, if_neg c4], by simp only [F_X10_undo, if_neg c4]⟩
  · refine ax_ldc dX10_undo_7 cnX10_171 rfl ?_
    exact ax_ireturn rfl dX10_undo_9 ⟨by simp only [F_X10_undo, if_pos c4], by simp only [F_X10_undo, if_pos c4]⟩

def F_X10_sure (mem : ax_Me) (p0 : Int32) (p1 : Int32) (p2 : Int32) : Int32 :=
  (if (F_X10_rowRefused mem p0 p1 p2) = 0 then (if (F_X10_has mem p2 p1) = 0 then (-1000000002) else (if (F_X10_unknownTo mem p0 p1) = 0 then (F_X10_sureBy mem (F_X10_remembered mem p0 p1) p1 p2) else (F_X10_unknownTo mem p0 p1))) else (F_X10_rowRefused mem p0 p1 p2))
set_option maxRecDepth 20000 in
theorem s_X10_sure {G : ax_G} {l : Launch} (mem : ax_Me) (p0 : Int32) (p1 : Int32) (p2 : Int32) (hc : mp mem) : AD G l 4 mX10_sure [.ref 136, .int p0, .int p1, .int p2] mem (some (.int (F_X10_sure mem p0 p1 p2))) mem := by
  refine ax_start (ls := [.ref 136, .int p0, .int p1, .int p2, .float 0]) (u := 1) (by decide +kernel) (Nat.le_of_ble_eq_true rfl) (Nat.le_refl _) (Nat.le_refl _) rfl ?_
  refine ax_aload_n (j := 0) dX10_sure_0 rfl rfl rfl ?_
  refine ax_iload_n (j := 1) dX10_sure_1 rfl rfl rfl ?_
  refine ax_iload_n (j := 2) dX10_sure_2 rfl rfl rfl ?_
  refine ax_iload_n (j := 3) dX10_sure_3 rfl rfl rfl ?_
  refine ad_V3 ksX10_rowRefused lkX10_184 dX10_sure_4 rfl is136 rfl (Nat.le_of_ble_eq_true rfl) (Nat.le_of_ble_eq_true rfl) (s_X10_rowRefused _ _ _ _) ?_
  refine ax_ist4 dX10_sure_7 rfl (Nat.le_of_ble_eq_true rfl) rfl ?_
  refine ax_iload dX10_sure_9 rfl rfl ?_
  refine ax_if_ne (tgt := 27) dX10_sure_11 (by decide) rfl (fun c11 => ?_) (fun c11 => ?_)
  · refine ax_iload dX10_sure_27 rfl rfl ?_
    refine ax_ist4 dX10_sure_29 rfl (Nat.le_of_ble_eq_true rfl) rfl ?_
    refine ax_iload dX10_sure_31 rfl rfl ?_
    refine ax_if_eq (tgt := 41) dX10_sure_33 (by decide) rfl (fun c33 => ?_) (fun c33 => ?_)
    · exact absurd c33 c11
    · refine ax_iload dX10_sure_36 rfl rfl ?_
      refine ax_goto (tgt := 47) dX10_sure_38 (by decide) ?_
      refine ax_ist4 dX10_sure_47 rfl (Nat.le_of_ble_eq_true rfl) rfl ?_
      refine ax_iload dX10_sure_49 rfl rfl ?_
      refine ax_if_eq (tgt := 59) dX10_sure_51 (by decide) rfl (fun c51 => ?_) (fun c51 => ?_)
      · exact absurd c51 c11
      · refine ax_iload dX10_sure_54 rfl rfl ?_
        refine ax_goto (tgt := 71) dX10_sure_56 (by decide) ?_
        exact ax_ireturn rfl dX10_sure_71 ⟨by simp only [F_X10_sure, if_neg c11], rfl⟩
  · refine ax_iload_n (j := 3) dX10_sure_14 rfl rfl rfl ?_
    refine ax_iload_n (j := 2) dX10_sure_15 rfl rfl rfl ?_
    refine ad_S2 ksX10_has lkX10_160 dX10_sure_16 rfl (Nat.le_of_ble_eq_true rfl) (Nat.le_of_ble_eq_true rfl) (s_X10_has _ _ _) ?_
    refine ax_if_ne (tgt := 27) dX10_sure_19 (by decide) rfl (fun c19 => ?_) (fun c19 => ?_)
    · refine ax_iload dX10_sure_27 rfl rfl ?_
      refine ax_ist4 dX10_sure_29 rfl (Nat.le_of_ble_eq_true rfl) rfl ?_
      refine ax_iload dX10_sure_31 rfl rfl ?_
      refine ax_if_eq (tgt := 41) dX10_sure_33 (by decide) rfl (fun c33 => ?_) (fun c33 => ?_)
      · refine ax_aload_n (j := 0) dX10_sure_41 rfl rfl rfl ?_
        refine ax_iload_n (j := 1) dX10_sure_42 rfl rfl rfl ?_
        refine ax_iload_n (j := 2) dX10_sure_43 rfl rfl rfl ?_
        refine ad_V2 ksX10_unknownTo lkX10_188 dX10_sure_44 rfl is136 rfl (Nat.le_of_ble_eq_true rfl) (Nat.le_of_ble_eq_true rfl) (s_X10_unknownTo _ _ _ (in_mem (isp_in hc (two_of (rr_two c11)).1) (isp_in hc (two_of (rr_two c11)).2.1)).1) ?_
        refine ax_ist4 dX10_sure_47 rfl (Nat.le_of_ble_eq_true rfl) rfl ?_
        refine ax_iload dX10_sure_49 rfl rfl ?_
        refine ax_if_eq (tgt := 59) dX10_sure_51 (by decide) rfl (fun c51 => ?_) (fun c51 => ?_)
        · refine ax_aload_n (j := 0) dX10_sure_59 rfl rfl rfl ?_
          refine ax_aload_n (j := 0) dX10_sure_60 rfl rfl rfl ?_
          refine ax_iload_n (j := 1) dX10_sure_61 rfl rfl rfl ?_
          refine ax_iload_n (j := 2) dX10_sure_62 rfl rfl rfl ?_
          refine ad_V2 ksX10_remembered lkX10_133 dX10_sure_63 rfl is136 rfl (Nat.le_of_ble_eq_true rfl) (Nat.le_of_ble_eq_true rfl) (s_X10_remembered _ _ _ (in_mem (isp_in hc (two_of (rr_two c11)).1) (isp_in hc (two_of (rr_two c11)).2.1)).1) ?_
          refine ax_iload_n (j := 2) dX10_sure_66 rfl rfl rfl ?_
          refine ax_iload_n (j := 3) dX10_sure_67 rfl rfl rfl ?_
          refine ad_V3 ksX10_sureBy lkX10_206 dX10_sure_68 rfl is136 rfl (Nat.le_of_ble_eq_true rfl) (Nat.le_of_ble_eq_true rfl) (s_X10_sureBy _ _ _ _ hc (isp_in hc (two_of (rr_two c11)).2.1)) ?_
          exact ax_ireturn rfl dX10_sure_71 ⟨by simp only [F_X10_sure, if_pos c11, if_neg c19, if_pos c51], rfl⟩
        · refine ax_iload dX10_sure_54 rfl rfl ?_
          refine ax_goto (tgt := 71) dX10_sure_56 (by decide) ?_
          exact ax_ireturn rfl dX10_sure_71 ⟨by simp only [F_X10_sure, if_pos c11, if_neg c19, if_neg c51], rfl⟩
      · exact absurd c11 c33
    · refine ax_ldc dX10_sure_22 cnX10_76 rfl ?_
      refine ax_goto (tgt := 29) dX10_sure_24 (by decide) ?_
      refine ax_ist4 dX10_sure_29 rfl (Nat.le_of_ble_eq_true rfl) rfl ?_
      refine ax_iload dX10_sure_31 rfl rfl ?_
      refine ax_if_eq (tgt := 41) dX10_sure_33 (by decide) rfl (fun c33 => ?_) (fun c33 => ?_)
      · exact absurd c33 (by decide)
      · refine ax_iload dX10_sure_36 rfl rfl ?_
        refine ax_goto (tgt := 47) dX10_sure_38 (by decide) ?_
        refine ax_ist4 dX10_sure_47 rfl (Nat.le_of_ble_eq_true rfl) rfl ?_
        refine ax_iload dX10_sure_49 rfl rfl ?_
        refine ax_if_eq (tgt := 59) dX10_sure_51 (by decide) rfl (fun c51 => ?_) (fun c51 => ?_)
        · exact absurd c51 (by decide)
        · refine ax_iload dX10_sure_54 rfl rfl ?_
          refine ax_goto (tgt := 71) dX10_sure_56 (by decide) ?_
          exact ax_ireturn rfl dX10_sure_71 ⟨by simp only [F_X10_sure, if_pos c11, if_pos c19], rfl⟩

def f_X10_bestRow_50 (mem : ax_Me) (p0 : Int32) (p1 : Int32) (p2 : Int32)  (j : Nat) (s : Int32 × Int32) : Int32 × Int32 :=
  match s with
  | (x0, x1) => (if (F_X10_bits mem (nI j)) = p2 then (if (F_X10_has mem (nI j) p1) = 0 then (x0, x1) else (if (F_X10_has mem (nI j) p0) = 0 then (if (F_X10_sureBy mem (F_X10_remembered mem p0 p1) p1 (nI j)) ≤ x1 then (x0, x1) else ((nI j), (F_X10_sureBy mem (F_X10_remembered mem p0 p1) p1 (nI j)))) else (x0, x1))) else (x0, x1))
def F_X10_bestRow (mem : ax_Me) (p0 : Int32) (p1 : Int32) (p2 : Int32) : Int32 :=
  (if (F_X10_areTwo mem p0 p1) = 0 then (-1000000001) else (if (F_X10_in mem p2.toInt64 (2) (8)) = 0 then (-1000000002) else (if 0 ≤ (F_X10_remembered mem p0 p1) then (ax_it (f_X10_bestRow_50 mem p0 p1 p2) (((1 <<< ((mem 136 0) &&& 31)) : Int32).toNatClampNeg) (0) ((-1), 0)).1 else (-1000000003))))
set_option maxRecDepth 20000 in
theorem lp_X10_bestRow_50 {G : ax_G} {l : Launch} {Q : Option Value → ax_H → Prop} (mem : ax_Me) (p0 : Int32) (p1 : Int32) (p2 : Int32)  (hc : mp mem) (ht : ¬ F_X10_areTwo mem p0 p1 = 0) : ∀ (n j : Nat) (x0 : Int32) (x1 : Int32), j + n = ((1 <<< ((mem 136 0) &&& 31)) : Int32).toNatClampNeg → AX G l mX10_bestRow 4 141 [.ref 136, .int p0, .int p1, .int p2, .int (ax_it (f_X10_bestRow_50 mem p0 p1 p2) n j (x0, x1)).1, .int (ax_it (f_X10_bestRow_50 mem p0 p1 p2) n j (x0, x1)).2, .int (nI (((1 <<< ((mem 136 0) &&& 31)) : Int32).toNatClampNeg)), .float 0] [] 153 0 (ax_hm mem) 153 0 Q → AX G l mX10_bestRow 4 50 [.ref 136, .int p0, .int p1, .int p2, .int x0, .int x1, .int (nI j), .float 0] [] 153 0 (ax_hm mem) 153 0 Q := by
  intro n
  induction n with
  | zero =>
    intro j x0 x1 hj hx
    refine ax_iload dX10_bestRow_50 rfl rfl ?_
    refine ax_iconst (v := 1) dX10_bestRow_52 (by decide) rfl ?_
    refine ax_aload_n (j := 0) dX10_bestRow_53 rfl rfl rfl ?_
    refine am_getI flX10_63 dX10_bestRow_54 rfl is136 rfl ?_
    refine ax_ishl dX10_bestRow_57 rfl ?_
    refine ax_icmp_ge (tgt := 141) dX10_bestRow_58 (by decide) rfl (fun c58 => ?_) (fun c58 => ?_)
    · have q := hx
      simp only [ax_it] at q
      rw [show (((1 <<< ((mem 136 0) &&& 31)) : Int32).toNatClampNeg) = j by omega] at q
      exact q
    · exact absurd (cl_ge (by omega)) c58
  | succ n ih =>
    intro j x0 x1 hj hx
    refine ax_iload dX10_bestRow_50 rfl rfl ?_
    refine ax_iconst (v := 1) dX10_bestRow_52 (by decide) rfl ?_
    refine ax_aload_n (j := 0) dX10_bestRow_53 rfl rfl rfl ?_
    refine am_getI flX10_63 dX10_bestRow_54 rfl is136 rfl ?_
    refine ax_ishl dX10_bestRow_57 rfl ?_
    refine ax_icmp_ge (tgt := 141) dX10_bestRow_58 (by decide) rfl (fun c58 => ?_) (fun c58 => ?_)
    · exact absurd c58 (cl_nle (by omega))
    · refine ax_iload dX10_bestRow_61 rfl rfl ?_
      refine ad_S1 ksX10_bits lkX10_140 dX10_bestRow_63 rfl (Nat.le_of_ble_eq_true rfl) (Nat.le_of_ble_eq_true rfl) (s_X10_bits _ _) ?_
      refine ax_iload_n (j := 3) dX10_bestRow_66 rfl rfl rfl ?_
      refine ax_icmp_ne (tgt := 135) dX10_bestRow_67 (by decide) rfl (fun c67 => ?_) (fun c67 => ?_)
      · refine ax_iinc6 (v := nI (j + 1)) dX10_bestRow_135 rfl (cl_inc j) (Nat.le_of_ble_eq_true rfl) rfl ?_
        refine ax_goto (tgt := 50) dX10_bestRow_138 (by decide) ?_
        have e1 : f_X10_bestRow_50 mem p0 p1 p2 j (x0, x1) = (x0, x1) := by simp only [f_X10_bestRow_50, if_neg c67]
        simp only [ax_it, e1] at hx
        exact ih (j + 1) (x0) (x1) (by omega) hx
      · refine ax_iload dX10_bestRow_70 rfl rfl ?_
        refine ax_iload_n (j := 2) dX10_bestRow_72 rfl rfl rfl ?_
        refine ad_S2 ksX10_has lkX10_160 dX10_bestRow_73 rfl (Nat.le_of_ble_eq_true rfl) (Nat.le_of_ble_eq_true rfl) (s_X10_has _ _ _) ?_
        refine ax_if_eq (tgt := 135) dX10_bestRow_76 (by decide) rfl (fun c76 => ?_) (fun c76 => ?_)
        · refine ax_iinc6 (v := nI (j + 1)) dX10_bestRow_135 rfl (cl_inc j) (Nat.le_of_ble_eq_true rfl) rfl ?_
          refine ax_goto (tgt := 50) dX10_bestRow_138 (by decide) ?_
          have e1 : f_X10_bestRow_50 mem p0 p1 p2 j (x0, x1) = (x0, x1) := by simp only [f_X10_bestRow_50, if_pos c67, if_pos c76]
          simp only [ax_it, e1] at hx
          exact ih (j + 1) (x0) (x1) (by omega) hx
        · refine ax_iload dX10_bestRow_79 rfl rfl ?_
          refine ax_iload_n (j := 1) dX10_bestRow_81 rfl rfl rfl ?_
          refine ad_S2 ksX10_has lkX10_160 dX10_bestRow_82 rfl (Nat.le_of_ble_eq_true rfl) (Nat.le_of_ble_eq_true rfl) (s_X10_has _ _ _) ?_
          refine ax_if_ne (tgt := 135) dX10_bestRow_85 (by decide) rfl (fun c85 => ?_) (fun c85 => ?_)
          · refine ax_iinc6 (v := nI (j + 1)) dX10_bestRow_135 rfl (cl_inc j) (Nat.le_of_ble_eq_true rfl) rfl ?_
            refine ax_goto (tgt := 50) dX10_bestRow_138 (by decide) ?_
            have e1 : f_X10_bestRow_50 mem p0 p1 p2 j (x0, x1) = (x0, x1) := by simp only [f_X10_bestRow_50, if_pos c67, if_neg c76, if_neg c85]
            simp only [ax_it, e1] at hx
            exact ih (j + 1) (x0) (x1) (by omega) hx
          · refine ax_aload_n (j := 0) dX10_bestRow_88 rfl rfl rfl ?_
            refine ax_aload_n (j := 0) dX10_bestRow_89 rfl rfl rfl ?_
            refine ax_iload_n (j := 1) dX10_bestRow_90 rfl rfl rfl ?_
            refine ax_iload_n (j := 2) dX10_bestRow_91 rfl rfl rfl ?_
            refine ad_V2 ksX10_remembered lkX10_133 dX10_bestRow_92 rfl is136 rfl (Nat.le_of_ble_eq_true rfl) (Nat.le_of_ble_eq_true rfl) (s_X10_remembered _ _ _ (in_mem (isp_in hc (two_of ht).1) (isp_in hc (two_of ht).2.1)).1) ?_
            refine ax_iload_n (j := 2) dX10_bestRow_95 rfl rfl rfl ?_
            refine ax_iload dX10_bestRow_96 rfl rfl ?_
            refine ad_V3 ksX10_sureBy lkX10_206 dX10_bestRow_98 rfl is136 rfl (Nat.le_of_ble_eq_true rfl) (Nat.le_of_ble_eq_true rfl) (s_X10_sureBy _ _ _ _ hc (isp_in hc (two_of ht).2.1)) ?_
            refine ax_ist7 dX10_bestRow_101 rfl (Nat.le_of_ble_eq_true rfl) rfl ?_
            refine ax_iload dX10_bestRow_103 rfl rfl ?_
            refine ax_iload dX10_bestRow_105 rfl rfl ?_
            refine ax_icmp_le (tgt := 115) dX10_bestRow_107 (by decide) rfl (fun c107 => ?_) (fun c107 => ?_)
            · refine ax_iload dX10_bestRow_115 rfl rfl ?_
              refine ax_ist4 dX10_bestRow_117 rfl (Nat.le_of_ble_eq_true rfl) rfl ?_
              refine ax_iload dX10_bestRow_119 rfl rfl ?_
              refine ax_iload dX10_bestRow_121 rfl rfl ?_
              refine ax_icmp_le (tgt := 131) dX10_bestRow_123 (by decide) rfl (fun c123 => ?_) (fun c123 => ?_)
              · refine ax_iload dX10_bestRow_131 rfl rfl ?_
                refine ax_ist5 dX10_bestRow_133 rfl (Nat.le_of_ble_eq_true rfl) rfl ?_
                refine ax_iinc6 (v := nI (j + 1)) dX10_bestRow_135 rfl (cl_inc j) (Nat.le_of_ble_eq_true rfl) rfl ?_
                refine ax_goto (tgt := 50) dX10_bestRow_138 (by decide) ?_
                refine ax_fg7 ?_
                have e1 : f_X10_bestRow_50 mem p0 p1 p2 j (x0, x1) = (x0, x1) := by simp only [f_X10_bestRow_50, if_pos c67, if_neg c76, if_pos c85, if_pos c107]
                simp only [ax_it, e1] at hx
                exact ih (j + 1) (x0) (x1) (by omega) hx
              · exact absurd c107 c123
            · refine ax_iload dX10_bestRow_110 rfl rfl ?_
              refine ax_goto (tgt := 117) dX10_bestRow_112 (by decide) ?_
              refine ax_ist4 dX10_bestRow_117 rfl (Nat.le_of_ble_eq_true rfl) rfl ?_
              refine ax_iload dX10_bestRow_119 rfl rfl ?_
              refine ax_iload dX10_bestRow_121 rfl rfl ?_
              refine ax_icmp_le (tgt := 131) dX10_bestRow_123 (by decide) rfl (fun c123 => ?_) (fun c123 => ?_)
              · exact absurd c123 c107
              · refine ax_iload dX10_bestRow_126 rfl rfl ?_
                refine ax_goto (tgt := 133) dX10_bestRow_128 (by decide) ?_
                refine ax_ist5 dX10_bestRow_133 rfl (Nat.le_of_ble_eq_true rfl) rfl ?_
                refine ax_iinc6 (v := nI (j + 1)) dX10_bestRow_135 rfl (cl_inc j) (Nat.le_of_ble_eq_true rfl) rfl ?_
                refine ax_goto (tgt := 50) dX10_bestRow_138 (by decide) ?_
                refine ax_fg7 ?_
                have e1 : f_X10_bestRow_50 mem p0 p1 p2 j (x0, x1) = ((nI j), (F_X10_sureBy mem (F_X10_remembered mem p0 p1) p1 (nI j))) := by simp only [f_X10_bestRow_50, if_pos c67, if_neg c76, if_pos c85, if_neg c107]
                simp only [ax_it, e1] at hx
                exact ih (j + 1) ((nI j)) ((F_X10_sureBy mem (F_X10_remembered mem p0 p1) p1 (nI j))) (by omega) hx
set_option maxRecDepth 20000 in
theorem s_X10_bestRow {G : ax_G} {l : Launch} (mem : ax_Me) (p0 : Int32) (p1 : Int32) (p2 : Int32) (hc : mp mem) : AD G l 4 mX10_bestRow [.ref 136, .int p0, .int p1, .int p2] mem (some (.int (F_X10_bestRow mem p0 p1 p2))) mem := by
  refine ax_start (ls := [.ref 136, .int p0, .int p1, .int p2, .float 0, .float 0, .float 0, .float 0]) (u := 4) (by decide +kernel) (Nat.le_of_ble_eq_true rfl) (Nat.le_refl _) (Nat.le_refl _) rfl ?_
  refine ax_aload_n (j := 0) dX10_bestRow_0 rfl rfl rfl ?_
  refine ax_iload_n (j := 1) dX10_bestRow_1 rfl rfl rfl ?_
  refine ax_iload_n (j := 2) dX10_bestRow_2 rfl rfl rfl ?_
  refine ad_V2 ksX10_areTwo lkX10_156 dX10_bestRow_3 rfl is136 rfl (Nat.le_of_ble_eq_true rfl) (Nat.le_of_ble_eq_true rfl) (s_X10_areTwo _ _ _) ?_
  refine ax_if_ne (tgt := 12) dX10_bestRow_6 (by decide) rfl (fun c6 => ?_) (fun c6 => ?_)
  · refine ax_iload_n (j := 3) dX10_bestRow_12 rfl rfl rfl ?_
    refine ax_i2l dX10_bestRow_13 rfl ?_
    refine ax_ldc2 dX10_bestRow_14 cnX10_209 rfl ?_
    refine ax_ldc2 dX10_bestRow_17 cnX10_211 rfl ?_
    refine ad_S3 ksX10_in lkX10_66 dX10_bestRow_20 rfl (Nat.le_of_ble_eq_true rfl) (Nat.le_of_ble_eq_true rfl) (s_X10_in _ _ _ _) ?_
    refine ax_if_ne (tgt := 29) dX10_bestRow_23 (by decide) rfl (fun c23 => ?_) (fun c23 => ?_)
    · refine ax_aload_n (j := 0) dX10_bestRow_29 rfl rfl rfl ?_
      refine ax_iload_n (j := 1) dX10_bestRow_30 rfl rfl rfl ?_
      refine ax_iload_n (j := 2) dX10_bestRow_31 rfl rfl rfl ?_
      refine ad_V2 ksX10_remembered lkX10_133 dX10_bestRow_32 rfl is136 rfl (Nat.le_of_ble_eq_true rfl) (Nat.le_of_ble_eq_true rfl) (s_X10_remembered _ _ _ (in_mem (isp_in hc (two_of c6).1) (isp_in hc (two_of c6).2.1)).1) ?_
      refine ax_if_ge (tgt := 41) dX10_bestRow_35 (by decide) rfl (fun c35 => ?_) (fun c35 => ?_)
      · refine ax_iconst (v := (-1)) dX10_bestRow_41 (by decide) rfl ?_
        refine ax_ist4 dX10_bestRow_42 rfl (Nat.le_of_ble_eq_true rfl) rfl ?_
        refine ax_iconst (v := 0) dX10_bestRow_44 (by decide) rfl ?_
        refine ax_ist5 dX10_bestRow_45 rfl (Nat.le_of_ble_eq_true rfl) rfl ?_
        refine ax_iconst (v := 0) dX10_bestRow_47 (by decide) rfl ?_
        refine ax_ist6 dX10_bestRow_48 rfl (Nat.le_of_ble_eq_true rfl) rfl ?_
        refine lp_X10_bestRow_50 mem p0 p1 p2  hc c6 (((1 <<< ((mem 136 0) &&& 31)) : Int32).toNatClampNeg) (0) ((-1)) (0) (Nat.zero_add _)  ?_
        refine ax_iload dX10_bestRow_141 rfl rfl ?_
        exact ax_ireturn rfl dX10_bestRow_143 ⟨by simp only [F_X10_bestRow, if_neg c6, if_neg c23, if_pos c35], rfl⟩
      · refine ax_ldc dX10_bestRow_38 cnX10_171 rfl ?_
        exact ax_ireturn rfl dX10_bestRow_40 ⟨by simp only [F_X10_bestRow, if_neg c6, if_neg c23, if_neg c35], rfl⟩
    · refine ax_ldc dX10_bestRow_26 cnX10_76 rfl ?_
      exact ax_ireturn rfl dX10_bestRow_28 ⟨by simp only [F_X10_bestRow, if_neg c6, if_pos c23], rfl⟩
  · refine ax_ldc dX10_bestRow_9 cnX10_152 rfl ?_
    exact ax_ireturn rfl dX10_bestRow_11 ⟨by simp only [F_X10_bestRow, if_pos c6], rfl⟩

theorem and1 (x : Int32) : 0 ≤ (x &&& 1).toInt ∧ (x &&& 1).toInt ≤ 1 := by
  obtain ⟨j, hj, e⟩ := pk_andE x (m := 1) 1 (by decide)
  rw [e, nI_toInt (by omega)]
  omega
theorem bits_rng (m : ax_Me) (s : Int32) : 0 ≤ (F_X10_bits m s).toInt ∧ (F_X10_bits m s).toInt ≤ 8 := by
  unfold F_X10_bits
  have key := ax_it_ind (f := f_X10_bits_4 m s) (fun j (x : Int32) => j ≤ 8 → 0 ≤ x.toInt ∧ x.toInt ≤ j) ((8 : Int32).toNatClampNeg) 0 0 (fun _ => by decide) (fun k x _ h2 hs => ?_)
  · have e : 0 + (8 : Int32).toNatClampNeg = 8 := rfl
    rw [e] at key
    exact key (by decide)
  · intro h3
    have h4 := hs (by omega)
    have h5 := and1 (s >>> (nI k &&& 31))
    unfold f_X10_bits_4
    dsimp only
    rw [Jvm.Kit.i32_add (by omega) (by omega)]
    omega
theorem wt_rng (m : ax_Me) (a b : Int32) : 1 ≤ (9 - F_X10_apart m a b).toInt ∧ (9 - F_X10_apart m a b).toInt ≤ 9 := by
  have h := bits_rng m (a ^^^ b)
  have e : F_X10_apart m a b = F_X10_bits m (a ^^^ b) := rfl
  have e9 : (9 : Int32).toInt = 9 := rfl
  rw [e, Jvm.Kit.i32_sub (by omega) (by omega), e9]
  omega
def f_X10_odds_55 (mem : ax_Me) (p0 : Int32) (p1 : Int32) (p2 : Int32) (p3 : Int32) (v5 : Int32) (j : Nat) (s : Int32) : Int32 :=
  match s with
  | x0 => (if (F_X10_has mem p2 (nI j)) = 0 then (x0 + 0) else (x0 + (9 - (F_X10_apart mem (mem 138 (nI j).toNatClampNeg) (F_X10_remembered mem p0 p1)))))
def F_X10_odds (mem : ax_Me) (p0 : Int32) (p1 : Int32) (p2 : Int32) (p3 : Int32) : Int32 :=
  (if (F_X10_isPerson mem p3) = 0 then (-1000000001) else (if (F_X10_rowRefused mem p0 p1 p2) = 0 then (if (F_X10_unknownTo mem p0 p1) = 0 then (if (F_X10_has mem p2 p3) = 0 then 0 else (((9 - (F_X10_apart mem (mem 138 p3.toNatClampNeg) (F_X10_remembered mem p0 p1))) * (1000000)) / (ax_it (f_X10_odds_55 mem p0 p1 p2 p3 ((F_X10_unknownTo mem p0 p1))) (((mem 136 0) : Int32).toNatClampNeg) (0) 0))) else (F_X10_unknownTo mem p0 p1)) else (F_X10_rowRefused mem p0 p1 p2)))
set_option maxRecDepth 20000 in
theorem lp_X10_odds_55 {G : ax_G} {l : Launch} {Q : Option Value → ax_H → Prop} (mem : ax_Me) (p0 : Int32) (p1 : Int32) (p2 : Int32) (p3 : Int32) (v5 : Int32) (hc : mp mem) (ht : ¬ F_X10_areTwo mem p0 p1 = 0) : ∀ (n j : Nat) (x0 : Int32), j + n = ((mem 136 0) : Int32).toNatClampNeg → AX G l mX10_odds 4 107 [.ref 136, .int p0, .int p1, .int p2, .int p3, .int v5, .int (ax_it (f_X10_odds_55 mem p0 p1 p2 p3 v5) n j x0), .int (nI (((mem 136 0) : Int32).toNatClampNeg))] [] 153 0 (ax_hm mem) 153 0 Q → AX G l mX10_odds 4 55 [.ref 136, .int p0, .int p1, .int p2, .int p3, .int v5, .int x0, .int (nI j)] [] 153 0 (ax_hm mem) 153 0 Q := by
  intro n
  induction n with
  | zero =>
    intro j x0 hj hx
    refine ax_iload dX10_odds_55 rfl rfl ?_
    refine ax_aload_n (j := 0) dX10_odds_57 rfl rfl rfl ?_
    refine am_getI flX10_63 dX10_odds_58 rfl is136 rfl ?_
    refine ax_icmp_ge (tgt := 107) dX10_odds_61 (by decide) rfl (fun c61 => ?_) (fun c61 => ?_)
    · have q := hx
      simp only [ax_it] at q
      rw [show (((mem 136 0) : Int32).toNatClampNeg) = j by omega] at q
      exact q
    · exact absurd (cl_ge (by omega)) c61
  | succ n ih =>
    intro j x0 hj hx
    refine ax_iload dX10_odds_55 rfl rfl ?_
    refine ax_aload_n (j := 0) dX10_odds_57 rfl rfl rfl ?_
    refine am_getI flX10_63 dX10_odds_58 rfl is136 rfl ?_
    refine ax_icmp_ge (tgt := 107) dX10_odds_61 (by decide) rfl (fun c61 => ?_) (fun c61 => ?_)
    · exact absurd c61 (cl_nle (by omega))
    · refine ax_iload dX10_odds_64 rfl rfl ?_
      refine ax_iload_n (j := 3) dX10_odds_66 rfl rfl rfl ?_
      refine ax_iload dX10_odds_67 rfl rfl ?_
      refine ad_S2 ksX10_has lkX10_160 dX10_odds_69 rfl (Nat.le_of_ble_eq_true rfl) (Nat.le_of_ble_eq_true rfl) (s_X10_has _ _ _) ?_
      refine ax_if_eq (tgt := 97) dX10_odds_72 (by decide) rfl (fun c72 => ?_) (fun c72 => ?_)
      · refine ax_iconst (v := 0) dX10_odds_97 (by decide) rfl ?_
        refine ax_iadd dX10_odds_98 rfl ?_
        refine ax_ist6 dX10_odds_99 rfl (Nat.le_of_ble_eq_true rfl) rfl ?_
        refine ax_iinc7 (v := nI (j + 1)) dX10_odds_101 rfl (cl_inc j) (Nat.le_of_ble_eq_true rfl) rfl ?_
        refine ax_goto (tgt := 55) dX10_odds_104 (by decide) ?_
        have e1 : f_X10_odds_55 mem p0 p1 p2 p3 v5 j x0 = (x0 + 0) := by simp only [f_X10_odds_55, if_pos c72]
        simp only [ax_it, e1] at hx
        exact ih (j + 1) ((x0 + 0)) (by omega) hx
      · refine ax_bipush (v := 9) dX10_odds_75 (by decide) rfl ?_
        refine ax_aload_n (j := 0) dX10_odds_77 rfl rfl rfl ?_
        refine am_getR flX10_13 dX10_odds_78 rfl is136 rfl ?_
        refine ax_iload dX10_odds_81 rfl rfl ?_
        refine am_iald dX10_odds_83 rfl is138 (vp_in_nI (by have := hc.le; omega) (by decide)) ?_
        refine ax_aload_n (j := 0) dX10_odds_84 rfl rfl rfl ?_
        refine ax_iload_n (j := 1) dX10_odds_85 rfl rfl rfl ?_
        refine ax_iload_n (j := 2) dX10_odds_86 rfl rfl rfl ?_
        refine ad_V2 ksX10_remembered lkX10_133 dX10_odds_87 rfl is136 rfl (Nat.le_of_ble_eq_true rfl) (Nat.le_of_ble_eq_true rfl) (s_X10_remembered _ _ _ (in_mem (isp_in hc (two_of ht).1) (isp_in hc (two_of ht).2.1)).1) ?_
        refine ad_S2 ksX10_apart lkX10_163 dX10_odds_90 rfl (Nat.le_of_ble_eq_true rfl) (Nat.le_of_ble_eq_true rfl) (s_X10_apart _ _ _) ?_
        refine ax_isub dX10_odds_93 rfl ?_
        refine ax_goto (tgt := 98) dX10_odds_94 (by decide) ?_
        refine ax_iadd dX10_odds_98 rfl ?_
        refine ax_ist6 dX10_odds_99 rfl (Nat.le_of_ble_eq_true rfl) rfl ?_
        refine ax_iinc7 (v := nI (j + 1)) dX10_odds_101 rfl (cl_inc j) (Nat.le_of_ble_eq_true rfl) rfl ?_
        refine ax_goto (tgt := 55) dX10_odds_104 (by decide) ?_
        have e1 : f_X10_odds_55 mem p0 p1 p2 p3 v5 j x0 = (x0 + (9 - (F_X10_apart mem (mem 138 (nI j).toNatClampNeg) (F_X10_remembered mem p0 p1)))) := by simp only [f_X10_odds_55, if_neg c72]
        simp only [ax_it, e1] at hx
        exact ih (j + 1) ((x0 + (9 - (F_X10_apart mem (mem 138 (nI j).toNatClampNeg) (F_X10_remembered mem p0 p1))))) (by omega) hx
theorem odds_ne {m : ax_Me} {p0 p1 p2 p3 v5 : Int32} (hc : mp m) (h6 : ¬ F_X10_isPerson m p3 = 0) (hh : ¬ F_X10_has m p2 p3 = 0) : ¬ ax_it (f_X10_odds_55 m p0 p1 p2 p3 v5) ((m 136 0) : Int32).toNatClampNeg 0 0 = 0 := by
  have h1 := (isp_iff hc).mp h6
  have hle := hc.le
  obtain ⟨j, hj, e⟩ := vp_in_of (isp_in hc h6) (by decide)
  have hjc : j < (m 136 0).toNatClampNeg := by
    have : (m 136 0).toNatClampNeg = (m 136 0).toInt.toNat := rfl
    rw [e, nI_toInt (by omega)] at h1
    omega
  have key := ax_it_ind (f := f_X10_odds_55 m p0 p1 p2 p3 v5) (fun k (x : Int32) => k ≤ 8 → (0 ≤ x.toInt ∧ x.toInt ≤ 9 * k) ∧ (j < k → 1 ≤ x.toInt)) ((m 136 0) : Int32).toNatClampNeg 0 0 (fun _ => ⟨by decide, fun q => absurd q (by omega)⟩) (fun k x _ h2 hs => ?_)
  · intro q
    rw [q] at key
    have := (key (by omega)).2 (by omega)
    exact absurd this (by decide)
  · intro h3
    obtain ⟨⟨a1, a2⟩, a3⟩ := hs (by omega)
    unfold f_X10_odds_55
    dsimp only
    split
    · next c =>
      have e0 : (0 : Int32).toInt = 0 := rfl
      rw [Jvm.Kit.i32_add (by omega) (by omega), e0]
      refine ⟨by omega, fun q => ?_⟩
      by_cases hk : j = k
      · subst hk
        rw [← e] at c
        exact absurd c hh
      · have := a3 (by omega)
        omega
    · have w := wt_rng m (m 138 (nI k).toNatClampNeg) (F_X10_remembered m p0 p1)
      rw [Jvm.Kit.i32_add (by omega) (by omega)]
      refine ⟨by omega, fun q => by omega⟩
set_option maxRecDepth 20000 in
theorem s_X10_odds {G : ax_G} {l : Launch} (mem : ax_Me) (p0 : Int32) (p1 : Int32) (p2 : Int32) (p3 : Int32) (hc : mp mem) : AD G l 4 mX10_odds [.ref 136, .int p0, .int p1, .int p2, .int p3] mem (some (.int (F_X10_odds mem p0 p1 p2 p3))) mem := by
  refine ax_start (ls := [.ref 136, .int p0, .int p1, .int p2, .int p3, .float 0, .float 0, .float 0]) (u := 3) (by decide +kernel) (Nat.le_of_ble_eq_true rfl) (Nat.le_refl _) (Nat.le_refl _) rfl ?_
  refine ax_aload_n (j := 0) dX10_odds_0 rfl rfl rfl ?_
  refine ax_iload dX10_odds_1 rfl rfl ?_
  refine ad_V1 ksX10_isPerson lkX10_70 dX10_odds_3 rfl is136 rfl (Nat.le_of_ble_eq_true rfl) (Nat.le_of_ble_eq_true rfl) (s_X10_isPerson _ _) ?_
  refine ax_if_eq (tgt := 19) dX10_odds_6 (by decide) rfl (fun c6 => ?_) (fun c6 => ?_)
  · refine ax_ldc dX10_odds_19 cnX10_152 rfl ?_
    refine ax_ist5 dX10_odds_21 rfl (Nat.le_of_ble_eq_true rfl) rfl ?_
    refine ax_iload dX10_odds_23 rfl rfl ?_
    refine ax_if_eq (tgt := 33) dX10_odds_25 (by decide) rfl (fun c25 => ?_) (fun c25 => ?_)
    · exact absurd c25 (by decide)
    · refine ax_iload dX10_odds_28 rfl rfl ?_
      refine ax_goto (tgt := 39) dX10_odds_30 (by decide) ?_
      refine ax_ist5 dX10_odds_39 rfl (Nat.le_of_ble_eq_true rfl) rfl ?_
      refine ax_iload dX10_odds_41 rfl rfl ?_
      refine ax_if_eq (tgt := 49) dX10_odds_43 (by decide) rfl (fun c43 => ?_) (fun c43 => ?_)
      · exact absurd c43 (by decide)
      · refine ax_iload dX10_odds_46 rfl rfl ?_
        exact ax_ireturn rfl dX10_odds_48 ⟨by simp only [F_X10_odds, if_pos c6], rfl⟩
  · refine ax_aload_n (j := 0) dX10_odds_9 rfl rfl rfl ?_
    refine ax_iload_n (j := 1) dX10_odds_10 rfl rfl rfl ?_
    refine ax_iload_n (j := 2) dX10_odds_11 rfl rfl rfl ?_
    refine ax_iload_n (j := 3) dX10_odds_12 rfl rfl rfl ?_
    refine ad_V3 ksX10_rowRefused lkX10_184 dX10_odds_13 rfl is136 rfl (Nat.le_of_ble_eq_true rfl) (Nat.le_of_ble_eq_true rfl) (s_X10_rowRefused _ _ _ _) ?_
    refine ax_goto (tgt := 21) dX10_odds_16 (by decide) ?_
    refine ax_ist5 dX10_odds_21 rfl (Nat.le_of_ble_eq_true rfl) rfl ?_
    refine ax_iload dX10_odds_23 rfl rfl ?_
    refine ax_if_eq (tgt := 33) dX10_odds_25 (by decide) rfl (fun c25 => ?_) (fun c25 => ?_)
    · refine ax_aload_n (j := 0) dX10_odds_33 rfl rfl rfl ?_
      refine ax_iload_n (j := 1) dX10_odds_34 rfl rfl rfl ?_
      refine ax_iload_n (j := 2) dX10_odds_35 rfl rfl rfl ?_
      refine ad_V2 ksX10_unknownTo lkX10_188 dX10_odds_36 rfl is136 rfl (Nat.le_of_ble_eq_true rfl) (Nat.le_of_ble_eq_true rfl) (s_X10_unknownTo _ _ _ (in_mem (isp_in hc (two_of (rr_two c25)).1) (isp_in hc (two_of (rr_two c25)).2.1)).1) ?_
      refine ax_ist5 dX10_odds_39 rfl (Nat.le_of_ble_eq_true rfl) rfl ?_
      refine ax_iload dX10_odds_41 rfl rfl ?_
      refine ax_if_eq (tgt := 49) dX10_odds_43 (by decide) rfl (fun c43 => ?_) (fun c43 => ?_)
      · refine ax_iconst (v := 0) dX10_odds_49 (by decide) rfl ?_
        refine ax_ist6 dX10_odds_50 rfl (Nat.le_of_ble_eq_true rfl) rfl ?_
        refine ax_iconst (v := 0) dX10_odds_52 (by decide) rfl ?_
        refine ax_ist7 dX10_odds_53 rfl (Nat.le_of_ble_eq_true rfl) rfl ?_
        refine lp_X10_odds_55 mem p0 p1 p2 p3 ((F_X10_unknownTo mem p0 p1)) hc (rr_two c25) (((mem 136 0) : Int32).toNatClampNeg) (0) (0) (Nat.zero_add _)  ?_
        refine ax_iload_n (j := 3) dX10_odds_107 rfl rfl rfl ?_
        refine ax_iload dX10_odds_108 rfl rfl ?_
        refine ad_S2 ksX10_has lkX10_160 dX10_odds_110 rfl (Nat.le_of_ble_eq_true rfl) (Nat.le_of_ble_eq_true rfl) (s_X10_has _ _ _) ?_
        refine ax_if_eq (tgt := 144) dX10_odds_113 (by decide) rfl (fun c113 => ?_) (fun c113 => ?_)
        · refine ax_iconst (v := 0) dX10_odds_144 (by decide) rfl ?_
          exact ax_ireturn rfl dX10_odds_145 ⟨by simp only [F_X10_odds, if_neg c6, if_pos c25, if_pos c43, if_pos c113], rfl⟩
        · refine ax_bipush (v := 9) dX10_odds_116 (by decide) rfl ?_
          refine ax_aload_n (j := 0) dX10_odds_118 rfl rfl rfl ?_
          refine am_getR flX10_13 dX10_odds_119 rfl is136 rfl ?_
          refine ax_iload dX10_odds_122 rfl rfl ?_
          refine am_iald dX10_odds_124 rfl is138 (vp_mono (isp_in hc c6) (by decide)) ?_
          refine ax_aload_n (j := 0) dX10_odds_125 rfl rfl rfl ?_
          refine ax_iload_n (j := 1) dX10_odds_126 rfl rfl rfl ?_
          refine ax_iload_n (j := 2) dX10_odds_127 rfl rfl rfl ?_
          refine ad_V2 ksX10_remembered lkX10_133 dX10_odds_128 rfl is136 rfl (Nat.le_of_ble_eq_true rfl) (Nat.le_of_ble_eq_true rfl) (s_X10_remembered _ _ _ (in_mem (isp_in hc (two_of (rr_two c25)).1) (isp_in hc (two_of (rr_two c25)).2.1)).1) ?_
          refine ad_S2 ksX10_apart lkX10_163 dX10_odds_131 rfl (Nat.le_of_ble_eq_true rfl) (Nat.le_of_ble_eq_true rfl) (s_X10_apart _ _ _) ?_
          refine ax_isub dX10_odds_134 rfl ?_
          refine ax_ldc dX10_odds_135 cnX10_213 rfl ?_
          refine ax_imul dX10_odds_137 rfl ?_
          refine ax_iload dX10_odds_138 rfl rfl ?_
          refine ax_idiv dX10_odds_140 (odds_ne hc c6 c113) rfl ?_
          refine ax_goto (tgt := 145) dX10_odds_141 (by decide) ?_
          exact ax_ireturn rfl dX10_odds_145 ⟨by simp only [F_X10_odds, if_neg c6, if_pos c25, if_pos c43, if_neg c113], rfl⟩
      · refine ax_iload dX10_odds_46 rfl rfl ?_
        exact ax_ireturn rfl dX10_odds_48 ⟨by simp only [F_X10_odds, if_neg c6, if_pos c25, if_neg c43], rfl⟩
    · refine ax_iload dX10_odds_28 rfl rfl ?_
      refine ax_goto (tgt := 39) dX10_odds_30 (by decide) ?_
      refine ax_ist5 dX10_odds_39 rfl (Nat.le_of_ble_eq_true rfl) rfl ?_
      refine ax_iload dX10_odds_41 rfl rfl ?_
      refine ax_if_eq (tgt := 49) dX10_odds_43 (by decide) rfl (fun c43 => ?_) (fun c43 => ?_)
      · exact absurd c43 c25
      · refine ax_iload dX10_odds_46 rfl rfl ?_
        exact ax_ireturn rfl dX10_odds_48 ⟨by simp only [F_X10_odds, if_neg c6, if_neg c25], rfl⟩

def f_X10_ask_46 (mem : ax_Me) (p0 : Int32) (p1 : Int32)  (j : Nat) (s : Int32 × Int32) : Int32 × Int32 :=
  match s with
  | (x0, x1) => (if (F_X10_has mem p1 (nI j)) = 0 then (if 0 ≤ (F_X10_remembered mem (nI j) p0) then (if (F_X10_sureBy mem (F_X10_remembered mem (nI j) p0) p0 p1) ≤ x1 then (x0, x1) else ((nI j), (F_X10_sureBy mem (F_X10_remembered mem (nI j) p0) p0 p1))) else (if 0 ≤ x1 then (x0, x1) else ((nI j), 0))) else (if 0 ≤ x1 then (x0, x1) else ((nI j), 0)))
def F_X10_ask (mem : ax_Me) (p0 : Int32) (p1 : Int32) : Int32 :=
  (if (F_X10_isPerson mem p0) = 0 then (-1000000001) else (if (F_X10_isRow mem p1) = 0 then (-1000000001) else (if (F_X10_bits mem p1) < 2 then (-1000000002) else (if (F_X10_has mem p1 p0) = 0 then (-1000000002) else (ax_it (f_X10_ask_46 mem p0 p1) (((mem 136 0) : Int32).toNatClampNeg) (0) ((-1), 0)).1))))
set_option maxRecDepth 20000 in
theorem lp_X10_ask_46 {G : ax_G} {l : Launch} {Q : Option Value → ax_H → Prop} (mem : ax_Me) (p0 : Int32) (p1 : Int32)  (hc : mp mem) (hp : vp_in p0 8) : ∀ (n j : Nat) (x0 : Int32) (x1 : Int32), j + n = ((mem 136 0) : Int32).toNatClampNeg → AX G l mX10_ask 4 129 [.ref 136, .int p0, .int p1, .int (ax_it (f_X10_ask_46 mem p0 p1) n j (x0, x1)).1, .int (ax_it (f_X10_ask_46 mem p0 p1) n j (x0, x1)).2, .int (nI (((mem 136 0) : Int32).toNatClampNeg)), .float 0] [] 153 0 (ax_hm mem) 153 0 Q → AX G l mX10_ask 4 46 [.ref 136, .int p0, .int p1, .int x0, .int x1, .int (nI j), .float 0] [] 153 0 (ax_hm mem) 153 0 Q := by
  intro n
  induction n with
  | zero =>
    intro j x0 x1 hj hx
    refine ax_iload dX10_ask_46 rfl rfl ?_
    refine ax_aload_n (j := 0) dX10_ask_48 rfl rfl rfl ?_
    refine am_getI flX10_63 dX10_ask_49 rfl is136 rfl ?_
    refine ax_icmp_ge (tgt := 129) dX10_ask_52 (by decide) rfl (fun c52 => ?_) (fun c52 => ?_)
    · have q := hx
      simp only [ax_it] at q
      rw [show (((mem 136 0) : Int32).toNatClampNeg) = j by omega] at q
      exact q
    · exact absurd (cl_ge (by omega)) c52
  | succ n ih =>
    intro j x0 x1 hj hx
    refine ax_iload dX10_ask_46 rfl rfl ?_
    refine ax_aload_n (j := 0) dX10_ask_48 rfl rfl rfl ?_
    refine am_getI flX10_63 dX10_ask_49 rfl is136 rfl ?_
    refine ax_icmp_ge (tgt := 129) dX10_ask_52 (by decide) rfl (fun c52 => ?_) (fun c52 => ?_)
    · exact absurd c52 (cl_nle (by omega))
    · refine ax_iload_n (j := 2) dX10_ask_55 rfl rfl rfl ?_
      refine ax_iload dX10_ask_56 rfl rfl ?_
      refine ad_S2 ksX10_has lkX10_160 dX10_ask_58 rfl (Nat.le_of_ble_eq_true rfl) (Nat.le_of_ble_eq_true rfl) (s_X10_has _ _ _) ?_
      refine ax_if_ne (tgt := 74) dX10_ask_61 (by decide) rfl (fun c61 => ?_) (fun c61 => ?_)
      · refine ax_iconst (v := 0) dX10_ask_74 (by decide) rfl ?_
        refine ax_goto (tgt := 91) dX10_ask_75 (by decide) ?_
        refine ax_ist6 dX10_ask_91 rfl (Nat.le_of_ble_eq_true rfl) rfl ?_
        refine ax_iload dX10_ask_93 rfl rfl ?_
        refine ax_iload dX10_ask_95 rfl rfl ?_
        refine ax_icmp_le (tgt := 105) dX10_ask_97 (by decide) rfl (fun c97 => ?_) (fun c97 => ?_)
        · refine ax_iload_n (j := 3) dX10_ask_105 rfl rfl rfl ?_
          refine ax_ist3 dX10_ask_106 rfl rfl (Nat.le_of_ble_eq_true rfl) rfl ?_
          refine ax_iload dX10_ask_107 rfl rfl ?_
          refine ax_iload dX10_ask_109 rfl rfl ?_
          refine ax_icmp_le (tgt := 119) dX10_ask_111 (by decide) rfl (fun c111 => ?_) (fun c111 => ?_)
          · refine ax_iload dX10_ask_119 rfl rfl ?_
            refine ax_ist4 dX10_ask_121 rfl (Nat.le_of_ble_eq_true rfl) rfl ?_
            refine ax_iinc5 (v := nI (j + 1)) dX10_ask_123 rfl (cl_inc j) (Nat.le_of_ble_eq_true rfl) rfl ?_
            refine ax_goto (tgt := 46) dX10_ask_126 (by decide) ?_
            refine ax_fg6 ?_
            have e1 : f_X10_ask_46 mem p0 p1 j (x0, x1) = (x0, x1) := by simp only [f_X10_ask_46, if_neg c61, if_pos c97]
            simp only [ax_it, e1] at hx
            exact ih (j + 1) (x0) (x1) (by omega) hx
          · exact absurd c97 c111
        · refine ax_iload dX10_ask_100 rfl rfl ?_
          refine ax_goto (tgt := 106) dX10_ask_102 (by decide) ?_
          refine ax_ist3 dX10_ask_106 rfl rfl (Nat.le_of_ble_eq_true rfl) rfl ?_
          refine ax_iload dX10_ask_107 rfl rfl ?_
          refine ax_iload dX10_ask_109 rfl rfl ?_
          refine ax_icmp_le (tgt := 119) dX10_ask_111 (by decide) rfl (fun c111 => ?_) (fun c111 => ?_)
          · exact absurd c111 c97
          · refine ax_iload dX10_ask_114 rfl rfl ?_
            refine ax_goto (tgt := 121) dX10_ask_116 (by decide) ?_
            refine ax_ist4 dX10_ask_121 rfl (Nat.le_of_ble_eq_true rfl) rfl ?_
            refine ax_iinc5 (v := nI (j + 1)) dX10_ask_123 rfl (cl_inc j) (Nat.le_of_ble_eq_true rfl) rfl ?_
            refine ax_goto (tgt := 46) dX10_ask_126 (by decide) ?_
            refine ax_fg6 ?_
            have e1 : f_X10_ask_46 mem p0 p1 j (x0, x1) = ((nI j), 0) := by simp only [f_X10_ask_46, if_neg c61, if_neg c97]
            simp only [ax_it, e1] at hx
            exact ih (j + 1) ((nI j)) (0) (by omega) hx
      · refine ax_aload_n (j := 0) dX10_ask_64 rfl rfl rfl ?_
        refine ax_iload dX10_ask_65 rfl rfl ?_
        refine ax_iload_n (j := 1) dX10_ask_67 rfl rfl rfl ?_
        refine ad_V2 ksX10_remembered lkX10_133 dX10_ask_68 rfl is136 rfl (Nat.le_of_ble_eq_true rfl) (Nat.le_of_ble_eq_true rfl) (s_X10_remembered _ _ _ (in_mem (vp_in_nI (by have := hc.le; omega) (by decide)) hp).1) ?_
        refine ax_if_ge (tgt := 78) dX10_ask_71 (by decide) rfl (fun c71 => ?_) (fun c71 => ?_)
        · refine ax_aload_n (j := 0) dX10_ask_78 rfl rfl rfl ?_
          refine ax_aload_n (j := 0) dX10_ask_79 rfl rfl rfl ?_
          refine ax_iload dX10_ask_80 rfl rfl ?_
          refine ax_iload_n (j := 1) dX10_ask_82 rfl rfl rfl ?_
          refine ad_V2 ksX10_remembered lkX10_133 dX10_ask_83 rfl is136 rfl (Nat.le_of_ble_eq_true rfl) (Nat.le_of_ble_eq_true rfl) (s_X10_remembered _ _ _ (in_mem (vp_in_nI (by have := hc.le; omega) (by decide)) hp).1) ?_
          refine ax_iload_n (j := 1) dX10_ask_86 rfl rfl rfl ?_
          refine ax_iload_n (j := 2) dX10_ask_87 rfl rfl rfl ?_
          refine ad_V3 ksX10_sureBy lkX10_206 dX10_ask_88 rfl is136 rfl (Nat.le_of_ble_eq_true rfl) (Nat.le_of_ble_eq_true rfl) (s_X10_sureBy _ _ _ _ hc hp) ?_
          refine ax_ist6 dX10_ask_91 rfl (Nat.le_of_ble_eq_true rfl) rfl ?_
          refine ax_iload dX10_ask_93 rfl rfl ?_
          refine ax_iload dX10_ask_95 rfl rfl ?_
          refine ax_icmp_le (tgt := 105) dX10_ask_97 (by decide) rfl (fun c97 => ?_) (fun c97 => ?_)
          · refine ax_iload_n (j := 3) dX10_ask_105 rfl rfl rfl ?_
            refine ax_ist3 dX10_ask_106 rfl rfl (Nat.le_of_ble_eq_true rfl) rfl ?_
            refine ax_iload dX10_ask_107 rfl rfl ?_
            refine ax_iload dX10_ask_109 rfl rfl ?_
            refine ax_icmp_le (tgt := 119) dX10_ask_111 (by decide) rfl (fun c111 => ?_) (fun c111 => ?_)
            · refine ax_iload dX10_ask_119 rfl rfl ?_
              refine ax_ist4 dX10_ask_121 rfl (Nat.le_of_ble_eq_true rfl) rfl ?_
              refine ax_iinc5 (v := nI (j + 1)) dX10_ask_123 rfl (cl_inc j) (Nat.le_of_ble_eq_true rfl) rfl ?_
              refine ax_goto (tgt := 46) dX10_ask_126 (by decide) ?_
              refine ax_fg6 ?_
              have e1 : f_X10_ask_46 mem p0 p1 j (x0, x1) = (x0, x1) := by simp only [f_X10_ask_46, if_pos c61, if_pos c71, if_pos c97]
              simp only [ax_it, e1] at hx
              exact ih (j + 1) (x0) (x1) (by omega) hx
            · exact absurd c97 c111
          · refine ax_iload dX10_ask_100 rfl rfl ?_
            refine ax_goto (tgt := 106) dX10_ask_102 (by decide) ?_
            refine ax_ist3 dX10_ask_106 rfl rfl (Nat.le_of_ble_eq_true rfl) rfl ?_
            refine ax_iload dX10_ask_107 rfl rfl ?_
            refine ax_iload dX10_ask_109 rfl rfl ?_
            refine ax_icmp_le (tgt := 119) dX10_ask_111 (by decide) rfl (fun c111 => ?_) (fun c111 => ?_)
            · exact absurd c111 c97
            · refine ax_iload dX10_ask_114 rfl rfl ?_
              refine ax_goto (tgt := 121) dX10_ask_116 (by decide) ?_
              refine ax_ist4 dX10_ask_121 rfl (Nat.le_of_ble_eq_true rfl) rfl ?_
              refine ax_iinc5 (v := nI (j + 1)) dX10_ask_123 rfl (cl_inc j) (Nat.le_of_ble_eq_true rfl) rfl ?_
              refine ax_goto (tgt := 46) dX10_ask_126 (by decide) ?_
              refine ax_fg6 ?_
              have e1 : f_X10_ask_46 mem p0 p1 j (x0, x1) = ((nI j), (F_X10_sureBy mem (F_X10_remembered mem (nI j) p0) p0 p1)) := by simp only [f_X10_ask_46, if_pos c61, if_pos c71, if_neg c97]
              simp only [ax_it, e1] at hx
              exact ih (j + 1) ((nI j)) ((F_X10_sureBy mem (F_X10_remembered mem (nI j) p0) p0 p1)) (by omega) hx
        · refine ax_iconst (v := 0) dX10_ask_74 (by decide) rfl ?_
          refine ax_goto (tgt := 91) dX10_ask_75 (by decide) ?_
          refine ax_ist6 dX10_ask_91 rfl (Nat.le_of_ble_eq_true rfl) rfl ?_
          refine ax_iload dX10_ask_93 rfl rfl ?_
          refine ax_iload dX10_ask_95 rfl rfl ?_
          refine ax_icmp_le (tgt := 105) dX10_ask_97 (by decide) rfl (fun c97 => ?_) (fun c97 => ?_)
          · refine ax_iload_n (j := 3) dX10_ask_105 rfl rfl rfl ?_
            refine ax_ist3 dX10_ask_106 rfl rfl (Nat.le_of_ble_eq_true rfl) rfl ?_
            refine ax_iload dX10_ask_107 rfl rfl ?_
            refine ax_iload dX10_ask_109 rfl rfl ?_
            refine ax_icmp_le (tgt := 119) dX10_ask_111 (by decide) rfl (fun c111 => ?_) (fun c111 => ?_)
            · refine ax_iload dX10_ask_119 rfl rfl ?_
              refine ax_ist4 dX10_ask_121 rfl (Nat.le_of_ble_eq_true rfl) rfl ?_
              refine ax_iinc5 (v := nI (j + 1)) dX10_ask_123 rfl (cl_inc j) (Nat.le_of_ble_eq_true rfl) rfl ?_
              refine ax_goto (tgt := 46) dX10_ask_126 (by decide) ?_
              refine ax_fg6 ?_
              have e1 : f_X10_ask_46 mem p0 p1 j (x0, x1) = (x0, x1) := by simp only [f_X10_ask_46, if_pos c61, if_neg c71, if_pos c97]
              simp only [ax_it, e1] at hx
              exact ih (j + 1) (x0) (x1) (by omega) hx
            · exact absurd c97 c111
          · refine ax_iload dX10_ask_100 rfl rfl ?_
            refine ax_goto (tgt := 106) dX10_ask_102 (by decide) ?_
            refine ax_ist3 dX10_ask_106 rfl rfl (Nat.le_of_ble_eq_true rfl) rfl ?_
            refine ax_iload dX10_ask_107 rfl rfl ?_
            refine ax_iload dX10_ask_109 rfl rfl ?_
            refine ax_icmp_le (tgt := 119) dX10_ask_111 (by decide) rfl (fun c111 => ?_) (fun c111 => ?_)
            · exact absurd c111 c97
            · refine ax_iload dX10_ask_114 rfl rfl ?_
              refine ax_goto (tgt := 121) dX10_ask_116 (by decide) ?_
              refine ax_ist4 dX10_ask_121 rfl (Nat.le_of_ble_eq_true rfl) rfl ?_
              refine ax_iinc5 (v := nI (j + 1)) dX10_ask_123 rfl (cl_inc j) (Nat.le_of_ble_eq_true rfl) rfl ?_
              refine ax_goto (tgt := 46) dX10_ask_126 (by decide) ?_
              refine ax_fg6 ?_
              have e1 : f_X10_ask_46 mem p0 p1 j (x0, x1) = ((nI j), 0) := by simp only [f_X10_ask_46, if_pos c61, if_neg c71, if_neg c97]
              simp only [ax_it, e1] at hx
              exact ih (j + 1) ((nI j)) (0) (by omega) hx
set_option maxRecDepth 20000 in
theorem s_X10_ask {G : ax_G} {l : Launch} (mem : ax_Me) (p0 : Int32) (p1 : Int32) (hc : mp mem) : AD G l 4 mX10_ask [.ref 136, .int p0, .int p1] mem (some (.int (F_X10_ask mem p0 p1))) mem := by
  refine ax_start (ls := [.ref 136, .int p0, .int p1, .float 0, .float 0, .float 0, .float 0]) (u := 4) (by decide +kernel) (Nat.le_of_ble_eq_true rfl) (Nat.le_refl _) (Nat.le_refl _) rfl ?_
  refine ax_aload_n (j := 0) dX10_ask_0 rfl rfl rfl ?_
  refine ax_iload_n (j := 1) dX10_ask_1 rfl rfl rfl ?_
  refine ad_V1 ksX10_isPerson lkX10_70 dX10_ask_2 rfl is136 rfl (Nat.le_of_ble_eq_true rfl) (Nat.le_of_ble_eq_true rfl) (s_X10_isPerson _ _) ?_
  refine ax_if_eq (tgt := 16) dX10_ask_5 (by decide) rfl (fun c5 => ?_) (fun c5 => ?_)
  · refine ax_ldc dX10_ask_16 cnX10_152 rfl ?_
    exact ax_ireturn rfl dX10_ask_18 ⟨by simp only [F_X10_ask, if_pos c5], rfl⟩
  · refine ax_aload_n (j := 0) dX10_ask_8 rfl rfl rfl ?_
    refine ax_iload_n (j := 2) dX10_ask_9 rfl rfl rfl ?_
    refine ad_V1 ksX10_isRow lkX10_181 dX10_ask_10 rfl is136 rfl (Nat.le_of_ble_eq_true rfl) (Nat.le_of_ble_eq_true rfl) (s_X10_isRow _ _) ?_
    refine ax_if_ne (tgt := 19) dX10_ask_13 (by decide) rfl (fun c13 => ?_) (fun c13 => ?_)
    · refine ax_iload_n (j := 2) dX10_ask_19 rfl rfl rfl ?_
      refine ad_S1 ksX10_bits lkX10_140 dX10_ask_20 rfl (Nat.le_of_ble_eq_true rfl) (Nat.le_of_ble_eq_true rfl) (s_X10_bits _ _) ?_
      refine ax_iconst (v := 2) dX10_ask_23 (by decide) rfl ?_
      refine ax_icmp_lt (tgt := 35) dX10_ask_24 (by decide) rfl (fun c24 => ?_) (fun c24 => ?_)
      · refine ax_ldc dX10_ask_35 cnX10_76 rfl ?_
        exact ax_ireturn rfl dX10_ask_37 ⟨by simp only [F_X10_ask, if_neg c5, if_neg c13, if_pos c24], rfl⟩
      · refine ax_iload_n (j := 2) dX10_ask_27 rfl rfl rfl ?_
        refine ax_iload_n (j := 1) dX10_ask_28 rfl rfl rfl ?_
        refine ad_S2 ksX10_has lkX10_160 dX10_ask_29 rfl (Nat.le_of_ble_eq_true rfl) (Nat.le_of_ble_eq_true rfl) (s_X10_has _ _ _) ?_
        refine ax_if_ne (tgt := 38) dX10_ask_32 (by decide) rfl (fun c32 => ?_) (fun c32 => ?_)
        · refine ax_iconst (v := (-1)) dX10_ask_38 (by decide) rfl ?_
          refine ax_ist3 dX10_ask_39 rfl rfl (Nat.le_of_ble_eq_true rfl) rfl ?_
          refine ax_iconst (v := 0) dX10_ask_40 (by decide) rfl ?_
          refine ax_ist4 dX10_ask_41 rfl (Nat.le_of_ble_eq_true rfl) rfl ?_
          refine ax_iconst (v := 0) dX10_ask_43 (by decide) rfl ?_
          refine ax_ist5 dX10_ask_44 rfl (Nat.le_of_ble_eq_true rfl) rfl ?_
          refine lp_X10_ask_46 mem p0 p1  hc (isp_in hc c5) (((mem 136 0) : Int32).toNatClampNeg) (0) ((-1)) (0) (Nat.zero_add _)  ?_
          refine ax_iload_n (j := 3) dX10_ask_129 rfl rfl rfl ?_
          exact ax_ireturn rfl dX10_ask_130 ⟨by simp only [F_X10_ask, if_neg c5, if_neg c13, if_neg c24, if_neg c32], rfl⟩
        · refine ax_ldc dX10_ask_35 cnX10_76 rfl ?_
          exact ax_ireturn rfl dX10_ask_37 ⟨by simp only [F_X10_ask, if_neg c5, if_neg c13, if_neg c24, if_pos c32], rfl⟩
    · refine ax_ldc dX10_ask_16 cnX10_152 rfl ?_
      exact ax_ireturn rfl dX10_ask_18 ⟨by simp only [F_X10_ask, if_neg c5, if_pos c13], rfl⟩

theorem id_in {m : ax_Me} {x : Int32} (hI : ∀ k, k < 8 → vp_in (m 138 (8 + k)) 8) (h : vp_in x 8) : vp_in (m 138 (8 + x).toNatClampNeg) 8 := by
  rw [(in_8 h).2]
  exact hI _ (Nat.not_le.mp fun q => h (Or.inr q))
def f_X10_ringOf_4 (mem : ax_Me) (p0 : Int32)  (j : Nat) (s : Int32) : Int32 ⊕ Int32 :=
  match s with
  | x0 => (if (mem 138 (8 + x0).toNatClampNeg) = p0 then (Sum.inl (nI j)) else (Sum.inr (mem 138 (8 + x0).toNatClampNeg)))
def F_X10_ringOf (mem : ax_Me) (p0 : Int32) : Int32 :=
  (match (ax_lp (f_X10_ringOf_4 mem p0) (8) (1) p0) with | .inl b => b | .inr y0_4 => (-1))
set_option maxRecDepth 20000 in
theorem lp_X10_ringOf_4 {G : ax_G} {l : Launch} {Q : Option Value → ax_H → Prop} (mem : ax_Me) (p0 : Int32)  (hI : ∀ k, k < 8 → vp_in (mem 138 (8 + k)) 8) (hp : vp_in p0 8) : ∀ (n j : Nat) (x0 : Int32), j + n = 9 → (1 ≤ j ∧ vp_in x0 8) → (∀ b : Int32, ax_lp (f_X10_ringOf_4 mem p0) n j x0 = .inl b → Q (some (.int b)) (ax_hm mem)) → (∀ (y0 : Int32), ax_lp (f_X10_ringOf_4 mem p0) n j x0 = .inr y0 → AX G l mX10_ringOf 0 33 [.ref 136, .int p0, .int y0, .int (nI (9))] [] 153 0 (ax_hm mem) 153 0 Q) → AX G l mX10_ringOf 0 4 [.ref 136, .int p0, .int x0, .int (nI j)] [] 153 0 (ax_hm mem) 153 0 Q := by
  intro n
  induction n with
  | zero =>
    intro j x0 hj hi hr hx
    refine ax_iload_n (j := 3) dX10_ringOf_4 rfl rfl rfl ?_
    refine ax_bipush (v := 8) dX10_ringOf_5 (by decide) rfl ?_
    refine ax_icmp_gt (tgt := 33) dX10_ringOf_7 (by decide) rfl (fun c7 => ?_) (fun c7 => ?_)
    · have q := hx x0 rfl
      rw [show (9) = j by omega] at q
      exact q
    · exact absurd (cl_gt (x := 8) (by have := c8; omega) (by decide)) c7
  | succ n ih =>
    intro j x0 hj hi hr hx
    refine ax_iload_n (j := 3) dX10_ringOf_4 rfl rfl rfl ?_
    refine ax_bipush (v := 8) dX10_ringOf_5 (by decide) rfl ?_
    refine ax_icmp_gt (tgt := 33) dX10_ringOf_7 (by decide) rfl (fun c7 => ?_) (fun c7 => ?_)
    · exact absurd c7 (cl_ngt (x := 8) (by have := c8; omega) (Or.inl hi.1))
    · refine ax_aload_n (j := 0) dX10_ringOf_10 rfl rfl rfl ?_
      refine am_getR flX10_13 dX10_ringOf_11 rfl is136 rfl ?_
      refine ax_bipush (v := 8) dX10_ringOf_14 (by decide) rfl ?_
      refine ax_iload_n (j := 2) dX10_ringOf_16 rfl rfl rfl ?_
      refine ax_iadd dX10_ringOf_17 rfl ?_
      refine am_iald dX10_ringOf_18 rfl is138 (in_8 hi.2).1 ?_
      refine ax_ist2 dX10_ringOf_19 rfl rfl (Nat.le_of_ble_eq_true rfl) rfl ?_
      refine ax_iload_n (j := 2) dX10_ringOf_20 rfl rfl rfl ?_
      refine ax_iload_n (j := 1) dX10_ringOf_21 rfl rfl rfl ?_
      refine ax_icmp_ne (tgt := 27) dX10_ringOf_22 (by decide) rfl (fun c22 => ?_) (fun c22 => ?_)
      · refine ax_iinc3 (v := nI (j + 1)) dX10_ringOf_27 rfl (cl_inc j) (Nat.le_of_ble_eq_true rfl) rfl ?_
        refine ax_goto (tgt := 4) dX10_ringOf_30 (by decide) ?_
        have e1 : f_X10_ringOf_4 mem p0 j x0 = .inr (mem 138 (8 + x0).toNatClampNeg) := by simp only [f_X10_ringOf_4, if_neg c22]
        exact ih (j + 1) ((mem 138 (8 + x0).toNatClampNeg)) (by omega) ⟨by omega, id_in hI hi.2⟩ (fun b q => hr b (by simp only [ax_lp, e1]; exact q)) (fun y0 q => hx y0 (by simp only [ax_lp, e1]; exact q))
      · refine ax_iload_n (j := 3) dX10_ringOf_25 rfl rfl rfl ?_
        exact ax_ireturn rfl dX10_ringOf_26 (hr ((nI j)) (by simp only [ax_lp, f_X10_ringOf_4, if_pos c22]))
set_option maxRecDepth 20000 in
theorem s_X10_ringOf {G : ax_G} {l : Launch} (mem : ax_Me) (p0 : Int32) (hI : ∀ k, k < 8 → vp_in (mem 138 (8 + k)) 8) (hp : vp_in p0 8) : AD G l 0 mX10_ringOf [.ref 136, .int p0] mem (some (.int (F_X10_ringOf mem p0))) mem := by
  refine ax_start (ls := [.ref 136, .int p0, .float 0, .float 0]) (u := 2) (by decide +kernel) (Nat.le_of_ble_eq_true rfl) (Nat.le_refl _) (Nat.le_refl _) rfl ?_
  refine ax_iload_n (j := 1) dX10_ringOf_0 rfl rfl rfl ?_
  refine ax_ist2 dX10_ringOf_1 rfl rfl (Nat.le_of_ble_eq_true rfl) rfl ?_
  refine ax_iconst (v := 1) dX10_ringOf_2 (by decide) rfl ?_
  refine ax_ist3 dX10_ringOf_3 rfl rfl (Nat.le_of_ble_eq_true rfl) rfl ?_
  refine lp_X10_ringOf_4 mem p0  hI hp  (8) (1) (p0) (by decide) ⟨Nat.le_refl _, hp⟩ (fun b h4 => ?_) (fun y0_4 h4 => ?_)
  · exact ⟨by simp only [F_X10_ringOf, h4], rfl⟩
  · refine ax_iconst (v := (-1)) dX10_ringOf_33 (by decide) rfl ?_
    exact ax_ireturn rfl dX10_ringOf_34 ⟨by simp only [F_X10_ringOf, h4], rfl⟩

def F_X10_ring (mem : ax_Me) (p0 : Int32) : Int32 :=
  (if (F_X10_isPerson mem p0) = 0 then (-1000000001) else (F_X10_ringOf mem p0))
set_option maxRecDepth 20000 in
theorem s_X10_ring {G : ax_G} {l : Launch} (mem : ax_Me) (p0 : Int32) (hc : mp mem) (hI : ∀ k, k < 8 → vp_in (mem 138 (8 + k)) 8) : AD G l 2 mX10_ring [.ref 136, .int p0] mem (some (.int (F_X10_ring mem p0))) mem := by
  refine ax_start (ls := [.ref 136, .int p0]) (u := 0) (by decide +kernel) (Nat.le_of_ble_eq_true rfl) (Nat.le_refl _) (Nat.le_refl _) rfl ?_
  refine ax_aload_n (j := 0) dX10_ring_0 rfl rfl rfl ?_
  refine ax_iload_n (j := 1) dX10_ring_1 rfl rfl rfl ?_
  refine ad_V1 ksX10_isPerson lkX10_70 dX10_ring_2 rfl is136 rfl (Nat.le_of_ble_eq_true rfl) (Nat.le_of_ble_eq_true rfl) (s_X10_isPerson _ _) ?_
  refine ax_if_eq (tgt := 16) dX10_ring_5 (by decide) rfl (fun c5 => ?_) (fun c5 => ?_)
  · refine ax_ldc dX10_ring_16 cnX10_152 rfl ?_
    exact ax_ireturn rfl dX10_ring_18 ⟨by simp only [F_X10_ring, if_pos c5], rfl⟩
  · refine ax_aload_n (j := 0) dX10_ring_8 rfl rfl rfl ?_
    refine ax_iload_n (j := 1) dX10_ring_9 rfl rfl rfl ?_
    refine ad_V1 ksX10_ringOf lkX10_214 dX10_ring_10 rfl is136 rfl (Nat.le_of_ble_eq_true rfl) (Nat.le_of_ble_eq_true rfl) (s_X10_ringOf _ _ hI (isp_in hc c5)) ?_
    refine ax_goto (tgt := 18) dX10_ring_13 (by decide) ?_
    exact ax_ireturn rfl dX10_ring_18 ⟨by simp only [F_X10_ring, if_neg c5], rfl⟩

def f_X10_rings_19 (mem : ax_Me) (p0 : Int32)  (j : Nat) (s : Int32) : Int32 :=
  match s with
  | x0 => (if (mem 138 (8 + (nI j)).toNatClampNeg) = (nI j) then (if p0 = 0 then (if (F_X10_ringOf mem (nI j)) ≤ 1 then (x0 + 0) else (x0 + 1)) else (if p0 = 1 then (x0 + 0) else (x0 + 0))) else (if p0 = 0 then (if (F_X10_ringOf mem (nI j)) ≤ 1 then (x0 + 0) else (x0 + 1)) else (if p0 = 1 then (x0 + 1) else (if (F_X10_whoKnow mem (nI j)) = 0 then (x0 + 0) else (x0 + 1)))))
def F_X10_rings (mem : ax_Me) (p0 : Int32) : Int32 :=
  (if (F_X10_in mem p0.toInt64 0 (2)) = 0 then (-1000000002) else (ax_it (f_X10_rings_19 mem p0) (((mem 136 0) : Int32).toNatClampNeg) (0) 0))
set_option maxRecDepth 20000 in
theorem lp_X10_rings_19 {G : ax_G} {l : Launch} {Q : Option Value → ax_H → Prop} (mem : ax_Me) (p0 : Int32)  (hc : mp mem) (hI : ∀ k, k < 8 → vp_in (mem 138 (8 + k)) 8) : ∀ (n j : Nat) (x0 : Int32), j + n = ((mem 136 0) : Int32).toNatClampNeg → AX G l mX10_rings 2 117 [.ref 136, .int p0, .int (ax_it (f_X10_rings_19 mem p0) n j x0), .int (nI (((mem 136 0) : Int32).toNatClampNeg)), .float 0, .float 0] [] 153 0 (ax_hm mem) 153 0 Q → AX G l mX10_rings 2 19 [.ref 136, .int p0, .int x0, .int (nI j), .float 0, .float 0] [] 153 0 (ax_hm mem) 153 0 Q := by
  intro n
  induction n with
  | zero =>
    intro j x0 hj hx
    refine ax_iload_n (j := 3) dX10_rings_19 rfl rfl rfl ?_
    refine ax_aload_n (j := 0) dX10_rings_20 rfl rfl rfl ?_
    refine am_getI flX10_63 dX10_rings_21 rfl is136 rfl ?_
    refine ax_icmp_ge (tgt := 117) dX10_rings_24 (by decide) rfl (fun c24 => ?_) (fun c24 => ?_)
    · have q := hx
      simp only [ax_it] at q
      rw [show (((mem 136 0) : Int32).toNatClampNeg) = j by omega] at q
      exact q
    · exact absurd (cl_ge (by omega)) c24
  | succ n ih =>
    intro j x0 hj hx
    refine ax_iload_n (j := 3) dX10_rings_19 rfl rfl rfl ?_
    refine ax_aload_n (j := 0) dX10_rings_20 rfl rfl rfl ?_
    refine am_getI flX10_63 dX10_rings_21 rfl is136 rfl ?_
    refine ax_icmp_ge (tgt := 117) dX10_rings_24 (by decide) rfl (fun c24 => ?_) (fun c24 => ?_)
    · exact absurd c24 (cl_nle (by omega))
    · refine ax_aload_n (j := 0) dX10_rings_27 rfl rfl rfl ?_
      refine am_getR flX10_13 dX10_rings_28 rfl is136 rfl ?_
      refine ax_bipush (v := 8) dX10_rings_31 (by decide) rfl ?_
      refine ax_iload_n (j := 3) dX10_rings_33 rfl rfl rfl ?_
      refine ax_iadd dX10_rings_34 rfl ?_
      refine am_iald dX10_rings_35 rfl is138 (in_8 (vp_in_nI (by have := hc.le; omega) (by decide))).1 ?_
      refine ax_iload_n (j := 3) dX10_rings_36 rfl rfl rfl ?_
      refine ax_icmp_eq (tgt := 44) dX10_rings_37 (by decide) rfl (fun c37 => ?_) (fun c37 => ?_)
      · refine ax_iconst (v := 0) dX10_rings_44 (by decide) rfl ?_
        refine ax_ist4 dX10_rings_45 rfl (Nat.le_of_ble_eq_true rfl) rfl ?_
        refine ax_iload_n (j := 1) dX10_rings_47 rfl rfl rfl ?_
        refine ax_if_ne (tgt := 68) dX10_rings_48 (by decide) rfl (fun c48 => ?_) (fun c48 => ?_)
        · refine ax_iload_n (j := 1) dX10_rings_68 rfl rfl rfl ?_
          refine ax_iconst (v := 1) dX10_rings_69 (by decide) rfl ?_
          refine ax_icmp_ne (tgt := 78) dX10_rings_70 (by decide) rfl (fun c70 => ?_) (fun c70 => ?_)
          · refine ax_iload dX10_rings_78 rfl rfl ?_
            refine ax_if_eq (tgt := 95) dX10_rings_80 (by decide) rfl (fun c80 => ?_) (fun c80 => ?_)
            · refine ax_iconst (v := 0) dX10_rings_95 (by decide) rfl ?_
              refine ax_ist5 dX10_rings_96 rfl (Nat.le_of_ble_eq_true rfl) rfl ?_
              refine ax_iload_n (j := 2) dX10_rings_98 rfl rfl rfl ?_
              refine ax_iload dX10_rings_99 rfl rfl ?_
              refine ax_if_eq (tgt := 108) dX10_rings_101 (by decide) rfl (fun c101 => ?_) (fun c101 => ?_)
              · refine ax_iconst (v := 0) dX10_rings_108 (by decide) rfl ?_
                refine ax_iadd dX10_rings_109 rfl ?_
                refine ax_ist2 dX10_rings_110 rfl rfl (Nat.le_of_ble_eq_true rfl) rfl ?_
                refine ax_iinc3 (v := nI (j + 1)) dX10_rings_111 rfl (cl_inc j) (Nat.le_of_ble_eq_true rfl) rfl ?_
                refine ax_goto (tgt := 19) dX10_rings_114 (by decide) ?_
                refine ax_fg4 ?_
                refine ax_fg5 ?_
                have e1 : f_X10_rings_19 mem p0 j x0 = (x0 + 0) := by simp only [f_X10_rings_19, if_pos c37, if_neg c48, if_neg c70]
                simp only [ax_it, e1] at hx
                exact ih (j + 1) ((x0 + 0)) (by omega) hx
              · exact absurd (by decide) c101
            · exact absurd (by decide) c80
          · refine ax_iload dX10_rings_73 rfl rfl ?_
            refine ax_goto (tgt := 96) dX10_rings_75 (by decide) ?_
            refine ax_ist5 dX10_rings_96 rfl (Nat.le_of_ble_eq_true rfl) rfl ?_
            refine ax_iload_n (j := 2) dX10_rings_98 rfl rfl rfl ?_
            refine ax_iload dX10_rings_99 rfl rfl ?_
            refine ax_if_eq (tgt := 108) dX10_rings_101 (by decide) rfl (fun c101 => ?_) (fun c101 => ?_)
            · refine ax_iconst (v := 0) dX10_rings_108 (by decide) rfl ?_
              refine ax_iadd dX10_rings_109 rfl ?_
              refine ax_ist2 dX10_rings_110 rfl rfl (Nat.le_of_ble_eq_true rfl) rfl ?_
              refine ax_iinc3 (v := nI (j + 1)) dX10_rings_111 rfl (cl_inc j) (Nat.le_of_ble_eq_true rfl) rfl ?_
              refine ax_goto (tgt := 19) dX10_rings_114 (by decide) ?_
              refine ax_fg4 ?_
              refine ax_fg5 ?_
              have e1 : f_X10_rings_19 mem p0 j x0 = (x0 + 0) := by simp only [f_X10_rings_19, if_pos c37, if_neg c48, if_pos c70]
              simp only [ax_it, e1] at hx
              exact ih (j + 1) ((x0 + 0)) (by omega) hx
            · exact absurd (by decide) c101
        · refine ax_aload_n (j := 0) dX10_rings_51 rfl rfl rfl ?_
          refine ax_iload_n (j := 3) dX10_rings_52 rfl rfl rfl ?_
          refine ad_V1 ksX10_ringOf lkX10_214 dX10_rings_53 rfl is136 rfl (Nat.le_of_ble_eq_true rfl) (Nat.le_of_ble_eq_true rfl) (s_X10_ringOf _ _ hI (vp_in_nI (by have := hc.le; omega) (by decide))) ?_
          refine ax_iconst (v := 1) dX10_rings_56 (by decide) rfl ?_
          refine ax_icmp_le (tgt := 64) dX10_rings_57 (by decide) rfl (fun c57 => ?_) (fun c57 => ?_)
          · refine ax_iconst (v := 0) dX10_rings_64 (by decide) rfl ?_
            refine ax_goto (tgt := 96) dX10_rings_65 (by decide) ?_
            refine ax_ist5 dX10_rings_96 rfl (Nat.le_of_ble_eq_true rfl) rfl ?_
            refine ax_iload_n (j := 2) dX10_rings_98 rfl rfl rfl ?_
            refine ax_iload dX10_rings_99 rfl rfl ?_
            refine ax_if_eq (tgt := 108) dX10_rings_101 (by decide) rfl (fun c101 => ?_) (fun c101 => ?_)
            · refine ax_iconst (v := 0) dX10_rings_108 (by decide) rfl ?_
              refine ax_iadd dX10_rings_109 rfl ?_
              refine ax_ist2 dX10_rings_110 rfl rfl (Nat.le_of_ble_eq_true rfl) rfl ?_
              refine ax_iinc3 (v := nI (j + 1)) dX10_rings_111 rfl (cl_inc j) (Nat.le_of_ble_eq_true rfl) rfl ?_
              refine ax_goto (tgt := 19) dX10_rings_114 (by decide) ?_
              refine ax_fg4 ?_
              refine ax_fg5 ?_
              have e1 : f_X10_rings_19 mem p0 j x0 = (x0 + 0) := by simp only [f_X10_rings_19, if_pos c37, if_pos c48, if_pos c57]
              simp only [ax_it, e1] at hx
              exact ih (j + 1) ((x0 + 0)) (by omega) hx
            · exact absurd (by decide) c101
          · refine ax_iconst (v := 1) dX10_rings_60 (by decide) rfl ?_
            refine ax_goto (tgt := 96) dX10_rings_61 (by decide) ?_
            refine ax_ist5 dX10_rings_96 rfl (Nat.le_of_ble_eq_true rfl) rfl ?_
            refine ax_iload_n (j := 2) dX10_rings_98 rfl rfl rfl ?_
            refine ax_iload dX10_rings_99 rfl rfl ?_
            refine ax_if_eq (tgt := 108) dX10_rings_101 (by decide) rfl (fun c101 => ?_) (fun c101 => ?_)
            · exact absurd c101 (by decide)
            · refine ax_iconst (v := 1) dX10_rings_104 (by decide) rfl ?_
              refine ax_goto (tgt := 109) dX10_rings_105 (by decide) ?_
              refine ax_iadd dX10_rings_109 rfl ?_
              refine ax_ist2 dX10_rings_110 rfl rfl (Nat.le_of_ble_eq_true rfl) rfl ?_
              refine ax_iinc3 (v := nI (j + 1)) dX10_rings_111 rfl (cl_inc j) (Nat.le_of_ble_eq_true rfl) rfl ?_
              refine ax_goto (tgt := 19) dX10_rings_114 (by decide) ?_
              refine ax_fg4 ?_
              refine ax_fg5 ?_
              have e1 : f_X10_rings_19 mem p0 j x0 = (x0 + 1) := by simp only [f_X10_rings_19, if_pos c37, if_pos c48, if_neg c57]
              simp only [ax_it, e1] at hx
              exact ih (j + 1) ((x0 + 1)) (by omega) hx
      · refine ax_iconst (v := 1) dX10_rings_40 (by decide) rfl ?_
        refine ax_goto (tgt := 45) dX10_rings_41 (by decide) ?_
        refine ax_ist4 dX10_rings_45 rfl (Nat.le_of_ble_eq_true rfl) rfl ?_
        refine ax_iload_n (j := 1) dX10_rings_47 rfl rfl rfl ?_
        refine ax_if_ne (tgt := 68) dX10_rings_48 (by decide) rfl (fun c48 => ?_) (fun c48 => ?_)
        · refine ax_iload_n (j := 1) dX10_rings_68 rfl rfl rfl ?_
          refine ax_iconst (v := 1) dX10_rings_69 (by decide) rfl ?_
          refine ax_icmp_ne (tgt := 78) dX10_rings_70 (by decide) rfl (fun c70 => ?_) (fun c70 => ?_)
          · refine ax_iload dX10_rings_78 rfl rfl ?_
            refine ax_if_eq (tgt := 95) dX10_rings_80 (by decide) rfl (fun c80 => ?_) (fun c80 => ?_)
            · exact absurd c80 (by decide)
            · refine ax_aload_n (j := 0) dX10_rings_83 rfl rfl rfl ?_
              refine ax_iload_n (j := 3) dX10_rings_84 rfl rfl rfl ?_
              refine ad_V1 ksX10_whoKnow lkX10_153 dX10_rings_85 rfl is136 rfl (Nat.le_of_ble_eq_true rfl) (Nat.le_of_ble_eq_true rfl) (s_X10_whoKnow _ _ hc (vp_in_nI (by have := hc.le; omega) (by decide))) ?_
              refine ax_if_eq (tgt := 95) dX10_rings_88 (by decide) rfl (fun c88 => ?_) (fun c88 => ?_)
              · refine ax_iconst (v := 0) dX10_rings_95 (by decide) rfl ?_
                refine ax_ist5 dX10_rings_96 rfl (Nat.le_of_ble_eq_true rfl) rfl ?_
                refine ax_iload_n (j := 2) dX10_rings_98 rfl rfl rfl ?_
                refine ax_iload dX10_rings_99 rfl rfl ?_
                refine ax_if_eq (tgt := 108) dX10_rings_101 (by decide) rfl (fun c101 => ?_) (fun c101 => ?_)
                · refine ax_iconst (v := 0) dX10_rings_108 (by decide) rfl ?_
                  refine ax_iadd dX10_rings_109 rfl ?_
                  refine ax_ist2 dX10_rings_110 rfl rfl (Nat.le_of_ble_eq_true rfl) rfl ?_
                  refine ax_iinc3 (v := nI (j + 1)) dX10_rings_111 rfl (cl_inc j) (Nat.le_of_ble_eq_true rfl) rfl ?_
                  refine ax_goto (tgt := 19) dX10_rings_114 (by decide) ?_
                  refine ax_fg4 ?_
                  refine ax_fg5 ?_
                  have e1 : f_X10_rings_19 mem p0 j x0 = (x0 + 0) := by simp only [f_X10_rings_19, if_neg c37, if_neg c48, if_neg c70, if_pos c88]
                  simp only [ax_it, e1] at hx
                  exact ih (j + 1) ((x0 + 0)) (by omega) hx
                · exact absurd (by decide) c101
              · refine ax_iconst (v := 1) dX10_rings_91 (by decide) rfl ?_
                refine ax_goto (tgt := 96) dX10_rings_92 (by decide) ?_
                refine ax_ist5 dX10_rings_96 rfl (Nat.le_of_ble_eq_true rfl) rfl ?_
                refine ax_iload_n (j := 2) dX10_rings_98 rfl rfl rfl ?_
                refine ax_iload dX10_rings_99 rfl rfl ?_
                refine ax_if_eq (tgt := 108) dX10_rings_101 (by decide) rfl (fun c101 => ?_) (fun c101 => ?_)
                · exact absurd c101 (by decide)
                · refine ax_iconst (v := 1) dX10_rings_104 (by decide) rfl ?_
                  refine ax_goto (tgt := 109) dX10_rings_105 (by decide) ?_
                  refine ax_iadd dX10_rings_109 rfl ?_
                  refine ax_ist2 dX10_rings_110 rfl rfl (Nat.le_of_ble_eq_true rfl) rfl ?_
                  refine ax_iinc3 (v := nI (j + 1)) dX10_rings_111 rfl (cl_inc j) (Nat.le_of_ble_eq_true rfl) rfl ?_
                  refine ax_goto (tgt := 19) dX10_rings_114 (by decide) ?_
                  refine ax_fg4 ?_
                  refine ax_fg5 ?_
                  have e1 : f_X10_rings_19 mem p0 j x0 = (x0 + 1) := by simp only [f_X10_rings_19, if_neg c37, if_neg c48, if_neg c70, if_neg c88]
                  simp only [ax_it, e1] at hx
                  exact ih (j + 1) ((x0 + 1)) (by omega) hx
          · refine ax_iload dX10_rings_73 rfl rfl ?_
            refine ax_goto (tgt := 96) dX10_rings_75 (by decide) ?_
            refine ax_ist5 dX10_rings_96 rfl (Nat.le_of_ble_eq_true rfl) rfl ?_
            refine ax_iload_n (j := 2) dX10_rings_98 rfl rfl rfl ?_
            refine ax_iload dX10_rings_99 rfl rfl ?_
            refine ax_if_eq (tgt := 108) dX10_rings_101 (by decide) rfl (fun c101 => ?_) (fun c101 => ?_)
            · exact absurd c101 (by decide)
            · refine ax_iconst (v := 1) dX10_rings_104 (by decide) rfl ?_
              refine ax_goto (tgt := 109) dX10_rings_105 (by decide) ?_
              refine ax_iadd dX10_rings_109 rfl ?_
              refine ax_ist2 dX10_rings_110 rfl rfl (Nat.le_of_ble_eq_true rfl) rfl ?_
              refine ax_iinc3 (v := nI (j + 1)) dX10_rings_111 rfl (cl_inc j) (Nat.le_of_ble_eq_true rfl) rfl ?_
              refine ax_goto (tgt := 19) dX10_rings_114 (by decide) ?_
              refine ax_fg4 ?_
              refine ax_fg5 ?_
              have e1 : f_X10_rings_19 mem p0 j x0 = (x0 + 1) := by simp only [f_X10_rings_19, if_neg c37, if_neg c48, if_pos c70]
              simp only [ax_it, e1] at hx
              exact ih (j + 1) ((x0 + 1)) (by omega) hx
        · refine ax_aload_n (j := 0) dX10_rings_51 rfl rfl rfl ?_
          refine ax_iload_n (j := 3) dX10_rings_52 rfl rfl rfl ?_
          refine ad_V1 ksX10_ringOf lkX10_214 dX10_rings_53 rfl is136 rfl (Nat.le_of_ble_eq_true rfl) (Nat.le_of_ble_eq_true rfl) (s_X10_ringOf _ _ hI (vp_in_nI (by have := hc.le; omega) (by decide))) ?_
          refine ax_iconst (v := 1) dX10_rings_56 (by decide) rfl ?_
          refine ax_icmp_le (tgt := 64) dX10_rings_57 (by decide) rfl (fun c57 => ?_) (fun c57 => ?_)
          · refine ax_iconst (v := 0) dX10_rings_64 (by decide) rfl ?_
            refine ax_goto (tgt := 96) dX10_rings_65 (by decide) ?_
            refine ax_ist5 dX10_rings_96 rfl (Nat.le_of_ble_eq_true rfl) rfl ?_
            refine ax_iload_n (j := 2) dX10_rings_98 rfl rfl rfl ?_
            refine ax_iload dX10_rings_99 rfl rfl ?_
            refine ax_if_eq (tgt := 108) dX10_rings_101 (by decide) rfl (fun c101 => ?_) (fun c101 => ?_)
            · refine ax_iconst (v := 0) dX10_rings_108 (by decide) rfl ?_
              refine ax_iadd dX10_rings_109 rfl ?_
              refine ax_ist2 dX10_rings_110 rfl rfl (Nat.le_of_ble_eq_true rfl) rfl ?_
              refine ax_iinc3 (v := nI (j + 1)) dX10_rings_111 rfl (cl_inc j) (Nat.le_of_ble_eq_true rfl) rfl ?_
              refine ax_goto (tgt := 19) dX10_rings_114 (by decide) ?_
              refine ax_fg4 ?_
              refine ax_fg5 ?_
              have e1 : f_X10_rings_19 mem p0 j x0 = (x0 + 0) := by simp only [f_X10_rings_19, if_neg c37, if_pos c48, if_pos c57]
              simp only [ax_it, e1] at hx
              exact ih (j + 1) ((x0 + 0)) (by omega) hx
            · exact absurd (by decide) c101
          · refine ax_iconst (v := 1) dX10_rings_60 (by decide) rfl ?_
            refine ax_goto (tgt := 96) dX10_rings_61 (by decide) ?_
            refine ax_ist5 dX10_rings_96 rfl (Nat.le_of_ble_eq_true rfl) rfl ?_
            refine ax_iload_n (j := 2) dX10_rings_98 rfl rfl rfl ?_
            refine ax_iload dX10_rings_99 rfl rfl ?_
            refine ax_if_eq (tgt := 108) dX10_rings_101 (by decide) rfl (fun c101 => ?_) (fun c101 => ?_)
            · exact absurd c101 (by decide)
            · refine ax_iconst (v := 1) dX10_rings_104 (by decide) rfl ?_
              refine ax_goto (tgt := 109) dX10_rings_105 (by decide) ?_
              refine ax_iadd dX10_rings_109 rfl ?_
              refine ax_ist2 dX10_rings_110 rfl rfl (Nat.le_of_ble_eq_true rfl) rfl ?_
              refine ax_iinc3 (v := nI (j + 1)) dX10_rings_111 rfl (cl_inc j) (Nat.le_of_ble_eq_true rfl) rfl ?_
              refine ax_goto (tgt := 19) dX10_rings_114 (by decide) ?_
              refine ax_fg4 ?_
              refine ax_fg5 ?_
              have e1 : f_X10_rings_19 mem p0 j x0 = (x0 + 1) := by simp only [f_X10_rings_19, if_neg c37, if_pos c48, if_neg c57]
              simp only [ax_it, e1] at hx
              exact ih (j + 1) ((x0 + 1)) (by omega) hx
set_option maxRecDepth 20000 in
theorem s_X10_rings {G : ax_G} {l : Launch} (mem : ax_Me) (p0 : Int32) (hc : mp mem) (hI : ∀ k, k < 8 → vp_in (mem 138 (8 + k)) 8) : AD G l 2 mX10_rings [.ref 136, .int p0] mem (some (.int (F_X10_rings mem p0))) mem := by
  refine ax_start (ls := [.ref 136, .int p0, .float 0, .float 0, .float 0, .float 0]) (u := 4) (by decide +kernel) (Nat.le_of_ble_eq_true rfl) (Nat.le_refl _) (Nat.le_refl _) rfl ?_
  refine ax_iload_n (j := 1) dX10_rings_0 rfl rfl rfl ?_
  refine ax_i2l dX10_rings_1 rfl ?_
  refine ax_lconst (v := 0) dX10_rings_2 (by decide) rfl ?_
  refine ax_ldc2 dX10_rings_3 cnX10_209 rfl ?_
  refine ad_S3 ksX10_in lkX10_66 dX10_rings_6 rfl (Nat.le_of_ble_eq_true rfl) (Nat.le_of_ble_eq_true rfl) (s_X10_in _ _ _ _) ?_
  refine ax_if_ne (tgt := 15) dX10_rings_9 (by decide) rfl (fun c9 => ?_) (fun c9 => ?_)
  · refine ax_iconst (v := 0) dX10_rings_15 (by decide) rfl ?_
    refine ax_ist2 dX10_rings_16 rfl rfl (Nat.le_of_ble_eq_true rfl) rfl ?_
    refine ax_iconst (v := 0) dX10_rings_17 (by decide) rfl ?_
    refine ax_ist3 dX10_rings_18 rfl rfl (Nat.le_of_ble_eq_true rfl) rfl ?_
    refine lp_X10_rings_19 mem p0  hc hI  (((mem 136 0) : Int32).toNatClampNeg) (0) (0) (Nat.zero_add _)  ?_
    refine ax_iload_n (j := 2) dX10_rings_117 rfl rfl rfl ?_
    exact ax_ireturn rfl dX10_rings_118 ⟨by simp only [F_X10_rings, if_neg c9], rfl⟩
  · refine ax_ldc dX10_rings_12 cnX10_76 rfl ?_
    exact ax_ireturn rfl dX10_rings_14 ⟨by simp only [F_X10_rings, if_pos c9], rfl⟩

def f_X10_mask_84 (mem : ax_Me) (p0 : Int32) (p1 : Int32) (p2 : Int32) (p3 : Int32) (v5 : Int32) (v6 : Int32) (j : Nat) (s : Int32 × ax_Me) : Int32 × ax_Me :=
  match s with
  | (x0, m) => (if x0 < 0 then (if (F_X10_sureBy (ax_u m 138 p1.toNatClampNeg (v6 ^^^ (nI j))) (F_X10_remembered (ax_u m 138 p1.toNatClampNeg (v6 ^^^ (nI j))) p0 p1) p1 p2) < p3 then (x0, (ax_u m 138 p1.toNatClampNeg (v6 ^^^ (nI j)))) else ((nI j), (ax_u m 138 p1.toNatClampNeg (v6 ^^^ (nI j))))) else (if (F_X10_bits m x0) ≤ (F_X10_bits m (nI j)) then (x0, m) else (if (F_X10_sureBy (ax_u m 138 p1.toNatClampNeg (v6 ^^^ (nI j))) (F_X10_remembered (ax_u m 138 p1.toNatClampNeg (v6 ^^^ (nI j))) p0 p1) p1 p2) < p3 then (x0, (ax_u m 138 p1.toNatClampNeg (v6 ^^^ (nI j)))) else ((nI j), (ax_u m 138 p1.toNatClampNeg (v6 ^^^ (nI j)))))))
def F_X10_mask (mem : ax_Me) (p0 : Int32) (p1 : Int32) (p2 : Int32) (p3 : Int32) : Int32 × ax_Me :=
  (if (F_X10_rowRefused mem p0 p1 p2) = 0 then (if (F_X10_has mem p2 p1) = 0 then ((-1000000002), mem) else (if (F_X10_in mem p3.toInt64 1 (8)) = 0 then ((-1000000002), mem) else (if (F_X10_unknownTo mem p0 p1) = 0 then ((ax_it (f_X10_mask_84 mem p0 p1 p2 p3 ((F_X10_unknownTo mem p0 p1)) ((mem 138 p1.toNatClampNeg))) ((256 : Int32).toNatClampNeg) (0) ((-1), mem)).1, (ax_u (ax_it (f_X10_mask_84 mem p0 p1 p2 p3 ((F_X10_unknownTo mem p0 p1)) ((mem 138 p1.toNatClampNeg))) ((256 : Int32).toNatClampNeg) (0) ((-1), mem)).2 138 p1.toNatClampNeg (mem 138 p1.toNatClampNeg))) else ((F_X10_unknownTo mem p0 p1), mem)))) else ((F_X10_rowRefused mem p0 p1 p2), mem))
set_option maxRecDepth 20000 in
theorem lp_X10_mask_84 {G : ax_G} {l : Launch} {Q : Option Value → ax_H → Prop} (mem : ax_Me) (p0 : Int32) (p1 : Int32) (p2 : Int32) (p3 : Int32) (v5 : Int32) (v6 : Int32) (hc : mp mem) (ht : ¬ F_X10_areTwo mem p0 p1 = 0) : ∀ (n j : Nat) (x0 : Int32) (m : ax_Me), j + n = (256 : Int32).toNatClampNeg → m 136 0 = mem 136 0 → AX G l mX10_mask 4 153 [.ref 136, .int p0, .int p1, .int p2, .int p3, .int v5, .int v6, .int (ax_it (f_X10_mask_84 mem p0 p1 p2 p3 v5 v6) n j (x0, m)).1, .int (nI ((256 : Int32).toNatClampNeg))] [] 153 0 (ax_hm (ax_it (f_X10_mask_84 mem p0 p1 p2 p3 v5 v6) n j (x0, m)).2) 153 0 Q → AX G l mX10_mask 4 84 [.ref 136, .int p0, .int p1, .int p2, .int p3, .int v5, .int v6, .int x0, .int (nI j)] [] 153 0 (ax_hm m) 153 0 Q := by
  intro n
  induction n with
  | zero =>
    intro j x0 m hj hi hx
    refine ax_iload dX10_mask_84 rfl rfl ?_
    refine ax_sipush (v := 256) dX10_mask_86 (by decide) rfl ?_
    refine ax_icmp_ge (tgt := 153) dX10_mask_89 (by decide) rfl (fun c89 => ?_) (fun c89 => ?_)
    · have q := hx
      simp only [ax_it] at q
      rw [show ((256 : Int32).toNatClampNeg) = j by omega] at q
      exact q
    · exact absurd (cl_ge (by omega)) c89
  | succ n ih =>
    intro j x0 m hj hi hx
    refine ax_iload dX10_mask_84 rfl rfl ?_
    refine ax_sipush (v := 256) dX10_mask_86 (by decide) rfl ?_
    refine ax_icmp_ge (tgt := 153) dX10_mask_89 (by decide) rfl (fun c89 => ?_) (fun c89 => ?_)
    · exact absurd c89 (cl_nle (by omega))
    · refine ax_iload dX10_mask_92 rfl rfl ?_
      refine ax_if_lt (tgt := 110) dX10_mask_94 (by decide) rfl (fun c94 => ?_) (fun c94 => ?_)
      · refine ax_aload_n (j := 0) dX10_mask_110 rfl rfl rfl ?_
        refine am_getR flX10_13 dX10_mask_111 rfl is136 rfl ?_
        refine ax_iload_n (j := 2) dX10_mask_114 rfl rfl rfl ?_
        refine ax_iload dX10_mask_115 rfl rfl ?_
        refine ax_iload dX10_mask_117 rfl rfl ?_
        refine ax_ixor dX10_mask_119 rfl ?_
        refine am_iast dX10_mask_120 rfl is138 (vp_mono (isp_in hc (two_of ht).2.1) (by decide)) ?_
        refine ax_aload_n (j := 0) dX10_mask_121 rfl rfl rfl ?_
        refine ax_aload_n (j := 0) dX10_mask_122 rfl rfl rfl ?_
        refine ax_iload_n (j := 1) dX10_mask_123 rfl rfl rfl ?_
        refine ax_iload_n (j := 2) dX10_mask_124 rfl rfl rfl ?_
        refine ad_V2 ksX10_remembered lkX10_133 dX10_mask_125 rfl is136 rfl (Nat.le_of_ble_eq_true rfl) (Nat.le_of_ble_eq_true rfl) (s_X10_remembered _ _ _ (in_mem (isp_in hc (two_of ht).1) (isp_in hc (two_of ht).2.1)).1) ?_
        refine ax_iload_n (j := 2) dX10_mask_128 rfl rfl rfl ?_
        refine ax_iload_n (j := 3) dX10_mask_129 rfl rfl rfl ?_
        refine ad_V3 ksX10_sureBy lkX10_206 dX10_mask_130 rfl is136 rfl (Nat.le_of_ble_eq_true rfl) (Nat.le_of_ble_eq_true rfl) (s_X10_sureBy _ _ _ _ (mp_off (mp_off hc hi) (by rw [ax_u_off (by decide)])) (isp_in hc (two_of ht).2.1)) ?_
        refine ax_iload dX10_mask_133 rfl rfl ?_
        refine ax_icmp_lt (tgt := 143) dX10_mask_135 (by decide) rfl (fun c135 => ?_) (fun c135 => ?_)
        · refine ax_iload dX10_mask_143 rfl rfl ?_
          refine ax_ist7 dX10_mask_145 rfl (Nat.le_of_ble_eq_true rfl) rfl ?_
          refine ax_iinc8 (v := nI (j + 1)) dX10_mask_147 rfl (cl_inc j) (Nat.le_of_ble_eq_true rfl) rfl ?_
          refine ax_goto (tgt := 84) dX10_mask_150 (by decide) ?_
          have e1 : f_X10_mask_84 mem p0 p1 p2 p3 v5 v6 j (x0, m) = (x0, (ax_u m 138 p1.toNatClampNeg (v6 ^^^ (nI j)))) := by simp only [f_X10_mask_84, if_pos c94, if_pos c135]
          simp only [ax_it, e1] at hx
          exact ih (j + 1) (x0) ((ax_u m 138 p1.toNatClampNeg (v6 ^^^ (nI j)))) (by omega) (by simpa [ax_u] using hi) hx
        · refine ax_iload dX10_mask_138 rfl rfl ?_
          refine ax_goto (tgt := 145) dX10_mask_140 (by decide) ?_
          refine ax_ist7 dX10_mask_145 rfl (Nat.le_of_ble_eq_true rfl) rfl ?_
          refine ax_iinc8 (v := nI (j + 1)) dX10_mask_147 rfl (cl_inc j) (Nat.le_of_ble_eq_true rfl) rfl ?_
          refine ax_goto (tgt := 84) dX10_mask_150 (by decide) ?_
          have e1 : f_X10_mask_84 mem p0 p1 p2 p3 v5 v6 j (x0, m) = ((nI j), (ax_u m 138 p1.toNatClampNeg (v6 ^^^ (nI j)))) := by simp only [f_X10_mask_84, if_pos c94, if_neg c135]
          simp only [ax_it, e1] at hx
          exact ih (j + 1) ((nI j)) ((ax_u m 138 p1.toNatClampNeg (v6 ^^^ (nI j)))) (by omega) (by simpa [ax_u] using hi) hx
      · refine ax_iload dX10_mask_97 rfl rfl ?_
        refine ad_S1 ksX10_bits lkX10_140 dX10_mask_99 rfl (Nat.le_of_ble_eq_true rfl) (Nat.le_of_ble_eq_true rfl) (s_X10_bits _ _) ?_
        refine ax_iload dX10_mask_102 rfl rfl ?_
        refine ad_S1 ksX10_bits lkX10_140 dX10_mask_104 rfl (Nat.le_of_ble_eq_true rfl) (Nat.le_of_ble_eq_true rfl) (s_X10_bits _ _) ?_
        refine ax_icmp_ge (tgt := 147) dX10_mask_107 (by decide) rfl (fun c107 => ?_) (fun c107 => ?_)
        · refine ax_iinc8 (v := nI (j + 1)) dX10_mask_147 rfl (cl_inc j) (Nat.le_of_ble_eq_true rfl) rfl ?_
          refine ax_goto (tgt := 84) dX10_mask_150 (by decide) ?_
          have e1 : f_X10_mask_84 mem p0 p1 p2 p3 v5 v6 j (x0, m) = (x0, m) := by simp only [f_X10_mask_84, if_neg c94, if_pos c107]
          simp only [ax_it, e1] at hx
          exact ih (j + 1) (x0) (m) (by omega) (by simpa [ax_u] using hi) hx
        · refine ax_aload_n (j := 0) dX10_mask_110 rfl rfl rfl ?_
          refine am_getR flX10_13 dX10_mask_111 rfl is136 rfl ?_
          refine ax_iload_n (j := 2) dX10_mask_114 rfl rfl rfl ?_
          refine ax_iload dX10_mask_115 rfl rfl ?_
          refine ax_iload dX10_mask_117 rfl rfl ?_
          refine ax_ixor dX10_mask_119 rfl ?_
          refine am_iast dX10_mask_120 rfl is138 (vp_mono (isp_in hc (two_of ht).2.1) (by decide)) ?_
          refine ax_aload_n (j := 0) dX10_mask_121 rfl rfl rfl ?_
          refine ax_aload_n (j := 0) dX10_mask_122 rfl rfl rfl ?_
          refine ax_iload_n (j := 1) dX10_mask_123 rfl rfl rfl ?_
          refine ax_iload_n (j := 2) dX10_mask_124 rfl rfl rfl ?_
          refine ad_V2 ksX10_remembered lkX10_133 dX10_mask_125 rfl is136 rfl (Nat.le_of_ble_eq_true rfl) (Nat.le_of_ble_eq_true rfl) (s_X10_remembered _ _ _ (in_mem (isp_in hc (two_of ht).1) (isp_in hc (two_of ht).2.1)).1) ?_
          refine ax_iload_n (j := 2) dX10_mask_128 rfl rfl rfl ?_
          refine ax_iload_n (j := 3) dX10_mask_129 rfl rfl rfl ?_
          refine ad_V3 ksX10_sureBy lkX10_206 dX10_mask_130 rfl is136 rfl (Nat.le_of_ble_eq_true rfl) (Nat.le_of_ble_eq_true rfl) (s_X10_sureBy _ _ _ _ (mp_off (mp_off hc hi) (by rw [ax_u_off (by decide)])) (isp_in hc (two_of ht).2.1)) ?_
          refine ax_iload dX10_mask_133 rfl rfl ?_
          refine ax_icmp_lt (tgt := 143) dX10_mask_135 (by decide) rfl (fun c135 => ?_) (fun c135 => ?_)
          · refine ax_iload dX10_mask_143 rfl rfl ?_
            refine ax_ist7 dX10_mask_145 rfl (Nat.le_of_ble_eq_true rfl) rfl ?_
            refine ax_iinc8 (v := nI (j + 1)) dX10_mask_147 rfl (cl_inc j) (Nat.le_of_ble_eq_true rfl) rfl ?_
            refine ax_goto (tgt := 84) dX10_mask_150 (by decide) ?_
            have e1 : f_X10_mask_84 mem p0 p1 p2 p3 v5 v6 j (x0, m) = (x0, (ax_u m 138 p1.toNatClampNeg (v6 ^^^ (nI j)))) := by simp only [f_X10_mask_84, if_neg c94, if_neg c107, if_pos c135]
            simp only [ax_it, e1] at hx
            exact ih (j + 1) (x0) ((ax_u m 138 p1.toNatClampNeg (v6 ^^^ (nI j)))) (by omega) (by simpa [ax_u] using hi) hx
          · refine ax_iload dX10_mask_138 rfl rfl ?_
            refine ax_goto (tgt := 145) dX10_mask_140 (by decide) ?_
            refine ax_ist7 dX10_mask_145 rfl (Nat.le_of_ble_eq_true rfl) rfl ?_
            refine ax_iinc8 (v := nI (j + 1)) dX10_mask_147 rfl (cl_inc j) (Nat.le_of_ble_eq_true rfl) rfl ?_
            refine ax_goto (tgt := 84) dX10_mask_150 (by decide) ?_
            have e1 : f_X10_mask_84 mem p0 p1 p2 p3 v5 v6 j (x0, m) = ((nI j), (ax_u m 138 p1.toNatClampNeg (v6 ^^^ (nI j)))) := by simp only [f_X10_mask_84, if_neg c94, if_neg c107, if_neg c135]
            simp only [ax_it, e1] at hx
            exact ih (j + 1) ((nI j)) ((ax_u m 138 p1.toNatClampNeg (v6 ^^^ (nI j)))) (by omega) (by simpa [ax_u] using hi) hx
set_option maxRecDepth 20000 in
theorem s_X10_mask {G : ax_G} {l : Launch} (mem : ax_Me) (p0 : Int32) (p1 : Int32) (p2 : Int32) (p3 : Int32) (hc : mp mem) : AD G l 4 mX10_mask [.ref 136, .int p0, .int p1, .int p2, .int p3] mem (some (.int (F_X10_mask mem p0 p1 p2 p3).1)) (F_X10_mask mem p0 p1 p2 p3).2 := by
  refine ax_start (ls := [.ref 136, .int p0, .int p1, .int p2, .int p3, .float 0, .float 0, .float 0, .float 0]) (u := 4) (by decide +kernel) (Nat.le_of_ble_eq_true rfl) (Nat.le_refl _) (Nat.le_refl _) rfl ?_
  refine ax_aload_n (j := 0) dX10_mask_0 rfl rfl rfl ?_
  refine ax_iload_n (j := 1) dX10_mask_1 rfl rfl rfl ?_
  refine ax_iload_n (j := 2) dX10_mask_2 rfl rfl rfl ?_
  refine ax_iload_n (j := 3) dX10_mask_3 rfl rfl rfl ?_
  refine ad_V3 ksX10_rowRefused lkX10_184 dX10_mask_4 rfl is136 rfl (Nat.le_of_ble_eq_true rfl) (Nat.le_of_ble_eq_true rfl) (s_X10_rowRefused _ _ _ _) ?_
  refine ax_ist5 dX10_mask_7 rfl (Nat.le_of_ble_eq_true rfl) rfl ?_
  refine ax_iload dX10_mask_9 rfl rfl ?_
  refine ax_if_ne (tgt := 40) dX10_mask_11 (by decide) rfl (fun c11 => ?_) (fun c11 => ?_)
  · refine ax_iload dX10_mask_40 rfl rfl ?_
    refine ax_ist5 dX10_mask_42 rfl (Nat.le_of_ble_eq_true rfl) rfl ?_
    refine ax_iload dX10_mask_44 rfl rfl ?_
    refine ax_if_eq (tgt := 54) dX10_mask_46 (by decide) rfl (fun c46 => ?_) (fun c46 => ?_)
    · exact absurd c46 c11
    · refine ax_iload dX10_mask_49 rfl rfl ?_
      refine ax_goto (tgt := 60) dX10_mask_51 (by decide) ?_
      refine ax_ist5 dX10_mask_60 rfl (Nat.le_of_ble_eq_true rfl) rfl ?_
      refine ax_iload dX10_mask_62 rfl rfl ?_
      refine ax_if_eq (tgt := 70) dX10_mask_64 (by decide) rfl (fun c64 => ?_) (fun c64 => ?_)
      · exact absurd c64 c11
      · refine ax_iload dX10_mask_67 rfl rfl ?_
        exact ax_ireturn rfl dX10_mask_69 ⟨by simp only [F_X10_mask, if_neg c11], by simp only [F_X10_mask, if_neg c11]⟩
  · refine ax_iload_n (j := 3) dX10_mask_14 rfl rfl rfl ?_
    refine ax_iload_n (j := 2) dX10_mask_15 rfl rfl rfl ?_
    refine ad_S2 ksX10_has lkX10_160 dX10_mask_16 rfl (Nat.le_of_ble_eq_true rfl) (Nat.le_of_ble_eq_true rfl) (s_X10_has _ _ _) ?_
    refine ax_if_eq (tgt := 35) dX10_mask_19 (by decide) rfl (fun c19 => ?_) (fun c19 => ?_)
    · refine ax_ldc dX10_mask_35 cnX10_76 rfl ?_
      refine ax_goto (tgt := 42) dX10_mask_37 (by decide) ?_
      refine ax_ist5 dX10_mask_42 rfl (Nat.le_of_ble_eq_true rfl) rfl ?_
      refine ax_iload dX10_mask_44 rfl rfl ?_
      refine ax_if_eq (tgt := 54) dX10_mask_46 (by decide) rfl (fun c46 => ?_) (fun c46 => ?_)
      · exact absurd c46 (by decide)
      · refine ax_iload dX10_mask_49 rfl rfl ?_
        refine ax_goto (tgt := 60) dX10_mask_51 (by decide) ?_
        refine ax_ist5 dX10_mask_60 rfl (Nat.le_of_ble_eq_true rfl) rfl ?_
        refine ax_iload dX10_mask_62 rfl rfl ?_
        refine ax_if_eq (tgt := 70) dX10_mask_64 (by decide) rfl (fun c64 => ?_) (fun c64 => ?_)
        · exact absurd c64 (by decide)
        · refine ax_iload dX10_mask_67 rfl rfl ?_
          exact ax_ireturn rfl dX10_mask_69 ⟨by simp only [F_X10_mask, if_pos c11, if_pos c19], by simp only [F_X10_mask, if_pos c11, if_pos c19]⟩
    · refine ax_iload dX10_mask_22 rfl rfl ?_
      refine ax_i2l dX10_mask_24 rfl ?_
      refine ax_lconst (v := 1) dX10_mask_25 (by decide) rfl ?_
      refine ax_ldc2 dX10_mask_26 cnX10_211 rfl ?_
      refine ad_S3 ksX10_in lkX10_66 dX10_mask_29 rfl (Nat.le_of_ble_eq_true rfl) (Nat.le_of_ble_eq_true rfl) (s_X10_in _ _ _ _) ?_
      refine ax_if_ne (tgt := 40) dX10_mask_32 (by decide) rfl (fun c32 => ?_) (fun c32 => ?_)
      · refine ax_iload dX10_mask_40 rfl rfl ?_
        refine ax_ist5 dX10_mask_42 rfl (Nat.le_of_ble_eq_true rfl) rfl ?_
        refine ax_iload dX10_mask_44 rfl rfl ?_
        refine ax_if_eq (tgt := 54) dX10_mask_46 (by decide) rfl (fun c46 => ?_) (fun c46 => ?_)
        · refine ax_aload_n (j := 0) dX10_mask_54 rfl rfl rfl ?_
          refine ax_iload_n (j := 1) dX10_mask_55 rfl rfl rfl ?_
          refine ax_iload_n (j := 2) dX10_mask_56 rfl rfl rfl ?_
          refine ad_V2 ksX10_unknownTo lkX10_188 dX10_mask_57 rfl is136 rfl (Nat.le_of_ble_eq_true rfl) (Nat.le_of_ble_eq_true rfl) (s_X10_unknownTo _ _ _ (in_mem (isp_in hc (two_of (rr_two c11)).1) (isp_in hc (two_of (rr_two c11)).2.1)).1) ?_
          refine ax_ist5 dX10_mask_60 rfl (Nat.le_of_ble_eq_true rfl) rfl ?_
          refine ax_iload dX10_mask_62 rfl rfl ?_
          refine ax_if_eq (tgt := 70) dX10_mask_64 (by decide) rfl (fun c64 => ?_) (fun c64 => ?_)
          · refine ax_aload_n (j := 0) dX10_mask_70 rfl rfl rfl ?_
            refine am_getR flX10_13 dX10_mask_71 rfl is136 rfl ?_
            refine ax_iload_n (j := 2) dX10_mask_74 rfl rfl rfl ?_
            refine am_iald dX10_mask_75 rfl is138 (vp_mono (isp_in hc (two_of (rr_two c11)).2.1) (by decide)) ?_
            refine ax_ist6 dX10_mask_76 rfl (Nat.le_of_ble_eq_true rfl) rfl ?_
            refine ax_iconst (v := (-1)) dX10_mask_78 (by decide) rfl ?_
            refine ax_ist7 dX10_mask_79 rfl (Nat.le_of_ble_eq_true rfl) rfl ?_
            refine ax_iconst (v := 0) dX10_mask_81 (by decide) rfl ?_
            refine ax_ist8 dX10_mask_82 rfl (Nat.le_of_ble_eq_true rfl) rfl ?_
            refine lp_X10_mask_84 mem p0 p1 p2 p3 ((F_X10_unknownTo mem p0 p1)) ((mem 138 p1.toNatClampNeg)) hc (rr_two c11) ((256 : Int32).toNatClampNeg) (0) ((-1)) (mem) (Nat.zero_add _) rfl ?_
            refine ax_aload_n (j := 0) dX10_mask_153 rfl rfl rfl ?_
            refine am_getR flX10_13 dX10_mask_154 rfl is136 rfl ?_
            refine ax_iload_n (j := 2) dX10_mask_157 rfl rfl rfl ?_
            refine ax_iload dX10_mask_158 rfl rfl ?_
            refine am_iast dX10_mask_160 rfl is138 (vp_mono (isp_in hc (two_of (rr_two c11)).2.1) (by decide)) ?_
            refine ax_iload dX10_mask_161 rfl rfl ?_
            exact ax_ireturn rfl dX10_mask_163 ⟨by simp only [F_X10_mask, if_pos c11, if_neg c19, if_neg c32, if_pos c64], by simp only [F_X10_mask, if_pos c11, if_neg c19, if_neg c32, if_pos c64]⟩
          · refine ax_iload dX10_mask_67 rfl rfl ?_
            exact ax_ireturn rfl dX10_mask_69 ⟨by simp only [F_X10_mask, if_pos c11, if_neg c19, if_neg c32, if_neg c64], by simp only [F_X10_mask, if_pos c11, if_neg c19, if_neg c32, if_neg c64]⟩
        · exact absurd c11 c46
      · refine ax_ldc dX10_mask_35 cnX10_76 rfl ?_
        refine ax_goto (tgt := 42) dX10_mask_37 (by decide) ?_
        refine ax_ist5 dX10_mask_42 rfl (Nat.le_of_ble_eq_true rfl) rfl ?_
        refine ax_iload dX10_mask_44 rfl rfl ?_
        refine ax_if_eq (tgt := 54) dX10_mask_46 (by decide) rfl (fun c46 => ?_) (fun c46 => ?_)
        · exact absurd c46 (by decide)
        · refine ax_iload dX10_mask_49 rfl rfl ?_
          refine ax_goto (tgt := 60) dX10_mask_51 (by decide) ?_
          refine ax_ist5 dX10_mask_60 rfl (Nat.le_of_ble_eq_true rfl) rfl ?_
          refine ax_iload dX10_mask_62 rfl rfl ?_
          refine ax_if_eq (tgt := 70) dX10_mask_64 (by decide) rfl (fun c64 => ?_) (fun c64 => ?_)
          · exact absurd c64 (by decide)
          · refine ax_iload dX10_mask_67 rfl rfl ?_
            exact ax_ireturn rfl dX10_mask_69 ⟨by simp only [F_X10_mask, if_pos c11, if_neg c19, if_pos c32], by simp only [F_X10_mask, if_pos c11, if_neg c19, if_pos c32]⟩

def f_X10_spoil_93 (mem : ax_Me) (p0 : Int32) (p1 : Int32) (p2 : Int32) (p3 : Int32) (v5 : Int32) (v6 : Int32) (j : Nat) (s : Int32 × ax_Me) : Int32 × ax_Me :=
  match s with
  | (x0, m) => (if x0 < 0 then (if (F_X10_pickBy (ax_u m 138 p3.toNatClampNeg (v6 ^^^ (nI j))) (F_X10_remembered (ax_u m 138 p3.toNatClampNeg (v6 ^^^ (nI j))) p0 p1) p2) = p3 then ((nI j), (ax_u m 138 p3.toNatClampNeg (v6 ^^^ (nI j)))) else (x0, (ax_u m 138 p3.toNatClampNeg (v6 ^^^ (nI j))))) else (if (F_X10_bits m x0) ≤ (F_X10_bits m (nI j)) then (x0, m) else (if (F_X10_pickBy (ax_u m 138 p3.toNatClampNeg (v6 ^^^ (nI j))) (F_X10_remembered (ax_u m 138 p3.toNatClampNeg (v6 ^^^ (nI j))) p0 p1) p2) = p3 then ((nI j), (ax_u m 138 p3.toNatClampNeg (v6 ^^^ (nI j)))) else (x0, (ax_u m 138 p3.toNatClampNeg (v6 ^^^ (nI j)))))))
def F_X10_spoil (mem : ax_Me) (p0 : Int32) (p1 : Int32) (p2 : Int32) (p3 : Int32) : Int32 × ax_Me :=
  (if (F_X10_isPerson mem p3) = 0 then ((-1000000001), mem) else (if p3 = p1 then ((-1000000001), mem) else (if (F_X10_rowRefused mem p0 p1 p2) = 0 then (if (F_X10_has mem p2 p3) = 0 then ((-1000000002), mem) else (if (F_X10_unknownTo mem p0 p1) = 0 then ((ax_it (f_X10_spoil_93 mem p0 p1 p2 p3 ((F_X10_unknownTo mem p0 p1)) ((mem 138 p3.toNatClampNeg))) ((256 : Int32).toNatClampNeg) (0) ((-1), mem)).1, (ax_u (ax_it (f_X10_spoil_93 mem p0 p1 p2 p3 ((F_X10_unknownTo mem p0 p1)) ((mem 138 p3.toNatClampNeg))) ((256 : Int32).toNatClampNeg) (0) ((-1), mem)).2 138 p3.toNatClampNeg (mem 138 p3.toNatClampNeg))) else ((F_X10_unknownTo mem p0 p1), mem))) else ((F_X10_rowRefused mem p0 p1 p2), mem))))
set_option maxRecDepth 20000 in
theorem lp_X10_spoil_93 {G : ax_G} {l : Launch} {Q : Option Value → ax_H → Prop} (mem : ax_Me) (p0 : Int32) (p1 : Int32) (p2 : Int32) (p3 : Int32) (v5 : Int32) (v6 : Int32) (hc : mp mem) (ht : ¬ F_X10_areTwo mem p0 p1 = 0) (h6 : vp_in p3 8) : ∀ (n j : Nat) (x0 : Int32) (m : ax_Me), j + n = (256 : Int32).toNatClampNeg → m 136 0 = mem 136 0 → AX G l mX10_spoil 4 162 [.ref 136, .int p0, .int p1, .int p2, .int p3, .int v5, .int v6, .int (ax_it (f_X10_spoil_93 mem p0 p1 p2 p3 v5 v6) n j (x0, m)).1, .int (nI ((256 : Int32).toNatClampNeg))] [] 153 0 (ax_hm (ax_it (f_X10_spoil_93 mem p0 p1 p2 p3 v5 v6) n j (x0, m)).2) 153 0 Q → AX G l mX10_spoil 4 93 [.ref 136, .int p0, .int p1, .int p2, .int p3, .int v5, .int v6, .int x0, .int (nI j)] [] 153 0 (ax_hm m) 153 0 Q := by
  intro n
  induction n with
  | zero =>
    intro j x0 m hj hi hx
    refine ax_iload dX10_spoil_93 rfl rfl ?_
    refine ax_sipush (v := 256) dX10_spoil_95 (by decide) rfl ?_
    refine ax_icmp_ge (tgt := 162) dX10_spoil_98 (by decide) rfl (fun c98 => ?_) (fun c98 => ?_)
    · have q := hx
      simp only [ax_it] at q
      rw [show ((256 : Int32).toNatClampNeg) = j by omega] at q
      exact q
    · exact absurd (cl_ge (by omega)) c98
  | succ n ih =>
    intro j x0 m hj hi hx
    refine ax_iload dX10_spoil_93 rfl rfl ?_
    refine ax_sipush (v := 256) dX10_spoil_95 (by decide) rfl ?_
    refine ax_icmp_ge (tgt := 162) dX10_spoil_98 (by decide) rfl (fun c98 => ?_) (fun c98 => ?_)
    · exact absurd c98 (cl_nle (by omega))
    · refine ax_iload dX10_spoil_101 rfl rfl ?_
      refine ax_if_lt (tgt := 119) dX10_spoil_103 (by decide) rfl (fun c103 => ?_) (fun c103 => ?_)
      · refine ax_aload_n (j := 0) dX10_spoil_119 rfl rfl rfl ?_
        refine am_getR flX10_13 dX10_spoil_120 rfl is136 rfl ?_
        refine ax_iload dX10_spoil_123 rfl rfl ?_
        refine ax_iload dX10_spoil_125 rfl rfl ?_
        refine ax_iload dX10_spoil_127 rfl rfl ?_
        refine ax_ixor dX10_spoil_129 rfl ?_
        refine am_iast dX10_spoil_130 rfl is138 (vp_mono h6 (by decide)) ?_
        refine ax_aload_n (j := 0) dX10_spoil_131 rfl rfl rfl ?_
        refine ax_aload_n (j := 0) dX10_spoil_132 rfl rfl rfl ?_
        refine ax_iload_n (j := 1) dX10_spoil_133 rfl rfl rfl ?_
        refine ax_iload_n (j := 2) dX10_spoil_134 rfl rfl rfl ?_
        refine ad_V2 ksX10_remembered lkX10_133 dX10_spoil_135 rfl is136 rfl (Nat.le_of_ble_eq_true rfl) (Nat.le_of_ble_eq_true rfl) (s_X10_remembered _ _ _ (in_mem (isp_in hc (two_of ht).1) (isp_in hc (two_of ht).2.1)).1) ?_
        refine ax_iload_n (j := 3) dX10_spoil_138 rfl rfl rfl ?_
        refine ad_V2 ksX10_pickBy lkX10_166 dX10_spoil_139 rfl is136 rfl (Nat.le_of_ble_eq_true rfl) (Nat.le_of_ble_eq_true rfl) (s_X10_pickBy _ _ _ (mp_off (mp_off hc hi) (by rw [ax_u_off (by decide)]))) ?_
        refine ax_iload dX10_spoil_142 rfl rfl ?_
        refine ax_icmp_ne (tgt := 152) dX10_spoil_144 (by decide) rfl (fun c144 => ?_) (fun c144 => ?_)
        · refine ax_iload dX10_spoil_152 rfl rfl ?_
          refine ax_ist7 dX10_spoil_154 rfl (Nat.le_of_ble_eq_true rfl) rfl ?_
          refine ax_iinc8 (v := nI (j + 1)) dX10_spoil_156 rfl (cl_inc j) (Nat.le_of_ble_eq_true rfl) rfl ?_
          refine ax_goto (tgt := 93) dX10_spoil_159 (by decide) ?_
          have e1 : f_X10_spoil_93 mem p0 p1 p2 p3 v5 v6 j (x0, m) = (x0, (ax_u m 138 p3.toNatClampNeg (v6 ^^^ (nI j)))) := by simp only [f_X10_spoil_93, if_pos c103, if_neg c144]
          simp only [ax_it, e1] at hx
          exact ih (j + 1) (x0) ((ax_u m 138 p3.toNatClampNeg (v6 ^^^ (nI j)))) (by omega) (by simpa [ax_u] using hi) hx
        · refine ax_iload dX10_spoil_147 rfl rfl ?_
          refine ax_goto (tgt := 154) dX10_spoil_149 (by decide) ?_
          refine ax_ist7 dX10_spoil_154 rfl (Nat.le_of_ble_eq_true rfl) rfl ?_
          refine ax_iinc8 (v := nI (j + 1)) dX10_spoil_156 rfl (cl_inc j) (Nat.le_of_ble_eq_true rfl) rfl ?_
          refine ax_goto (tgt := 93) dX10_spoil_159 (by decide) ?_
          have e1 : f_X10_spoil_93 mem p0 p1 p2 p3 v5 v6 j (x0, m) = ((nI j), (ax_u m 138 p3.toNatClampNeg (v6 ^^^ (nI j)))) := by simp only [f_X10_spoil_93, if_pos c103, if_pos c144]
          simp only [ax_it, e1] at hx
          exact ih (j + 1) ((nI j)) ((ax_u m 138 p3.toNatClampNeg (v6 ^^^ (nI j)))) (by omega) (by simpa [ax_u] using hi) hx
      · refine ax_iload dX10_spoil_106 rfl rfl ?_
        refine ad_S1 ksX10_bits lkX10_140 dX10_spoil_108 rfl (Nat.le_of_ble_eq_true rfl) (Nat.le_of_ble_eq_true rfl) (s_X10_bits _ _) ?_
        refine ax_iload dX10_spoil_111 rfl rfl ?_
        refine ad_S1 ksX10_bits lkX10_140 dX10_spoil_113 rfl (Nat.le_of_ble_eq_true rfl) (Nat.le_of_ble_eq_true rfl) (s_X10_bits _ _) ?_
        refine ax_icmp_ge (tgt := 156) dX10_spoil_116 (by decide) rfl (fun c116 => ?_) (fun c116 => ?_)
        · refine ax_iinc8 (v := nI (j + 1)) dX10_spoil_156 rfl (cl_inc j) (Nat.le_of_ble_eq_true rfl) rfl ?_
          refine ax_goto (tgt := 93) dX10_spoil_159 (by decide) ?_
          have e1 : f_X10_spoil_93 mem p0 p1 p2 p3 v5 v6 j (x0, m) = (x0, m) := by simp only [f_X10_spoil_93, if_neg c103, if_pos c116]
          simp only [ax_it, e1] at hx
          exact ih (j + 1) (x0) (m) (by omega) (by simpa [ax_u] using hi) hx
        · refine ax_aload_n (j := 0) dX10_spoil_119 rfl rfl rfl ?_
          refine am_getR flX10_13 dX10_spoil_120 rfl is136 rfl ?_
          refine ax_iload dX10_spoil_123 rfl rfl ?_
          refine ax_iload dX10_spoil_125 rfl rfl ?_
          refine ax_iload dX10_spoil_127 rfl rfl ?_
          refine ax_ixor dX10_spoil_129 rfl ?_
          refine am_iast dX10_spoil_130 rfl is138 (vp_mono h6 (by decide)) ?_
          refine ax_aload_n (j := 0) dX10_spoil_131 rfl rfl rfl ?_
          refine ax_aload_n (j := 0) dX10_spoil_132 rfl rfl rfl ?_
          refine ax_iload_n (j := 1) dX10_spoil_133 rfl rfl rfl ?_
          refine ax_iload_n (j := 2) dX10_spoil_134 rfl rfl rfl ?_
          refine ad_V2 ksX10_remembered lkX10_133 dX10_spoil_135 rfl is136 rfl (Nat.le_of_ble_eq_true rfl) (Nat.le_of_ble_eq_true rfl) (s_X10_remembered _ _ _ (in_mem (isp_in hc (two_of ht).1) (isp_in hc (two_of ht).2.1)).1) ?_
          refine ax_iload_n (j := 3) dX10_spoil_138 rfl rfl rfl ?_
          refine ad_V2 ksX10_pickBy lkX10_166 dX10_spoil_139 rfl is136 rfl (Nat.le_of_ble_eq_true rfl) (Nat.le_of_ble_eq_true rfl) (s_X10_pickBy _ _ _ (mp_off (mp_off hc hi) (by rw [ax_u_off (by decide)]))) ?_
          refine ax_iload dX10_spoil_142 rfl rfl ?_
          refine ax_icmp_ne (tgt := 152) dX10_spoil_144 (by decide) rfl (fun c144 => ?_) (fun c144 => ?_)
          · refine ax_iload dX10_spoil_152 rfl rfl ?_
            refine ax_ist7 dX10_spoil_154 rfl (Nat.le_of_ble_eq_true rfl) rfl ?_
            refine ax_iinc8 (v := nI (j + 1)) dX10_spoil_156 rfl (cl_inc j) (Nat.le_of_ble_eq_true rfl) rfl ?_
            refine ax_goto (tgt := 93) dX10_spoil_159 (by decide) ?_
            have e1 : f_X10_spoil_93 mem p0 p1 p2 p3 v5 v6 j (x0, m) = (x0, (ax_u m 138 p3.toNatClampNeg (v6 ^^^ (nI j)))) := by simp only [f_X10_spoil_93, if_neg c103, if_neg c116, if_neg c144]
            simp only [ax_it, e1] at hx
            exact ih (j + 1) (x0) ((ax_u m 138 p3.toNatClampNeg (v6 ^^^ (nI j)))) (by omega) (by simpa [ax_u] using hi) hx
          · refine ax_iload dX10_spoil_147 rfl rfl ?_
            refine ax_goto (tgt := 154) dX10_spoil_149 (by decide) ?_
            refine ax_ist7 dX10_spoil_154 rfl (Nat.le_of_ble_eq_true rfl) rfl ?_
            refine ax_iinc8 (v := nI (j + 1)) dX10_spoil_156 rfl (cl_inc j) (Nat.le_of_ble_eq_true rfl) rfl ?_
            refine ax_goto (tgt := 93) dX10_spoil_159 (by decide) ?_
            have e1 : f_X10_spoil_93 mem p0 p1 p2 p3 v5 v6 j (x0, m) = ((nI j), (ax_u m 138 p3.toNatClampNeg (v6 ^^^ (nI j)))) := by simp only [f_X10_spoil_93, if_neg c103, if_neg c116, if_pos c144]
            simp only [ax_it, e1] at hx
            exact ih (j + 1) ((nI j)) ((ax_u m 138 p3.toNatClampNeg (v6 ^^^ (nI j)))) (by omega) (by simpa [ax_u] using hi) hx
set_option maxRecDepth 20000 in
theorem s_X10_spoil {G : ax_G} {l : Launch} (mem : ax_Me) (p0 : Int32) (p1 : Int32) (p2 : Int32) (p3 : Int32) (hc : mp mem) : AD G l 4 mX10_spoil [.ref 136, .int p0, .int p1, .int p2, .int p3] mem (some (.int (F_X10_spoil mem p0 p1 p2 p3).1)) (F_X10_spoil mem p0 p1 p2 p3).2 := by
  refine ax_start (ls := [.ref 136, .int p0, .int p1, .int p2, .int p3, .float 0, .float 0, .float 0, .float 0]) (u := 4) (by decide +kernel) (Nat.le_of_ble_eq_true rfl) (Nat.le_refl _) (Nat.le_refl _) rfl ?_
  refine ax_aload_n (j := 0) dX10_spoil_0 rfl rfl rfl ?_
  refine ax_iload dX10_spoil_1 rfl rfl ?_
  refine ad_V1 ksX10_isPerson lkX10_70 dX10_spoil_3 rfl is136 rfl (Nat.le_of_ble_eq_true rfl) (Nat.le_of_ble_eq_true rfl) (s_X10_isPerson _ _) ?_
  refine ax_if_eq (tgt := 25) dX10_spoil_6 (by decide) rfl (fun c6 => ?_) (fun c6 => ?_)
  · refine ax_ldc dX10_spoil_25 cnX10_152 rfl ?_
    refine ax_ist5 dX10_spoil_27 rfl (Nat.le_of_ble_eq_true rfl) rfl ?_
    refine ax_iload dX10_spoil_29 rfl rfl ?_
    refine ax_if_ne (tgt := 48) dX10_spoil_31 (by decide) rfl (fun c31 => ?_) (fun c31 => ?_)
    · refine ax_iload dX10_spoil_48 rfl rfl ?_
      refine ax_ist5 dX10_spoil_50 rfl (Nat.le_of_ble_eq_true rfl) rfl ?_
      refine ax_iload dX10_spoil_52 rfl rfl ?_
      refine ax_if_eq (tgt := 62) dX10_spoil_54 (by decide) rfl (fun c54 => ?_) (fun c54 => ?_)
      · exact absurd c54 (by decide)
      · refine ax_iload dX10_spoil_57 rfl rfl ?_
        refine ax_goto (tgt := 68) dX10_spoil_59 (by decide) ?_
        refine ax_ist5 dX10_spoil_68 rfl (Nat.le_of_ble_eq_true rfl) rfl ?_
        refine ax_iload dX10_spoil_70 rfl rfl ?_
        refine ax_if_eq (tgt := 78) dX10_spoil_72 (by decide) rfl (fun c72 => ?_) (fun c72 => ?_)
        · exact absurd c72 (by decide)
        · refine ax_iload dX10_spoil_75 rfl rfl ?_
          exact ax_ireturn rfl dX10_spoil_77 ⟨by simp only [F_X10_spoil, if_pos c6], by simp only [F_X10_spoil, if_pos c6]⟩
    · exact absurd c31 (by decide)
  · refine ax_iload dX10_spoil_9 rfl rfl ?_
    refine ax_iload_n (j := 2) dX10_spoil_11 rfl rfl rfl ?_
    refine ax_icmp_eq (tgt := 25) dX10_spoil_12 (by decide) rfl (fun c12 => ?_) (fun c12 => ?_)
    · refine ax_ldc dX10_spoil_25 cnX10_152 rfl ?_
      refine ax_ist5 dX10_spoil_27 rfl (Nat.le_of_ble_eq_true rfl) rfl ?_
      refine ax_iload dX10_spoil_29 rfl rfl ?_
      refine ax_if_ne (tgt := 48) dX10_spoil_31 (by decide) rfl (fun c31 => ?_) (fun c31 => ?_)
      · refine ax_iload dX10_spoil_48 rfl rfl ?_
        refine ax_ist5 dX10_spoil_50 rfl (Nat.le_of_ble_eq_true rfl) rfl ?_
        refine ax_iload dX10_spoil_52 rfl rfl ?_
        refine ax_if_eq (tgt := 62) dX10_spoil_54 (by decide) rfl (fun c54 => ?_) (fun c54 => ?_)
        · exact absurd c54 (by decide)
        · refine ax_iload dX10_spoil_57 rfl rfl ?_
          refine ax_goto (tgt := 68) dX10_spoil_59 (by decide) ?_
          refine ax_ist5 dX10_spoil_68 rfl (Nat.le_of_ble_eq_true rfl) rfl ?_
          refine ax_iload dX10_spoil_70 rfl rfl ?_
          refine ax_if_eq (tgt := 78) dX10_spoil_72 (by decide) rfl (fun c72 => ?_) (fun c72 => ?_)
          · exact absurd c72 (by decide)
          · refine ax_iload dX10_spoil_75 rfl rfl ?_
            exact ax_ireturn rfl dX10_spoil_77 ⟨by simp only [F_X10_spoil, if_neg c6, if_pos c12], by simp only [F_X10_spoil, if_neg c6, if_pos c12]⟩
      · exact absurd c31 (by decide)
    · refine ax_aload_n (j := 0) dX10_spoil_15 rfl rfl rfl ?_
      refine ax_iload_n (j := 1) dX10_spoil_16 rfl rfl rfl ?_
      refine ax_iload_n (j := 2) dX10_spoil_17 rfl rfl rfl ?_
      refine ax_iload_n (j := 3) dX10_spoil_18 rfl rfl rfl ?_
      refine ad_V3 ksX10_rowRefused lkX10_184 dX10_spoil_19 rfl is136 rfl (Nat.le_of_ble_eq_true rfl) (Nat.le_of_ble_eq_true rfl) (s_X10_rowRefused _ _ _ _) ?_
      refine ax_goto (tgt := 27) dX10_spoil_22 (by decide) ?_
      refine ax_ist5 dX10_spoil_27 rfl (Nat.le_of_ble_eq_true rfl) rfl ?_
      refine ax_iload dX10_spoil_29 rfl rfl ?_
      refine ax_if_ne (tgt := 48) dX10_spoil_31 (by decide) rfl (fun c31 => ?_) (fun c31 => ?_)
      · refine ax_iload dX10_spoil_48 rfl rfl ?_
        refine ax_ist5 dX10_spoil_50 rfl (Nat.le_of_ble_eq_true rfl) rfl ?_
        refine ax_iload dX10_spoil_52 rfl rfl ?_
        refine ax_if_eq (tgt := 62) dX10_spoil_54 (by decide) rfl (fun c54 => ?_) (fun c54 => ?_)
        · exact absurd c54 c31
        · refine ax_iload dX10_spoil_57 rfl rfl ?_
          refine ax_goto (tgt := 68) dX10_spoil_59 (by decide) ?_
          refine ax_ist5 dX10_spoil_68 rfl (Nat.le_of_ble_eq_true rfl) rfl ?_
          refine ax_iload dX10_spoil_70 rfl rfl ?_
          refine ax_if_eq (tgt := 78) dX10_spoil_72 (by decide) rfl (fun c72 => ?_) (fun c72 => ?_)
          · exact absurd c72 c31
          · refine ax_iload dX10_spoil_75 rfl rfl ?_
            exact ax_ireturn rfl dX10_spoil_77 ⟨by simp only [F_X10_spoil, if_neg c6, if_neg c12, if_neg c31], by simp only [F_X10_spoil, if_neg c6, if_neg c12, if_neg c31]⟩
      · refine ax_iload_n (j := 3) dX10_spoil_34 rfl rfl rfl ?_
        refine ax_iload dX10_spoil_35 rfl rfl ?_
        refine ad_S2 ksX10_has lkX10_160 dX10_spoil_37 rfl (Nat.le_of_ble_eq_true rfl) (Nat.le_of_ble_eq_true rfl) (s_X10_has _ _ _) ?_
        refine ax_if_ne (tgt := 48) dX10_spoil_40 (by decide) rfl (fun c40 => ?_) (fun c40 => ?_)
        · refine ax_iload dX10_spoil_48 rfl rfl ?_
          refine ax_ist5 dX10_spoil_50 rfl (Nat.le_of_ble_eq_true rfl) rfl ?_
          refine ax_iload dX10_spoil_52 rfl rfl ?_
          refine ax_if_eq (tgt := 62) dX10_spoil_54 (by decide) rfl (fun c54 => ?_) (fun c54 => ?_)
          · refine ax_aload_n (j := 0) dX10_spoil_62 rfl rfl rfl ?_
            refine ax_iload_n (j := 1) dX10_spoil_63 rfl rfl rfl ?_
            refine ax_iload_n (j := 2) dX10_spoil_64 rfl rfl rfl ?_
            refine ad_V2 ksX10_unknownTo lkX10_188 dX10_spoil_65 rfl is136 rfl (Nat.le_of_ble_eq_true rfl) (Nat.le_of_ble_eq_true rfl) (s_X10_unknownTo _ _ _ (in_mem (isp_in hc (two_of (rr_two c31)).1) (isp_in hc (two_of (rr_two c31)).2.1)).1) ?_
            refine ax_ist5 dX10_spoil_68 rfl (Nat.le_of_ble_eq_true rfl) rfl ?_
            refine ax_iload dX10_spoil_70 rfl rfl ?_
            refine ax_if_eq (tgt := 78) dX10_spoil_72 (by decide) rfl (fun c72 => ?_) (fun c72 => ?_)
            · refine ax_aload_n (j := 0) dX10_spoil_78 rfl rfl rfl ?_
              refine am_getR flX10_13 dX10_spoil_79 rfl is136 rfl ?_
              refine ax_iload dX10_spoil_82 rfl rfl ?_
              refine am_iald dX10_spoil_84 rfl is138 (vp_mono (isp_in hc c6) (by decide)) ?_
              refine ax_ist6 dX10_spoil_85 rfl (Nat.le_of_ble_eq_true rfl) rfl ?_
              refine ax_iconst (v := (-1)) dX10_spoil_87 (by decide) rfl ?_
              refine ax_ist7 dX10_spoil_88 rfl (Nat.le_of_ble_eq_true rfl) rfl ?_
              refine ax_iconst (v := 0) dX10_spoil_90 (by decide) rfl ?_
              refine ax_ist8 dX10_spoil_91 rfl (Nat.le_of_ble_eq_true rfl) rfl ?_
              refine lp_X10_spoil_93 mem p0 p1 p2 p3 ((F_X10_unknownTo mem p0 p1)) ((mem 138 p3.toNatClampNeg)) hc (rr_two c31) (isp_in hc c6) ((256 : Int32).toNatClampNeg) (0) ((-1)) (mem) (Nat.zero_add _) rfl ?_
              refine ax_aload_n (j := 0) dX10_spoil_162 rfl rfl rfl ?_
              refine am_getR flX10_13 dX10_spoil_163 rfl is136 rfl ?_
              refine ax_iload dX10_spoil_166 rfl rfl ?_
              refine ax_iload dX10_spoil_168 rfl rfl ?_
              refine am_iast dX10_spoil_170 rfl is138 (vp_mono (isp_in hc c6) (by decide)) ?_
              refine ax_iload dX10_spoil_171 rfl rfl ?_
              exact ax_ireturn rfl dX10_spoil_173 ⟨by simp only [F_X10_spoil, if_neg c6, if_neg c12, if_pos c31, if_neg c40, if_pos c72], by simp only [F_X10_spoil, if_neg c6, if_neg c12, if_pos c31, if_neg c40, if_pos c72]⟩
            · refine ax_iload dX10_spoil_75 rfl rfl ?_
              exact ax_ireturn rfl dX10_spoil_77 ⟨by simp only [F_X10_spoil, if_neg c6, if_neg c12, if_pos c31, if_neg c40, if_neg c72], by simp only [F_X10_spoil, if_neg c6, if_neg c12, if_pos c31, if_neg c40, if_neg c72]⟩
          · exact absurd c31 c54
        · refine ax_ldc dX10_spoil_43 cnX10_76 rfl ?_
          refine ax_goto (tgt := 50) dX10_spoil_45 (by decide) ?_
          refine ax_ist5 dX10_spoil_50 rfl (Nat.le_of_ble_eq_true rfl) rfl ?_
          refine ax_iload dX10_spoil_52 rfl rfl ?_
          refine ax_if_eq (tgt := 62) dX10_spoil_54 (by decide) rfl (fun c54 => ?_) (fun c54 => ?_)
          · exact absurd c54 (by decide)
          · refine ax_iload dX10_spoil_57 rfl rfl ?_
            refine ax_goto (tgt := 68) dX10_spoil_59 (by decide) ?_
            refine ax_ist5 dX10_spoil_68 rfl (Nat.le_of_ble_eq_true rfl) rfl ?_
            refine ax_iload dX10_spoil_70 rfl rfl ?_
            refine ax_if_eq (tgt := 78) dX10_spoil_72 (by decide) rfl (fun c72 => ?_) (fun c72 => ?_)
            · exact absurd c72 (by decide)
            · refine ax_iload dX10_spoil_75 rfl rfl ?_
              exact ax_ireturn rfl dX10_spoil_77 ⟨by simp only [F_X10_spoil, if_neg c6, if_neg c12, if_pos c31, if_pos c40], by simp only [F_X10_spoil, if_neg c6, if_neg c12, if_pos c31, if_pos c40]⟩

def f_X10_impostor_75 (mem : ax_Me) (p0 : Int32) (p1 : Int32) (p2 : Int32) (p3 : Int32) (p4 : Int32)  (j : Nat) (s : Int32 × Int32) : Int32 × Int32 :=
  match s with
  | (x0, x1) => (if (F_X10_bits mem (nI j)) = p3 then (if (F_X10_has mem (nI j) p2) = 0 then (x0, x1) else (if (F_X10_has mem (nI j) p0) = 0 then (if (F_X10_pickBy mem (F_X10_remembered mem p0 p1) (nI j)) = p2 then (if x0 = 0 then ((x0 + 1), (nI j)) else ((x0 + 1), x1)) else (x0, x1)) else (x0, x1))) else (x0, x1))
def F_X10_impostor (mem : ax_Me) (p0 : Int32) (p1 : Int32) (p2 : Int32) (p3 : Int32) (p4 : Int32) : Int32 :=
  (if (F_X10_areTwo mem p0 p1) = 0 then (-1000000001) else (if (F_X10_isPerson mem p2) = 0 then (-1000000001) else (if p2 = p0 then (-1000000001) else (if (F_X10_in mem p3.toInt64 (2) (8)) = 0 then (-1000000002) else (if (F_X10_in mem p4.toInt64 0 1) = 0 then (-1000000002) else (if 0 ≤ (F_X10_remembered mem p0 p1) then (if p4 = 0 then (ax_it (f_X10_impostor_75 mem p0 p1 p2 p3 p4) (((1 <<< ((mem 136 0) &&& 31)) : Int32).toNatClampNeg) (0) (0, (-1))).1 else (ax_it (f_X10_impostor_75 mem p0 p1 p2 p3 p4) (((1 <<< ((mem 136 0) &&& 31)) : Int32).toNatClampNeg) (0) (0, (-1))).2) else (-1000000003)))))))
set_option maxRecDepth 20000 in
theorem lp_X10_impostor_75 {G : ax_G} {l : Launch} {Q : Option Value → ax_H → Prop} (mem : ax_Me) (p0 : Int32) (p1 : Int32) (p2 : Int32) (p3 : Int32) (p4 : Int32)  (hc : mp mem) (ht : ¬ F_X10_areTwo mem p0 p1 = 0) : ∀ (n j : Nat) (x0 : Int32) (x1 : Int32), j + n = ((1 <<< ((mem 136 0) &&& 31)) : Int32).toNatClampNeg → AX G l mX10_impostor 3 153 [.ref 136, .int p0, .int p1, .int p2, .int p3, .int p4, .int (ax_it (f_X10_impostor_75 mem p0 p1 p2 p3 p4) n j (x0, x1)).1, .int (ax_it (f_X10_impostor_75 mem p0 p1 p2 p3 p4) n j (x0, x1)).2, .int (nI (((1 <<< ((mem 136 0) &&& 31)) : Int32).toNatClampNeg))] [] 153 0 (ax_hm mem) 153 0 Q → AX G l mX10_impostor 3 75 [.ref 136, .int p0, .int p1, .int p2, .int p3, .int p4, .int x0, .int x1, .int (nI j)] [] 153 0 (ax_hm mem) 153 0 Q := by
  intro n
  induction n with
  | zero =>
    intro j x0 x1 hj hx
    refine ax_iload dX10_impostor_75 rfl rfl ?_
    refine ax_iconst (v := 1) dX10_impostor_77 (by decide) rfl ?_
    refine ax_aload_n (j := 0) dX10_impostor_78 rfl rfl rfl ?_
    refine am_getI flX10_63 dX10_impostor_79 rfl is136 rfl ?_
    refine ax_ishl dX10_impostor_82 rfl ?_
    refine ax_icmp_ge (tgt := 153) dX10_impostor_83 (by decide) rfl (fun c83 => ?_) (fun c83 => ?_)
    · have q := hx
      simp only [ax_it] at q
      rw [show (((1 <<< ((mem 136 0) &&& 31)) : Int32).toNatClampNeg) = j by omega] at q
      exact q
    · exact absurd (cl_ge (by omega)) c83
  | succ n ih =>
    intro j x0 x1 hj hx
    refine ax_iload dX10_impostor_75 rfl rfl ?_
    refine ax_iconst (v := 1) dX10_impostor_77 (by decide) rfl ?_
    refine ax_aload_n (j := 0) dX10_impostor_78 rfl rfl rfl ?_
    refine am_getI flX10_63 dX10_impostor_79 rfl is136 rfl ?_
    refine ax_ishl dX10_impostor_82 rfl ?_
    refine ax_icmp_ge (tgt := 153) dX10_impostor_83 (by decide) rfl (fun c83 => ?_) (fun c83 => ?_)
    · exact absurd c83 (cl_nle (by omega))
    · refine ax_iload dX10_impostor_86 rfl rfl ?_
      refine ad_S1 ksX10_bits lkX10_140 dX10_impostor_88 rfl (Nat.le_of_ble_eq_true rfl) (Nat.le_of_ble_eq_true rfl) (s_X10_bits _ _) ?_
      refine ax_iload dX10_impostor_91 rfl rfl ?_
      refine ax_icmp_ne (tgt := 147) dX10_impostor_93 (by decide) rfl (fun c93 => ?_) (fun c93 => ?_)
      · refine ax_iinc8 (v := nI (j + 1)) dX10_impostor_147 rfl (cl_inc j) (Nat.le_of_ble_eq_true rfl) rfl ?_
        refine ax_goto (tgt := 75) dX10_impostor_150 (by decide) ?_
        have e1 : f_X10_impostor_75 mem p0 p1 p2 p3 p4 j (x0, x1) = (x0, x1) := by simp only [f_X10_impostor_75, if_neg c93]
        simp only [ax_it, e1] at hx
        exact ih (j + 1) (x0) (x1) (by omega) hx
      · refine ax_iload dX10_impostor_96 rfl rfl ?_
        refine ax_iload_n (j := 3) dX10_impostor_98 rfl rfl rfl ?_
        refine ad_S2 ksX10_has lkX10_160 dX10_impostor_99 rfl (Nat.le_of_ble_eq_true rfl) (Nat.le_of_ble_eq_true rfl) (s_X10_has _ _ _) ?_
        refine ax_if_eq (tgt := 147) dX10_impostor_102 (by decide) rfl (fun c102 => ?_) (fun c102 => ?_)
        · refine ax_iinc8 (v := nI (j + 1)) dX10_impostor_147 rfl (cl_inc j) (Nat.le_of_ble_eq_true rfl) rfl ?_
          refine ax_goto (tgt := 75) dX10_impostor_150 (by decide) ?_
          have e1 : f_X10_impostor_75 mem p0 p1 p2 p3 p4 j (x0, x1) = (x0, x1) := by simp only [f_X10_impostor_75, if_pos c93, if_pos c102]
          simp only [ax_it, e1] at hx
          exact ih (j + 1) (x0) (x1) (by omega) hx
        · refine ax_iload dX10_impostor_105 rfl rfl ?_
          refine ax_iload_n (j := 1) dX10_impostor_107 rfl rfl rfl ?_
          refine ad_S2 ksX10_has lkX10_160 dX10_impostor_108 rfl (Nat.le_of_ble_eq_true rfl) (Nat.le_of_ble_eq_true rfl) (s_X10_has _ _ _) ?_
          refine ax_if_ne (tgt := 147) dX10_impostor_111 (by decide) rfl (fun c111 => ?_) (fun c111 => ?_)
          · refine ax_iinc8 (v := nI (j + 1)) dX10_impostor_147 rfl (cl_inc j) (Nat.le_of_ble_eq_true rfl) rfl ?_
            refine ax_goto (tgt := 75) dX10_impostor_150 (by decide) ?_
            have e1 : f_X10_impostor_75 mem p0 p1 p2 p3 p4 j (x0, x1) = (x0, x1) := by simp only [f_X10_impostor_75, if_pos c93, if_neg c102, if_neg c111]
            simp only [ax_it, e1] at hx
            exact ih (j + 1) (x0) (x1) (by omega) hx
          · refine ax_aload_n (j := 0) dX10_impostor_114 rfl rfl rfl ?_
            refine ax_aload_n (j := 0) dX10_impostor_115 rfl rfl rfl ?_
            refine ax_iload_n (j := 1) dX10_impostor_116 rfl rfl rfl ?_
            refine ax_iload_n (j := 2) dX10_impostor_117 rfl rfl rfl ?_
            refine ad_V2 ksX10_remembered lkX10_133 dX10_impostor_118 rfl is136 rfl (Nat.le_of_ble_eq_true rfl) (Nat.le_of_ble_eq_true rfl) (s_X10_remembered _ _ _ (in_mem (isp_in hc (two_of ht).1) (isp_in hc (two_of ht).2.1)).1) ?_
            refine ax_iload dX10_impostor_121 rfl rfl ?_
            refine ad_V2 ksX10_pickBy lkX10_166 dX10_impostor_123 rfl is136 rfl (Nat.le_of_ble_eq_true rfl) (Nat.le_of_ble_eq_true rfl) (s_X10_pickBy _ _ _ hc) ?_
            refine ax_iload_n (j := 3) dX10_impostor_126 rfl rfl rfl ?_
            refine ax_icmp_ne (tgt := 147) dX10_impostor_127 (by decide) rfl (fun c127 => ?_) (fun c127 => ?_)
            · refine ax_iinc8 (v := nI (j + 1)) dX10_impostor_147 rfl (cl_inc j) (Nat.le_of_ble_eq_true rfl) rfl ?_
              refine ax_goto (tgt := 75) dX10_impostor_150 (by decide) ?_
              have e1 : f_X10_impostor_75 mem p0 p1 p2 p3 p4 j (x0, x1) = (x0, x1) := by simp only [f_X10_impostor_75, if_pos c93, if_neg c102, if_pos c111, if_neg c127]
              simp only [ax_it, e1] at hx
              exact ih (j + 1) (x0) (x1) (by omega) hx
            · refine ax_iload dX10_impostor_130 rfl rfl ?_
              refine ax_if_ne (tgt := 140) dX10_impostor_132 (by decide) rfl (fun c132 => ?_) (fun c132 => ?_)
              · refine ax_iload dX10_impostor_140 rfl rfl ?_
                refine ax_ist7 dX10_impostor_142 rfl (Nat.le_of_ble_eq_true rfl) rfl ?_
                refine ax_iinc6 (v := (x0 + 1)) dX10_impostor_144 rfl rfl (Nat.le_of_ble_eq_true rfl) rfl ?_
                refine ax_iinc8 (v := nI (j + 1)) dX10_impostor_147 rfl (cl_inc j) (Nat.le_of_ble_eq_true rfl) rfl ?_
                refine ax_goto (tgt := 75) dX10_impostor_150 (by decide) ?_
                have e1 : f_X10_impostor_75 mem p0 p1 p2 p3 p4 j (x0, x1) = ((x0 + 1), x1) := by simp only [f_X10_impostor_75, if_pos c93, if_neg c102, if_pos c111, if_pos c127, if_neg c132]
                simp only [ax_it, e1] at hx
                exact ih (j + 1) ((x0 + 1)) (x1) (by omega) hx
              · refine ax_iload dX10_impostor_135 rfl rfl ?_
                refine ax_goto (tgt := 142) dX10_impostor_137 (by decide) ?_
                refine ax_ist7 dX10_impostor_142 rfl (Nat.le_of_ble_eq_true rfl) rfl ?_
                refine ax_iinc6 (v := (x0 + 1)) dX10_impostor_144 rfl rfl (Nat.le_of_ble_eq_true rfl) rfl ?_
                refine ax_iinc8 (v := nI (j + 1)) dX10_impostor_147 rfl (cl_inc j) (Nat.le_of_ble_eq_true rfl) rfl ?_
                refine ax_goto (tgt := 75) dX10_impostor_150 (by decide) ?_
                have e1 : f_X10_impostor_75 mem p0 p1 p2 p3 p4 j (x0, x1) = ((x0 + 1), (nI j)) := by simp only [f_X10_impostor_75, if_pos c93, if_neg c102, if_pos c111, if_pos c127, if_pos c132]
                simp only [ax_it, e1] at hx
                exact ih (j + 1) ((x0 + 1)) ((nI j)) (by omega) hx
set_option maxRecDepth 20000 in
theorem s_X10_impostor {G : ax_G} {l : Launch} (mem : ax_Me) (p0 : Int32) (p1 : Int32) (p2 : Int32) (p3 : Int32) (p4 : Int32) (hc : mp mem) : AD G l 3 mX10_impostor [.ref 136, .int p0, .int p1, .int p2, .int p3, .int p4] mem (some (.int (F_X10_impostor mem p0 p1 p2 p3 p4))) mem := by
  refine ax_start (ls := [.ref 136, .int p0, .int p1, .int p2, .int p3, .int p4, .float 0, .float 0, .float 0]) (u := 3) (by decide +kernel) (Nat.le_of_ble_eq_true rfl) (Nat.le_refl _) (Nat.le_refl _) rfl ?_
  refine ax_aload_n (j := 0) dX10_impostor_0 rfl rfl rfl ?_
  refine ax_iload_n (j := 1) dX10_impostor_1 rfl rfl rfl ?_
  refine ax_iload_n (j := 2) dX10_impostor_2 rfl rfl rfl ?_
  refine ad_V2 ksX10_areTwo lkX10_156 dX10_impostor_3 rfl is136 rfl (Nat.le_of_ble_eq_true rfl) (Nat.le_of_ble_eq_true rfl) (s_X10_areTwo _ _ _) ?_
  refine ax_if_eq (tgt := 22) dX10_impostor_6 (by decide) rfl (fun c6 => ?_) (fun c6 => ?_)
  · refine ax_ldc dX10_impostor_22 cnX10_152 rfl ?_
    exact ax_ireturn rfl dX10_impostor_24 ⟨by simp only [F_X10_impostor, if_pos c6], rfl⟩
  · refine ax_aload_n (j := 0) dX10_impostor_9 rfl rfl rfl ?_
    refine ax_iload_n (j := 3) dX10_impostor_10 rfl rfl rfl ?_
    refine ad_V1 ksX10_isPerson lkX10_70 dX10_impostor_11 rfl is136 rfl (Nat.le_of_ble_eq_true rfl) (Nat.le_of_ble_eq_true rfl) (s_X10_isPerson _ _) ?_
    refine ax_if_eq (tgt := 22) dX10_impostor_14 (by decide) rfl (fun c14 => ?_) (fun c14 => ?_)
    · refine ax_ldc dX10_impostor_22 cnX10_152 rfl ?_
      exact ax_ireturn rfl dX10_impostor_24 ⟨by simp only [F_X10_impostor, if_neg c6, if_pos c14], rfl⟩
    · refine ax_iload_n (j := 3) dX10_impostor_17 rfl rfl rfl ?_
      refine ax_iload_n (j := 1) dX10_impostor_18 rfl rfl rfl ?_
      refine ax_icmp_ne (tgt := 25) dX10_impostor_19 (by decide) rfl (fun c19 => ?_) (fun c19 => ?_)
      · refine ax_iload dX10_impostor_25 rfl rfl ?_
        refine ax_i2l dX10_impostor_27 rfl ?_
        refine ax_ldc2 dX10_impostor_28 cnX10_209 rfl ?_
        refine ax_ldc2 dX10_impostor_31 cnX10_211 rfl ?_
        refine ad_S3 ksX10_in lkX10_66 dX10_impostor_34 rfl (Nat.le_of_ble_eq_true rfl) (Nat.le_of_ble_eq_true rfl) (s_X10_in _ _ _ _) ?_
        refine ax_if_eq (tgt := 51) dX10_impostor_37 (by decide) rfl (fun c37 => ?_) (fun c37 => ?_)
        · refine ax_ldc dX10_impostor_51 cnX10_76 rfl ?_
          exact ax_ireturn rfl dX10_impostor_53 ⟨by simp only [F_X10_impostor, if_neg c6, if_neg c14, if_neg c19, if_pos c37], rfl⟩
        · refine ax_iload dX10_impostor_40 rfl rfl ?_
          refine ax_i2l dX10_impostor_42 rfl ?_
          refine ax_lconst (v := 0) dX10_impostor_43 (by decide) rfl ?_
          refine ax_lconst (v := 1) dX10_impostor_44 (by decide) rfl ?_
          refine ad_S3 ksX10_in lkX10_66 dX10_impostor_45 rfl (Nat.le_of_ble_eq_true rfl) (Nat.le_of_ble_eq_true rfl) (s_X10_in _ _ _ _) ?_
          refine ax_if_ne (tgt := 54) dX10_impostor_48 (by decide) rfl (fun c48 => ?_) (fun c48 => ?_)
          · refine ax_aload_n (j := 0) dX10_impostor_54 rfl rfl rfl ?_
            refine ax_iload_n (j := 1) dX10_impostor_55 rfl rfl rfl ?_
            refine ax_iload_n (j := 2) dX10_impostor_56 rfl rfl rfl ?_
            refine ad_V2 ksX10_remembered lkX10_133 dX10_impostor_57 rfl is136 rfl (Nat.le_of_ble_eq_true rfl) (Nat.le_of_ble_eq_true rfl) (s_X10_remembered _ _ _ (in_mem (isp_in hc (two_of c6).1) (isp_in hc (two_of c6).2.1)).1) ?_
            refine ax_if_ge (tgt := 66) dX10_impostor_60 (by decide) rfl (fun c60 => ?_) (fun c60 => ?_)
            · refine ax_iconst (v := 0) dX10_impostor_66 (by decide) rfl ?_
              refine ax_ist6 dX10_impostor_67 rfl (Nat.le_of_ble_eq_true rfl) rfl ?_
              refine ax_iconst (v := (-1)) dX10_impostor_69 (by decide) rfl ?_
              refine ax_ist7 dX10_impostor_70 rfl (Nat.le_of_ble_eq_true rfl) rfl ?_
              refine ax_iconst (v := 0) dX10_impostor_72 (by decide) rfl ?_
              refine ax_ist8 dX10_impostor_73 rfl (Nat.le_of_ble_eq_true rfl) rfl ?_
              refine lp_X10_impostor_75 mem p0 p1 p2 p3 p4  hc c6 (((1 <<< ((mem 136 0) &&& 31)) : Int32).toNatClampNeg) (0) (0) ((-1)) (Nat.zero_add _)  ?_
              refine ax_iload dX10_impostor_153 rfl rfl ?_
              refine ax_if_ne (tgt := 163) dX10_impostor_155 (by decide) rfl (fun c155 => ?_) (fun c155 => ?_)
              · refine ax_iload dX10_impostor_163 rfl rfl ?_
                exact ax_ireturn rfl dX10_impostor_165 ⟨by simp only [F_X10_impostor, if_neg c6, if_neg c14, if_neg c19, if_neg c37, if_neg c48, if_pos c60, if_neg c155], rfl⟩
              · refine ax_iload dX10_impostor_158 rfl rfl ?_
                refine ax_goto (tgt := 165) dX10_impostor_160 (by decide) ?_
                exact ax_ireturn rfl dX10_impostor_165 ⟨by simp only [F_X10_impostor, if_neg c6, if_neg c14, if_neg c19, if_neg c37, if_neg c48, if_pos c60, if_pos c155], rfl⟩
            · refine ax_ldc dX10_impostor_63 cnX10_171 rfl ?_
              exact ax_ireturn rfl dX10_impostor_65 ⟨by simp only [F_X10_impostor, if_neg c6, if_neg c14, if_neg c19, if_neg c37, if_neg c48, if_neg c60], rfl⟩
          · refine ax_ldc dX10_impostor_51 cnX10_76 rfl ?_
            exact ax_ireturn rfl dX10_impostor_53 ⟨by simp only [F_X10_impostor, if_neg c6, if_neg c14, if_neg c19, if_neg c37, if_pos c48], rfl⟩
      · refine ax_ldc dX10_impostor_22 cnX10_152 rfl ?_
        exact ax_ireturn rfl dX10_impostor_24 ⟨by simp only [F_X10_impostor, if_neg c6, if_neg c14, if_pos c19], rfl⟩

def f_X10_lost_4 (mem : ax_Me) (p0 : Int32)  (j : Nat) (s : Int32) : Int32 ⊕ Int32 :=
  match s with
  | x0 => (if (mem 138 (16 + (nI j)).toNatClampNeg) < 0 then (Sum.inr x0) else (if (F_X10_apart mem (mem 138 (16 + (nI j)).toNatClampNeg) (mem 138 ((nI j) - (nI j) / 8 * 8).toNatClampNeg)) < 3 then (Sum.inr x0) else (if x0 = p0 then (Sum.inl ((10 * ((nI j) / 8)) + ((nI j) - (nI j) / 8 * 8))) else (Sum.inr (x0 + 1)))))
def F_X10_lost (mem : ax_Me) (p0 : Int32) : Int32 :=
  (match (ax_lp (f_X10_lost_4 mem p0) ((64 : Int32).toNatClampNeg) (0) 0) with | .inl b => b | .inr y0_4 => (if p0 = (-1) then y0_4 else (-1)))
set_option maxRecDepth 20000 in
theorem lp_X10_lost_4 {G : ax_G} {l : Launch} {Q : Option Value → ax_H → Prop} (mem : ax_Me) (p0 : Int32)   : ∀ (n j : Nat) (x0 : Int32), j + n = (64 : Int32).toNatClampNeg → (∀ b : Int32, ax_lp (f_X10_lost_4 mem p0) n j x0 = .inl b → Q (some (.int b)) (ax_hm mem)) → (∀ (y0 : Int32), ax_lp (f_X10_lost_4 mem p0) n j x0 = .inr y0 → AX G l mX10_lost 2 71 [.ref 136, .int p0, .int y0, .int (nI ((64 : Int32).toNatClampNeg)), .float 0] [] 153 0 (ax_hm mem) 153 0 Q) → AX G l mX10_lost 2 4 [.ref 136, .int p0, .int x0, .int (nI j), .float 0] [] 153 0 (ax_hm mem) 153 0 Q := by
  intro n
  induction n with
  | zero =>
    intro j x0 hj hr hx
    refine ax_iload_n (j := 3) dX10_lost_4 rfl rfl rfl ?_
    refine ax_bipush (v := 64) dX10_lost_5 (by decide) rfl ?_
    refine ax_icmp_ge (tgt := 71) dX10_lost_7 (by decide) rfl (fun c7 => ?_) (fun c7 => ?_)
    · have q := hx x0 rfl
      rw [show ((64 : Int32).toNatClampNeg) = j by omega] at q
      exact q
    · exact absurd (cl_ge (by omega)) c7
  | succ n ih =>
    intro j x0 hj hr hx
    refine ax_iload_n (j := 3) dX10_lost_4 rfl rfl rfl ?_
    refine ax_bipush (v := 64) dX10_lost_5 (by decide) rfl ?_
    refine ax_icmp_ge (tgt := 71) dX10_lost_7 (by decide) rfl (fun c7 => ?_) (fun c7 => ?_)
    · exact absurd c7 (cl_nle (by omega))
    · refine ax_aload_n (j := 0) dX10_lost_10 rfl rfl rfl ?_
      refine am_getR flX10_13 dX10_lost_11 rfl is136 rfl ?_
      refine ax_bipush (v := 16) dX10_lost_14 (by decide) rfl ?_
      refine ax_iload_n (j := 3) dX10_lost_16 rfl rfl rfl ?_
      refine ax_iadd dX10_lost_17 rfl ?_
      refine am_iald dX10_lost_18 rfl is138 (by rw [show (16 : Int32) + nI j = nI (16 + j) from nI_add 16 j]; exact vp_in_nI (by have := c64; omega) (by decide)) ?_
      refine ax_ist4 dX10_lost_19 rfl (Nat.le_of_ble_eq_true rfl) rfl ?_
      refine ax_iload dX10_lost_21 rfl rfl ?_
      refine ax_if_lt (tgt := 65) dX10_lost_23 (by decide) rfl (fun c23 => ?_) (fun c23 => ?_)
      · refine ax_iinc3 (v := nI (j + 1)) dX10_lost_65 rfl (cl_inc j) (Nat.le_of_ble_eq_true rfl) rfl ?_
        refine ax_goto (tgt := 4) dX10_lost_68 (by decide) ?_
        refine ax_fg4 ?_
        have e1 : f_X10_lost_4 mem p0 j x0 = .inr x0 := by simp only [f_X10_lost_4, if_pos c23]
        exact ih (j + 1) (x0) (by omega) (fun b q => hr b (by simp only [ax_lp, e1]; exact q)) (fun y0 q => hx y0 (by simp only [ax_lp, e1]; exact q))
      · refine ax_iload dX10_lost_26 rfl rfl ?_
        refine ax_aload_n (j := 0) dX10_lost_28 rfl rfl rfl ?_
        refine am_getR flX10_13 dX10_lost_29 rfl is136 rfl ?_
        refine ax_iload_n (j := 3) dX10_lost_32 rfl rfl rfl ?_
        refine ax_bipush (v := 8) dX10_lost_33 (by decide) rfl ?_
        refine ax_irem dX10_lost_35 (by decide) rfl ?_
        refine am_iald dX10_lost_36 rfl is138 (by rw [show nI j - nI j / 8 * 8 = nI (j % 8) from pk_rem (by have := c64; omega) (by decide) (by decide)]; exact vp_in_nI (by omega) (by decide)) ?_
        refine ad_S2 ksX10_apart lkX10_163 dX10_lost_37 rfl (Nat.le_of_ble_eq_true rfl) (Nat.le_of_ble_eq_true rfl) (s_X10_apart _ _ _) ?_
        refine ax_iconst (v := 3) dX10_lost_40 (by decide) rfl ?_
        refine ax_icmp_lt (tgt := 65) dX10_lost_41 (by decide) rfl (fun c41 => ?_) (fun c41 => ?_)
        · refine ax_iinc3 (v := nI (j + 1)) dX10_lost_65 rfl (cl_inc j) (Nat.le_of_ble_eq_true rfl) rfl ?_
          refine ax_goto (tgt := 4) dX10_lost_68 (by decide) ?_
          refine ax_fg4 ?_
          have e1 : f_X10_lost_4 mem p0 j x0 = .inr x0 := by simp only [f_X10_lost_4, if_neg c23, if_pos c41]
          exact ih (j + 1) (x0) (by omega) (fun b q => hr b (by simp only [ax_lp, e1]; exact q)) (fun y0 q => hx y0 (by simp only [ax_lp, e1]; exact q))
        · refine ax_iload_n (j := 2) dX10_lost_44 rfl rfl rfl ?_
          refine ax_iload_n (j := 1) dX10_lost_45 rfl rfl rfl ?_
          refine ax_icmp_ne (tgt := 62) dX10_lost_46 (by decide) rfl (fun c46 => ?_) (fun c46 => ?_)
          · refine ax_iinc2 (v := (x0 + 1)) dX10_lost_62 rfl rfl (Nat.le_of_ble_eq_true rfl) rfl ?_
            refine ax_iinc3 (v := nI (j + 1)) dX10_lost_65 rfl (cl_inc j) (Nat.le_of_ble_eq_true rfl) rfl ?_
            refine ax_goto (tgt := 4) dX10_lost_68 (by decide) ?_
            refine ax_fg4 ?_
            have e1 : f_X10_lost_4 mem p0 j x0 = .inr (x0 + 1) := by simp only [f_X10_lost_4, if_neg c23, if_neg c41, if_neg c46]
            exact ih (j + 1) ((x0 + 1)) (by omega) (fun b q => hr b (by simp only [ax_lp, e1]; exact q)) (fun y0 q => hx y0 (by simp only [ax_lp, e1]; exact q))
          · refine ax_bipush (v := 10) dX10_lost_49 (by decide) rfl ?_
            refine ax_iload_n (j := 3) dX10_lost_51 rfl rfl rfl ?_
            refine ax_bipush (v := 8) dX10_lost_52 (by decide) rfl ?_
            refine ax_idiv dX10_lost_54 (by decide) rfl ?_
            refine ax_imul dX10_lost_55 rfl ?_
            refine ax_iload_n (j := 3) dX10_lost_56 rfl rfl rfl ?_
            refine ax_bipush (v := 8) dX10_lost_57 (by decide) rfl ?_
            refine ax_irem dX10_lost_59 (by decide) rfl ?_
            refine ax_iadd dX10_lost_60 rfl ?_
            exact ax_ireturn rfl dX10_lost_61 (hr (((10 * ((nI j) / 8)) + ((nI j) - (nI j) / 8 * 8))) (by simp only [ax_lp, f_X10_lost_4, if_neg c23, if_neg c41, if_pos c46]))
set_option maxRecDepth 20000 in
theorem s_X10_lost {G : ax_G} {l : Launch} (mem : ax_Me) (p0 : Int32)  : AD G l 2 mX10_lost [.ref 136, .int p0] mem (some (.int (F_X10_lost mem p0))) mem := by
  refine ax_start (ls := [.ref 136, .int p0, .float 0, .float 0, .float 0]) (u := 3) (by decide +kernel) (Nat.le_of_ble_eq_true rfl) (Nat.le_refl _) (Nat.le_refl _) rfl ?_
  refine ax_iconst (v := 0) dX10_lost_0 (by decide) rfl ?_
  refine ax_ist2 dX10_lost_1 rfl rfl (Nat.le_of_ble_eq_true rfl) rfl ?_
  refine ax_iconst (v := 0) dX10_lost_2 (by decide) rfl ?_
  refine ax_ist3 dX10_lost_3 rfl rfl (Nat.le_of_ble_eq_true rfl) rfl ?_
  refine lp_X10_lost_4 mem p0    ((64 : Int32).toNatClampNeg) (0) (0) (Nat.zero_add _)  (fun b h4 => ?_) (fun y0_4 h4 => ?_)
  · exact ⟨by simp only [F_X10_lost, h4], rfl⟩
  · refine ax_iload_n (j := 1) dX10_lost_71 rfl rfl rfl ?_
    refine ax_iconst (v := (-1)) dX10_lost_72 (by decide) rfl ?_
    refine ax_icmp_ne (tgt := 80) dX10_lost_73 (by decide) rfl (fun c73 => ?_) (fun c73 => ?_)
    · refine ax_iconst (v := (-1)) dX10_lost_80 (by decide) rfl ?_
      exact ax_ireturn rfl dX10_lost_81 ⟨by simp only [F_X10_lost, h4, if_neg c73], rfl⟩
    · refine ax_iload_n (j := 2) dX10_lost_76 rfl rfl rfl ?_
      refine ax_goto (tgt := 81) dX10_lost_77 (by decide) ?_
      exact ax_ireturn rfl dX10_lost_81 ⟨by simp only [F_X10_lost, h4, if_pos c73], rfl⟩

theorem cnt_up2 {x n : Int32} (h0 : ¬ x < 0) (c : ¬ n ≤ x) : (x + 1).toNatClampNeg = x.toNatClampNeg + 1 ∧ x.toNatClampNeg < n.toNatClampNeg ∧ ¬ x + 1 < 0 := by
  rw [Int32.lt_iff_toInt_lt] at h0
  rw [Int32.le_iff_toInt_le] at c
  have e0 : (0 : Int32).toInt = 0 := rfl
  have e9 := Int32.toInt_lt n
  have e := inc_toInt (x := x) (by omega)
  have n1 : x.toNatClampNeg = x.toInt.toNat := rfl
  have n2 : (x + 1).toNatClampNeg = (x + 1).toInt.toNat := rfl
  have n3 : n.toNatClampNeg = n.toInt.toNat := rfl
  refine ⟨by omega, by omega, fun q => ?_⟩
  rw [Int32.lt_iff_toInt_lt] at q
  omega
def f_X10_alike_39 (p0 : Int32) (v2 : Int32) (s : Int32 × ax_Me) : Option (Int32 × ax_Me) :=
  match s with
  | (x0, m) => (if p0 ≤ x0 then none else (if (m 137 v2.toNatClampNeg) ≤ 0 then none else (some ((x0 + 1), (ax_u m 144 v2.toNatClampNeg ((m 144 v2.toNatClampNeg) ^^^ (1 <<< ((((((m 138 (80 : Int32).toNatClampNeg) + x0) * (m 137 v2.toNatClampNeg)) + v2) - ((((m 138 (80 : Int32).toNatClampNeg) + x0) * (m 137 v2.toNatClampNeg)) + v2) / 8 * 8) &&& 31))))))))
def f_X10_alike_17 (mem : ax_Me) (p0 : Int32)  (j : Nat) (s : ax_Me) : ax_Me :=
  match s with
  | m => (ax_wh (f_X10_alike_39 p0 ((nI j))) ((p0.toNatClampNeg + 1)) (0, (ax_u m 144 (nI j).toNatClampNeg (m 138 (nI j).toNatClampNeg)))).2
def f_X10_alike_99 (mem : ax_Me) (p0 : Int32)  (j : Nat) (s : Unit) : Int32 ⊕ (Unit) :=
  match s with
  | () => (if ((nI j) - (nI j) / 8 * 8) ≤ ((nI j) / 8) then (Sum.inr ()) else (if (mem 136 0) ≤ ((nI j) - (nI j) / 8 * 8) then (Sum.inr ()) else (if (mem 144 ((nI j) / 8).toNatClampNeg) = (mem 144 ((nI j) - (nI j) / 8 * 8).toNatClampNeg) then (Sum.inl ((10 * ((nI j) / 8)) + ((nI j) - (nI j) / 8 * 8))) else (Sum.inr ()))))
def F_X10_alike (mem : ax_Me) (p0 : Int32) : Int32 × ax_Me :=
  (if (F_X10_in mem p0.toInt64 0 (60)) = 0 then ((-1000000002), mem) else (match (ax_lp (f_X10_alike_99 ((ax_it (f_X10_alike_17 mem p0) (((mem 136 0) : Int32).toNatClampNeg) (0) mem)) p0) ((64 : Int32).toNatClampNeg) (0) ()) with | .inl b => (b, (ax_it (f_X10_alike_17 mem p0) (((mem 136 0) : Int32).toNatClampNeg) (0) mem)) | .inr () => ((-1), (ax_it (f_X10_alike_17 mem p0) (((mem 136 0) : Int32).toNatClampNeg) (0) mem))))
set_option maxRecDepth 20000 in
theorem lp_X10_alike_39 {G : ax_G} {l : Launch} {Q : Option Value → ax_H → Prop} (p0 : Int32) (v2 : Int32) (h2 : vp_in v2 8) : ∀ (n : Nat) (x0 : Int32) (m : ax_Me), (p0.toNatClampNeg - x0.toNatClampNeg) < n → ¬ x0 < 0 → AX G l mX10_alike 1 91 [.ref 136, .int p0, .int v2, .int (ax_wh (f_X10_alike_39 p0 v2) n (x0, m)).1, .float 0] [] 153 0 (ax_hm (ax_wh (f_X10_alike_39 p0 v2) n (x0, m)).2) 153 0 Q → AX G l mX10_alike 1 39 [.ref 136, .int p0, .int v2, .int x0, .float 0] [] 153 0 (ax_hm m) 153 0 Q := by
  intro n
  induction n with
  | zero =>
    intro x0 m hmu
    exact absurd hmu (Nat.not_lt_zero _)
  | succ n ih =>
    intro x0 m hmu hi hx
    refine ax_iload_n (j := 3) dX10_alike_39 rfl rfl rfl ?_
    refine ax_iload_n (j := 1) dX10_alike_40 rfl rfl rfl ?_
    refine ax_icmp_ge (tgt := 91) dX10_alike_41 (by decide) rfl (fun c41 => ?_) (fun c41 => ?_)
    · have e1 : f_X10_alike_39 p0 v2 (x0, m) = none := by simp only [f_X10_alike_39, if_pos c41]
      simp only [ax_wh, e1] at hx
      exact hx
    · refine ax_aload_n (j := 0) dX10_alike_44 rfl rfl rfl ?_
      refine am_getR flX10_7 dX10_alike_45 rfl is136 rfl ?_
      refine ax_iload_n (j := 2) dX10_alike_48 rfl rfl rfl ?_
      refine am_iald dX10_alike_49 rfl is137 h2 ?_
      refine ax_if_le (tgt := 91) dX10_alike_50 (by decide) rfl (fun c50 => ?_) (fun c50 => ?_)
      · have e1 : f_X10_alike_39 p0 v2 (x0, m) = none := by simp only [f_X10_alike_39, if_neg c41, if_pos c50]
        simp only [ax_wh, e1] at hx
        exact hx
      · refine ax_aload_n (j := 0) dX10_alike_53 rfl rfl rfl ?_
        refine am_getR flX10_36 dX10_alike_54 rfl is136 rfl ?_
        refine ax_iload_n (j := 2) dX10_alike_57 rfl rfl rfl ?_
        refine ax_dup2 dX10_alike_58 rfl rfl rfl ?_
        refine am_iald dX10_alike_59 rfl is144 h2 ?_
        refine ax_iconst (v := 1) dX10_alike_60 (by decide) rfl ?_
        refine ax_aload_n (j := 0) dX10_alike_61 rfl rfl rfl ?_
        refine am_getR flX10_13 dX10_alike_62 rfl is136 rfl ?_
        refine ax_bipush (v := 80) dX10_alike_65 (by decide) rfl ?_
        refine am_iald dX10_alike_67 rfl is138 (by unfold vp_in; decide) ?_
        refine ax_iload_n (j := 3) dX10_alike_68 rfl rfl rfl ?_
        refine ax_iadd dX10_alike_69 rfl ?_
        refine ax_aload_n (j := 0) dX10_alike_70 rfl rfl rfl ?_
        refine am_getR flX10_7 dX10_alike_71 rfl is136 rfl ?_
        refine ax_iload_n (j := 2) dX10_alike_74 rfl rfl rfl ?_
        refine am_iald dX10_alike_75 rfl is137 h2 ?_
        refine ax_imul dX10_alike_76 rfl ?_
        refine ax_iload_n (j := 2) dX10_alike_77 rfl rfl rfl ?_
        refine ax_iadd dX10_alike_78 rfl ?_
        refine ax_bipush (v := 8) dX10_alike_79 (by decide) rfl ?_
        refine ax_irem dX10_alike_81 (by decide) rfl ?_
        refine ax_ishl dX10_alike_82 rfl ?_
        refine ax_ixor dX10_alike_83 rfl ?_
        refine am_iast dX10_alike_84 rfl is144 h2 ?_
        refine ax_iinc3 (v := (x0 + 1)) dX10_alike_85 rfl rfl (Nat.le_of_ble_eq_true rfl) rfl ?_
        refine ax_goto (tgt := 39) dX10_alike_88 (by decide) ?_
        have e1 : f_X10_alike_39 p0 v2 (x0, m) = some ((x0 + 1), (ax_u m 144 v2.toNatClampNeg ((m 144 v2.toNatClampNeg) ^^^ (1 <<< ((((((m 138 (80 : Int32).toNatClampNeg) + x0) * (m 137 v2.toNatClampNeg)) + v2) - ((((m 138 (80 : Int32).toNatClampNeg) + x0) * (m 137 v2.toNatClampNeg)) + v2) / 8 * 8) &&& 31))))) := by simp only [f_X10_alike_39, if_neg c41, if_neg c50]
        simp only [ax_wh, e1] at hx
        exact ih ((x0 + 1)) ((ax_u m 144 v2.toNatClampNeg ((m 144 v2.toNatClampNeg) ^^^ (1 <<< ((((((m 138 (80 : Int32).toNatClampNeg) + x0) * (m 137 v2.toNatClampNeg)) + v2) - ((((m 138 (80 : Int32).toNatClampNeg) + x0) * (m 137 v2.toNatClampNeg)) + v2) / 8 * 8) &&& 31))))) (by have q := cnt_up2 hi c41; omega) (cnt_up2 hi c41).2.2 hx
theorem alk_136 {p0 v2 : Int32} (n : Nat) (x : Int32) (m : ax_Me) : (ax_wh (f_X10_alike_39 p0 v2) n (x, m)).2 136 = m 136 := by
  refine ax_wh_inv (fun s : Int32 × ax_Me => s.2 136 = m 136) (fun s s' e hs => ?_) n (x, m) rfl
  obtain ⟨x0, m0⟩ := s
  unfold f_X10_alike_39 at e
  dsimp only at e
  split at e
  · cases e
  · split at e
    · cases e
    · cases e
      dsimp only
      rw [ax_u_off (by decide)]
      exact hs
set_option maxRecDepth 20000 in
theorem lp_X10_alike_17 {G : ax_G} {l : Launch} {Q : Option Value → ax_H → Prop} (mem : ax_Me) (p0 : Int32)  (hc : mp mem) : ∀ (n j : Nat) (m : ax_Me), j + n = ((mem 136 0) : Int32).toNatClampNeg → m 136 0 = mem 136 0 → AX G l mX10_alike 1 97 [.ref 136, .int p0, .int (nI (((mem 136 0) : Int32).toNatClampNeg)), .float 0, .float 0] [] 153 0 (ax_hm (ax_it (f_X10_alike_17 mem p0) n j m)) 153 0 Q → AX G l mX10_alike 1 17 [.ref 136, .int p0, .int (nI j), .float 0, .float 0] [] 153 0 (ax_hm m) 153 0 Q := by
  intro n
  induction n with
  | zero =>
    intro j m hj hi hx
    refine ax_iload_n (j := 2) dX10_alike_17 rfl rfl rfl ?_
    refine ax_aload_n (j := 0) dX10_alike_18 rfl rfl rfl ?_
    refine am_getI flX10_63 dX10_alike_19 rfl is136 rfl ?_
    refine ax_icmp_ge (tgt := 97) dX10_alike_22 (by decide) rfl (fun c22 => ?_) (fun c22 => ?_)
    · have q := hx
      simp only [ax_it] at q
      rw [show (((mem 136 0) : Int32).toNatClampNeg) = j by omega] at q
      exact q
    · exact absurd (cl_ge (by rw [hi]; omega)) c22
  | succ n ih =>
    intro j m hj hi hx
    refine ax_iload_n (j := 2) dX10_alike_17 rfl rfl rfl ?_
    refine ax_aload_n (j := 0) dX10_alike_18 rfl rfl rfl ?_
    refine am_getI flX10_63 dX10_alike_19 rfl is136 rfl ?_
    refine ax_icmp_ge (tgt := 97) dX10_alike_22 (by decide) rfl (fun c22 => ?_) (fun c22 => ?_)
    · exact absurd c22 (cl_nle (by rw [hi]; omega))
    · refine ax_aload_n (j := 0) dX10_alike_25 rfl rfl rfl ?_
      refine am_getR flX10_36 dX10_alike_26 rfl is136 rfl ?_
      refine ax_iload_n (j := 2) dX10_alike_29 rfl rfl rfl ?_
      refine ax_aload_n (j := 0) dX10_alike_30 rfl rfl rfl ?_
      refine am_getR flX10_13 dX10_alike_31 rfl is136 rfl ?_
      refine ax_iload_n (j := 2) dX10_alike_34 rfl rfl rfl ?_
      refine am_iald dX10_alike_35 rfl is138 (vp_in_nI (by have := hc.le; omega) (by decide)) ?_
      refine am_iast dX10_alike_36 rfl is144 (vp_in_nI (by have := hc.le; omega) (by decide)) ?_
      refine ax_iconst (v := 0) dX10_alike_37 (by decide) rfl ?_
      refine ax_ist3 dX10_alike_38 rfl rfl (Nat.le_of_ble_eq_true rfl) rfl ?_
      refine lp_X10_alike_39 p0 ((nI j)) (vp_in_nI (by have := hc.le; omega) (by decide)) ((p0.toNatClampNeg + 1)) (0) ((ax_u m 144 (nI j).toNatClampNeg (m 138 (nI j).toNatClampNeg))) (by have e : (0 : Int32).toNatClampNeg = 0 := rfl; omega) (by decide) ?_
      refine ax_iinc2 (v := nI (j + 1)) dX10_alike_91 rfl (cl_inc j) (Nat.le_of_ble_eq_true rfl) rfl ?_
      refine ax_goto (tgt := 17) dX10_alike_94 (by decide) ?_
      refine ax_fg3 ?_
      have e1 : f_X10_alike_17 mem p0 j m = (ax_wh (f_X10_alike_39 p0 ((nI j))) ((p0.toNatClampNeg + 1)) (0, (ax_u m 144 (nI j).toNatClampNeg (m 138 (nI j).toNatClampNeg)))).2 := by simp only [f_X10_alike_17]
      simp only [ax_it, e1] at hx
      exact ih (j + 1) ((ax_wh (f_X10_alike_39 p0 ((nI j))) ((p0.toNatClampNeg + 1)) (0, (ax_u m 144 (nI j).toNatClampNeg (m 138 (nI j).toNatClampNeg)))).2) (by omega) (by rw [alk_136, ax_u_off (by decide)]; exact hi) hx
set_option maxRecDepth 20000 in
theorem lp_X10_alike_99 {G : ax_G} {l : Launch} {Q : Option Value → ax_H → Prop} (mem : ax_Me) (p0 : Int32)   : ∀ (n j : Nat), j + n = (64 : Int32).toNatClampNeg → (∀ b : Int32, ax_lp (f_X10_alike_99 mem p0) n j () = .inl b → Q (some (.int b)) (ax_hm mem)) → (ax_lp (f_X10_alike_99 mem p0) n j () = .inr () → AX G l mX10_alike 1 161 [.ref 136, .int p0, .int (nI ((64 : Int32).toNatClampNeg)), .float 0, .float 0] [] 153 0 (ax_hm mem) 153 0 Q) → AX G l mX10_alike 1 99 [.ref 136, .int p0, .int (nI j), .float 0, .float 0] [] 153 0 (ax_hm mem) 153 0 Q := by
  intro n
  induction n with
  | zero =>
    intro j  hj hr hx
    refine ax_iload_n (j := 2) dX10_alike_99 rfl rfl rfl ?_
    refine ax_bipush (v := 64) dX10_alike_100 (by decide) rfl ?_
    refine ax_icmp_ge (tgt := 161) dX10_alike_102 (by decide) rfl (fun c102 => ?_) (fun c102 => ?_)
    · have q := hx  rfl
      rw [show ((64 : Int32).toNatClampNeg) = j by omega] at q
      exact q
    · exact absurd (cl_ge (by omega)) c102
  | succ n ih =>
    intro j  hj hr hx
    refine ax_iload_n (j := 2) dX10_alike_99 rfl rfl rfl ?_
    refine ax_bipush (v := 64) dX10_alike_100 (by decide) rfl ?_
    refine ax_icmp_ge (tgt := 161) dX10_alike_102 (by decide) rfl (fun c102 => ?_) (fun c102 => ?_)
    · exact absurd c102 (cl_nle (by omega))
    · refine ax_iload_n (j := 2) dX10_alike_105 rfl rfl rfl ?_
      refine ax_bipush (v := 8) dX10_alike_106 (by decide) rfl ?_
      refine ax_idiv dX10_alike_108 (by decide) rfl ?_
      refine ax_ist3 dX10_alike_109 rfl rfl (Nat.le_of_ble_eq_true rfl) rfl ?_
      refine ax_iload_n (j := 2) dX10_alike_110 rfl rfl rfl ?_
      refine ax_bipush (v := 8) dX10_alike_111 (by decide) rfl ?_
      refine ax_irem dX10_alike_113 (by decide) rfl ?_
      refine ax_ist4 dX10_alike_114 rfl (Nat.le_of_ble_eq_true rfl) rfl ?_
      refine ax_iload_n (j := 3) dX10_alike_116 rfl rfl rfl ?_
      refine ax_iload dX10_alike_117 rfl rfl ?_
      refine ax_icmp_ge (tgt := 155) dX10_alike_119 (by decide) rfl (fun c119 => ?_) (fun c119 => ?_)
      · refine ax_iinc2 (v := nI (j + 1)) dX10_alike_155 rfl (cl_inc j) (Nat.le_of_ble_eq_true rfl) rfl ?_
        refine ax_goto (tgt := 99) dX10_alike_158 (by decide) ?_
        refine ax_fg3 ?_
        refine ax_fg4 ?_
        have e1 : f_X10_alike_99 mem p0 j () = .inr () := by simp only [f_X10_alike_99, if_pos c119]
        exact ih (j + 1)  (by omega) (fun b q => hr b (by simp only [ax_lp, e1]; exact q)) (fun q => hx (by simp only [ax_lp, e1]; exact q))
      · refine ax_iload dX10_alike_122 rfl rfl ?_
        refine ax_aload_n (j := 0) dX10_alike_124 rfl rfl rfl ?_
        refine am_getI flX10_63 dX10_alike_125 rfl is136 rfl ?_
        refine ax_icmp_ge (tgt := 155) dX10_alike_128 (by decide) rfl (fun c128 => ?_) (fun c128 => ?_)
        · refine ax_iinc2 (v := nI (j + 1)) dX10_alike_155 rfl (cl_inc j) (Nat.le_of_ble_eq_true rfl) rfl ?_
          refine ax_goto (tgt := 99) dX10_alike_158 (by decide) ?_
          refine ax_fg3 ?_
          refine ax_fg4 ?_
          have e1 : f_X10_alike_99 mem p0 j () = .inr () := by simp only [f_X10_alike_99, if_neg c119, if_pos c128]
          exact ih (j + 1)  (by omega) (fun b q => hr b (by simp only [ax_lp, e1]; exact q)) (fun q => hx (by simp only [ax_lp, e1]; exact q))
        · refine ax_aload_n (j := 0) dX10_alike_131 rfl rfl rfl ?_
          refine am_getR flX10_36 dX10_alike_132 rfl is136 rfl ?_
          refine ax_iload_n (j := 3) dX10_alike_135 rfl rfl rfl ?_
          refine am_iald dX10_alike_136 rfl is144 (by rw [show nI j / 8 = nI (j / 8) from pk_div (by have := c64; omega) (by decide) (by decide)]; exact vp_in_nI (by have := c64; omega) (by decide)) ?_
          refine ax_aload_n (j := 0) dX10_alike_137 rfl rfl rfl ?_
          refine am_getR flX10_36 dX10_alike_138 rfl is136 rfl ?_
          refine ax_iload dX10_alike_141 rfl rfl ?_
          refine am_iald dX10_alike_143 rfl is144 (by rw [show nI j - nI j / 8 * 8 = nI (j % 8) from pk_rem (by have := c64; omega) (by decide) (by decide)]; exact vp_in_nI (by omega) (by decide)) ?_
          refine ax_icmp_ne (tgt := 155) dX10_alike_144 (by decide) rfl (fun c144 => ?_) (fun c144 => ?_)
          · refine ax_iinc2 (v := nI (j + 1)) dX10_alike_155 rfl (cl_inc j) (Nat.le_of_ble_eq_true rfl) rfl ?_
            refine ax_goto (tgt := 99) dX10_alike_158 (by decide) ?_
            refine ax_fg3 ?_
            refine ax_fg4 ?_
            have e1 : f_X10_alike_99 mem p0 j () = .inr () := by simp only [f_X10_alike_99, if_neg c119, if_neg c128, if_neg c144]
            exact ih (j + 1)  (by omega) (fun b q => hr b (by simp only [ax_lp, e1]; exact q)) (fun q => hx (by simp only [ax_lp, e1]; exact q))
          · refine ax_bipush (v := 10) dX10_alike_147 (by decide) rfl ?_
            refine ax_iload_n (j := 3) dX10_alike_149 rfl rfl rfl ?_
            refine ax_imul dX10_alike_150 rfl ?_
            refine ax_iload dX10_alike_151 rfl rfl ?_
            refine ax_iadd dX10_alike_153 rfl ?_
            exact ax_ireturn rfl dX10_alike_154 (hr (((10 * ((nI j) / 8)) + ((nI j) - (nI j) / 8 * 8))) (by simp only [ax_lp, f_X10_alike_99, if_neg c119, if_neg c128, if_pos c144]))
set_option maxRecDepth 20000 in
theorem s_X10_alike {G : ax_G} {l : Launch} (mem : ax_Me) (p0 : Int32) (hc : mp mem) : AD G l 1 mX10_alike [.ref 136, .int p0] mem (some (.int (F_X10_alike mem p0).1)) (F_X10_alike mem p0).2 := by
  refine ax_start (ls := [.ref 136, .int p0, .float 0, .float 0, .float 0]) (u := 3) (by decide +kernel) (Nat.le_of_ble_eq_true rfl) (Nat.le_refl _) (Nat.le_refl _) rfl ?_
  refine ax_iload_n (j := 1) dX10_alike_0 rfl rfl rfl ?_
  refine ax_i2l dX10_alike_1 rfl ?_
  refine ax_lconst (v := 0) dX10_alike_2 (by decide) rfl ?_
  refine ax_ldc2 dX10_alike_3 cnX10_169 rfl ?_
  refine ad_S3 ksX10_in lkX10_66 dX10_alike_6 rfl (Nat.le_of_ble_eq_true rfl) (Nat.le_of_ble_eq_true rfl) (s_X10_in _ _ _ _) ?_
  refine ax_if_ne (tgt := 15) dX10_alike_9 (by decide) rfl (fun c9 => ?_) (fun c9 => ?_)
  · refine ax_iconst (v := 0) dX10_alike_15 (by decide) rfl ?_
    refine ax_ist2 dX10_alike_16 rfl rfl (Nat.le_of_ble_eq_true rfl) rfl ?_
    refine lp_X10_alike_17 mem p0  hc  (((mem 136 0) : Int32).toNatClampNeg) (0) (mem) (Nat.zero_add _) rfl ?_
    refine ax_iconst (v := 0) dX10_alike_97 (by decide) rfl ?_
    refine ax_ist2 dX10_alike_98 rfl rfl (Nat.le_of_ble_eq_true rfl) rfl ?_
    refine lp_X10_alike_99 ((ax_it (f_X10_alike_17 mem p0) (((mem 136 0) : Int32).toNatClampNeg) (0) mem)) p0    ((64 : Int32).toNatClampNeg) (0)  (Nat.zero_add _)  (fun b h99 => ?_) (fun h99 => ?_)
    · exact ⟨by simp only [F_X10_alike, if_neg c9, h99], by simp only [F_X10_alike, if_neg c9, h99]⟩
    · refine ax_iconst (v := (-1)) dX10_alike_161 (by decide) rfl ?_
      exact ax_ireturn rfl dX10_alike_162 ⟨by simp only [F_X10_alike, if_neg c9, h99], by simp only [F_X10_alike, if_neg c9, h99]⟩
  · refine ax_ldc dX10_alike_12 cnX10_76 rfl ?_
    exact ax_ireturn rfl dX10_alike_14 ⟨by simp only [F_X10_alike, if_pos c9], by simp only [F_X10_alike, if_pos c9]⟩

def ms (m : ax_Me) : Prop := ¬ m 136 17 < 0 ∧ m 136 17 ≤ 8
theorem ms.le {m : ax_Me} (h : ms m) : (m 136 17).toNatClampNeg ≤ 8 := by
  obtain ⟨k, hk, e⟩ := nI_of2 (M := 8) (n := 8) rfl h.1 h.2
  rw [e, nI_clamp (by omega)]
  exact hk
theorem ms.lt {m : ax_Me} (h : ms m) (c : ¬ m 136 17 = 8) : vp_in (m 136 17) 8 := by
  obtain ⟨k, hk, e⟩ := nI_of2 (M := 8) (n := 8) rfl h.1 h.2
  rw [e] at c ⊢
  have : k ≠ 8 := fun q => c (by rw [q]; rfl)
  exact vp_in_nI (by omega) (by decide)
def mb (m : ax_Me) : Prop := ¬ m 136 22 < 0 ∧ m 136 22 ≤ 15
theorem mb.le {m : ax_Me} (h : mb m) : (m 136 22).toNatClampNeg ≤ 15 := by
  obtain ⟨k, hk, e⟩ := nI_of2 (M := 15) (n := 15) rfl h.1 h.2
  rw [e, nI_clamp (by omega)]
  exact hk
theorem mb.lt {m : ax_Me} (h : mb m) (c : ¬ m 136 22 = 15) : vp_in (m 136 22) 15 := by
  obtain ⟨k, hk, e⟩ := nI_of2 (M := 15) (n := 15) rfl h.1 h.2
  rw [e] at c ⊢
  have : k ≠ 15 := fun q => c (by rw [q]; rfl)
  exact vp_in_nI (by omega) (by decide)
def F_X10_see (mem : ax_Me) (p0 : Int32) (p1 : Int32) (p2 : Int32) (p3 : Int32) : Int32 × ax_Me :=
  (if (F_X10_isPerson mem p3) = 0 then ((-1000000001), mem) else (if (F_X10_rowRefused mem p0 p1 p2) = 0 then (if (F_X10_has mem p2 p3) = 0 then ((-1000000002), mem) else (if (F_X10_unknownTo mem p0 p1) = 0 then (if (mem 136 17) = 8 then ((-1000000004), mem) else (((ax_u (ax_u (ax_u (ax_u (ax_u mem 145 (mem 136 17).toNatClampNeg p0) 146 ((ax_u mem 145 (mem 136 17).toNatClampNeg p0) 136 17).toNatClampNeg p1) 147 ((ax_u (ax_u mem 145 (mem 136 17).toNatClampNeg p0) 146 ((ax_u mem 145 (mem 136 17).toNatClampNeg p0) 136 17).toNatClampNeg p1) 136 17).toNatClampNeg p2) 148 ((ax_u (ax_u (ax_u mem 145 (mem 136 17).toNatClampNeg p0) 146 ((ax_u mem 145 (mem 136 17).toNatClampNeg p0) 136 17).toNatClampNeg p1) 147 ((ax_u (ax_u mem 145 (mem 136 17).toNatClampNeg p0) 146 ((ax_u mem 145 (mem 136 17).toNatClampNeg p0) 136 17).toNatClampNeg p1) 136 17).toNatClampNeg p2) 136 17).toNatClampNeg p3) 136 17 (((ax_u (ax_u (ax_u (ax_u mem 145 (mem 136 17).toNatClampNeg p0) 146 ((ax_u mem 145 (mem 136 17).toNatClampNeg p0) 136 17).toNatClampNeg p1) 147 ((ax_u (ax_u mem 145 (mem 136 17).toNatClampNeg p0) 146 ((ax_u mem 145 (mem 136 17).toNatClampNeg p0) 136 17).toNatClampNeg p1) 136 17).toNatClampNeg p2) 148 ((ax_u (ax_u (ax_u mem 145 (mem 136 17).toNatClampNeg p0) 146 ((ax_u mem 145 (mem 136 17).toNatClampNeg p0) 136 17).toNatClampNeg p1) 147 ((ax_u (ax_u mem 145 (mem 136 17).toNatClampNeg p0) 146 ((ax_u mem 145 (mem 136 17).toNatClampNeg p0) 136 17).toNatClampNeg p1) 136 17).toNatClampNeg p2) 136 17).toNatClampNeg p3) 136 17) + 1)) 136 17), (ax_u (ax_u (ax_u (ax_u (ax_u mem 145 (mem 136 17).toNatClampNeg p0) 146 ((ax_u mem 145 (mem 136 17).toNatClampNeg p0) 136 17).toNatClampNeg p1) 147 ((ax_u (ax_u mem 145 (mem 136 17).toNatClampNeg p0) 146 ((ax_u mem 145 (mem 136 17).toNatClampNeg p0) 136 17).toNatClampNeg p1) 136 17).toNatClampNeg p2) 148 ((ax_u (ax_u (ax_u mem 145 (mem 136 17).toNatClampNeg p0) 146 ((ax_u mem 145 (mem 136 17).toNatClampNeg p0) 136 17).toNatClampNeg p1) 147 ((ax_u (ax_u mem 145 (mem 136 17).toNatClampNeg p0) 146 ((ax_u mem 145 (mem 136 17).toNatClampNeg p0) 136 17).toNatClampNeg p1) 136 17).toNatClampNeg p2) 136 17).toNatClampNeg p3) 136 17 (((ax_u (ax_u (ax_u (ax_u mem 145 (mem 136 17).toNatClampNeg p0) 146 ((ax_u mem 145 (mem 136 17).toNatClampNeg p0) 136 17).toNatClampNeg p1) 147 ((ax_u (ax_u mem 145 (mem 136 17).toNatClampNeg p0) 146 ((ax_u mem 145 (mem 136 17).toNatClampNeg p0) 136 17).toNatClampNeg p1) 136 17).toNatClampNeg p2) 148 ((ax_u (ax_u (ax_u mem 145 (mem 136 17).toNatClampNeg p0) 146 ((ax_u mem 145 (mem 136 17).toNatClampNeg p0) 136 17).toNatClampNeg p1) 147 ((ax_u (ax_u mem 145 (mem 136 17).toNatClampNeg p0) 146 ((ax_u mem 145 (mem 136 17).toNatClampNeg p0) 136 17).toNatClampNeg p1) 136 17).toNatClampNeg p2) 136 17).toNatClampNeg p3) 136 17) + 1)))) else ((F_X10_unknownTo mem p0 p1), mem))) else ((F_X10_rowRefused mem p0 p1 p2), mem)))
set_option maxRecDepth 20000 in
theorem s_X10_see {G : ax_G} {l : Launch} (mem : ax_Me) (p0 : Int32) (p1 : Int32) (p2 : Int32) (p3 : Int32) (hc : mp mem) (hs : ms mem) : AD G l 4 mX10_see [.ref 136, .int p0, .int p1, .int p2, .int p3] mem (some (.int (F_X10_see mem p0 p1 p2 p3).1)) (F_X10_see mem p0 p1 p2 p3).2 := by
  refine ax_start (ls := [.ref 136, .int p0, .int p1, .int p2, .int p3, .float 0]) (u := 1) (by decide +kernel) (Nat.le_of_ble_eq_true rfl) (Nat.le_refl _) (Nat.le_refl _) rfl ?_
  refine ax_aload_n (j := 0) dX10_see_0 rfl rfl rfl ?_
  refine ax_iload dX10_see_1 rfl rfl ?_
  refine ad_V1 ksX10_isPerson lkX10_70 dX10_see_3 rfl is136 rfl (Nat.le_of_ble_eq_true rfl) (Nat.le_of_ble_eq_true rfl) (s_X10_isPerson _ _) ?_
  refine ax_if_eq (tgt := 19) dX10_see_6 (by decide) rfl (fun c6 => ?_) (fun c6 => ?_)
  · refine ax_ldc dX10_see_19 cnX10_152 rfl ?_
    refine ax_ist5 dX10_see_21 rfl (Nat.le_of_ble_eq_true rfl) rfl ?_
    refine ax_iload dX10_see_23 rfl rfl ?_
    refine ax_if_ne (tgt := 42) dX10_see_25 (by decide) rfl (fun c25 => ?_) (fun c25 => ?_)
    · refine ax_iload dX10_see_42 rfl rfl ?_
      refine ax_ist5 dX10_see_44 rfl (Nat.le_of_ble_eq_true rfl) rfl ?_
      refine ax_iload dX10_see_46 rfl rfl ?_
      refine ax_if_eq (tgt := 56) dX10_see_48 (by decide) rfl (fun c48 => ?_) (fun c48 => ?_)
      · exact absurd c48 (by decide)
      · refine ax_iload dX10_see_51 rfl rfl ?_
        refine ax_goto (tgt := 62) dX10_see_53 (by decide) ?_
        refine ax_ist5 dX10_see_62 rfl (Nat.le_of_ble_eq_true rfl) rfl ?_
        refine ax_iload dX10_see_64 rfl rfl ?_
        refine ax_if_eq (tgt := 72) dX10_see_66 (by decide) rfl (fun c66 => ?_) (fun c66 => ?_)
        · exact absurd c66 (by decide)
        · refine ax_iload dX10_see_69 rfl rfl ?_
          exact ax_ireturn rfl dX10_see_71 ⟨by simp only [F_X10_see, if_pos c6], by simp only [F_X10_see, if_pos c6]⟩
    · exact absurd c25 (by decide)
  · refine ax_aload_n (j := 0) dX10_see_9 rfl rfl rfl ?_
    refine ax_iload_n (j := 1) dX10_see_10 rfl rfl rfl ?_
    refine ax_iload_n (j := 2) dX10_see_11 rfl rfl rfl ?_
    refine ax_iload_n (j := 3) dX10_see_12 rfl rfl rfl ?_
    refine ad_V3 ksX10_rowRefused lkX10_184 dX10_see_13 rfl is136 rfl (Nat.le_of_ble_eq_true rfl) (Nat.le_of_ble_eq_true rfl) (s_X10_rowRefused _ _ _ _) ?_
    refine ax_goto (tgt := 21) dX10_see_16 (by decide) ?_
    refine ax_ist5 dX10_see_21 rfl (Nat.le_of_ble_eq_true rfl) rfl ?_
    refine ax_iload dX10_see_23 rfl rfl ?_
    refine ax_if_ne (tgt := 42) dX10_see_25 (by decide) rfl (fun c25 => ?_) (fun c25 => ?_)
    · refine ax_iload dX10_see_42 rfl rfl ?_
      refine ax_ist5 dX10_see_44 rfl (Nat.le_of_ble_eq_true rfl) rfl ?_
      refine ax_iload dX10_see_46 rfl rfl ?_
      refine ax_if_eq (tgt := 56) dX10_see_48 (by decide) rfl (fun c48 => ?_) (fun c48 => ?_)
      · exact absurd c48 c25
      · refine ax_iload dX10_see_51 rfl rfl ?_
        refine ax_goto (tgt := 62) dX10_see_53 (by decide) ?_
        refine ax_ist5 dX10_see_62 rfl (Nat.le_of_ble_eq_true rfl) rfl ?_
        refine ax_iload dX10_see_64 rfl rfl ?_
        refine ax_if_eq (tgt := 72) dX10_see_66 (by decide) rfl (fun c66 => ?_) (fun c66 => ?_)
        · exact absurd c66 c25
        · refine ax_iload dX10_see_69 rfl rfl ?_
          exact ax_ireturn rfl dX10_see_71 ⟨by simp only [F_X10_see, if_neg c6, if_neg c25], by simp only [F_X10_see, if_neg c6, if_neg c25]⟩
    · refine ax_iload_n (j := 3) dX10_see_28 rfl rfl rfl ?_
      refine ax_iload dX10_see_29 rfl rfl ?_
      refine ad_S2 ksX10_has lkX10_160 dX10_see_31 rfl (Nat.le_of_ble_eq_true rfl) (Nat.le_of_ble_eq_true rfl) (s_X10_has _ _ _) ?_
      refine ax_if_ne (tgt := 42) dX10_see_34 (by decide) rfl (fun c34 => ?_) (fun c34 => ?_)
      · refine ax_iload dX10_see_42 rfl rfl ?_
        refine ax_ist5 dX10_see_44 rfl (Nat.le_of_ble_eq_true rfl) rfl ?_
        refine ax_iload dX10_see_46 rfl rfl ?_
        refine ax_if_eq (tgt := 56) dX10_see_48 (by decide) rfl (fun c48 => ?_) (fun c48 => ?_)
        · refine ax_aload_n (j := 0) dX10_see_56 rfl rfl rfl ?_
          refine ax_iload_n (j := 1) dX10_see_57 rfl rfl rfl ?_
          refine ax_iload_n (j := 2) dX10_see_58 rfl rfl rfl ?_
          refine ad_V2 ksX10_unknownTo lkX10_188 dX10_see_59 rfl is136 rfl (Nat.le_of_ble_eq_true rfl) (Nat.le_of_ble_eq_true rfl) (s_X10_unknownTo _ _ _ (in_mem (isp_in hc (two_of (rr_two c25)).1) (isp_in hc (two_of (rr_two c25)).2.1)).1) ?_
          refine ax_ist5 dX10_see_62 rfl (Nat.le_of_ble_eq_true rfl) rfl ?_
          refine ax_iload dX10_see_64 rfl rfl ?_
          refine ax_if_eq (tgt := 72) dX10_see_66 (by decide) rfl (fun c66 => ?_) (fun c66 => ?_)
          · refine ax_aload_n (j := 0) dX10_see_72 rfl rfl rfl ?_
            refine am_getI flX10_124 dX10_see_73 rfl is136 rfl ?_
            refine ax_bipush (v := 8) dX10_see_76 (by decide) rfl ?_
            refine ax_icmp_ne (tgt := 84) dX10_see_78 (by decide) rfl (fun c78 => ?_) (fun c78 => ?_)
            · refine ax_aload_n (j := 0) dX10_see_84 rfl rfl rfl ?_
              refine am_getR flX10_39 dX10_see_85 rfl is136 rfl ?_
              refine ax_aload_n (j := 0) dX10_see_88 rfl rfl rfl ?_
              refine am_getI flX10_124 dX10_see_89 rfl is136 rfl ?_
              refine ax_iload_n (j := 1) dX10_see_92 rfl rfl rfl ?_
              refine am_iast dX10_see_93 rfl is145 (by have q := hs.lt c78; simpa [ax_u] using q) ?_
              refine ax_aload_n (j := 0) dX10_see_94 rfl rfl rfl ?_
              refine am_getR flX10_42 dX10_see_95 rfl is136 rfl ?_
              refine ax_aload_n (j := 0) dX10_see_98 rfl rfl rfl ?_
              refine am_getI flX10_124 dX10_see_99 rfl is136 rfl ?_
              refine ax_iload_n (j := 2) dX10_see_102 rfl rfl rfl ?_
              refine am_iast dX10_see_103 rfl is146 (by have q := hs.lt c78; simpa [ax_u] using q) ?_
              refine ax_aload_n (j := 0) dX10_see_104 rfl rfl rfl ?_
              refine am_getR flX10_45 dX10_see_105 rfl is136 rfl ?_
              refine ax_aload_n (j := 0) dX10_see_108 rfl rfl rfl ?_
              refine am_getI flX10_124 dX10_see_109 rfl is136 rfl ?_
              refine ax_iload_n (j := 3) dX10_see_112 rfl rfl rfl ?_
              refine am_iast dX10_see_113 rfl is147 (by have q := hs.lt c78; simpa [ax_u] using q) ?_
              refine ax_aload_n (j := 0) dX10_see_114 rfl rfl rfl ?_
              refine am_getR flX10_48 dX10_see_115 rfl is136 rfl ?_
              refine ax_aload_n (j := 0) dX10_see_118 rfl rfl rfl ?_
              refine am_getI flX10_124 dX10_see_119 rfl is136 rfl ?_
              refine ax_iload dX10_see_122 rfl rfl ?_
              refine am_iast dX10_see_124 rfl is148 (by have q := hs.lt c78; simpa [ax_u] using q) ?_
              refine ax_aload_n (j := 0) dX10_see_125 rfl rfl rfl ?_
              refine ax_dup dX10_see_126 rfl rfl ?_
              refine am_getI flX10_124 dX10_see_127 rfl is136 rfl ?_
              refine ax_iconst (v := 1) dX10_see_130 (by decide) rfl ?_
              refine ax_iadd dX10_see_131 rfl ?_
              refine am_putI flX10_124 dX10_see_132 rfl is136 rfl rfl rfl ?_
              refine ax_aload_n (j := 0) dX10_see_135 rfl rfl rfl ?_
              refine am_getI flX10_124 dX10_see_136 rfl is136 rfl ?_
              exact ax_ireturn rfl dX10_see_139 ⟨by simp only [F_X10_see, if_neg c6, if_pos c25, if_neg c34, if_pos c66, if_neg c78], by simp only [F_X10_see, if_neg c6, if_pos c25, if_neg c34, if_pos c66, if_neg c78]⟩
            · refine ax_ldc dX10_see_81 cnX10_80 rfl ?_
              exact ax_ireturn rfl dX10_see_83 ⟨by simp only [F_X10_see, if_neg c6, if_pos c25, if_neg c34, if_pos c66, if_pos c78], by simp only [F_X10_see, if_neg c6, if_pos c25, if_neg c34, if_pos c66, if_pos c78]⟩
          · refine ax_iload dX10_see_69 rfl rfl ?_
            exact ax_ireturn rfl dX10_see_71 ⟨by simp only [F_X10_see, if_neg c6, if_pos c25, if_neg c34, if_neg c66], by simp only [F_X10_see, if_neg c6, if_pos c25, if_neg c34, if_neg c66]⟩
        · exact absurd c25 c48
      · refine ax_ldc dX10_see_37 cnX10_76 rfl ?_
        refine ax_goto (tgt := 44) dX10_see_39 (by decide) ?_
        refine ax_ist5 dX10_see_44 rfl (Nat.le_of_ble_eq_true rfl) rfl ?_
        refine ax_iload dX10_see_46 rfl rfl ?_
        refine ax_if_eq (tgt := 56) dX10_see_48 (by decide) rfl (fun c48 => ?_) (fun c48 => ?_)
        · exact absurd c48 (by decide)
        · refine ax_iload dX10_see_51 rfl rfl ?_
          refine ax_goto (tgt := 62) dX10_see_53 (by decide) ?_
          refine ax_ist5 dX10_see_62 rfl (Nat.le_of_ble_eq_true rfl) rfl ?_
          refine ax_iload dX10_see_64 rfl rfl ?_
          refine ax_if_eq (tgt := 72) dX10_see_66 (by decide) rfl (fun c66 => ?_) (fun c66 => ?_)
          · exact absurd c66 (by decide)
          · refine ax_iload dX10_see_69 rfl rfl ?_
            exact ax_ireturn rfl dX10_see_71 ⟨by simp only [F_X10_see, if_neg c6, if_pos c25, if_pos c34], by simp only [F_X10_see, if_neg c6, if_pos c25, if_pos c34]⟩

def f_X10_nodsOf_4 (mem : ax_Me) (p0 : Int32)  (j : Nat) (s : Int32) : Int32 :=
  match s with
  | x0 => (if (mem 145 (nI j).toNatClampNeg) = p0 then (if (F_X10_remembered mem p0 (mem 146 (nI j).toNatClampNeg)) < 0 then (x0 + 1) else (if (F_X10_pickBy mem (F_X10_remembered mem p0 (mem 146 (nI j).toNatClampNeg)) (mem 147 (nI j).toNatClampNeg)) = (mem 148 (nI j).toNatClampNeg) then (x0 + 0) else (x0 + 1))) else x0)
def F_X10_nodsOf (mem : ax_Me) (p0 : Int32) : Int32 :=
  (ax_it (f_X10_nodsOf_4 mem p0) (((mem 136 17) : Int32).toNatClampNeg) (0) 0)
set_option maxRecDepth 20000 in
theorem lp_X10_nodsOf_4 {G : ax_G} {l : Launch} {Q : Option Value → ax_H → Prop} (mem : ax_Me) (p0 : Int32)  (hc : mp mem) (hs : ms mem) (hA : ∀ k, k < (mem 136 17).toNatClampNeg → vp_in (mem 146 k) 8) (hw : vp_in p0 8) : ∀ (n j : Nat) (x0 : Int32), j + n = ((mem 136 17) : Int32).toNatClampNeg → AX G l mX10_nodsOf 3 75 [.ref 136, .int p0, .int (ax_it (f_X10_nodsOf_4 mem p0) n j x0), .int (nI (((mem 136 17) : Int32).toNatClampNeg)), .float 0] [] 153 0 (ax_hm mem) 153 0 Q → AX G l mX10_nodsOf 3 4 [.ref 136, .int p0, .int x0, .int (nI j), .float 0] [] 153 0 (ax_hm mem) 153 0 Q := by
  intro n
  induction n with
  | zero =>
    intro j x0 hj hx
    refine ax_iload_n (j := 3) dX10_nodsOf_4 rfl rfl rfl ?_
    refine ax_aload_n (j := 0) dX10_nodsOf_5 rfl rfl rfl ?_
    refine am_getI flX10_124 dX10_nodsOf_6 rfl is136 rfl ?_
    refine ax_icmp_ge (tgt := 75) dX10_nodsOf_9 (by decide) rfl (fun c9 => ?_) (fun c9 => ?_)
    · have q := hx
      simp only [ax_it] at q
      rw [show (((mem 136 17) : Int32).toNatClampNeg) = j by omega] at q
      exact q
    · exact absurd (cl_ge (by omega)) c9
  | succ n ih =>
    intro j x0 hj hx
    refine ax_iload_n (j := 3) dX10_nodsOf_4 rfl rfl rfl ?_
    refine ax_aload_n (j := 0) dX10_nodsOf_5 rfl rfl rfl ?_
    refine am_getI flX10_124 dX10_nodsOf_6 rfl is136 rfl ?_
    refine ax_icmp_ge (tgt := 75) dX10_nodsOf_9 (by decide) rfl (fun c9 => ?_) (fun c9 => ?_)
    · exact absurd c9 (cl_nle (by omega))
    · refine ax_aload_n (j := 0) dX10_nodsOf_12 rfl rfl rfl ?_
      refine am_getR flX10_39 dX10_nodsOf_13 rfl is136 rfl ?_
      refine ax_iload_n (j := 3) dX10_nodsOf_16 rfl rfl rfl ?_
      refine am_iald dX10_nodsOf_17 rfl is145 (vp_in_nI (by have := hs.le; omega) (by decide)) ?_
      refine ax_iload_n (j := 1) dX10_nodsOf_18 rfl rfl rfl ?_
      refine ax_icmp_ne (tgt := 69) dX10_nodsOf_19 (by decide) rfl (fun c19 => ?_) (fun c19 => ?_)
      · refine ax_iinc3 (v := nI (j + 1)) dX10_nodsOf_69 rfl (cl_inc j) (Nat.le_of_ble_eq_true rfl) rfl ?_
        refine ax_goto (tgt := 4) dX10_nodsOf_72 (by decide) ?_
        have e1 : f_X10_nodsOf_4 mem p0 j x0 = x0 := by simp only [f_X10_nodsOf_4, if_neg c19]
        simp only [ax_it, e1] at hx
        exact ih (j + 1) (x0) (by omega) hx
      · refine ax_aload_n (j := 0) dX10_nodsOf_22 rfl rfl rfl ?_
        refine ax_iload_n (j := 1) dX10_nodsOf_23 rfl rfl rfl ?_
        refine ax_aload_n (j := 0) dX10_nodsOf_24 rfl rfl rfl ?_
        refine am_getR flX10_42 dX10_nodsOf_25 rfl is136 rfl ?_
        refine ax_iload_n (j := 3) dX10_nodsOf_28 rfl rfl rfl ?_
        refine am_iald dX10_nodsOf_29 rfl is146 (vp_in_nI (by have := hs.le; omega) (by decide)) ?_
        refine ad_V2 ksX10_remembered lkX10_133 dX10_nodsOf_30 rfl is136 rfl (Nat.le_of_ble_eq_true rfl) (Nat.le_of_ble_eq_true rfl) (s_X10_remembered _ _ _ (in_mem hw (by rw [nI_clamp (by have := hs.le; omega)]; exact hA j (by omega))).1) ?_
        refine ax_ist4 dX10_nodsOf_33 rfl (Nat.le_of_ble_eq_true rfl) rfl ?_
        refine ax_iload_n (j := 2) dX10_nodsOf_35 rfl rfl rfl ?_
        refine ax_iload dX10_nodsOf_36 rfl rfl ?_
        refine ax_if_lt (tgt := 62) dX10_nodsOf_38 (by decide) rfl (fun c38 => ?_) (fun c38 => ?_)
        · refine ax_iconst (v := 1) dX10_nodsOf_62 (by decide) rfl ?_
          refine ax_goto (tgt := 67) dX10_nodsOf_63 (by decide) ?_
          refine ax_iadd dX10_nodsOf_67 rfl ?_
          refine ax_ist2 dX10_nodsOf_68 rfl rfl (Nat.le_of_ble_eq_true rfl) rfl ?_
          refine ax_iinc3 (v := nI (j + 1)) dX10_nodsOf_69 rfl (cl_inc j) (Nat.le_of_ble_eq_true rfl) rfl ?_
          refine ax_goto (tgt := 4) dX10_nodsOf_72 (by decide) ?_
          refine ax_fg4 ?_
          have e1 : f_X10_nodsOf_4 mem p0 j x0 = (x0 + 1) := by simp only [f_X10_nodsOf_4, if_pos c19, if_pos c38]
          simp only [ax_it, e1] at hx
          exact ih (j + 1) ((x0 + 1)) (by omega) hx
        · refine ax_aload_n (j := 0) dX10_nodsOf_41 rfl rfl rfl ?_
          refine ax_iload dX10_nodsOf_42 rfl rfl ?_
          refine ax_aload_n (j := 0) dX10_nodsOf_44 rfl rfl rfl ?_
          refine am_getR flX10_45 dX10_nodsOf_45 rfl is136 rfl ?_
          refine ax_iload_n (j := 3) dX10_nodsOf_48 rfl rfl rfl ?_
          refine am_iald dX10_nodsOf_49 rfl is147 (vp_in_nI (by have := hs.le; omega) (by decide)) ?_
          refine ad_V2 ksX10_pickBy lkX10_166 dX10_nodsOf_50 rfl is136 rfl (Nat.le_of_ble_eq_true rfl) (Nat.le_of_ble_eq_true rfl) (s_X10_pickBy _ _ _ hc) ?_
          refine ax_aload_n (j := 0) dX10_nodsOf_53 rfl rfl rfl ?_
          refine am_getR flX10_48 dX10_nodsOf_54 rfl is136 rfl ?_
          refine ax_iload_n (j := 3) dX10_nodsOf_57 rfl rfl rfl ?_
          refine am_iald dX10_nodsOf_58 rfl is148 (vp_in_nI (by have := hs.le; omega) (by decide)) ?_
          refine ax_icmp_eq (tgt := 66) dX10_nodsOf_59 (by decide) rfl (fun c59 => ?_) (fun c59 => ?_)
          · refine ax_iconst (v := 0) dX10_nodsOf_66 (by decide) rfl ?_
            refine ax_iadd dX10_nodsOf_67 rfl ?_
            refine ax_ist2 dX10_nodsOf_68 rfl rfl (Nat.le_of_ble_eq_true rfl) rfl ?_
            refine ax_iinc3 (v := nI (j + 1)) dX10_nodsOf_69 rfl (cl_inc j) (Nat.le_of_ble_eq_true rfl) rfl ?_
            refine ax_goto (tgt := 4) dX10_nodsOf_72 (by decide) ?_
            refine ax_fg4 ?_
            have e1 : f_X10_nodsOf_4 mem p0 j x0 = (x0 + 0) := by simp only [f_X10_nodsOf_4, if_pos c19, if_neg c38, if_pos c59]
            simp only [ax_it, e1] at hx
            exact ih (j + 1) ((x0 + 0)) (by omega) hx
          · refine ax_iconst (v := 1) dX10_nodsOf_62 (by decide) rfl ?_
            refine ax_goto (tgt := 67) dX10_nodsOf_63 (by decide) ?_
            refine ax_iadd dX10_nodsOf_67 rfl ?_
            refine ax_ist2 dX10_nodsOf_68 rfl rfl (Nat.le_of_ble_eq_true rfl) rfl ?_
            refine ax_iinc3 (v := nI (j + 1)) dX10_nodsOf_69 rfl (cl_inc j) (Nat.le_of_ble_eq_true rfl) rfl ?_
            refine ax_goto (tgt := 4) dX10_nodsOf_72 (by decide) ?_
            refine ax_fg4 ?_
            have e1 : f_X10_nodsOf_4 mem p0 j x0 = (x0 + 1) := by simp only [f_X10_nodsOf_4, if_pos c19, if_neg c38, if_neg c59]
            simp only [ax_it, e1] at hx
            exact ih (j + 1) ((x0 + 1)) (by omega) hx
set_option maxRecDepth 20000 in
theorem s_X10_nodsOf {G : ax_G} {l : Launch} (mem : ax_Me) (p0 : Int32) (hc : mp mem) (hs : ms mem) (hA : ∀ k, k < (mem 136 17).toNatClampNeg → vp_in (mem 146 k) 8) (hw : vp_in p0 8) : AD G l 3 mX10_nodsOf [.ref 136, .int p0] mem (some (.int (F_X10_nodsOf mem p0))) mem := by
  refine ax_start (ls := [.ref 136, .int p0, .float 0, .float 0, .float 0]) (u := 3) (by decide +kernel) (Nat.le_of_ble_eq_true rfl) (Nat.le_refl _) (Nat.le_refl _) rfl ?_
  refine ax_iconst (v := 0) dX10_nodsOf_0 (by decide) rfl ?_
  refine ax_ist2 dX10_nodsOf_1 rfl rfl (Nat.le_of_ble_eq_true rfl) rfl ?_
  refine ax_iconst (v := 0) dX10_nodsOf_2 (by decide) rfl ?_
  refine ax_ist3 dX10_nodsOf_3 rfl rfl (Nat.le_of_ble_eq_true rfl) rfl ?_
  refine lp_X10_nodsOf_4 mem p0  hc hs hA hw  (((mem 136 17) : Int32).toNatClampNeg) (0) (0) (Nat.zero_add _)  ?_
  refine ax_iload_n (j := 2) dX10_nodsOf_75 rfl rfl rfl ?_
  exact ax_ireturn rfl dX10_nodsOf_76 ⟨by simp only [F_X10_nodsOf], rfl⟩

def f_X10_honest_4 (mem : ax_Me)   (j : Nat) (s : Int32) : Int32 :=
  match s with
  | x0 => (if (F_X10_nodsOf mem (nI j)) = 0 then (x0 ||| (1 <<< ((nI j) &&& 31))) else (x0 ||| 0))
def F_X10_honest (mem : ax_Me)  : Int32 :=
  (ax_it (f_X10_honest_4 mem) (((mem 136 0) : Int32).toNatClampNeg) (0) 0)
set_option maxRecDepth 20000 in
theorem lp_X10_honest_4 {G : ax_G} {l : Launch} {Q : Option Value → ax_H → Prop} (mem : ax_Me)   (hc : mp mem) (hs : ms mem) (hA : ∀ k, k < (mem 136 17).toNatClampNeg → vp_in (mem 146 k) 8) : ∀ (n j : Nat) (x0 : Int32), j + n = ((mem 136 0) : Int32).toNatClampNeg → AX G l mX10_honest 4 36 [.ref 136, .int (ax_it (f_X10_honest_4 mem) n j x0), .int (nI (((mem 136 0) : Int32).toNatClampNeg))] [] 153 0 (ax_hm mem) 153 0 Q → AX G l mX10_honest 4 4 [.ref 136, .int x0, .int (nI j)] [] 153 0 (ax_hm mem) 153 0 Q := by
  intro n
  induction n with
  | zero =>
    intro j x0 hj hx
    refine ax_iload_n (j := 2) dX10_honest_4 rfl rfl rfl ?_
    refine ax_aload_n (j := 0) dX10_honest_5 rfl rfl rfl ?_
    refine am_getI flX10_63 dX10_honest_6 rfl is136 rfl ?_
    refine ax_icmp_ge (tgt := 36) dX10_honest_9 (by decide) rfl (fun c9 => ?_) (fun c9 => ?_)
    · have q := hx
      simp only [ax_it] at q
      rw [show (((mem 136 0) : Int32).toNatClampNeg) = j by omega] at q
      exact q
    · exact absurd (cl_ge (by omega)) c9
  | succ n ih =>
    intro j x0 hj hx
    refine ax_iload_n (j := 2) dX10_honest_4 rfl rfl rfl ?_
    refine ax_aload_n (j := 0) dX10_honest_5 rfl rfl rfl ?_
    refine am_getI flX10_63 dX10_honest_6 rfl is136 rfl ?_
    refine ax_icmp_ge (tgt := 36) dX10_honest_9 (by decide) rfl (fun c9 => ?_) (fun c9 => ?_)
    · exact absurd c9 (cl_nle (by omega))
    · refine ax_iload_n (j := 1) dX10_honest_12 rfl rfl rfl ?_
      refine ax_aload_n (j := 0) dX10_honest_13 rfl rfl rfl ?_
      refine ax_iload_n (j := 2) dX10_honest_14 rfl rfl rfl ?_
      refine ad_V1 ksX10_nodsOf lkX10_217 dX10_honest_15 rfl is136 rfl (Nat.le_of_ble_eq_true rfl) (Nat.le_of_ble_eq_true rfl) (s_X10_nodsOf _ _ hc hs hA (vp_in_nI (by have := hc.le; omega) (by decide))) ?_
      refine ax_if_ne (tgt := 27) dX10_honest_18 (by decide) rfl (fun c18 => ?_) (fun c18 => ?_)
      · refine ax_iconst (v := 0) dX10_honest_27 (by decide) rfl ?_
        refine ax_ior dX10_honest_28 rfl ?_
        refine ax_ist1 dX10_honest_29 rfl rfl (Nat.le_of_ble_eq_true rfl) rfl ?_
        refine ax_iinc2 (v := nI (j + 1)) dX10_honest_30 rfl (cl_inc j) (Nat.le_of_ble_eq_true rfl) rfl ?_
        refine ax_goto (tgt := 4) dX10_honest_33 (by decide) ?_
        have e1 : f_X10_honest_4 mem j x0 = (x0 ||| 0) := by simp only [f_X10_honest_4, if_neg c18]
        simp only [ax_it, e1] at hx
        exact ih (j + 1) ((x0 ||| 0)) (by omega) hx
      · refine ax_iconst (v := 1) dX10_honest_21 (by decide) rfl ?_
        refine ax_iload_n (j := 2) dX10_honest_22 rfl rfl rfl ?_
        refine ax_ishl dX10_honest_23 rfl ?_
        refine ax_goto (tgt := 28) dX10_honest_24 (by decide) ?_
        refine ax_ior dX10_honest_28 rfl ?_
        refine ax_ist1 dX10_honest_29 rfl rfl (Nat.le_of_ble_eq_true rfl) rfl ?_
        refine ax_iinc2 (v := nI (j + 1)) dX10_honest_30 rfl (cl_inc j) (Nat.le_of_ble_eq_true rfl) rfl ?_
        refine ax_goto (tgt := 4) dX10_honest_33 (by decide) ?_
        have e1 : f_X10_honest_4 mem j x0 = (x0 ||| (1 <<< ((nI j) &&& 31))) := by simp only [f_X10_honest_4, if_pos c18]
        simp only [ax_it, e1] at hx
        exact ih (j + 1) ((x0 ||| (1 <<< ((nI j) &&& 31)))) (by omega) hx
set_option maxRecDepth 20000 in
theorem s_X10_honest {G : ax_G} {l : Launch} (mem : ax_Me)  (hc : mp mem) (hs : ms mem) (hA : ∀ k, k < (mem 136 17).toNatClampNeg → vp_in (mem 146 k) 8) : AD G l 4 mX10_honest [.ref 136] mem (some (.int (F_X10_honest mem))) mem := by
  refine ax_start (ls := [.ref 136, .float 0, .float 0]) (u := 2) (by decide +kernel) (Nat.le_of_ble_eq_true rfl) (Nat.le_refl _) (Nat.le_refl _) rfl ?_
  refine ax_iconst (v := 0) dX10_honest_0 (by decide) rfl ?_
  refine ax_ist1 dX10_honest_1 rfl rfl (Nat.le_of_ble_eq_true rfl) rfl ?_
  refine ax_iconst (v := 0) dX10_honest_2 (by decide) rfl ?_
  refine ax_ist2 dX10_honest_3 rfl rfl (Nat.le_of_ble_eq_true rfl) rfl ?_
  refine lp_X10_honest_4 mem   hc hs hA  (((mem 136 0) : Int32).toNatClampNeg) (0) (0) (Nat.zero_add _)  ?_
  refine ax_iload_n (j := 1) dX10_honest_36 rfl rfl rfl ?_
  exact ax_ireturn rfl dX10_honest_37 ⟨by simp only [F_X10_honest], rfl⟩

def F_X10_nods (mem : ax_Me) (p0 : Int32) : Int32 :=
  (if (F_X10_isPerson mem p0) = 0 then (-1000000001) else (F_X10_nodsOf mem p0))
set_option maxRecDepth 20000 in
theorem s_X10_nods {G : ax_G} {l : Launch} (mem : ax_Me) (p0 : Int32) (hc : mp mem) (hs : ms mem) (hA : ∀ k, k < (mem 136 17).toNatClampNeg → vp_in (mem 146 k) 8) : AD G l 4 mX10_nods [.ref 136, .int p0] mem (some (.int (F_X10_nods mem p0))) mem := by
  refine ax_start (ls := [.ref 136, .int p0]) (u := 0) (by decide +kernel) (Nat.le_of_ble_eq_true rfl) (Nat.le_refl _) (Nat.le_refl _) rfl ?_
  refine ax_aload_n (j := 0) dX10_nods_0 rfl rfl rfl ?_
  refine ax_iload_n (j := 1) dX10_nods_1 rfl rfl rfl ?_
  refine ad_V1 ksX10_isPerson lkX10_70 dX10_nods_2 rfl is136 rfl (Nat.le_of_ble_eq_true rfl) (Nat.le_of_ble_eq_true rfl) (s_X10_isPerson _ _) ?_
  refine ax_if_eq (tgt := 16) dX10_nods_5 (by decide) rfl (fun c5 => ?_) (fun c5 => ?_)
  · refine ax_ldc dX10_nods_16 cnX10_152 rfl ?_
    exact ax_ireturn rfl dX10_nods_18 ⟨by simp only [F_X10_nods, if_pos c5], rfl⟩
  · refine ax_aload_n (j := 0) dX10_nods_8 rfl rfl rfl ?_
    refine ax_iload_n (j := 1) dX10_nods_9 rfl rfl rfl ?_
    refine ad_V1 ksX10_nodsOf lkX10_217 dX10_nods_10 rfl is136 rfl (Nat.le_of_ble_eq_true rfl) (Nat.le_of_ble_eq_true rfl) (s_X10_nodsOf _ _ hc hs hA (isp_in hc c5)) ?_
    refine ax_goto (tgt := 18) dX10_nods_13 (by decide) ?_
    exact ax_ireturn rfl dX10_nods_18 ⟨by simp only [F_X10_nods, if_neg c5], rfl⟩

def f_X10_showNext_32 (mem : ax_Me) (p0 : Int32) (p1 : Int32)  (j : Nat) (s : Int32 × Int32) : Int32 × Int32 :=
  match s with
  | (x0, x1) => (if (F_X10_bits mem (nI j)) = 3 then (if (F_X10_has mem (nI j) p0) = 0 then (if (F_X10_spread mem (F_X10_remembered mem p0 p1) (nI j)) ≤ x1 then (x0, x1) else ((nI j), (F_X10_spread mem (F_X10_remembered mem p0 p1) (nI j)))) else (x0, x1)) else (x0, x1))
def F_X10_showNext (mem : ax_Me) (p0 : Int32) (p1 : Int32) : Int32 :=
  (if (F_X10_areTwo mem p0 p1) = 0 then (-1000000001) else (if 0 ≤ (F_X10_remembered mem p0 p1) then (ax_it (f_X10_showNext_32 mem p0 p1) (((1 <<< ((mem 136 0) &&& 31)) : Int32).toNatClampNeg) (0) ((-1), (-1))).1 else (-1000000003)))
set_option maxRecDepth 20000 in
theorem lp_X10_showNext_32 {G : ax_G} {l : Launch} {Q : Option Value → ax_H → Prop} (mem : ax_Me) (p0 : Int32) (p1 : Int32)  (hc : mp mem) (ht : ¬ F_X10_areTwo mem p0 p1 = 0) : ∀ (n j : Nat) (x0 : Int32) (x1 : Int32), j + n = ((1 <<< ((mem 136 0) &&& 31)) : Int32).toNatClampNeg → AX G l mX10_showNext 3 111 [.ref 136, .int p0, .int p1, .int (ax_it (f_X10_showNext_32 mem p0 p1) n j (x0, x1)).1, .int (ax_it (f_X10_showNext_32 mem p0 p1) n j (x0, x1)).2, .int (nI (((1 <<< ((mem 136 0) &&& 31)) : Int32).toNatClampNeg)), .float 0] [] 153 0 (ax_hm mem) 153 0 Q → AX G l mX10_showNext 3 32 [.ref 136, .int p0, .int p1, .int x0, .int x1, .int (nI j), .float 0] [] 153 0 (ax_hm mem) 153 0 Q := by
  intro n
  induction n with
  | zero =>
    intro j x0 x1 hj hx
    refine ax_iload dX10_showNext_32 rfl rfl ?_
    refine ax_iconst (v := 1) dX10_showNext_34 (by decide) rfl ?_
    refine ax_aload_n (j := 0) dX10_showNext_35 rfl rfl rfl ?_
    refine am_getI flX10_63 dX10_showNext_36 rfl is136 rfl ?_
    refine ax_ishl dX10_showNext_39 rfl ?_
    refine ax_icmp_ge (tgt := 111) dX10_showNext_40 (by decide) rfl (fun c40 => ?_) (fun c40 => ?_)
    · have q := hx
      simp only [ax_it] at q
      rw [show (((1 <<< ((mem 136 0) &&& 31)) : Int32).toNatClampNeg) = j by omega] at q
      exact q
    · exact absurd (cl_ge (by omega)) c40
  | succ n ih =>
    intro j x0 x1 hj hx
    refine ax_iload dX10_showNext_32 rfl rfl ?_
    refine ax_iconst (v := 1) dX10_showNext_34 (by decide) rfl ?_
    refine ax_aload_n (j := 0) dX10_showNext_35 rfl rfl rfl ?_
    refine am_getI flX10_63 dX10_showNext_36 rfl is136 rfl ?_
    refine ax_ishl dX10_showNext_39 rfl ?_
    refine ax_icmp_ge (tgt := 111) dX10_showNext_40 (by decide) rfl (fun c40 => ?_) (fun c40 => ?_)
    · exact absurd c40 (cl_nle (by omega))
    · refine ax_iload dX10_showNext_43 rfl rfl ?_
      refine ad_S1 ksX10_bits lkX10_140 dX10_showNext_45 rfl (Nat.le_of_ble_eq_true rfl) (Nat.le_of_ble_eq_true rfl) (s_X10_bits _ _) ?_
      refine ax_iconst (v := 3) dX10_showNext_48 (by decide) rfl ?_
      refine ax_icmp_ne (tgt := 105) dX10_showNext_49 (by decide) rfl (fun c49 => ?_) (fun c49 => ?_)
      · refine ax_iinc5 (v := nI (j + 1)) dX10_showNext_105 rfl (cl_inc j) (Nat.le_of_ble_eq_true rfl) rfl ?_
        refine ax_goto (tgt := 32) dX10_showNext_108 (by decide) ?_
        have e1 : f_X10_showNext_32 mem p0 p1 j (x0, x1) = (x0, x1) := by simp only [f_X10_showNext_32, if_neg c49]
        simp only [ax_it, e1] at hx
        exact ih (j + 1) (x0) (x1) (by omega) hx
      · refine ax_iload dX10_showNext_52 rfl rfl ?_
        refine ax_iload_n (j := 1) dX10_showNext_54 rfl rfl rfl ?_
        refine ad_S2 ksX10_has lkX10_160 dX10_showNext_55 rfl (Nat.le_of_ble_eq_true rfl) (Nat.le_of_ble_eq_true rfl) (s_X10_has _ _ _) ?_
        refine ax_if_ne (tgt := 105) dX10_showNext_58 (by decide) rfl (fun c58 => ?_) (fun c58 => ?_)
        · refine ax_iinc5 (v := nI (j + 1)) dX10_showNext_105 rfl (cl_inc j) (Nat.le_of_ble_eq_true rfl) rfl ?_
          refine ax_goto (tgt := 32) dX10_showNext_108 (by decide) ?_
          have e1 : f_X10_showNext_32 mem p0 p1 j (x0, x1) = (x0, x1) := by simp only [f_X10_showNext_32, if_pos c49, if_neg c58]
          simp only [ax_it, e1] at hx
          exact ih (j + 1) (x0) (x1) (by omega) hx
        · refine ax_aload_n (j := 0) dX10_showNext_61 rfl rfl rfl ?_
          refine ax_aload_n (j := 0) dX10_showNext_62 rfl rfl rfl ?_
          refine ax_iload_n (j := 1) dX10_showNext_63 rfl rfl rfl ?_
          refine ax_iload_n (j := 2) dX10_showNext_64 rfl rfl rfl ?_
          refine ad_V2 ksX10_remembered lkX10_133 dX10_showNext_65 rfl is136 rfl (Nat.le_of_ble_eq_true rfl) (Nat.le_of_ble_eq_true rfl) (s_X10_remembered _ _ _ (in_mem (isp_in hc (two_of ht).1) (isp_in hc (two_of ht).2.1)).1) ?_
          refine ax_iload dX10_showNext_68 rfl rfl ?_
          refine ad_V2 ksX10_spread lkX10_220 dX10_showNext_70 rfl is136 rfl (Nat.le_of_ble_eq_true rfl) (Nat.le_of_ble_eq_true rfl) (s_X10_spread _ _ _ hc) ?_
          refine ax_ist6 dX10_showNext_73 rfl (Nat.le_of_ble_eq_true rfl) rfl ?_
          refine ax_iload dX10_showNext_75 rfl rfl ?_
          refine ax_iload dX10_showNext_77 rfl rfl ?_
          refine ax_icmp_le (tgt := 87) dX10_showNext_79 (by decide) rfl (fun c79 => ?_) (fun c79 => ?_)
          · refine ax_iload_n (j := 3) dX10_showNext_87 rfl rfl rfl ?_
            refine ax_ist3 dX10_showNext_88 rfl rfl (Nat.le_of_ble_eq_true rfl) rfl ?_
            refine ax_iload dX10_showNext_89 rfl rfl ?_
            refine ax_iload dX10_showNext_91 rfl rfl ?_
            refine ax_icmp_le (tgt := 101) dX10_showNext_93 (by decide) rfl (fun c93 => ?_) (fun c93 => ?_)
            · refine ax_iload dX10_showNext_101 rfl rfl ?_
              refine ax_ist4 dX10_showNext_103 rfl (Nat.le_of_ble_eq_true rfl) rfl ?_
              refine ax_iinc5 (v := nI (j + 1)) dX10_showNext_105 rfl (cl_inc j) (Nat.le_of_ble_eq_true rfl) rfl ?_
              refine ax_goto (tgt := 32) dX10_showNext_108 (by decide) ?_
              refine ax_fg6 ?_
              have e1 : f_X10_showNext_32 mem p0 p1 j (x0, x1) = (x0, x1) := by simp only [f_X10_showNext_32, if_pos c49, if_pos c58, if_pos c79]
              simp only [ax_it, e1] at hx
              exact ih (j + 1) (x0) (x1) (by omega) hx
            · exact absurd c79 c93
          · refine ax_iload dX10_showNext_82 rfl rfl ?_
            refine ax_goto (tgt := 88) dX10_showNext_84 (by decide) ?_
            refine ax_ist3 dX10_showNext_88 rfl rfl (Nat.le_of_ble_eq_true rfl) rfl ?_
            refine ax_iload dX10_showNext_89 rfl rfl ?_
            refine ax_iload dX10_showNext_91 rfl rfl ?_
            refine ax_icmp_le (tgt := 101) dX10_showNext_93 (by decide) rfl (fun c93 => ?_) (fun c93 => ?_)
            · exact absurd c93 c79
            · refine ax_iload dX10_showNext_96 rfl rfl ?_
              refine ax_goto (tgt := 103) dX10_showNext_98 (by decide) ?_
              refine ax_ist4 dX10_showNext_103 rfl (Nat.le_of_ble_eq_true rfl) rfl ?_
              refine ax_iinc5 (v := nI (j + 1)) dX10_showNext_105 rfl (cl_inc j) (Nat.le_of_ble_eq_true rfl) rfl ?_
              refine ax_goto (tgt := 32) dX10_showNext_108 (by decide) ?_
              refine ax_fg6 ?_
              have e1 : f_X10_showNext_32 mem p0 p1 j (x0, x1) = ((nI j), (F_X10_spread mem (F_X10_remembered mem p0 p1) (nI j))) := by simp only [f_X10_showNext_32, if_pos c49, if_pos c58, if_neg c79]
              simp only [ax_it, e1] at hx
              exact ih (j + 1) ((nI j)) ((F_X10_spread mem (F_X10_remembered mem p0 p1) (nI j))) (by omega) hx
set_option maxRecDepth 20000 in
theorem s_X10_showNext {G : ax_G} {l : Launch} (mem : ax_Me) (p0 : Int32) (p1 : Int32) (hc : mp mem) : AD G l 3 mX10_showNext [.ref 136, .int p0, .int p1] mem (some (.int (F_X10_showNext mem p0 p1))) mem := by
  refine ax_start (ls := [.ref 136, .int p0, .int p1, .float 0, .float 0, .float 0, .float 0]) (u := 4) (by decide +kernel) (Nat.le_of_ble_eq_true rfl) (Nat.le_refl _) (Nat.le_refl _) rfl ?_
  refine ax_aload_n (j := 0) dX10_showNext_0 rfl rfl rfl ?_
  refine ax_iload_n (j := 1) dX10_showNext_1 rfl rfl rfl ?_
  refine ax_iload_n (j := 2) dX10_showNext_2 rfl rfl rfl ?_
  refine ad_V2 ksX10_areTwo lkX10_156 dX10_showNext_3 rfl is136 rfl (Nat.le_of_ble_eq_true rfl) (Nat.le_of_ble_eq_true rfl) (s_X10_areTwo _ _ _) ?_
  refine ax_if_ne (tgt := 12) dX10_showNext_6 (by decide) rfl (fun c6 => ?_) (fun c6 => ?_)
  · refine ax_aload_n (j := 0) dX10_showNext_12 rfl rfl rfl ?_
    refine ax_iload_n (j := 1) dX10_showNext_13 rfl rfl rfl ?_
    refine ax_iload_n (j := 2) dX10_showNext_14 rfl rfl rfl ?_
    refine ad_V2 ksX10_remembered lkX10_133 dX10_showNext_15 rfl is136 rfl (Nat.le_of_ble_eq_true rfl) (Nat.le_of_ble_eq_true rfl) (s_X10_remembered _ _ _ (in_mem (isp_in hc (two_of c6).1) (isp_in hc (two_of c6).2.1)).1) ?_
    refine ax_if_ge (tgt := 24) dX10_showNext_18 (by decide) rfl (fun c18 => ?_) (fun c18 => ?_)
    · refine ax_iconst (v := (-1)) dX10_showNext_24 (by decide) rfl ?_
      refine ax_ist3 dX10_showNext_25 rfl rfl (Nat.le_of_ble_eq_true rfl) rfl ?_
      refine ax_iconst (v := (-1)) dX10_showNext_26 (by decide) rfl ?_
      refine ax_ist4 dX10_showNext_27 rfl (Nat.le_of_ble_eq_true rfl) rfl ?_
      refine ax_iconst (v := 0) dX10_showNext_29 (by decide) rfl ?_
      refine ax_ist5 dX10_showNext_30 rfl (Nat.le_of_ble_eq_true rfl) rfl ?_
      refine lp_X10_showNext_32 mem p0 p1  hc c6 (((1 <<< ((mem 136 0) &&& 31)) : Int32).toNatClampNeg) (0) ((-1)) ((-1)) (Nat.zero_add _)  ?_
      refine ax_iload_n (j := 3) dX10_showNext_111 rfl rfl rfl ?_
      exact ax_ireturn rfl dX10_showNext_112 ⟨by simp only [F_X10_showNext, if_neg c6, if_pos c18], rfl⟩
    · refine ax_ldc dX10_showNext_21 cnX10_171 rfl ?_
      exact ax_ireturn rfl dX10_showNext_23 ⟨by simp only [F_X10_showNext, if_neg c6, if_neg c18], rfl⟩
  · refine ax_ldc dX10_showNext_9 cnX10_152 rfl ?_
    exact ax_ireturn rfl dX10_showNext_11 ⟨by simp only [F_X10_showNext, if_pos c6], rfl⟩

def F_X10_write (mem : ax_Me) (p0 : Int32) (p1 : Int32) : Int32 × ax_Me :=
  (if (F_X10_isPerson mem p0) = 0 then ((-1000000001), mem) else (if (F_X10_isPerson mem p1) = 0 then ((-1000000001), mem) else (if (mem 136 22) = 15 then ((-1000000004), mem) else (((ax_u (ax_u (ax_u mem 149 (mem 136 22).toNatClampNeg p0) 150 ((ax_u mem 149 (mem 136 22).toNatClampNeg p0) 136 22).toNatClampNeg p1) 136 22 (((ax_u (ax_u mem 149 (mem 136 22).toNatClampNeg p0) 150 ((ax_u mem 149 (mem 136 22).toNatClampNeg p0) 136 22).toNatClampNeg p1) 136 22) + 1)) 136 22), (ax_u (ax_u (ax_u mem 149 (mem 136 22).toNatClampNeg p0) 150 ((ax_u mem 149 (mem 136 22).toNatClampNeg p0) 136 22).toNatClampNeg p1) 136 22 (((ax_u (ax_u mem 149 (mem 136 22).toNatClampNeg p0) 150 ((ax_u mem 149 (mem 136 22).toNatClampNeg p0) 136 22).toNatClampNeg p1) 136 22) + 1))))))
set_option maxRecDepth 20000 in
theorem s_X10_write {G : ax_G} {l : Launch} (mem : ax_Me) (p0 : Int32) (p1 : Int32) (hb : mb mem) : AD G l 2 mX10_write [.ref 136, .int p0, .int p1] mem (some (.int (F_X10_write mem p0 p1).1)) (F_X10_write mem p0 p1).2 := by
  refine ax_start (ls := [.ref 136, .int p0, .int p1]) (u := 0) (by decide +kernel) (Nat.le_of_ble_eq_true rfl) (Nat.le_refl _) (Nat.le_refl _) rfl ?_
  refine ax_aload_n (j := 0) dX10_write_0 rfl rfl rfl ?_
  refine ax_iload_n (j := 1) dX10_write_1 rfl rfl rfl ?_
  refine ad_V1 ksX10_isPerson lkX10_70 dX10_write_2 rfl is136 rfl (Nat.le_of_ble_eq_true rfl) (Nat.le_of_ble_eq_true rfl) (s_X10_isPerson _ _) ?_
  refine ax_if_eq (tgt := 16) dX10_write_5 (by decide) rfl (fun c5 => ?_) (fun c5 => ?_)
  · refine ax_ldc dX10_write_16 cnX10_152 rfl ?_
    exact ax_ireturn rfl dX10_write_18 ⟨by simp only [F_X10_write, if_pos c5], by simp only [F_X10_write, if_pos c5]⟩
  · refine ax_aload_n (j := 0) dX10_write_8 rfl rfl rfl ?_
    refine ax_iload_n (j := 2) dX10_write_9 rfl rfl rfl ?_
    refine ad_V1 ksX10_isPerson lkX10_70 dX10_write_10 rfl is136 rfl (Nat.le_of_ble_eq_true rfl) (Nat.le_of_ble_eq_true rfl) (s_X10_isPerson _ _) ?_
    refine ax_if_ne (tgt := 19) dX10_write_13 (by decide) rfl (fun c13 => ?_) (fun c13 => ?_)
    · refine ax_aload_n (j := 0) dX10_write_19 rfl rfl rfl ?_
      refine am_getI flX10_127 dX10_write_20 rfl is136 rfl ?_
      refine ax_bipush (v := 15) dX10_write_23 (by decide) rfl ?_
      refine ax_icmp_ne (tgt := 31) dX10_write_25 (by decide) rfl (fun c25 => ?_) (fun c25 => ?_)
      · refine ax_aload_n (j := 0) dX10_write_31 rfl rfl rfl ?_
        refine am_getR flX10_51 dX10_write_32 rfl is136 rfl ?_
        refine ax_aload_n (j := 0) dX10_write_35 rfl rfl rfl ?_
        refine am_getI flX10_127 dX10_write_36 rfl is136 rfl ?_
        refine ax_iload_n (j := 1) dX10_write_39 rfl rfl rfl ?_
        refine am_iast dX10_write_40 rfl is149 (by have q := hb.lt c25; simpa [ax_u] using q) ?_
        refine ax_aload_n (j := 0) dX10_write_41 rfl rfl rfl ?_
        refine am_getR flX10_54 dX10_write_42 rfl is136 rfl ?_
        refine ax_aload_n (j := 0) dX10_write_45 rfl rfl rfl ?_
        refine am_getI flX10_127 dX10_write_46 rfl is136 rfl ?_
        refine ax_iload_n (j := 2) dX10_write_49 rfl rfl rfl ?_
        refine am_iast dX10_write_50 rfl is150 (by have q := hb.lt c25; simpa [ax_u] using q) ?_
        refine ax_aload_n (j := 0) dX10_write_51 rfl rfl rfl ?_
        refine ax_dup dX10_write_52 rfl rfl ?_
        refine am_getI flX10_127 dX10_write_53 rfl is136 rfl ?_
        refine ax_iconst (v := 1) dX10_write_56 (by decide) rfl ?_
        refine ax_iadd dX10_write_57 rfl ?_
        refine am_putI flX10_127 dX10_write_58 rfl is136 rfl rfl rfl ?_
        refine ax_aload_n (j := 0) dX10_write_61 rfl rfl rfl ?_
        refine am_getI flX10_127 dX10_write_62 rfl is136 rfl ?_
        exact ax_ireturn rfl dX10_write_65 ⟨by simp only [F_X10_write, if_neg c5, if_neg c13, if_neg c25], by simp only [F_X10_write, if_neg c5, if_neg c13, if_neg c25]⟩
      · refine ax_ldc dX10_write_28 cnX10_80 rfl ?_
        exact ax_ireturn rfl dX10_write_30 ⟨by simp only [F_X10_write, if_neg c5, if_neg c13, if_pos c25], by simp only [F_X10_write, if_neg c5, if_neg c13, if_pos c25]⟩
    · refine ax_ldc dX10_write_16 cnX10_152 rfl ?_
      exact ax_ireturn rfl dX10_write_18 ⟨by simp only [F_X10_write, if_neg c5, if_pos c13], by simp only [F_X10_write, if_neg c5, if_pos c13]⟩

def F_X10_tear (mem : ax_Me)  : Int32 × ax_Me :=
  (((mem 136 17) + (mem 136 22)), (ax_u (ax_u mem 136 17 0) 136 22 0))
set_option maxRecDepth 20000 in
theorem s_X10_tear {G : ax_G} {l : Launch} (mem : ax_Me)   : AD G l 0 mX10_tear [.ref 136] mem (some (.int (F_X10_tear mem).1)) (F_X10_tear mem).2 := by
  refine ax_start (ls := [.ref 136, .float 0]) (u := 1) (by decide +kernel) (Nat.le_of_ble_eq_true rfl) (Nat.le_refl _) (Nat.le_refl _) rfl ?_
  refine ax_aload_n (j := 0) dX10_tear_0 rfl rfl rfl ?_
  refine am_getI flX10_124 dX10_tear_1 rfl is136 rfl ?_
  refine ax_aload_n (j := 0) dX10_tear_4 rfl rfl rfl ?_
  refine am_getI flX10_127 dX10_tear_5 rfl is136 rfl ?_
  refine ax_iadd dX10_tear_8 rfl ?_
  refine ax_ist1 dX10_tear_9 rfl rfl (Nat.le_of_ble_eq_true rfl) rfl ?_
  refine ax_aload_n (j := 0) dX10_tear_10 rfl rfl rfl ?_
  refine ax_iconst (v := 0) dX10_tear_11 (by decide) rfl ?_
  refine am_putI flX10_124 dX10_tear_12 rfl is136 rfl rfl rfl ?_
  refine ax_aload_n (j := 0) dX10_tear_15 rfl rfl rfl ?_
  refine ax_iconst (v := 0) dX10_tear_16 (by decide) rfl ?_
  refine am_putI flX10_127 dX10_tear_17 rfl is136 rfl rfl rfl ?_
  refine ax_iload_n (j := 1) dX10_tear_20 rfl rfl rfl ?_
  exact ax_ireturn rfl dX10_tear_21 ⟨by simp only [F_X10_tear], by simp only [F_X10_tear]⟩

def F_X10_seed (mem : ax_Me) (p0 : Int32) : Int32 × ax_Me :=
  (if 0 ≤ p0 then ((mem 136 3), (ax_u mem 136 3 p0)) else ((-1000000002), mem))
set_option maxRecDepth 20000 in
theorem s_X10_seed {G : ax_G} {l : Launch} (mem : ax_Me) (p0 : Int32)  : AD G l 0 mX10_seed [.ref 136, .int p0] mem (some (.int (F_X10_seed mem p0).1)) (F_X10_seed mem p0).2 := by
  refine ax_start (ls := [.ref 136, .int p0, .float 0]) (u := 1) (by decide +kernel) (Nat.le_of_ble_eq_true rfl) (Nat.le_refl _) (Nat.le_refl _) rfl ?_
  refine ax_iload_n (j := 1) dX10_seed_0 rfl rfl rfl ?_
  refine ax_if_ge (tgt := 7) dX10_seed_1 (by decide) rfl (fun c1 => ?_) (fun c1 => ?_)
  · refine ax_aload_n (j := 0) dX10_seed_7 rfl rfl rfl ?_
    refine am_getI flX10_193 dX10_seed_8 rfl is136 rfl ?_
    refine ax_ist2 dX10_seed_11 rfl rfl (Nat.le_of_ble_eq_true rfl) rfl ?_
    refine ax_aload_n (j := 0) dX10_seed_12 rfl rfl rfl ?_
    refine ax_iload_n (j := 1) dX10_seed_13 rfl rfl rfl ?_
    refine am_putI flX10_193 dX10_seed_14 rfl is136 rfl rfl rfl ?_
    refine ax_iload_n (j := 2) dX10_seed_17 rfl rfl rfl ?_
    exact ax_ireturn rfl dX10_seed_18 ⟨by simp only [F_X10_seed, if_pos c1], by simp only [F_X10_seed, if_pos c1]⟩
  · refine ax_ldc dX10_seed_4 cnX10_76 rfl ?_
    exact ax_ireturn rfl dX10_seed_6 ⟨by simp only [F_X10_seed, if_neg c1], by simp only [F_X10_seed, if_neg c1]⟩

def F_X10_fault (mem : ax_Me)  : Int32 :=
  (mem 136 6)
set_option maxRecDepth 20000 in
theorem s_X10_fault {G : ax_G} {l : Launch} (mem : ax_Me)   : AD G l 0 mX10_fault [.ref 136] mem (some (.int (F_X10_fault mem))) mem := by
  refine ax_start (ls := [.ref 136]) (u := 0) (by decide +kernel) (Nat.le_of_ble_eq_true rfl) (Nat.le_refl _) (Nat.le_refl _) rfl ?_
  refine ax_aload_n (j := 0) dX10_fault_0 rfl rfl rfl ?_
  refine am_getI flX10_19 dX10_fault_1 rfl is136 rfl ?_
  exact ax_ireturn rfl dX10_fault_4 ⟨by simp only [F_X10_fault], rfl⟩

def f_X10_judge_2 (mem : ax_Me)   (j : Nat) (s : Unit) : Int32 ⊕ (Unit) :=
  match s with
  | () => (if (mem 138 (8 + (mem 149 (nI j).toNatClampNeg)).toNatClampNeg) = (mem 150 (nI j).toNatClampNeg) then (Sum.inr ()) else (Sum.inl (nI j)))
def F_X10_judge (mem : ax_Me)  : Int32 :=
  (match (ax_lp (f_X10_judge_2 mem) (((mem 136 22) : Int32).toNatClampNeg) (0) ()) with | .inl b => b | .inr () => (-1))
set_option maxRecDepth 20000 in
theorem lp_X10_judge_2 {G : ax_G} {l : Launch} {Q : Option Value → ax_H → Prop} (mem : ax_Me)   (hb : mb mem) (hB : ∀ k, k < (mem 136 22).toNatClampNeg → vp_in (mem 149 k) 8) : ∀ (n j : Nat), j + n = ((mem 136 22) : Int32).toNatClampNeg → (∀ b : Int32, ax_lp (f_X10_judge_2 mem) n j () = .inl b → Q (some (.int b)) (ax_hm mem)) → (ax_lp (f_X10_judge_2 mem) n j () = .inr () → AX G l mX10_judge 0 41 [.ref 136, .int (nI (((mem 136 22) : Int32).toNatClampNeg))] [] 153 0 (ax_hm mem) 153 0 Q) → AX G l mX10_judge 0 2 [.ref 136, .int (nI j)] [] 153 0 (ax_hm mem) 153 0 Q := by
  intro n
  induction n with
  | zero =>
    intro j  hj hr hx
    refine ax_iload_n (j := 1) dX10_judge_2 rfl rfl rfl ?_
    refine ax_aload_n (j := 0) dX10_judge_3 rfl rfl rfl ?_
    refine am_getI flX10_127 dX10_judge_4 rfl is136 rfl ?_
    refine ax_icmp_ge (tgt := 41) dX10_judge_7 (by decide) rfl (fun c7 => ?_) (fun c7 => ?_)
    · have q := hx  rfl
      rw [show (((mem 136 22) : Int32).toNatClampNeg) = j by omega] at q
      exact q
    · exact absurd (cl_ge (by omega)) c7
  | succ n ih =>
    intro j  hj hr hx
    refine ax_iload_n (j := 1) dX10_judge_2 rfl rfl rfl ?_
    refine ax_aload_n (j := 0) dX10_judge_3 rfl rfl rfl ?_
    refine am_getI flX10_127 dX10_judge_4 rfl is136 rfl ?_
    refine ax_icmp_ge (tgt := 41) dX10_judge_7 (by decide) rfl (fun c7 => ?_) (fun c7 => ?_)
    · exact absurd c7 (cl_nle (by omega))
    · refine ax_aload_n (j := 0) dX10_judge_10 rfl rfl rfl ?_
      refine am_getR flX10_13 dX10_judge_11 rfl is136 rfl ?_
      refine ax_bipush (v := 8) dX10_judge_14 (by decide) rfl ?_
      refine ax_aload_n (j := 0) dX10_judge_16 rfl rfl rfl ?_
      refine am_getR flX10_51 dX10_judge_17 rfl is136 rfl ?_
      refine ax_iload_n (j := 1) dX10_judge_20 rfl rfl rfl ?_
      refine am_iald dX10_judge_21 rfl is149 (vp_in_nI (by have := hb.le; omega) (by decide)) ?_
      refine ax_iadd dX10_judge_22 rfl ?_
      refine am_iald dX10_judge_23 rfl is138 (in_8 (by rw [nI_clamp (by have := hb.le; omega)]; exact hB j (by omega))).1 ?_
      refine ax_aload_n (j := 0) dX10_judge_24 rfl rfl rfl ?_
      refine am_getR flX10_54 dX10_judge_25 rfl is136 rfl ?_
      refine ax_iload_n (j := 1) dX10_judge_28 rfl rfl rfl ?_
      refine am_iald dX10_judge_29 rfl is150 (vp_in_nI (by have := hb.le; omega) (by decide)) ?_
      refine ax_icmp_eq (tgt := 35) dX10_judge_30 (by decide) rfl (fun c30 => ?_) (fun c30 => ?_)
      · refine ax_iinc1 (v := nI (j + 1)) dX10_judge_35 rfl (cl_inc j) (Nat.le_of_ble_eq_true rfl) rfl ?_
        refine ax_goto (tgt := 2) dX10_judge_38 (by decide) ?_
        have e1 : f_X10_judge_2 mem j () = .inr () := by simp only [f_X10_judge_2, if_pos c30]
        exact ih (j + 1)  (by omega) (fun b q => hr b (by simp only [ax_lp, e1]; exact q)) (fun q => hx (by simp only [ax_lp, e1]; exact q))
      · refine ax_iload_n (j := 1) dX10_judge_33 rfl rfl rfl ?_
        exact ax_ireturn rfl dX10_judge_34 (hr ((nI j)) (by simp only [ax_lp, f_X10_judge_2, if_neg c30]))
set_option maxRecDepth 20000 in
theorem s_X10_judge {G : ax_G} {l : Launch} (mem : ax_Me)  (hb : mb mem) (hB : ∀ k, k < (mem 136 22).toNatClampNeg → vp_in (mem 149 k) 8) : AD G l 0 mX10_judge [.ref 136] mem (some (.int (F_X10_judge mem))) mem := by
  refine ax_start (ls := [.ref 136, .float 0]) (u := 1) (by decide +kernel) (Nat.le_of_ble_eq_true rfl) (Nat.le_refl _) (Nat.le_refl _) rfl ?_
  refine ax_iconst (v := 0) dX10_judge_0 (by decide) rfl ?_
  refine ax_ist1 dX10_judge_1 rfl rfl (Nat.le_of_ble_eq_true rfl) rfl ?_
  refine lp_X10_judge_2 mem   hb hB  (((mem 136 22) : Int32).toNatClampNeg) (0)  (Nat.zero_add _)  (fun b h2 => ?_) (fun h2 => ?_)
  · exact ⟨by simp only [F_X10_judge, h2], rfl⟩
  · refine ax_iconst (v := (-1)) dX10_judge_41 (by decide) rfl ?_
    exact ax_ireturn rfl dX10_judge_42 ⟨by simp only [F_X10_judge, h2], rfl⟩

theorem in2 {m : ax_Me} {p : Int32} (h : ¬ F_X10_in m p.toInt64 0 1 = 0) : vp_in p 2 := by
  have h1 := in_iff.mp h
  rw [i64] at h1
  have e0 : (0 : Int64).toInt = 0 := rfl
  have e1 : (1 : Int64).toInt = 1 := rfl
  rw [vp_in_iff]
  omega
theorem in_img {i : Int32} {j : Nat} (hi : vp_in i 2) (hj : j < 82) : vp_in ((82 * i) + nI j) 164 ∧ ((82 * i) + nI j).toNatClampNeg = 82 * i.toNatClampNeg + j := by
  obtain ⟨k, hk, rfl⟩ := vp_in_of hi (by decide)
  rw [show (82 : Int32) = nI 82 from rfl, pk_mul, nI_add, nI_clamp (by omega), nI_clamp (by omega)]
  exact ⟨vp_in_nI (by omega) (by decide), rfl⟩
def f_X10_keep_15 (mem : ax_Me) (p0 : Int32)  (j : Nat) (s : ax_Me) : ax_Me :=
  match s with
  | m => (ax_u m 151 ((82 * p0) + (nI j)).toNatClampNeg (m 138 (nI j).toNatClampNeg))
def F_X10_keep (mem : ax_Me) (p0 : Int32) : Int32 × ax_Me :=
  (if (F_X10_in mem p0.toInt64 0 1) = 0 then ((-1000000001), mem) else (1, (ax_u (ax_u (ax_u (ax_it (f_X10_keep_15 mem p0) ((81 : Int32).toNatClampNeg) (0) mem) 151 ((82 * p0) + 81).toNatClampNeg ((ax_it (f_X10_keep_15 mem p0) ((81 : Int32).toNatClampNeg) (0) mem) 136 3)) 152 p0.toNatClampNeg 1) 136 14 0)))
set_option maxRecDepth 20000 in
theorem lp_X10_keep_15 {G : ax_G} {l : Launch} {Q : Option Value → ax_H → Prop} (mem : ax_Me) (p0 : Int32)  (h2 : vp_in p0 2) : ∀ (n j : Nat) (m : ax_Me), j + n = (81 : Int32).toNatClampNeg → AX G l mX10_keep 1 44 [.ref 136, .int p0, .int (nI ((81 : Int32).toNatClampNeg))] [] 153 0 (ax_hm (ax_it (f_X10_keep_15 mem p0) n j m)) 153 0 Q → AX G l mX10_keep 1 15 [.ref 136, .int p0, .int (nI j)] [] 153 0 (ax_hm m) 153 0 Q := by
  intro n
  induction n with
  | zero =>
    intro j m hj hx
    refine ax_iload_n (j := 2) dX10_keep_15 rfl rfl rfl ?_
    refine ax_bipush (v := 81) dX10_keep_16 (by decide) rfl ?_
    refine ax_icmp_ge (tgt := 44) dX10_keep_18 (by decide) rfl (fun c18 => ?_) (fun c18 => ?_)
    · have q := hx
      simp only [ax_it] at q
      rw [show ((81 : Int32).toNatClampNeg) = j by omega] at q
      exact q
    · exact absurd (cl_ge (by omega)) c18
  | succ n ih =>
    intro j m hj hx
    refine ax_iload_n (j := 2) dX10_keep_15 rfl rfl rfl ?_
    refine ax_bipush (v := 81) dX10_keep_16 (by decide) rfl ?_
    refine ax_icmp_ge (tgt := 44) dX10_keep_18 (by decide) rfl (fun c18 => ?_) (fun c18 => ?_)
    · exact absurd c18 (cl_nle (by omega))
    · refine ax_aload_n (j := 0) dX10_keep_21 rfl rfl rfl ?_
      refine am_getR flX10_57 dX10_keep_22 rfl is136 rfl ?_
      refine ax_bipush (v := 82) dX10_keep_25 (by decide) rfl ?_
      refine ax_iload_n (j := 1) dX10_keep_27 rfl rfl rfl ?_
      refine ax_imul dX10_keep_28 rfl ?_
      refine ax_iload_n (j := 2) dX10_keep_29 rfl rfl rfl ?_
      refine ax_iadd dX10_keep_30 rfl ?_
      refine ax_aload_n (j := 0) dX10_keep_31 rfl rfl rfl ?_
      refine am_getR flX10_13 dX10_keep_32 rfl is136 rfl ?_
      refine ax_iload_n (j := 2) dX10_keep_35 rfl rfl rfl ?_
      refine am_iald dX10_keep_36 rfl is138 (vp_in_nI (by have := c81; omega) (by decide)) ?_
      refine am_iast dX10_keep_37 rfl is151 (in_img h2 (by have := c81; omega)).1 ?_
      refine ax_iinc2 (v := nI (j + 1)) dX10_keep_38 rfl (cl_inc j) (Nat.le_of_ble_eq_true rfl) rfl ?_
      refine ax_goto (tgt := 15) dX10_keep_41 (by decide) ?_
      have e1 : f_X10_keep_15 mem p0 j m = (ax_u m 151 ((82 * p0) + (nI j)).toNatClampNeg (m 138 (nI j).toNatClampNeg)) := by simp only [f_X10_keep_15]
      simp only [ax_it, e1] at hx
      exact ih (j + 1) ((ax_u m 151 ((82 * p0) + (nI j)).toNatClampNeg (m 138 (nI j).toNatClampNeg))) (by omega) hx
set_option maxRecDepth 20000 in
theorem s_X10_keep {G : ax_G} {l : Launch} (mem : ax_Me) (p0 : Int32)  : AD G l 1 mX10_keep [.ref 136, .int p0] mem (some (.int (F_X10_keep mem p0).1)) (F_X10_keep mem p0).2 := by
  refine ax_start (ls := [.ref 136, .int p0, .float 0]) (u := 1) (by decide +kernel) (Nat.le_of_ble_eq_true rfl) (Nat.le_refl _) (Nat.le_refl _) rfl ?_
  refine ax_iload_n (j := 1) dX10_keep_0 rfl rfl rfl ?_
  refine ax_i2l dX10_keep_1 rfl ?_
  refine ax_lconst (v := 0) dX10_keep_2 (by decide) rfl ?_
  refine ax_lconst (v := 1) dX10_keep_3 (by decide) rfl ?_
  refine ad_S3 ksX10_in lkX10_66 dX10_keep_4 rfl (Nat.le_of_ble_eq_true rfl) (Nat.le_of_ble_eq_true rfl) (s_X10_in _ _ _ _) ?_
  refine ax_if_ne (tgt := 13) dX10_keep_7 (by decide) rfl (fun c7 => ?_) (fun c7 => ?_)
  · refine ax_iconst (v := 0) dX10_keep_13 (by decide) rfl ?_
    refine ax_ist2 dX10_keep_14 rfl rfl (Nat.le_of_ble_eq_true rfl) rfl ?_
    refine lp_X10_keep_15 mem p0   (in2 c7) ((81 : Int32).toNatClampNeg) (0) (mem) (Nat.zero_add _)  ?_
    refine ax_aload_n (j := 0) dX10_keep_44 rfl rfl rfl ?_
    refine am_getR flX10_57 dX10_keep_45 rfl is136 rfl ?_
    refine ax_bipush (v := 82) dX10_keep_48 (by decide) rfl ?_
    refine ax_iload_n (j := 1) dX10_keep_50 rfl rfl rfl ?_
    refine ax_imul dX10_keep_51 rfl ?_
    refine ax_bipush (v := 81) dX10_keep_52 (by decide) rfl ?_
    refine ax_iadd dX10_keep_54 rfl ?_
    refine ax_aload_n (j := 0) dX10_keep_55 rfl rfl rfl ?_
    refine am_getI flX10_193 dX10_keep_56 rfl is136 rfl ?_
    refine am_iast dX10_keep_59 rfl is151 (in_img (j := 81) (in2 c7) (by decide)).1 ?_
    refine ax_aload_n (j := 0) dX10_keep_60 rfl rfl rfl ?_
    refine am_getR flX10_60 dX10_keep_61 rfl is136 rfl ?_
    refine ax_iload_n (j := 1) dX10_keep_64 rfl rfl rfl ?_
    refine ax_iconst (v := 1) dX10_keep_65 (by decide) rfl ?_
    refine am_zast dX10_keep_66 rfl is152 (in2 c7) rfl ?_
    refine ax_aload_n (j := 0) dX10_keep_67 rfl rfl rfl ?_
    refine ax_iconst (v := 0) dX10_keep_68 (by decide) rfl ?_
    refine am_putI flX10_130 dX10_keep_69 rfl is136 rfl rfl rfl ?_
    refine ax_iconst (v := 1) dX10_keep_72 (by decide) rfl ?_
    exact ax_ireturn rfl dX10_keep_73 ⟨by simp only [F_X10_keep, if_neg c7], by simp only [F_X10_keep, if_neg c7]⟩
  · refine ax_ldc dX10_keep_10 cnX10_152 rfl ?_
    exact ax_ireturn rfl dX10_keep_12 ⟨by simp only [F_X10_keep, if_pos c7], by simp only [F_X10_keep, if_pos c7]⟩

def f_X10_goBack_27 (mem : ax_Me) (p0 : Int32)  (j : Nat) (s : ax_Me) : ax_Me :=
  match s with
  | m => (ax_u m 138 (nI j).toNatClampNeg (m 151 ((82 * p0) + (nI j)).toNatClampNeg))
def F_X10_goBack (mem : ax_Me) (p0 : Int32) : Int32 × ax_Me :=
  (if (F_X10_in mem p0.toInt64 0 1) = 0 then ((-1000000001), mem) else (if (mem 152 p0.toNatClampNeg) = 0 then ((-1000000003), mem) else (1, (ax_u (ax_u (ax_it (f_X10_goBack_27 mem p0) ((81 : Int32).toNatClampNeg) (0) mem) 136 3 ((ax_it (f_X10_goBack_27 mem p0) ((81 : Int32).toNatClampNeg) (0) mem) 151 ((82 * p0) + 81).toNatClampNeg)) 136 14 0))))
set_option maxRecDepth 20000 in
theorem lp_X10_goBack_27 {G : ax_G} {l : Launch} {Q : Option Value → ax_H → Prop} (mem : ax_Me) (p0 : Int32)  (h2 : vp_in p0 2) : ∀ (n j : Nat) (m : ax_Me), j + n = (81 : Int32).toNatClampNeg → AX G l mX10_goBack 1 56 [.ref 136, .int p0, .int (nI ((81 : Int32).toNatClampNeg))] [] 153 0 (ax_hm (ax_it (f_X10_goBack_27 mem p0) n j m)) 153 0 Q → AX G l mX10_goBack 1 27 [.ref 136, .int p0, .int (nI j)] [] 153 0 (ax_hm m) 153 0 Q := by
  intro n
  induction n with
  | zero =>
    intro j m hj hx
    refine ax_iload_n (j := 2) dX10_goBack_27 rfl rfl rfl ?_
    refine ax_bipush (v := 81) dX10_goBack_28 (by decide) rfl ?_
    refine ax_icmp_ge (tgt := 56) dX10_goBack_30 (by decide) rfl (fun c30 => ?_) (fun c30 => ?_)
    · have q := hx
      simp only [ax_it] at q
      rw [show ((81 : Int32).toNatClampNeg) = j by omega] at q
      exact q
    · exact absurd (cl_ge (by omega)) c30
  | succ n ih =>
    intro j m hj hx
    refine ax_iload_n (j := 2) dX10_goBack_27 rfl rfl rfl ?_
    refine ax_bipush (v := 81) dX10_goBack_28 (by decide) rfl ?_
    refine ax_icmp_ge (tgt := 56) dX10_goBack_30 (by decide) rfl (fun c30 => ?_) (fun c30 => ?_)
    · exact absurd c30 (cl_nle (by omega))
    · refine ax_aload_n (j := 0) dX10_goBack_33 rfl rfl rfl ?_
      refine am_getR flX10_13 dX10_goBack_34 rfl is136 rfl ?_
      refine ax_iload_n (j := 2) dX10_goBack_37 rfl rfl rfl ?_
      refine ax_aload_n (j := 0) dX10_goBack_38 rfl rfl rfl ?_
      refine am_getR flX10_57 dX10_goBack_39 rfl is136 rfl ?_
      refine ax_bipush (v := 82) dX10_goBack_42 (by decide) rfl ?_
      refine ax_iload_n (j := 1) dX10_goBack_44 rfl rfl rfl ?_
      refine ax_imul dX10_goBack_45 rfl ?_
      refine ax_iload_n (j := 2) dX10_goBack_46 rfl rfl rfl ?_
      refine ax_iadd dX10_goBack_47 rfl ?_
      refine am_iald dX10_goBack_48 rfl is151 (in_img h2 (by have := c81; omega)).1 ?_
      refine am_iast dX10_goBack_49 rfl is138 (vp_in_nI (by have := c81; omega) (by decide)) ?_
      refine ax_iinc2 (v := nI (j + 1)) dX10_goBack_50 rfl (cl_inc j) (Nat.le_of_ble_eq_true rfl) rfl ?_
      refine ax_goto (tgt := 27) dX10_goBack_53 (by decide) ?_
      have e1 : f_X10_goBack_27 mem p0 j m = (ax_u m 138 (nI j).toNatClampNeg (m 151 ((82 * p0) + (nI j)).toNatClampNeg)) := by simp only [f_X10_goBack_27]
      simp only [ax_it, e1] at hx
      exact ih (j + 1) ((ax_u m 138 (nI j).toNatClampNeg (m 151 ((82 * p0) + (nI j)).toNatClampNeg))) (by omega) hx
set_option maxRecDepth 20000 in
theorem s_X10_goBack {G : ax_G} {l : Launch} (mem : ax_Me) (p0 : Int32)  : AD G l 1 mX10_goBack [.ref 136, .int p0] mem (some (.int (F_X10_goBack mem p0).1)) (F_X10_goBack mem p0).2 := by
  refine ax_start (ls := [.ref 136, .int p0, .float 0]) (u := 1) (by decide +kernel) (Nat.le_of_ble_eq_true rfl) (Nat.le_refl _) (Nat.le_refl _) rfl ?_
  refine ax_iload_n (j := 1) dX10_goBack_0 rfl rfl rfl ?_
  refine ax_i2l dX10_goBack_1 rfl ?_
  refine ax_lconst (v := 0) dX10_goBack_2 (by decide) rfl ?_
  refine ax_lconst (v := 1) dX10_goBack_3 (by decide) rfl ?_
  refine ad_S3 ksX10_in lkX10_66 dX10_goBack_4 rfl (Nat.le_of_ble_eq_true rfl) (Nat.le_of_ble_eq_true rfl) (s_X10_in _ _ _ _) ?_
  refine ax_if_ne (tgt := 13) dX10_goBack_7 (by decide) rfl (fun c7 => ?_) (fun c7 => ?_)
  · refine ax_aload_n (j := 0) dX10_goBack_13 rfl rfl rfl ?_
    refine am_getR flX10_60 dX10_goBack_14 rfl is136 rfl ?_
    refine ax_iload_n (j := 1) dX10_goBack_17 rfl rfl rfl ?_
    refine am_zald dX10_goBack_18 rfl is152 (in2 c7) ?_
    refine ax_if_ne (tgt := 25) dX10_goBack_19 (by decide) rfl (fun c19 => ?_) (fun c19 => ?_)
    · refine ax_iconst (v := 0) dX10_goBack_25 (by decide) rfl ?_
      refine ax_ist2 dX10_goBack_26 rfl rfl (Nat.le_of_ble_eq_true rfl) rfl ?_
      refine lp_X10_goBack_27 mem p0   (in2 c7) ((81 : Int32).toNatClampNeg) (0) (mem) (Nat.zero_add _)  ?_
      refine ax_aload_n (j := 0) dX10_goBack_56 rfl rfl rfl ?_
      refine ax_aload_n (j := 0) dX10_goBack_57 rfl rfl rfl ?_
      refine am_getR flX10_57 dX10_goBack_58 rfl is136 rfl ?_
      refine ax_bipush (v := 82) dX10_goBack_61 (by decide) rfl ?_
      refine ax_iload_n (j := 1) dX10_goBack_63 rfl rfl rfl ?_
      refine ax_imul dX10_goBack_64 rfl ?_
      refine ax_bipush (v := 81) dX10_goBack_65 (by decide) rfl ?_
      refine ax_iadd dX10_goBack_67 rfl ?_
      refine am_iald dX10_goBack_68 rfl is151 (in_img (j := 81) (in2 c7) (by decide)).1 ?_
      refine am_putI flX10_193 dX10_goBack_69 rfl is136 rfl rfl rfl ?_
      refine ax_aload_n (j := 0) dX10_goBack_72 rfl rfl rfl ?_
      refine ax_iconst (v := 0) dX10_goBack_73 (by decide) rfl ?_
      refine am_putI flX10_130 dX10_goBack_74 rfl is136 rfl rfl rfl ?_
      refine ax_iconst (v := 1) dX10_goBack_77 (by decide) rfl ?_
      exact ax_ireturn rfl dX10_goBack_78 ⟨by simp only [F_X10_goBack, if_neg c7, if_neg c19], by simp only [F_X10_goBack, if_neg c7, if_neg c19]⟩
    · refine ax_ldc dX10_goBack_22 cnX10_171 rfl ?_
      exact ax_ireturn rfl dX10_goBack_24 ⟨by simp only [F_X10_goBack, if_neg c7, if_pos c19], by simp only [F_X10_goBack, if_neg c7, if_pos c19]⟩
  · refine ax_ldc dX10_goBack_10 cnX10_152 rfl ?_
    exact ax_ireturn rfl dX10_goBack_12 ⟨by simp only [F_X10_goBack, if_pos c7], by simp only [F_X10_goBack, if_pos c7]⟩

