/-! ===== the class: its public methods, but for the text ===== -/
def F_X9_refusalOfYears (mem : ax_Me) (p0 : Int32) : Int32 :=
  (if (mem 3 4) ≤ 0 then (if 9000 < (mem 3 5) then (F_X9_refusal mem 1 (F_X9_isWithin mem p0 1 60) 0 0) else (F_X9_refusal mem 1 (F_X9_isWithin mem p0 1 60) 0 1)) else (if 9000 < (mem 3 5) then (F_X9_refusal mem 1 (F_X9_isWithin mem p0 1 60) 1 0) else (F_X9_refusal mem 1 (F_X9_isWithin mem p0 1 60) 1 1)))
set_option maxRecDepth 20000 in
theorem s_X9_refusalOfYears {G : ax_G} {l : Launch} (mem : ax_Me) (p0 : Int32)  : AD G l 1 mX9_refusalOfYears [.ref 0, .int p0] mem (some (.int (F_X9_refusalOfYears mem p0))) mem := by
  refine ax_start (ls := [.ref 0, .int p0]) (u := 0) (by decide +kernel) (Nat.le_of_ble_eq_true rfl) (Nat.le_refl _) (Nat.le_refl _) rfl ?_
  refine ax_iconst (v := 1) dX9_refusalOfYears_0 (by decide) rfl ?_
  refine ax_iload_n (j := 1) dX9_refusalOfYears_1 rfl rfl rfl ?_
  refine ax_iconst (v := 1) dX9_refusalOfYears_2 (by decide) rfl ?_
  refine ax_bipush (v := 60) dX9_refusalOfYears_3 (by decide) rfl ?_
  refine ad_S3 ksX9_isWithin lkX9_64 dX9_refusalOfYears_5 rfl (Nat.le_of_ble_eq_true rfl) (Nat.le_of_ble_eq_true rfl) (s_X9_isWithin _ _ _ _) ?_
  refine ax_aload_n (j := 0) dX9_refusalOfYears_8 rfl rfl rfl ?_
  refine am_getR flX9_19 dX9_refusalOfYears_9 rfl is0 rfl ?_
  refine am_getI flX9_97 dX9_refusalOfYears_12 rfl isP3.o rfl ?_
  refine ax_if_le (tgt := 22) dX9_refusalOfYears_15 (by decide) rfl (fun c15 => ?_) (fun c15 => ?_)
  · refine ax_iconst (v := 0) dX9_refusalOfYears_22 (by decide) rfl ?_
    refine ax_aload_n (j := 0) dX9_refusalOfYears_23 rfl rfl rfl ?_
    refine am_getR flX9_19 dX9_refusalOfYears_24 rfl is0 rfl ?_
    refine am_getI flX9_107 dX9_refusalOfYears_27 rfl isP3.o rfl ?_
    refine ax_sipush (v := 9000) dX9_refusalOfYears_30 (by decide) rfl ?_
    refine ax_icmp_gt (tgt := 40) dX9_refusalOfYears_33 (by decide) rfl (fun c33 => ?_) (fun c33 => ?_)
    · refine ax_iconst (v := 0) dX9_refusalOfYears_40 (by decide) rfl ?_
      refine ad_S4 ksX9_refusal lkX9_72 dX9_refusalOfYears_41 rfl (Nat.le_of_ble_eq_true rfl) (Nat.le_of_ble_eq_true rfl) (s_X9_refusal _ _ _ _ _) ?_
      exact ax_ireturn rfl dX9_refusalOfYears_44 ⟨by simp only [F_X9_refusalOfYears, if_pos c15, if_pos c33], rfl⟩
    · refine ax_iconst (v := 1) dX9_refusalOfYears_36 (by decide) rfl ?_
      refine ax_goto (tgt := 41) dX9_refusalOfYears_37 (by decide) ?_
      refine ad_S4 ksX9_refusal lkX9_72 dX9_refusalOfYears_41 rfl (Nat.le_of_ble_eq_true rfl) (Nat.le_of_ble_eq_true rfl) (s_X9_refusal _ _ _ _ _) ?_
      exact ax_ireturn rfl dX9_refusalOfYears_44 ⟨by simp only [F_X9_refusalOfYears, if_pos c15, if_neg c33], rfl⟩
  · refine ax_iconst (v := 1) dX9_refusalOfYears_18 (by decide) rfl ?_
    refine ax_goto (tgt := 23) dX9_refusalOfYears_19 (by decide) ?_
    refine ax_aload_n (j := 0) dX9_refusalOfYears_23 rfl rfl rfl ?_
    refine am_getR flX9_19 dX9_refusalOfYears_24 rfl is0 rfl ?_
    refine am_getI flX9_107 dX9_refusalOfYears_27 rfl isP3.o rfl ?_
    refine ax_sipush (v := 9000) dX9_refusalOfYears_30 (by decide) rfl ?_
    refine ax_icmp_gt (tgt := 40) dX9_refusalOfYears_33 (by decide) rfl (fun c33 => ?_) (fun c33 => ?_)
    · refine ax_iconst (v := 0) dX9_refusalOfYears_40 (by decide) rfl ?_
      refine ad_S4 ksX9_refusal lkX9_72 dX9_refusalOfYears_41 rfl (Nat.le_of_ble_eq_true rfl) (Nat.le_of_ble_eq_true rfl) (s_X9_refusal _ _ _ _ _) ?_
      exact ax_ireturn rfl dX9_refusalOfYears_44 ⟨by simp only [F_X9_refusalOfYears, if_neg c15, if_pos c33], rfl⟩
    · refine ax_iconst (v := 1) dX9_refusalOfYears_36 (by decide) rfl ?_
      refine ax_goto (tgt := 41) dX9_refusalOfYears_37 (by decide) ?_
      refine ad_S4 ksX9_refusal lkX9_72 dX9_refusalOfYears_41 rfl (Nat.le_of_ble_eq_true rfl) (Nat.le_of_ble_eq_true rfl) (s_X9_refusal _ _ _ _ _) ?_
      exact ax_ireturn rfl dX9_refusalOfYears_44 ⟨by simp only [F_X9_refusalOfYears, if_neg c15, if_neg c33], rfl⟩

def F_X9_isAsked (mem : ax_Me) (p0 : Int32) (p1 : Int32) (p2 : Int32) : Int32 :=
  (if (F_X5_isPair mem 3 p0 p1) = 0 then 0 else (if (F_X5_holdsAll mem 3 p2) = 0 then 0 else (if (F_X9_hasBit mem p2 p0) = 0 then 1 else 0)))
set_option maxRecDepth 20000 in
theorem s_X9_isAsked {G : ax_G} {l : Launch} (mem : ax_Me) (p0 : Int32) (p1 : Int32) (p2 : Int32)  : AD G l 2 mX9_isAsked [.ref 0, .int p0, .int p1, .int p2] mem (some (.int (F_X9_isAsked mem p0 p1 p2))) mem := by
  refine ax_start (ls := [.ref 0, .int p0, .int p1, .int p2]) (u := 0) (by decide +kernel) (Nat.le_of_ble_eq_true rfl) (Nat.le_refl _) (Nat.le_refl _) rfl ?_
  refine ax_aload_n (j := 0) dX9_isAsked_0 rfl rfl rfl ?_
  refine am_getR flX9_19 dX9_isAsked_1 rfl is0 rfl ?_
  refine ax_iload_n (j := 1) dX9_isAsked_4 rfl rfl rfl ?_
  refine ax_iload_n (j := 2) dX9_isAsked_5 rfl rfl rfl ?_
  refine ad_V2 ksX5_isPair lkX9_144 dX9_isAsked_6 rfl isP3.o rfl (Nat.le_of_ble_eq_true rfl) (Nat.le_of_ble_eq_true rfl) (s_X5_isPair _ isP3 _ _) ?_
  refine ax_if_eq (tgt := 35) dX9_isAsked_9 (by decide) rfl (fun c9 => ?_) (fun c9 => ?_)
  · refine ax_iconst (v := 0) dX9_isAsked_35 (by decide) rfl ?_
    exact ax_zreturn rfl dX9_isAsked_36 rfl ⟨by simp only [F_X9_isAsked, if_pos c9], rfl⟩
  · refine ax_aload_n (j := 0) dX9_isAsked_12 rfl rfl rfl ?_
    refine am_getR flX9_19 dX9_isAsked_13 rfl is0 rfl ?_
    refine ax_iload_n (j := 3) dX9_isAsked_16 rfl rfl rfl ?_
    refine ad_V1 ksX5_holdsAll lkX9_219 dX9_isAsked_17 rfl isP3.o rfl (Nat.le_of_ble_eq_true rfl) (Nat.le_of_ble_eq_true rfl) (s_X5_holdsAll _ isP3 _) ?_
    refine ax_if_eq (tgt := 35) dX9_isAsked_20 (by decide) rfl (fun c20 => ?_) (fun c20 => ?_)
    · refine ax_iconst (v := 0) dX9_isAsked_35 (by decide) rfl ?_
      exact ax_zreturn rfl dX9_isAsked_36 rfl ⟨by simp only [F_X9_isAsked, if_neg c9, if_pos c20], rfl⟩
    · refine ax_iload_n (j := 3) dX9_isAsked_23 rfl rfl rfl ?_
      refine ax_iload_n (j := 1) dX9_isAsked_24 rfl rfl rfl ?_
      refine ad_S2 ksX9_hasBit lkX9_201 dX9_isAsked_25 rfl (Nat.le_of_ble_eq_true rfl) (Nat.le_of_ble_eq_true rfl) (s_X9_hasBit _ _ _) ?_
      refine ax_if_ne (tgt := 35) dX9_isAsked_28 (by decide) rfl (fun c28 => ?_) (fun c28 => ?_)
      · refine ax_iconst (v := 0) dX9_isAsked_35 (by decide) rfl ?_
        exact ax_zreturn rfl dX9_isAsked_36 rfl ⟨by simp only [F_X9_isAsked, if_neg c9, if_neg c20, if_neg c28], rfl⟩
      · refine ax_iconst (v := 1) dX9_isAsked_31 (by decide) rfl ?_
        refine ax_goto (tgt := 36) dX9_isAsked_32 (by decide) ?_
        exact ax_zreturn rfl dX9_isAsked_36 rfl ⟨by simp only [F_X9_isAsked, if_neg c9, if_neg c20, if_pos c28], rfl⟩

def F_X9_meetByDraws (mem : ax_Me)  : ax_Me :=
  (if (F_X1_drawOf mem (mem 3 4)).1 = (F_X1_drawOf (F_X1_drawOf mem (mem 3 4)).2 ((F_X1_drawOf mem (mem 3 4)).2 3 4)).1 then (F_X1_drawOf (F_X1_drawOf mem (mem 3 4)).2 ((F_X1_drawOf mem (mem 3 4)).2 3 4)).2 else (F_X5_learn (F_X1_drawOf (F_X1_drawOf mem (mem 3 4)).2 ((F_X1_drawOf mem (mem 3 4)).2 3 4)).2 3 (F_X1_drawOf mem (mem 3 4)).1 (F_X1_drawOf (F_X1_drawOf mem (mem 3 4)).2 ((F_X1_drawOf mem (mem 3 4)).2 3 4)).1))
set_option maxRecDepth 20000 in
theorem s_X9_meetByDraws {G : ax_G} {l : Launch} (mem : ax_Me)   : AD G l 3 mX9_meetByDraws [.ref 0] mem none (F_X9_meetByDraws mem) := by
  refine ax_start (ls := [.ref 0, .float 0, .float 0]) (u := 2) (by decide +kernel) (Nat.le_of_ble_eq_true rfl) (Nat.le_refl _) (Nat.le_refl _) rfl ?_
  refine ax_aload_n (j := 0) dX9_meetByDraws_0 rfl rfl rfl ?_
  refine am_getR flX9_50 dX9_meetByDraws_1 rfl is0 rfl ?_
  refine ax_aload_n (j := 0) dX9_meetByDraws_4 rfl rfl rfl ?_
  refine am_getR flX9_19 dX9_meetByDraws_5 rfl is0 rfl ?_
  refine am_getI flX9_97 dX9_meetByDraws_8 rfl isP3.o rfl ?_
  refine ad_V1 ksX1_drawOf lkX9_296 dX9_meetByDraws_11 rfl is123 rfl (Nat.le_of_ble_eq_true rfl) (Nat.le_of_ble_eq_true rfl) (s_X1_drawOf _ _) ?_
  refine ax_ist1 dX9_meetByDraws_14 rfl rfl (Nat.le_of_ble_eq_true rfl) rfl ?_
  refine ax_aload_n (j := 0) dX9_meetByDraws_15 rfl rfl rfl ?_
  refine am_getR flX9_50 dX9_meetByDraws_16 rfl is0 rfl ?_
  refine ax_aload_n (j := 0) dX9_meetByDraws_19 rfl rfl rfl ?_
  refine am_getR flX9_19 dX9_meetByDraws_20 rfl is0 rfl ?_
  refine am_getI flX9_97 dX9_meetByDraws_23 rfl isP3.o rfl ?_
  refine ad_V1 ksX1_drawOf lkX9_296 dX9_meetByDraws_26 rfl is123 rfl (Nat.le_of_ble_eq_true rfl) (Nat.le_of_ble_eq_true rfl) (s_X1_drawOf _ _) ?_
  refine ax_ist2 dX9_meetByDraws_29 rfl rfl (Nat.le_of_ble_eq_true rfl) rfl ?_
  refine ax_iload_n (j := 1) dX9_meetByDraws_30 rfl rfl rfl ?_
  refine ax_iload_n (j := 2) dX9_meetByDraws_31 rfl rfl rfl ?_
  refine ax_icmp_eq (tgt := 44) dX9_meetByDraws_32 (by decide) rfl (fun c32 => ?_) (fun c32 => ?_)
  · exact ax_vreturn rfl dX9_meetByDraws_44 ⟨rfl, by simp only [F_X9_meetByDraws, if_pos c32]⟩
  · refine ax_aload_n (j := 0) dX9_meetByDraws_35 rfl rfl rfl ?_
    refine am_getR flX9_19 dX9_meetByDraws_36 rfl is0 rfl ?_
    refine ax_iload_n (j := 1) dX9_meetByDraws_39 rfl rfl rfl ?_
    refine ax_iload_n (j := 2) dX9_meetByDraws_40 rfl rfl rfl ?_
    refine ad_V2v ksX5_learn lkX9_162 dX9_meetByDraws_41 rfl isP3.o rfl (Nat.le_of_ble_eq_true rfl) (Nat.le_of_ble_eq_true rfl) (s_X5_learn _ isP3 _ _) ?_
    exact ax_vreturn rfl dX9_meetByDraws_44 ⟨rfl, by simp only [F_X9_meetByDraws, if_neg c32]⟩

def F_X9_fault (mem : ax_Me)  : Int32 :=
  (mem 1 2)
set_option maxRecDepth 20000 in
theorem s_X9_fault {G : ax_G} {l : Launch} (mem : ax_Me)   : AD G l 0 mX9_fault [.ref 0] mem (some (.int (F_X9_fault mem))) mem := by
  refine ax_start (ls := [.ref 0]) (u := 0) (by decide +kernel) (Nat.le_of_ble_eq_true rfl) (Nat.le_refl _) (Nat.le_refl _) rfl ?_
  refine ax_aload_n (j := 0) dX9_fault_0 rfl rfl rfl ?_
  refine am_getR flX9_10 dX9_fault_1 rfl is0 rfl ?_
  refine am_getI flX9_101 dX9_fault_4 rfl is1 rfl ?_
  exact ax_ireturn rfl dX9_fault_7 ⟨by simp only [F_X9_fault], rfl⟩

def F_X9_told (mem : ax_Me) (p0 : Int32) : Int32 :=
  (if p0 = 0 then (mem 3 4) else (if p0 = 1 then (mem 1 1) else (if p0 = 2 then (mem 3 5) else (if p0 = 3 then (F_X5_twoOfOne mem 3) else (if p0 = 4 then (F_X5_nobodies mem 3) else (if p0 = 5 then (F_X5_countAcquaintances mem 3) else (if p0 = 6 then (mem 115 4) else (if p0 = 7 then (mem 120 2) else (if p0 = 8 then (mem 13 2) else (-1000000002))))))))))
set_option maxRecDepth 20000 in
theorem s_X9_told {G : ax_G} {l : Launch} (mem : ax_Me) (p0 : Int32)  : AD G l 6 mX9_told [.ref 0, .int p0] mem (some (.int (F_X9_told mem p0))) mem := by
  refine ax_start (ls := [.ref 0, .int p0]) (u := 0) (by decide +kernel) (Nat.le_of_ble_eq_true rfl) (Nat.le_refl _) (Nat.le_refl _) rfl ?_
  refine ax_iload_n (j := 1) dX9_told_0 rfl rfl rfl ?_
  by_cases s1_0 : p0 = 0
  · refine ax_tableIn (off := 51) (tgt := 52) dX9_told_1 (by rw [s1_0]; decide) (by rw [s1_0]; decide) (by rw [s1_0]; rfl) (by decide) ?_
    refine ax_aload_n (j := 0) dX9_told_52 rfl rfl rfl ?_
    refine am_getR flX9_19 dX9_told_53 rfl is0 rfl ?_
    refine am_getI flX9_97 dX9_told_56 rfl isP3.o rfl ?_
    exact ax_ireturn rfl dX9_told_59 ⟨by simp only [F_X9_told, if_pos s1_0], rfl⟩
  by_cases s1_1 : p0 = 1
  · refine ax_tableIn (off := 59) (tgt := 60) dX9_told_1 (by rw [s1_1]; decide) (by rw [s1_1]; decide) (by rw [s1_1]; rfl) (by decide) ?_
    refine ax_aload_n (j := 0) dX9_told_60 rfl rfl rfl ?_
    refine am_getR flX9_10 dX9_told_61 rfl is0 rfl ?_
    refine am_getI flX9_104 dX9_told_64 rfl is1 rfl ?_
    exact ax_ireturn rfl dX9_told_67 ⟨by simp only [F_X9_told, if_neg s1_0, if_pos s1_1], rfl⟩
  by_cases s1_2 : p0 = 2
  · refine ax_tableIn (off := 67) (tgt := 68) dX9_told_1 (by rw [s1_2]; decide) (by rw [s1_2]; decide) (by rw [s1_2]; rfl) (by decide) ?_
    refine ax_aload_n (j := 0) dX9_told_68 rfl rfl rfl ?_
    refine am_getR flX9_19 dX9_told_69 rfl is0 rfl ?_
    refine am_getI flX9_107 dX9_told_72 rfl isP3.o rfl ?_
    exact ax_ireturn rfl dX9_told_75 ⟨by simp only [F_X9_told, if_neg s1_0, if_neg s1_1, if_pos s1_2], rfl⟩
  by_cases s1_3 : p0 = 3
  · refine ax_tableIn (off := 75) (tgt := 76) dX9_told_1 (by rw [s1_3]; decide) (by rw [s1_3]; decide) (by rw [s1_3]; rfl) (by decide) ?_
    refine ax_aload_n (j := 0) dX9_told_76 rfl rfl rfl ?_
    refine am_getR flX9_19 dX9_told_77 rfl is0 rfl ?_
    refine ad_V0 ksX5_twoOfOne lkX9_110 dX9_told_80 rfl isP3.o rfl (Nat.le_of_ble_eq_true rfl) (Nat.le_of_ble_eq_true rfl) (s_X5_twoOfOne _ isP3) ?_
    exact ax_ireturn rfl dX9_told_83 ⟨by simp only [F_X9_told, if_neg s1_0, if_neg s1_1, if_neg s1_2, if_pos s1_3], rfl⟩
  by_cases s1_4 : p0 = 4
  · refine ax_tableIn (off := 83) (tgt := 84) dX9_told_1 (by rw [s1_4]; decide) (by rw [s1_4]; decide) (by rw [s1_4]; rfl) (by decide) ?_
    refine ax_aload_n (j := 0) dX9_told_84 rfl rfl rfl ?_
    refine am_getR flX9_19 dX9_told_85 rfl is0 rfl ?_
    refine ad_V0 ksX5_nobodies lkX9_114 dX9_told_88 rfl isP3.o rfl (Nat.le_of_ble_eq_true rfl) (Nat.le_of_ble_eq_true rfl) (s_X5_nobodies _ isP3) ?_
    exact ax_ireturn rfl dX9_told_91 ⟨by simp only [F_X9_told, if_neg s1_0, if_neg s1_1, if_neg s1_2, if_neg s1_3, if_pos s1_4], rfl⟩
  by_cases s1_5 : p0 = 5
  · refine ax_tableIn (off := 91) (tgt := 92) dX9_told_1 (by rw [s1_5]; decide) (by rw [s1_5]; decide) (by rw [s1_5]; rfl) (by decide) ?_
    refine ax_aload_n (j := 0) dX9_told_92 rfl rfl rfl ?_
    refine am_getR flX9_19 dX9_told_93 rfl is0 rfl ?_
    refine ad_V0 ksX5_countAcquaintances lkX9_117 dX9_told_96 rfl isP3.o rfl (Nat.le_of_ble_eq_true rfl) (Nat.le_of_ble_eq_true rfl) (s_X5_countAcquaintances _ isP3) ?_
    exact ax_ireturn rfl dX9_told_99 ⟨by simp only [F_X9_told, if_neg s1_0, if_neg s1_1, if_neg s1_2, if_neg s1_3, if_neg s1_4, if_pos s1_5], rfl⟩
  by_cases s1_6 : p0 = 6
  · refine ax_tableIn (off := 99) (tgt := 100) dX9_told_1 (by rw [s1_6]; decide) (by rw [s1_6]; decide) (by rw [s1_6]; rfl) (by decide) ?_
    refine ax_aload_n (j := 0) dX9_told_100 rfl rfl rfl ?_
    refine am_getR flX9_36 dX9_told_101 rfl is0 rfl ?_
    refine am_getI flX9_120 dX9_told_104 rfl is115 rfl ?_
    exact ax_ireturn rfl dX9_told_107 ⟨by simp only [F_X9_told, if_neg s1_0, if_neg s1_1, if_neg s1_2, if_neg s1_3, if_neg s1_4, if_neg s1_5, if_pos s1_6], rfl⟩
  by_cases s1_7 : p0 = 7
  · refine ax_tableIn (off := 107) (tgt := 108) dX9_told_1 (by rw [s1_7]; decide) (by rw [s1_7]; decide) (by rw [s1_7]; rfl) (by decide) ?_
    refine ax_aload_n (j := 0) dX9_told_108 rfl rfl rfl ?_
    refine am_getR flX9_43 dX9_told_109 rfl is0 rfl ?_
    refine am_getI flX9_121 dX9_told_112 rfl is120 rfl ?_
    exact ax_ireturn rfl dX9_told_115 ⟨by simp only [F_X9_told, if_neg s1_0, if_neg s1_1, if_neg s1_2, if_neg s1_3, if_neg s1_4, if_neg s1_5, if_neg s1_6, if_pos s1_7], rfl⟩
  by_cases s1_8 : p0 = 8
  · refine ax_tableIn (off := 115) (tgt := 116) dX9_told_1 (by rw [s1_8]; decide) (by rw [s1_8]; decide) (by rw [s1_8]; rfl) (by decide) ?_
    refine ax_aload_n (j := 0) dX9_told_116 rfl rfl rfl ?_
    refine am_getR flX9_29 dX9_told_117 rfl is0 rfl ?_
    refine am_getI flX9_122 dX9_told_120 rfl is13 rfl ?_
    exact ax_ireturn rfl dX9_told_123 ⟨by simp only [F_X9_told, if_neg s1_0, if_neg s1_1, if_neg s1_2, if_neg s1_3, if_neg s1_4, if_neg s1_5, if_neg s1_6, if_neg s1_7, if_pos s1_8], rfl⟩
  refine ax_tableOut (tgt := 124) dX9_told_1 (by have q0 := lv_neT s1_0 (a := 0) rfl; have q1 := lv_neT s1_1 (a := 1) rfl; have q2 := lv_neT s1_2 (a := 2) rfl; have q3 := lv_neT s1_3 (a := 3) rfl; have q4 := lv_neT s1_4 (a := 4) rfl; have q5 := lv_neT s1_5 (a := 5) rfl; have q6 := lv_neT s1_6 (a := 6) rfl; have q7 := lv_neT s1_7 (a := 7) rfl; have q8 := lv_neT s1_8 (a := 8) rfl; omega) (by decide) ?_
  refine ax_ldc dX9_told_124 cnX9_123 rfl ?_
  exact ax_ireturn rfl dX9_told_126 ⟨by simp only [F_X9_told, if_neg s1_0, if_neg s1_1, if_neg s1_2, if_neg s1_3, if_neg s1_4, if_neg s1_5, if_neg s1_6, if_neg s1_7, if_neg s1_8], rfl⟩

def F_X9_person (mem : ax_Me) (p0 : Int32) (p1 : Int32) : Int32 :=
  (if (F_X5_has mem 3 p0) = 0 then (-1000000001) else (if p1 = 0 then (F_X5_marksOf mem 3 p0) else (if p1 = 1 then (F_X5_changesOf mem 3 p0) else (if p1 = 2 then (F_X5_identityOf mem 3 p0) else (if p1 = 3 then (F_X5_knownBy mem 3 p0) else (if p1 = 4 then (F_X5_knowersOf mem 3 p0) else (-1000000002)))))))
set_option maxRecDepth 20000 in
theorem s_X9_person {G : ax_G} {l : Launch} (mem : ax_Me) (p0 : Int32) (p1 : Int32)  : AD G l 5 mX9_person [.ref 0, .int p0, .int p1] mem (some (.int (F_X9_person mem p0 p1))) mem := by
  refine ax_start (ls := [.ref 0, .int p0, .int p1]) (u := 0) (by decide +kernel) (Nat.le_of_ble_eq_true rfl) (Nat.le_refl _) (Nat.le_refl _) rfl ?_
  refine ax_aload_n (j := 0) dX9_person_0 rfl rfl rfl ?_
  refine am_getR flX9_19 dX9_person_1 rfl is0 rfl ?_
  refine ax_iload_n (j := 1) dX9_person_4 rfl rfl rfl ?_
  refine ad_V1 ksX5_has lkX9_124 dX9_person_5 rfl isP3.o rfl (Nat.le_of_ble_eq_true rfl) (Nat.le_of_ble_eq_true rfl) (s_X5_has _ isP3 _) ?_
  refine ax_if_ne (tgt := 14) dX9_person_8 (by decide) rfl (fun c8 => ?_) (fun c8 => ?_)
  · refine ax_iload_n (j := 2) dX9_person_14 rfl rfl rfl ?_
    by_cases s15_0 : p1 = 0
    · refine ax_tableIn (off := 33) (tgt := 48) dX9_person_15 (by rw [s15_0]; decide) (by rw [s15_0]; decide) (by rw [s15_0]; rfl) (by decide) ?_
      refine ax_aload_n (j := 0) dX9_person_48 rfl rfl rfl ?_
      refine am_getR flX9_19 dX9_person_49 rfl is0 rfl ?_
      refine ax_iload_n (j := 1) dX9_person_52 rfl rfl rfl ?_
      refine ad_V1 ksX5_marksOf lkX9_129 dX9_person_53 rfl isP3.o rfl (Nat.le_of_ble_eq_true rfl) (Nat.le_of_ble_eq_true rfl) (s_X5_marksOf _ isP3 _) ?_
      exact ax_ireturn rfl dX9_person_56 ⟨by simp only [F_X9_person, if_neg c8, if_pos s15_0], rfl⟩
    by_cases s15_1 : p1 = 1
    · refine ax_tableIn (off := 42) (tgt := 57) dX9_person_15 (by rw [s15_1]; decide) (by rw [s15_1]; decide) (by rw [s15_1]; rfl) (by decide) ?_
      refine ax_aload_n (j := 0) dX9_person_57 rfl rfl rfl ?_
      refine am_getR flX9_19 dX9_person_58 rfl is0 rfl ?_
      refine ax_iload_n (j := 1) dX9_person_61 rfl rfl rfl ?_
      refine ad_V1 ksX5_changesOf lkX9_132 dX9_person_62 rfl isP3.o rfl (Nat.le_of_ble_eq_true rfl) (Nat.le_of_ble_eq_true rfl) (s_X5_changesOf _ isP3 _) ?_
      exact ax_ireturn rfl dX9_person_65 ⟨by simp only [F_X9_person, if_neg c8, if_neg s15_0, if_pos s15_1], rfl⟩
    by_cases s15_2 : p1 = 2
    · refine ax_tableIn (off := 51) (tgt := 66) dX9_person_15 (by rw [s15_2]; decide) (by rw [s15_2]; decide) (by rw [s15_2]; rfl) (by decide) ?_
      refine ax_aload_n (j := 0) dX9_person_66 rfl rfl rfl ?_
      refine am_getR flX9_19 dX9_person_67 rfl is0 rfl ?_
      refine ax_iload_n (j := 1) dX9_person_70 rfl rfl rfl ?_
      refine ad_V1 ksX5_identityOf lkX9_135 dX9_person_71 rfl isP3.o rfl (Nat.le_of_ble_eq_true rfl) (Nat.le_of_ble_eq_true rfl) (s_X5_identityOf _ isP3 _) ?_
      exact ax_ireturn rfl dX9_person_74 ⟨by simp only [F_X9_person, if_neg c8, if_neg s15_0, if_neg s15_1, if_pos s15_2], rfl⟩
    by_cases s15_3 : p1 = 3
    · refine ax_tableIn (off := 60) (tgt := 75) dX9_person_15 (by rw [s15_3]; decide) (by rw [s15_3]; decide) (by rw [s15_3]; rfl) (by decide) ?_
      refine ax_aload_n (j := 0) dX9_person_75 rfl rfl rfl ?_
      refine am_getR flX9_19 dX9_person_76 rfl is0 rfl ?_
      refine ax_iload_n (j := 1) dX9_person_79 rfl rfl rfl ?_
      refine ad_V1 ksX5_knownBy lkX9_138 dX9_person_80 rfl isP3.o rfl (Nat.le_of_ble_eq_true rfl) (Nat.le_of_ble_eq_true rfl) (s_X5_knownBy _ isP3 _) ?_
      exact ax_ireturn rfl dX9_person_83 ⟨by simp only [F_X9_person, if_neg c8, if_neg s15_0, if_neg s15_1, if_neg s15_2, if_pos s15_3], rfl⟩
    by_cases s15_4 : p1 = 4
    · refine ax_tableIn (off := 69) (tgt := 84) dX9_person_15 (by rw [s15_4]; decide) (by rw [s15_4]; decide) (by rw [s15_4]; rfl) (by decide) ?_
      refine ax_aload_n (j := 0) dX9_person_84 rfl rfl rfl ?_
      refine am_getR flX9_19 dX9_person_85 rfl is0 rfl ?_
      refine ax_iload_n (j := 1) dX9_person_88 rfl rfl rfl ?_
      refine ad_V1 ksX5_knowersOf lkX9_141 dX9_person_89 rfl isP3.o rfl (Nat.le_of_ble_eq_true rfl) (Nat.le_of_ble_eq_true rfl) (s_X5_knowersOf _ isP3 _) ?_
      exact ax_ireturn rfl dX9_person_92 ⟨by simp only [F_X9_person, if_neg c8, if_neg s15_0, if_neg s15_1, if_neg s15_2, if_neg s15_3, if_pos s15_4], rfl⟩
    refine ax_tableOut (tgt := 93) dX9_person_15 (by have q0 := lv_neT s15_0 (a := 0) rfl; have q1 := lv_neT s15_1 (a := 1) rfl; have q2 := lv_neT s15_2 (a := 2) rfl; have q3 := lv_neT s15_3 (a := 3) rfl; have q4 := lv_neT s15_4 (a := 4) rfl; omega) (by decide) ?_
    refine ax_ldc dX9_person_93 cnX9_123 rfl ?_
    exact ax_ireturn rfl dX9_person_95 ⟨by simp only [F_X9_person, if_neg c8, if_neg s15_0, if_neg s15_1, if_neg s15_2, if_neg s15_3, if_neg s15_4], rfl⟩
  · refine ax_ldc dX9_person_11 cnX9_128 rfl ?_
    exact ax_ireturn rfl dX9_person_13 ⟨by simp only [F_X9_person, if_pos c8], rfl⟩

def F_X9_remembers (mem : ax_Me) (p0 : Int32) (p1 : Int32) : Int32 :=
  (if (F_X5_isPair mem 3 p0 p1) = 0 then (-1000000001) else (F_X5_memoryOf mem 3 p0 p1))
set_option maxRecDepth 20000 in
theorem s_X9_remembers {G : ax_G} {l : Launch} (mem : ax_Me) (p0 : Int32) (p1 : Int32)  : AD G l 3 mX9_remembers [.ref 0, .int p0, .int p1] mem (some (.int (F_X9_remembers mem p0 p1))) mem := by
  refine ax_start (ls := [.ref 0, .int p0, .int p1]) (u := 0) (by decide +kernel) (Nat.le_of_ble_eq_true rfl) (Nat.le_refl _) (Nat.le_refl _) rfl ?_
  refine ax_aload_n (j := 0) dX9_remembers_0 rfl rfl rfl ?_
  refine am_getR flX9_19 dX9_remembers_1 rfl is0 rfl ?_
  refine ax_iload_n (j := 1) dX9_remembers_4 rfl rfl rfl ?_
  refine ax_iload_n (j := 2) dX9_remembers_5 rfl rfl rfl ?_
  refine ad_V2 ksX5_isPair lkX9_144 dX9_remembers_6 rfl isP3.o rfl (Nat.le_of_ble_eq_true rfl) (Nat.le_of_ble_eq_true rfl) (s_X5_isPair _ isP3 _ _) ?_
  refine ax_if_eq (tgt := 24) dX9_remembers_9 (by decide) rfl (fun c9 => ?_) (fun c9 => ?_)
  · refine ax_ldc dX9_remembers_24 cnX9_128 rfl ?_
    exact ax_ireturn rfl dX9_remembers_26 ⟨by simp only [F_X9_remembers, if_pos c9], rfl⟩
  · refine ax_aload_n (j := 0) dX9_remembers_12 rfl rfl rfl ?_
    refine am_getR flX9_19 dX9_remembers_13 rfl is0 rfl ?_
    refine ax_iload_n (j := 1) dX9_remembers_16 rfl rfl rfl ?_
    refine ax_iload_n (j := 2) dX9_remembers_17 rfl rfl rfl ?_
    refine ad_V2 ksX5_memoryOf lkX9_148 dX9_remembers_18 rfl isP3.o rfl (Nat.le_of_ble_eq_true rfl) (Nat.le_of_ble_eq_true rfl) (s_X5_memoryOf _ isP3 _ _) ?_
    refine ax_goto (tgt := 26) dX9_remembers_21 (by decide) ?_
    exact ax_ireturn rfl dX9_remembers_26 ⟨by simp only [F_X9_remembers, if_neg c9], rfl⟩

def F_X9_year (mem : ax_Me) (p0 : Int32) : Int32 × ax_Me :=
  (if (F_X9_refusalOfYears mem p0) = 0 then (((F_X5_passYears (F_X4_push mem 3) 3 p0) 3 5), (F_X5_passYears (F_X4_push mem 3) 3 p0)) else ((F_X9_refusalOfYears mem p0), mem))
set_option maxRecDepth 20000 in
theorem s_X9_year {G : ax_G} {l : Launch} (mem : ax_Me) (p0 : Int32) (hx : vp_in (mem 13 1) 20) : AD G l 3 mX9_year [.ref 0, .int p0] mem (some (.int (F_X9_year mem p0).1)) (F_X9_year mem p0).2 := by
  refine ax_start (ls := [.ref 0, .int p0, .float 0]) (u := 1) (by decide +kernel) (Nat.le_of_ble_eq_true rfl) (Nat.le_refl _) (Nat.le_refl _) rfl ?_
  refine ax_aload_n (j := 0) dX9_year_0 rfl rfl rfl ?_
  refine ax_iload_n (j := 1) dX9_year_1 rfl rfl rfl ?_
  refine ad_V1 ksX9_refusalOfYears lkX9_152 dX9_year_2 rfl is0 rfl (Nat.le_of_ble_eq_true rfl) (Nat.le_of_ble_eq_true rfl) (s_X9_refusalOfYears _ _) ?_
  refine ax_ist2 dX9_year_5 rfl rfl (Nat.le_of_ble_eq_true rfl) rfl ?_
  refine ax_iload_n (j := 2) dX9_year_6 rfl rfl rfl ?_
  refine ax_if_eq (tgt := 12) dX9_year_7 (by decide) rfl (fun c7 => ?_) (fun c7 => ?_)
  · refine ax_aload_n (j := 0) dX9_year_12 rfl rfl rfl ?_
    refine am_getR flX9_29 dX9_year_13 rfl is0 rfl ?_
    refine ax_aload_n (j := 0) dX9_year_16 rfl rfl rfl ?_
    refine am_getR flX9_19 dX9_year_17 rfl is0 rfl ?_
    refine ad_V1v ksX4_push lkX9_155 dX9_year_20 rfl is13 rfl (Nat.le_of_ble_eq_true rfl) (Nat.le_of_ble_eq_true rfl) (s_X4_push _ isP3 (by assumption)) ?_
    refine ax_aload_n (j := 0) dX9_year_23 rfl rfl rfl ?_
    refine am_getR flX9_19 dX9_year_24 rfl is0 rfl ?_
    refine ax_iload_n (j := 1) dX9_year_27 rfl rfl rfl ?_
    refine ad_V1v ksX5_passYears lkX9_158 dX9_year_28 rfl isP3.o rfl (Nat.le_of_ble_eq_true rfl) (Nat.le_of_ble_eq_true rfl) (s_X5_passYears _ isP3 _) ?_
    refine ax_aload_n (j := 0) dX9_year_31 rfl rfl rfl ?_
    refine am_getR flX9_19 dX9_year_32 rfl is0 rfl ?_
    refine am_getI flX9_107 dX9_year_35 rfl isP3.o rfl ?_
    exact ax_ireturn rfl dX9_year_38 ⟨by simp only [F_X9_year, if_pos c7], by simp only [F_X9_year, if_pos c7]⟩
  · refine ax_iload_n (j := 2) dX9_year_10 rfl rfl rfl ?_
    exact ax_ireturn rfl dX9_year_11 ⟨by simp only [F_X9_year, if_neg c7], by simp only [F_X9_year, if_neg c7]⟩

def F_X9_meet (mem : ax_Me) (p0 : Int32) (p1 : Int32) : Int32 × ax_Me :=
  (if (F_X5_isPair mem 3 p0 p1) = 0 then ((-1000000001), mem) else (if (F_X5_memoryOf (F_X4_push mem 3) 3 p0 p1) = (-1) then ((-1), (F_X5_learn (F_X4_push mem 3) 3 p0 p1)) else ((F_X2_apart (F_X5_learn (F_X4_push mem 3) 3 p0 p1) (F_X5_memoryOf (F_X4_push mem 3) 3 p0 p1) (F_X5_marksOf (F_X5_learn (F_X4_push mem 3) 3 p0 p1) 3 p1)), (F_X5_learn (F_X4_push mem 3) 3 p0 p1))))
set_option maxRecDepth 20000 in
theorem s_X9_meet {G : ax_G} {l : Launch} (mem : ax_Me) (p0 : Int32) (p1 : Int32) (hx : vp_in (mem 13 1) 20) : AD G l 3 mX9_meet [.ref 0, .int p0, .int p1] mem (some (.int (F_X9_meet mem p0 p1).1)) (F_X9_meet mem p0 p1).2 := by
  refine ax_start (ls := [.ref 0, .int p0, .int p1, .float 0]) (u := 1) (by decide +kernel) (Nat.le_of_ble_eq_true rfl) (Nat.le_refl _) (Nat.le_refl _) rfl ?_
  refine ax_aload_n (j := 0) dX9_meet_0 rfl rfl rfl ?_
  refine am_getR flX9_19 dX9_meet_1 rfl is0 rfl ?_
  refine ax_iload_n (j := 1) dX9_meet_4 rfl rfl rfl ?_
  refine ax_iload_n (j := 2) dX9_meet_5 rfl rfl rfl ?_
  refine ad_V2 ksX5_isPair lkX9_144 dX9_meet_6 rfl isP3.o rfl (Nat.le_of_ble_eq_true rfl) (Nat.le_of_ble_eq_true rfl) (s_X5_isPair _ isP3 _ _) ?_
  refine ax_if_ne (tgt := 15) dX9_meet_9 (by decide) rfl (fun c9 => ?_) (fun c9 => ?_)
  · refine ax_aload_n (j := 0) dX9_meet_15 rfl rfl rfl ?_
    refine am_getR flX9_29 dX9_meet_16 rfl is0 rfl ?_
    refine ax_aload_n (j := 0) dX9_meet_19 rfl rfl rfl ?_
    refine am_getR flX9_19 dX9_meet_20 rfl is0 rfl ?_
    refine ad_V1v ksX4_push lkX9_155 dX9_meet_23 rfl is13 rfl (Nat.le_of_ble_eq_true rfl) (Nat.le_of_ble_eq_true rfl) (s_X4_push _ isP3 (by assumption)) ?_
    refine ax_aload_n (j := 0) dX9_meet_26 rfl rfl rfl ?_
    refine am_getR flX9_19 dX9_meet_27 rfl is0 rfl ?_
    refine ax_iload_n (j := 1) dX9_meet_30 rfl rfl rfl ?_
    refine ax_iload_n (j := 2) dX9_meet_31 rfl rfl rfl ?_
    refine ad_V2 ksX5_memoryOf lkX9_148 dX9_meet_32 rfl isP3.o rfl (Nat.le_of_ble_eq_true rfl) (Nat.le_of_ble_eq_true rfl) (s_X5_memoryOf _ isP3 _ _) ?_
    refine ax_ist3 dX9_meet_35 rfl rfl (Nat.le_of_ble_eq_true rfl) rfl ?_
    refine ax_aload_n (j := 0) dX9_meet_36 rfl rfl rfl ?_
    refine am_getR flX9_19 dX9_meet_37 rfl is0 rfl ?_
    refine ax_iload_n (j := 1) dX9_meet_40 rfl rfl rfl ?_
    refine ax_iload_n (j := 2) dX9_meet_41 rfl rfl rfl ?_
    refine ad_V2v ksX5_learn lkX9_162 dX9_meet_42 rfl isP3.o rfl (Nat.le_of_ble_eq_true rfl) (Nat.le_of_ble_eq_true rfl) (s_X5_learn _ isP3 _ _) ?_
    refine ax_iload_n (j := 3) dX9_meet_45 rfl rfl rfl ?_
    refine ax_iconst (v := (-1)) dX9_meet_46 (by decide) rfl ?_
    refine ax_icmp_ne (tgt := 54) dX9_meet_47 (by decide) rfl (fun c47 => ?_) (fun c47 => ?_)
    · refine ax_iload_n (j := 3) dX9_meet_54 rfl rfl rfl ?_
      refine ax_aload_n (j := 0) dX9_meet_55 rfl rfl rfl ?_
      refine am_getR flX9_19 dX9_meet_56 rfl is0 rfl ?_
      refine ax_iload_n (j := 2) dX9_meet_59 rfl rfl rfl ?_
      refine ad_V1 ksX5_marksOf lkX9_129 dX9_meet_60 rfl isP3.o rfl (Nat.le_of_ble_eq_true rfl) (Nat.le_of_ble_eq_true rfl) (s_X5_marksOf _ isP3 _) ?_
      refine ad_S2 ksX2_apart lkX9_166 dX9_meet_63 rfl (Nat.le_of_ble_eq_true rfl) (Nat.le_of_ble_eq_true rfl) (s_X2_apart _ _ _) ?_
      exact ax_ireturn rfl dX9_meet_66 ⟨by simp only [F_X9_meet, if_neg c9, if_neg c47], by simp only [F_X9_meet, if_neg c9, if_neg c47]⟩
    · refine ax_iconst (v := (-1)) dX9_meet_50 (by decide) rfl ?_
      refine ax_goto (tgt := 66) dX9_meet_51 (by decide) ?_
      exact ax_ireturn rfl dX9_meet_66 ⟨by simp only [F_X9_meet, if_neg c9, if_pos c47], by simp only [F_X9_meet, if_neg c9, if_pos c47]⟩
  · refine ax_ldc dX9_meet_12 cnX9_128 rfl ?_
    exact ax_ireturn rfl dX9_meet_14 ⟨by simp only [F_X9_meet, if_pos c9], by simp only [F_X9_meet, if_pos c9]⟩

def F_X9_forget (mem : ax_Me) (p0 : Int32) (p1 : Int32) : Int32 × ax_Me :=
  (if (F_X9_refusal mem (F_X5_isPair mem 3 p0 p1) 1 (F_X5_knows mem 3 p0 p1) 1) = 0 then ((F_X5_memoryOf (F_X4_push mem 3) 3 p0 p1), (F_X5_unlearn (F_X4_push mem 3) 3 p0 p1)) else ((F_X9_refusal mem (F_X5_isPair mem 3 p0 p1) 1 (F_X5_knows mem 3 p0 p1) 1), mem))
set_option maxRecDepth 20000 in
theorem s_X9_forget {G : ax_G} {l : Launch} (mem : ax_Me) (p0 : Int32) (p1 : Int32) (hx : vp_in (mem 13 1) 20) : AD G l 4 mX9_forget [.ref 0, .int p0, .int p1] mem (some (.int (F_X9_forget mem p0 p1).1)) (F_X9_forget mem p0 p1).2 := by
  refine ax_start (ls := [.ref 0, .int p0, .int p1, .float 0, .float 0]) (u := 2) (by decide +kernel) (Nat.le_of_ble_eq_true rfl) (Nat.le_refl _) (Nat.le_refl _) rfl ?_
  refine ax_aload_n (j := 0) dX9_forget_0 rfl rfl rfl ?_
  refine am_getR flX9_19 dX9_forget_1 rfl is0 rfl ?_
  refine ax_iload_n (j := 1) dX9_forget_4 rfl rfl rfl ?_
  refine ax_iload_n (j := 2) dX9_forget_5 rfl rfl rfl ?_
  refine ad_V2 ksX5_isPair lkX9_144 dX9_forget_6 rfl isP3.o rfl (Nat.le_of_ble_eq_true rfl) (Nat.le_of_ble_eq_true rfl) (s_X5_isPair _ isP3 _ _) ?_
  refine ax_iconst (v := 1) dX9_forget_9 (by decide) rfl ?_
  refine ax_aload_n (j := 0) dX9_forget_10 rfl rfl rfl ?_
  refine am_getR flX9_19 dX9_forget_11 rfl is0 rfl ?_
  refine ax_iload_n (j := 1) dX9_forget_14 rfl rfl rfl ?_
  refine ax_iload_n (j := 2) dX9_forget_15 rfl rfl rfl ?_
  refine ad_V2 ksX5_knows lkX9_171 dX9_forget_16 rfl isP3.o rfl (Nat.le_of_ble_eq_true rfl) (Nat.le_of_ble_eq_true rfl) (s_X5_knows _ isP3 _ _) ?_
  refine ax_iconst (v := 1) dX9_forget_19 (by decide) rfl ?_
  refine ad_S4 ksX9_refusal lkX9_72 dX9_forget_20 rfl (Nat.le_of_ble_eq_true rfl) (Nat.le_of_ble_eq_true rfl) (s_X9_refusal _ _ _ _ _) ?_
  refine ax_ist3 dX9_forget_23 rfl rfl (Nat.le_of_ble_eq_true rfl) rfl ?_
  refine ax_iload_n (j := 3) dX9_forget_24 rfl rfl rfl ?_
  refine ax_if_eq (tgt := 30) dX9_forget_25 (by decide) rfl (fun c25 => ?_) (fun c25 => ?_)
  · refine ax_aload_n (j := 0) dX9_forget_30 rfl rfl rfl ?_
    refine am_getR flX9_29 dX9_forget_31 rfl is0 rfl ?_
    refine ax_aload_n (j := 0) dX9_forget_34 rfl rfl rfl ?_
    refine am_getR flX9_19 dX9_forget_35 rfl is0 rfl ?_
    refine ad_V1v ksX4_push lkX9_155 dX9_forget_38 rfl is13 rfl (Nat.le_of_ble_eq_true rfl) (Nat.le_of_ble_eq_true rfl) (s_X4_push _ isP3 (by assumption)) ?_
    refine ax_aload_n (j := 0) dX9_forget_41 rfl rfl rfl ?_
    refine am_getR flX9_19 dX9_forget_42 rfl is0 rfl ?_
    refine ax_iload_n (j := 1) dX9_forget_45 rfl rfl rfl ?_
    refine ax_iload_n (j := 2) dX9_forget_46 rfl rfl rfl ?_
    refine ad_V2 ksX5_memoryOf lkX9_148 dX9_forget_47 rfl isP3.o rfl (Nat.le_of_ble_eq_true rfl) (Nat.le_of_ble_eq_true rfl) (s_X5_memoryOf _ isP3 _ _) ?_
    refine ax_ist4 dX9_forget_50 rfl (Nat.le_of_ble_eq_true rfl) rfl ?_
    refine ax_aload_n (j := 0) dX9_forget_52 rfl rfl rfl ?_
    refine am_getR flX9_19 dX9_forget_53 rfl is0 rfl ?_
    refine ax_iload_n (j := 1) dX9_forget_56 rfl rfl rfl ?_
    refine ax_iload_n (j := 2) dX9_forget_57 rfl rfl rfl ?_
    refine ad_V2v ksX5_unlearn lkX9_174 dX9_forget_58 rfl isP3.o rfl (Nat.le_of_ble_eq_true rfl) (Nat.le_of_ble_eq_true rfl) (s_X5_unlearn _ isP3 _ _) ?_
    refine ax_iload dX9_forget_61 rfl rfl ?_
    exact ax_ireturn rfl dX9_forget_63 ⟨by simp only [F_X9_forget, if_pos c25], by simp only [F_X9_forget, if_pos c25]⟩
  · refine ax_iload_n (j := 3) dX9_forget_28 rfl rfl rfl ?_
    exact ax_ireturn rfl dX9_forget_29 ⟨by simp only [F_X9_forget, if_neg c25], by simp only [F_X9_forget, if_neg c25]⟩

def F_X9_parade (mem : ax_Me) (p0 : Int32) (p1 : Int32) (p2 : Int32) : Int32 × ax_Me :=
  (if (F_X9_refusal mem (F_X9_isAsked mem p0 p1 p2) (F_X9_isLongEnough mem p2) (F_X5_knows mem 3 p0 p1) 1) = 0 then ((F_X2_pick (F_X4_push mem 3) 3 (F_X5_memoryOf (F_X4_push mem 3) 3 p0 p1) p2), (F_X5_identify (F_X4_push mem 3) 3 (F_X2_pick (F_X4_push mem 3) 3 (F_X5_memoryOf (F_X4_push mem 3) 3 p0 p1) p2) p1)) else ((F_X9_refusal mem (F_X9_isAsked mem p0 p1 p2) (F_X9_isLongEnough mem p2) (F_X5_knows mem 3 p0 p1) 1), mem))
set_option maxRecDepth 20000 in
theorem s_X9_parade {G : ax_G} {l : Launch} (mem : ax_Me) (p0 : Int32) (p1 : Int32) (p2 : Int32) (hx : vp_in (mem 13 1) 20) : AD G l 4 mX9_parade [.ref 0, .int p0, .int p1, .int p2] mem (some (.int (F_X9_parade mem p0 p1 p2).1)) (F_X9_parade mem p0 p1 p2).2 := by
  refine ax_start (ls := [.ref 0, .int p0, .int p1, .int p2, .float 0, .float 0]) (u := 2) (by decide +kernel) (Nat.le_of_ble_eq_true rfl) (Nat.le_refl _) (Nat.le_refl _) rfl ?_
  refine ax_aload_n (j := 0) dX9_parade_0 rfl rfl rfl ?_
  refine ax_iload_n (j := 1) dX9_parade_1 rfl rfl rfl ?_
  refine ax_iload_n (j := 2) dX9_parade_2 rfl rfl rfl ?_
  refine ax_iload_n (j := 3) dX9_parade_3 rfl rfl rfl ?_
  refine ad_V3 ksX9_isAsked lkX9_177 dX9_parade_4 rfl is0 rfl (Nat.le_of_ble_eq_true rfl) (Nat.le_of_ble_eq_true rfl) (s_X9_isAsked _ _ _ _) ?_
  refine ax_iload_n (j := 3) dX9_parade_7 rfl rfl rfl ?_
  refine ad_S1 ksX9_isLongEnough lkX9_180 dX9_parade_8 rfl (Nat.le_of_ble_eq_true rfl) (Nat.le_of_ble_eq_true rfl) (s_X9_isLongEnough _ _) ?_
  refine ax_aload_n (j := 0) dX9_parade_11 rfl rfl rfl ?_
  refine am_getR flX9_19 dX9_parade_12 rfl is0 rfl ?_
  refine ax_iload_n (j := 1) dX9_parade_15 rfl rfl rfl ?_
  refine ax_iload_n (j := 2) dX9_parade_16 rfl rfl rfl ?_
  refine ad_V2 ksX5_knows lkX9_171 dX9_parade_17 rfl isP3.o rfl (Nat.le_of_ble_eq_true rfl) (Nat.le_of_ble_eq_true rfl) (s_X5_knows _ isP3 _ _) ?_
  refine ax_iconst (v := 1) dX9_parade_20 (by decide) rfl ?_
  refine ad_S4 ksX9_refusal lkX9_72 dX9_parade_21 rfl (Nat.le_of_ble_eq_true rfl) (Nat.le_of_ble_eq_true rfl) (s_X9_refusal _ _ _ _ _) ?_
  refine ax_ist4 dX9_parade_24 rfl (Nat.le_of_ble_eq_true rfl) rfl ?_
  refine ax_iload dX9_parade_26 rfl rfl ?_
  refine ax_if_eq (tgt := 34) dX9_parade_28 (by decide) rfl (fun c28 => ?_) (fun c28 => ?_)
  · refine ax_aload_n (j := 0) dX9_parade_34 rfl rfl rfl ?_
    refine am_getR flX9_29 dX9_parade_35 rfl is0 rfl ?_
    refine ax_aload_n (j := 0) dX9_parade_38 rfl rfl rfl ?_
    refine am_getR flX9_19 dX9_parade_39 rfl is0 rfl ?_
    refine ad_V1v ksX4_push lkX9_155 dX9_parade_42 rfl is13 rfl (Nat.le_of_ble_eq_true rfl) (Nat.le_of_ble_eq_true rfl) (s_X4_push _ isP3 (by assumption)) ?_
    refine ax_aload_n (j := 0) dX9_parade_45 rfl rfl rfl ?_
    refine am_getR flX9_19 dX9_parade_46 rfl is0 rfl ?_
    refine ax_aload_n (j := 0) dX9_parade_49 rfl rfl rfl ?_
    refine am_getR flX9_19 dX9_parade_50 rfl is0 rfl ?_
    refine ax_iload_n (j := 1) dX9_parade_53 rfl rfl rfl ?_
    refine ax_iload_n (j := 2) dX9_parade_54 rfl rfl rfl ?_
    refine ad_V2 ksX5_memoryOf lkX9_148 dX9_parade_55 rfl isP3.o rfl (Nat.le_of_ble_eq_true rfl) (Nat.le_of_ble_eq_true rfl) (s_X5_memoryOf _ isP3 _ _) ?_
    refine ax_iload_n (j := 3) dX9_parade_58 rfl rfl rfl ?_
    refine ad_S3 ksX2_pick lkX9_183 dX9_parade_59 rfl (Nat.le_of_ble_eq_true rfl) (Nat.le_of_ble_eq_true rfl) (s_X2_pick _ isP3 _ _) ?_
    refine ax_ist5 dX9_parade_62 rfl (Nat.le_of_ble_eq_true rfl) rfl ?_
    refine ax_aload_n (j := 0) dX9_parade_64 rfl rfl rfl ?_
    refine am_getR flX9_19 dX9_parade_65 rfl is0 rfl ?_
    refine ax_iload dX9_parade_68 rfl rfl ?_
    refine ax_iload_n (j := 2) dX9_parade_70 rfl rfl rfl ?_
    refine ad_V2v ksX5_identify lkX9_187 dX9_parade_71 rfl isP3.o rfl (Nat.le_of_ble_eq_true rfl) (Nat.le_of_ble_eq_true rfl) (s_X5_identify _ isP3 _ _) ?_
    refine ax_iload dX9_parade_74 rfl rfl ?_
    exact ax_ireturn rfl dX9_parade_76 ⟨by simp only [F_X9_parade, if_pos c28], by simp only [F_X9_parade, if_pos c28]⟩
  · refine ax_iload dX9_parade_31 rfl rfl ?_
    exact ax_ireturn rfl dX9_parade_33 ⟨by simp only [F_X9_parade, if_neg c28], by simp only [F_X9_parade, if_neg c28]⟩

def F_X9_mark (mem : ax_Me) (p0 : Int32) (p1 : Int32) : Int32 × ax_Me :=
  (if (F_X9_refusal mem (F_X5_has mem 3 p0) (F_X9_isWithin mem p1 0 7) 1 1) = 0 then ((F_X5_marksOf (F_X5_flip (F_X4_push mem 3) 3 p0 p1) 3 p0), (F_X5_flip (F_X4_push mem 3) 3 p0 p1)) else ((F_X9_refusal mem (F_X5_has mem 3 p0) (F_X9_isWithin mem p1 0 7) 1 1), mem))
set_option maxRecDepth 20000 in
theorem s_X9_mark {G : ax_G} {l : Launch} (mem : ax_Me) (p0 : Int32) (p1 : Int32) (hx : vp_in (mem 13 1) 20) : AD G l 3 mX9_mark [.ref 0, .int p0, .int p1] mem (some (.int (F_X9_mark mem p0 p1).1)) (F_X9_mark mem p0 p1).2 := by
  refine ax_start (ls := [.ref 0, .int p0, .int p1, .float 0]) (u := 1) (by decide +kernel) (Nat.le_of_ble_eq_true rfl) (Nat.le_refl _) (Nat.le_refl _) rfl ?_
  refine ax_aload_n (j := 0) dX9_mark_0 rfl rfl rfl ?_
  refine am_getR flX9_19 dX9_mark_1 rfl is0 rfl ?_
  refine ax_iload_n (j := 1) dX9_mark_4 rfl rfl rfl ?_
  refine ad_V1 ksX5_has lkX9_124 dX9_mark_5 rfl isP3.o rfl (Nat.le_of_ble_eq_true rfl) (Nat.le_of_ble_eq_true rfl) (s_X5_has _ isP3 _) ?_
  refine ax_iload_n (j := 2) dX9_mark_8 rfl rfl rfl ?_
  refine ax_iconst (v := 0) dX9_mark_9 (by decide) rfl ?_
  refine ax_bipush (v := 7) dX9_mark_10 (by decide) rfl ?_
  refine ad_S3 ksX9_isWithin lkX9_64 dX9_mark_12 rfl (Nat.le_of_ble_eq_true rfl) (Nat.le_of_ble_eq_true rfl) (s_X9_isWithin _ _ _ _) ?_
  refine ax_iconst (v := 1) dX9_mark_15 (by decide) rfl ?_
  refine ax_iconst (v := 1) dX9_mark_16 (by decide) rfl ?_
  refine ad_S4 ksX9_refusal lkX9_72 dX9_mark_17 rfl (Nat.le_of_ble_eq_true rfl) (Nat.le_of_ble_eq_true rfl) (s_X9_refusal _ _ _ _ _) ?_
  refine ax_ist3 dX9_mark_20 rfl rfl (Nat.le_of_ble_eq_true rfl) rfl ?_
  refine ax_iload_n (j := 3) dX9_mark_21 rfl rfl rfl ?_
  refine ax_if_eq (tgt := 27) dX9_mark_22 (by decide) rfl (fun c22 => ?_) (fun c22 => ?_)
  · refine ax_aload_n (j := 0) dX9_mark_27 rfl rfl rfl ?_
    refine am_getR flX9_29 dX9_mark_28 rfl is0 rfl ?_
    refine ax_aload_n (j := 0) dX9_mark_31 rfl rfl rfl ?_
    refine am_getR flX9_19 dX9_mark_32 rfl is0 rfl ?_
    refine ad_V1v ksX4_push lkX9_155 dX9_mark_35 rfl is13 rfl (Nat.le_of_ble_eq_true rfl) (Nat.le_of_ble_eq_true rfl) (s_X4_push _ isP3 (by assumption)) ?_
    refine ax_aload_n (j := 0) dX9_mark_38 rfl rfl rfl ?_
    refine am_getR flX9_19 dX9_mark_39 rfl is0 rfl ?_
    refine ax_iload_n (j := 1) dX9_mark_42 rfl rfl rfl ?_
    refine ax_iload_n (j := 2) dX9_mark_43 rfl rfl rfl ?_
    refine ad_V2v ksX5_flip lkX9_190 dX9_mark_44 rfl isP3.o rfl (Nat.le_of_ble_eq_true rfl) (Nat.le_of_ble_eq_true rfl) (s_X5_flip _ isP3 _ _) ?_
    refine ax_aload_n (j := 0) dX9_mark_47 rfl rfl rfl ?_
    refine am_getR flX9_19 dX9_mark_48 rfl is0 rfl ?_
    refine ax_iload_n (j := 1) dX9_mark_51 rfl rfl rfl ?_
    refine ad_V1 ksX5_marksOf lkX9_129 dX9_mark_52 rfl isP3.o rfl (Nat.le_of_ble_eq_true rfl) (Nat.le_of_ble_eq_true rfl) (s_X5_marksOf _ isP3 _) ?_
    exact ax_ireturn rfl dX9_mark_55 ⟨by simp only [F_X9_mark, if_pos c22], by simp only [F_X9_mark, if_pos c22]⟩
  · refine ax_iload_n (j := 3) dX9_mark_25 rfl rfl rfl ?_
    exact ax_ireturn rfl dX9_mark_26 ⟨by simp only [F_X9_mark, if_neg c22], by simp only [F_X9_mark, if_neg c22]⟩

def F_X9_undo (mem : ax_Me)  : Int32 × ax_Me :=
  (if (F_X4_popInto mem 3).1 = 0 then ((-1000000003), (F_X4_popInto mem 3).2) else (((F_X4_popInto mem 3).2 13 2), (F_X4_popInto mem 3).2))
set_option maxRecDepth 20000 in
theorem s_X9_undo {G : ax_G} {l : Launch} (mem : ax_Me)  (hx : vp_in (mem 13 1) 20) : AD G l 3 mX9_undo [.ref 0] mem (some (.int (F_X9_undo mem).1)) (F_X9_undo mem).2 := by
  refine ax_start (ls := [.ref 0]) (u := 0) (by decide +kernel) (Nat.le_of_ble_eq_true rfl) (Nat.le_refl _) (Nat.le_refl _) rfl ?_
  refine ax_aload_n (j := 0) dX9_undo_0 rfl rfl rfl ?_
  refine am_getR flX9_29 dX9_undo_1 rfl is0 rfl ?_
  refine ax_aload_n (j := 0) dX9_undo_4 rfl rfl rfl ?_
  refine am_getR flX9_19 dX9_undo_5 rfl is0 rfl ?_
  refine ad_V1 ksX4_popInto lkX9_196 dX9_undo_8 rfl is13 rfl (Nat.le_of_ble_eq_true rfl) (Nat.le_of_ble_eq_true rfl) (s_X4_popInto _ isP3 (by assumption)) ?_
  refine ax_if_eq (tgt := 24) dX9_undo_11 (by decide) rfl (fun c11 => ?_) (fun c11 => ?_)
  · refine ax_ldc dX9_undo_24 cnX9_200 rfl ?_
    exact ax_ireturn rfl dX9_undo_26 ⟨by simp only [F_X9_undo, if_pos c11], by simp only [F_X9_undo, if_pos c11]⟩
  · refine ax_aload_n (j := 0) dX9_undo_14 rfl rfl rfl ?_
    refine am_getR flX9_29 dX9_undo_15 rfl is0 rfl ?_
    refine am_getI flX9_122 dX9_undo_18 rfl is13 rfl ?_
    refine ax_goto (tgt := 26) dX9_undo_21 (by decide) ?_
    exact ax_ireturn rfl dX9_undo_26 ⟨by simp only [F_X9_undo, if_neg c11], by simp only [F_X9_undo, if_neg c11]⟩

def f_X9_drift_25 (mem : ax_Me) (p0 : Int32) (v2 : Int32) (j : Nat) (s : ax_Me) : ax_Me :=
  match s with
  | m => (F_X5_passYears (F_X9_meetByDraws m) 3 1)
def F_X9_drift (mem : ax_Me) (p0 : Int32) : Int32 × ax_Me :=
  (if (F_X9_refusalOfYears mem p0) = 0 then (((ax_it (f_X9_drift_25 ((F_X4_push mem 3)) p0 ((F_X9_refusalOfYears mem p0))) (min (p0 : Int32).toNatClampNeg 60) (0) (F_X4_push mem 3)) 3 5), (ax_it (f_X9_drift_25 ((F_X4_push mem 3)) p0 ((F_X9_refusalOfYears mem p0))) (min (p0 : Int32).toNatClampNeg 60) (0) (F_X4_push mem 3))) else ((F_X9_refusalOfYears mem p0), mem))
set_option maxRecDepth 20000 in
theorem lp_X9_drift_25 {G : ax_G} {l : Launch} {Q : Option Value → ax_H → Prop} (mem : ax_Me) (p0 : Int32) (v2 : Int32)  : ∀ (n j : Nat) (m : ax_Me), j + n = min (p0 : Int32).toNatClampNeg 60 → AX G l mX9_drift 4 54 [.ref 0, .int p0, .int v2, .int (nI (min (p0 : Int32).toNatClampNeg 60))] [] 153 0 (ax_hm (ax_it (f_X9_drift_25 mem p0 v2) n j m)) 153 0 Q → AX G l mX9_drift 4 25 [.ref 0, .int p0, .int v2, .int (nI j)] [] 153 0 (ax_hm m) 153 0 Q := by
  intro n
  induction n with
  | zero =>
    intro j m hj hx
    refine ax_iload_n (j := 3) dX9_drift_25 rfl rfl rfl ?_
    refine ax_iload_n (j := 1) dX9_drift_26 rfl rfl rfl ?_
    refine ax_icmp_ge (tgt := 54) dX9_drift_27 (by decide) rfl (fun c27 => ?_) (fun c27 => ?_)
    · have q := hx
      simp only [ax_it] at q
      rw [show (min (p0 : Int32).toNatClampNeg 60) = j by omega] at q
      exact q
    · refine ax_iload_n (j := 3) dX9_drift_30 rfl rfl rfl ?_
      refine ax_bipush (v := 60) dX9_drift_31 (by decide) rfl ?_
      refine ax_icmp_ge (tgt := 54) dX9_drift_33 (by decide) rfl (fun c33 => ?_) (fun c33 => ?_)
      · have q := hx
        simp only [ax_it] at q
        rw [show (min (p0 : Int32).toNatClampNeg 60) = j by omega] at q
        exact q
      · exact absurd (two_ge (b := 60) (k := 60) rfl hj c27) c33
  | succ n ih =>
    intro j m hj hx
    refine ax_iload_n (j := 3) dX9_drift_25 rfl rfl rfl ?_
    refine ax_iload_n (j := 1) dX9_drift_26 rfl rfl rfl ?_
    refine ax_icmp_ge (tgt := 54) dX9_drift_27 (by decide) rfl (fun c27 => ?_) (fun c27 => ?_)
    · exact absurd c27 (cl_nle (by omega))
    · refine ax_iload_n (j := 3) dX9_drift_30 rfl rfl rfl ?_
      refine ax_bipush (v := 60) dX9_drift_31 (by decide) rfl ?_
      refine ax_icmp_ge (tgt := 54) dX9_drift_33 (by decide) rfl (fun c33 => ?_) (fun c33 => ?_)
      · exact absurd c33 (cl_nle (x := 60) (by have : (60 : Int32).toNatClampNeg = 60 := rfl; omega))
      · refine ax_aload_n (j := 0) dX9_drift_36 rfl rfl rfl ?_
        refine ad_V0v ksX9_meetByDraws lkX9_193 dX9_drift_37 rfl is0 rfl (Nat.le_of_ble_eq_true rfl) (Nat.le_of_ble_eq_true rfl) (s_X9_meetByDraws _ ) ?_
        refine ax_aload_n (j := 0) dX9_drift_40 rfl rfl rfl ?_
        refine am_getR flX9_19 dX9_drift_41 rfl is0 rfl ?_
        refine ax_iconst (v := 1) dX9_drift_44 (by decide) rfl ?_
        refine ad_V1v ksX5_passYears lkX9_158 dX9_drift_45 rfl isP3.o rfl (Nat.le_of_ble_eq_true rfl) (Nat.le_of_ble_eq_true rfl) (s_X5_passYears _ isP3 _) ?_
        refine ax_iinc3 (v := nI (j + 1)) dX9_drift_48 rfl (cl_inc j) (Nat.le_of_ble_eq_true rfl) rfl ?_
        refine ax_goto (tgt := 25) dX9_drift_51 (by decide) ?_
        have e1 : f_X9_drift_25 mem p0 v2 j m = (F_X5_passYears (F_X9_meetByDraws m) 3 1) := by simp only [f_X9_drift_25]
        simp only [ax_it, e1] at hx
        exact ih (j + 1) ((F_X5_passYears (F_X9_meetByDraws m) 3 1)) (by omega) hx
set_option maxRecDepth 20000 in
theorem s_X9_drift {G : ax_G} {l : Launch} (mem : ax_Me) (p0 : Int32) (hx : vp_in (mem 13 1) 20) : AD G l 4 mX9_drift [.ref 0, .int p0] mem (some (.int (F_X9_drift mem p0).1)) (F_X9_drift mem p0).2 := by
  refine ax_start (ls := [.ref 0, .int p0, .float 0, .float 0]) (u := 2) (by decide +kernel) (Nat.le_of_ble_eq_true rfl) (Nat.le_refl _) (Nat.le_refl _) rfl ?_
  refine ax_aload_n (j := 0) dX9_drift_0 rfl rfl rfl ?_
  refine ax_iload_n (j := 1) dX9_drift_1 rfl rfl rfl ?_
  refine ad_V1 ksX9_refusalOfYears lkX9_152 dX9_drift_2 rfl is0 rfl (Nat.le_of_ble_eq_true rfl) (Nat.le_of_ble_eq_true rfl) (s_X9_refusalOfYears _ _) ?_
  refine ax_ist2 dX9_drift_5 rfl rfl (Nat.le_of_ble_eq_true rfl) rfl ?_
  refine ax_iload_n (j := 2) dX9_drift_6 rfl rfl rfl ?_
  refine ax_if_eq (tgt := 12) dX9_drift_7 (by decide) rfl (fun c7 => ?_) (fun c7 => ?_)
  · refine ax_aload_n (j := 0) dX9_drift_12 rfl rfl rfl ?_
    refine am_getR flX9_29 dX9_drift_13 rfl is0 rfl ?_
    refine ax_aload_n (j := 0) dX9_drift_16 rfl rfl rfl ?_
    refine am_getR flX9_19 dX9_drift_17 rfl is0 rfl ?_
    refine ad_V1v ksX4_push lkX9_155 dX9_drift_20 rfl is13 rfl (Nat.le_of_ble_eq_true rfl) (Nat.le_of_ble_eq_true rfl) (s_X4_push _ isP3 (by assumption)) ?_
    refine ax_iconst (v := 0) dX9_drift_23 (by decide) rfl ?_
    refine ax_ist3 dX9_drift_24 rfl rfl (Nat.le_of_ble_eq_true rfl) rfl ?_
    refine lp_X9_drift_25 ((F_X4_push mem 3)) p0 ((F_X9_refusalOfYears mem p0))   (min (p0 : Int32).toNatClampNeg 60) (0) ((F_X4_push mem 3)) (Nat.zero_add _)  ?_
    refine ax_aload_n (j := 0) dX9_drift_54 rfl rfl rfl ?_
    refine am_getR flX9_19 dX9_drift_55 rfl is0 rfl ?_
    refine am_getI flX9_107 dX9_drift_58 rfl isP3.o rfl ?_
    exact ax_ireturn rfl dX9_drift_61 ⟨by simp only [F_X9_drift, if_pos c7], by simp only [F_X9_drift, if_pos c7]⟩
  · refine ax_iload_n (j := 2) dX9_drift_10 rfl rfl rfl ?_
    exact ax_ireturn rfl dX9_drift_11 ⟨by simp only [F_X9_drift, if_neg c7], by simp only [F_X9_drift, if_neg c7]⟩

def F_X9_sure (mem : ax_Me) (p0 : Int32) (p1 : Int32) (p2 : Int32) : Int32 :=
  (if (F_X9_isLongEnough mem p2) = 0 then (if (F_X9_refusal mem (F_X9_isAsked mem p0 p1 p2) 0 (F_X5_knows mem 3 p0 p1) 1) = 0 then (F_X2_sureness mem 3 (F_X5_memoryOf mem 3 p0 p1) p2 p1) else (F_X9_refusal mem (F_X9_isAsked mem p0 p1 p2) 0 (F_X5_knows mem 3 p0 p1) 1)) else (if (F_X9_hasBit mem p2 p1) = 0 then (if (F_X9_refusal mem (F_X9_isAsked mem p0 p1 p2) 0 (F_X5_knows mem 3 p0 p1) 1) = 0 then (F_X2_sureness mem 3 (F_X5_memoryOf mem 3 p0 p1) p2 p1) else (F_X9_refusal mem (F_X9_isAsked mem p0 p1 p2) 0 (F_X5_knows mem 3 p0 p1) 1)) else (if (F_X9_refusal mem (F_X9_isAsked mem p0 p1 p2) 1 (F_X5_knows mem 3 p0 p1) 1) = 0 then (F_X2_sureness mem 3 (F_X5_memoryOf mem 3 p0 p1) p2 p1) else (F_X9_refusal mem (F_X9_isAsked mem p0 p1 p2) 1 (F_X5_knows mem 3 p0 p1) 1))))
set_option maxRecDepth 20000 in
theorem s_X9_sure {G : ax_G} {l : Launch} (mem : ax_Me) (p0 : Int32) (p1 : Int32) (p2 : Int32)  : AD G l 5 mX9_sure [.ref 0, .int p0, .int p1, .int p2] mem (some (.int (F_X9_sure mem p0 p1 p2))) mem := by
  refine ax_start (ls := [.ref 0, .int p0, .int p1, .int p2, .float 0]) (u := 1) (by decide +kernel) (Nat.le_of_ble_eq_true rfl) (Nat.le_refl _) (Nat.le_refl _) rfl ?_
  refine ax_aload_n (j := 0) dX9_sure_0 rfl rfl rfl ?_
  refine ax_iload_n (j := 1) dX9_sure_1 rfl rfl rfl ?_
  refine ax_iload_n (j := 2) dX9_sure_2 rfl rfl rfl ?_
  refine ax_iload_n (j := 3) dX9_sure_3 rfl rfl rfl ?_
  refine ad_V3 ksX9_isAsked lkX9_177 dX9_sure_4 rfl is0 rfl (Nat.le_of_ble_eq_true rfl) (Nat.le_of_ble_eq_true rfl) (s_X9_isAsked _ _ _ _) ?_
  refine ax_iload_n (j := 3) dX9_sure_7 rfl rfl rfl ?_
  refine ad_S1 ksX9_isLongEnough lkX9_180 dX9_sure_8 rfl (Nat.le_of_ble_eq_true rfl) (Nat.le_of_ble_eq_true rfl) (s_X9_isLongEnough _ _) ?_
  refine ax_if_eq (tgt := 26) dX9_sure_11 (by decide) rfl (fun c11 => ?_) (fun c11 => ?_)
  · refine ax_iconst (v := 0) dX9_sure_26 (by decide) rfl ?_
    refine ax_aload_n (j := 0) dX9_sure_27 rfl rfl rfl ?_
    refine am_getR flX9_19 dX9_sure_28 rfl is0 rfl ?_
    refine ax_iload_n (j := 1) dX9_sure_31 rfl rfl rfl ?_
    refine ax_iload_n (j := 2) dX9_sure_32 rfl rfl rfl ?_
    refine ad_V2 ksX5_knows lkX9_171 dX9_sure_33 rfl isP3.o rfl (Nat.le_of_ble_eq_true rfl) (Nat.le_of_ble_eq_true rfl) (s_X5_knows _ isP3 _ _) ?_
    refine ax_iconst (v := 1) dX9_sure_36 (by decide) rfl ?_
    refine ad_S4 ksX9_refusal lkX9_72 dX9_sure_37 rfl (Nat.le_of_ble_eq_true rfl) (Nat.le_of_ble_eq_true rfl) (s_X9_refusal _ _ _ _ _) ?_
    refine ax_ist4 dX9_sure_40 rfl (Nat.le_of_ble_eq_true rfl) rfl ?_
    refine ax_iload dX9_sure_42 rfl rfl ?_
    refine ax_if_eq (tgt := 52) dX9_sure_44 (by decide) rfl (fun c44 => ?_) (fun c44 => ?_)
    · refine ax_aload_n (j := 0) dX9_sure_52 rfl rfl rfl ?_
      refine am_getR flX9_19 dX9_sure_53 rfl is0 rfl ?_
      refine ax_aload_n (j := 0) dX9_sure_56 rfl rfl rfl ?_
      refine am_getR flX9_19 dX9_sure_57 rfl is0 rfl ?_
      refine ax_iload_n (j := 1) dX9_sure_60 rfl rfl rfl ?_
      refine ax_iload_n (j := 2) dX9_sure_61 rfl rfl rfl ?_
      refine ad_V2 ksX5_memoryOf lkX9_148 dX9_sure_62 rfl isP3.o rfl (Nat.le_of_ble_eq_true rfl) (Nat.le_of_ble_eq_true rfl) (s_X5_memoryOf _ isP3 _ _) ?_
      refine ax_iload_n (j := 3) dX9_sure_65 rfl rfl rfl ?_
      refine ax_iload_n (j := 2) dX9_sure_66 rfl rfl rfl ?_
      refine ad_S4 ksX2_sureness lkX9_204 dX9_sure_67 rfl (Nat.le_of_ble_eq_true rfl) (Nat.le_of_ble_eq_true rfl) (s_X2_sureness _ isP3 _ _ _) ?_
      exact ax_ireturn rfl dX9_sure_70 ⟨by simp only [F_X9_sure, if_pos c11, if_pos c44], rfl⟩
    · refine ax_iload dX9_sure_47 rfl rfl ?_
      refine ax_goto (tgt := 70) dX9_sure_49 (by decide) ?_
      exact ax_ireturn rfl dX9_sure_70 ⟨by simp only [F_X9_sure, if_pos c11, if_neg c44], rfl⟩
  · refine ax_iload_n (j := 3) dX9_sure_14 rfl rfl rfl ?_
    refine ax_iload_n (j := 2) dX9_sure_15 rfl rfl rfl ?_
    refine ad_S2 ksX9_hasBit lkX9_201 dX9_sure_16 rfl (Nat.le_of_ble_eq_true rfl) (Nat.le_of_ble_eq_true rfl) (s_X9_hasBit _ _ _) ?_
    refine ax_if_eq (tgt := 26) dX9_sure_19 (by decide) rfl (fun c19 => ?_) (fun c19 => ?_)
    · refine ax_iconst (v := 0) dX9_sure_26 (by decide) rfl ?_
      refine ax_aload_n (j := 0) dX9_sure_27 rfl rfl rfl ?_
      refine am_getR flX9_19 dX9_sure_28 rfl is0 rfl ?_
      refine ax_iload_n (j := 1) dX9_sure_31 rfl rfl rfl ?_
      refine ax_iload_n (j := 2) dX9_sure_32 rfl rfl rfl ?_
      refine ad_V2 ksX5_knows lkX9_171 dX9_sure_33 rfl isP3.o rfl (Nat.le_of_ble_eq_true rfl) (Nat.le_of_ble_eq_true rfl) (s_X5_knows _ isP3 _ _) ?_
      refine ax_iconst (v := 1) dX9_sure_36 (by decide) rfl ?_
      refine ad_S4 ksX9_refusal lkX9_72 dX9_sure_37 rfl (Nat.le_of_ble_eq_true rfl) (Nat.le_of_ble_eq_true rfl) (s_X9_refusal _ _ _ _ _) ?_
      refine ax_ist4 dX9_sure_40 rfl (Nat.le_of_ble_eq_true rfl) rfl ?_
      refine ax_iload dX9_sure_42 rfl rfl ?_
      refine ax_if_eq (tgt := 52) dX9_sure_44 (by decide) rfl (fun c44 => ?_) (fun c44 => ?_)
      · refine ax_aload_n (j := 0) dX9_sure_52 rfl rfl rfl ?_
        refine am_getR flX9_19 dX9_sure_53 rfl is0 rfl ?_
        refine ax_aload_n (j := 0) dX9_sure_56 rfl rfl rfl ?_
        refine am_getR flX9_19 dX9_sure_57 rfl is0 rfl ?_
        refine ax_iload_n (j := 1) dX9_sure_60 rfl rfl rfl ?_
        refine ax_iload_n (j := 2) dX9_sure_61 rfl rfl rfl ?_
        refine ad_V2 ksX5_memoryOf lkX9_148 dX9_sure_62 rfl isP3.o rfl (Nat.le_of_ble_eq_true rfl) (Nat.le_of_ble_eq_true rfl) (s_X5_memoryOf _ isP3 _ _) ?_
        refine ax_iload_n (j := 3) dX9_sure_65 rfl rfl rfl ?_
        refine ax_iload_n (j := 2) dX9_sure_66 rfl rfl rfl ?_
        refine ad_S4 ksX2_sureness lkX9_204 dX9_sure_67 rfl (Nat.le_of_ble_eq_true rfl) (Nat.le_of_ble_eq_true rfl) (s_X2_sureness _ isP3 _ _ _) ?_
        exact ax_ireturn rfl dX9_sure_70 ⟨by simp only [F_X9_sure, if_neg c11, if_pos c19, if_pos c44], rfl⟩
      · refine ax_iload dX9_sure_47 rfl rfl ?_
        refine ax_goto (tgt := 70) dX9_sure_49 (by decide) ?_
        exact ax_ireturn rfl dX9_sure_70 ⟨by simp only [F_X9_sure, if_neg c11, if_pos c19, if_neg c44], rfl⟩
    · refine ax_iconst (v := 1) dX9_sure_22 (by decide) rfl ?_
      refine ax_goto (tgt := 27) dX9_sure_23 (by decide) ?_
      refine ax_aload_n (j := 0) dX9_sure_27 rfl rfl rfl ?_
      refine am_getR flX9_19 dX9_sure_28 rfl is0 rfl ?_
      refine ax_iload_n (j := 1) dX9_sure_31 rfl rfl rfl ?_
      refine ax_iload_n (j := 2) dX9_sure_32 rfl rfl rfl ?_
      refine ad_V2 ksX5_knows lkX9_171 dX9_sure_33 rfl isP3.o rfl (Nat.le_of_ble_eq_true rfl) (Nat.le_of_ble_eq_true rfl) (s_X5_knows _ isP3 _ _) ?_
      refine ax_iconst (v := 1) dX9_sure_36 (by decide) rfl ?_
      refine ad_S4 ksX9_refusal lkX9_72 dX9_sure_37 rfl (Nat.le_of_ble_eq_true rfl) (Nat.le_of_ble_eq_true rfl) (s_X9_refusal _ _ _ _ _) ?_
      refine ax_ist4 dX9_sure_40 rfl (Nat.le_of_ble_eq_true rfl) rfl ?_
      refine ax_iload dX9_sure_42 rfl rfl ?_
      refine ax_if_eq (tgt := 52) dX9_sure_44 (by decide) rfl (fun c44 => ?_) (fun c44 => ?_)
      · refine ax_aload_n (j := 0) dX9_sure_52 rfl rfl rfl ?_
        refine am_getR flX9_19 dX9_sure_53 rfl is0 rfl ?_
        refine ax_aload_n (j := 0) dX9_sure_56 rfl rfl rfl ?_
        refine am_getR flX9_19 dX9_sure_57 rfl is0 rfl ?_
        refine ax_iload_n (j := 1) dX9_sure_60 rfl rfl rfl ?_
        refine ax_iload_n (j := 2) dX9_sure_61 rfl rfl rfl ?_
        refine ad_V2 ksX5_memoryOf lkX9_148 dX9_sure_62 rfl isP3.o rfl (Nat.le_of_ble_eq_true rfl) (Nat.le_of_ble_eq_true rfl) (s_X5_memoryOf _ isP3 _ _) ?_
        refine ax_iload_n (j := 3) dX9_sure_65 rfl rfl rfl ?_
        refine ax_iload_n (j := 2) dX9_sure_66 rfl rfl rfl ?_
        refine ad_S4 ksX2_sureness lkX9_204 dX9_sure_67 rfl (Nat.le_of_ble_eq_true rfl) (Nat.le_of_ble_eq_true rfl) (s_X2_sureness _ isP3 _ _ _) ?_
        exact ax_ireturn rfl dX9_sure_70 ⟨by simp only [F_X9_sure, if_neg c11, if_neg c19, if_pos c44], rfl⟩
      · refine ax_iload dX9_sure_47 rfl rfl ?_
        refine ax_goto (tgt := 70) dX9_sure_49 (by decide) ?_
        exact ax_ireturn rfl dX9_sure_70 ⟨by simp only [F_X9_sure, if_neg c11, if_neg c19, if_neg c44], rfl⟩

def F_X9_odds (mem : ax_Me) (p0 : Int32) (p1 : Int32) (p2 : Int32) (p3 : Int32) : Int32 :=
  (if (F_X9_isAsked mem p0 p1 p2) = 0 then (if (F_X9_refusal mem 0 (F_X9_isLongEnough mem p2) (F_X5_knows mem 3 p0 p1) 1) = 0 then (F_X2_oddsOf mem 3 (F_X5_memoryOf mem 3 p0 p1) p2 p3) else (F_X9_refusal mem 0 (F_X9_isLongEnough mem p2) (F_X5_knows mem 3 p0 p1) 1)) else (if (F_X5_has mem 3 p3) = 0 then (if (F_X9_refusal mem 0 (F_X9_isLongEnough mem p2) (F_X5_knows mem 3 p0 p1) 1) = 0 then (F_X2_oddsOf mem 3 (F_X5_memoryOf mem 3 p0 p1) p2 p3) else (F_X9_refusal mem 0 (F_X9_isLongEnough mem p2) (F_X5_knows mem 3 p0 p1) 1)) else (if (F_X9_refusal mem 1 (F_X9_isLongEnough mem p2) (F_X5_knows mem 3 p0 p1) 1) = 0 then (F_X2_oddsOf mem 3 (F_X5_memoryOf mem 3 p0 p1) p2 p3) else (F_X9_refusal mem 1 (F_X9_isLongEnough mem p2) (F_X5_knows mem 3 p0 p1) 1))))
set_option maxRecDepth 20000 in
theorem s_X9_odds {G : ax_G} {l : Launch} (mem : ax_Me) (p0 : Int32) (p1 : Int32) (p2 : Int32) (p3 : Int32)  : AD G l 5 mX9_odds [.ref 0, .int p0, .int p1, .int p2, .int p3] mem (some (.int (F_X9_odds mem p0 p1 p2 p3))) mem := by
  refine ax_start (ls := [.ref 0, .int p0, .int p1, .int p2, .int p3, .float 0]) (u := 1) (by decide +kernel) (Nat.le_of_ble_eq_true rfl) (Nat.le_refl _) (Nat.le_refl _) rfl ?_
  refine ax_aload_n (j := 0) dX9_odds_0 rfl rfl rfl ?_
  refine ax_iload_n (j := 1) dX9_odds_1 rfl rfl rfl ?_
  refine ax_iload_n (j := 2) dX9_odds_2 rfl rfl rfl ?_
  refine ax_iload_n (j := 3) dX9_odds_3 rfl rfl rfl ?_
  refine ad_V3 ksX9_isAsked lkX9_177 dX9_odds_4 rfl is0 rfl (Nat.le_of_ble_eq_true rfl) (Nat.le_of_ble_eq_true rfl) (s_X9_isAsked _ _ _ _) ?_
  refine ax_if_eq (tgt := 26) dX9_odds_7 (by decide) rfl (fun c7 => ?_) (fun c7 => ?_)
  · refine ax_iconst (v := 0) dX9_odds_26 (by decide) rfl ?_
    refine ax_iload_n (j := 3) dX9_odds_27 rfl rfl rfl ?_
    refine ad_S1 ksX9_isLongEnough lkX9_180 dX9_odds_28 rfl (Nat.le_of_ble_eq_true rfl) (Nat.le_of_ble_eq_true rfl) (s_X9_isLongEnough _ _) ?_
    refine ax_aload_n (j := 0) dX9_odds_31 rfl rfl rfl ?_
    refine am_getR flX9_19 dX9_odds_32 rfl is0 rfl ?_
    refine ax_iload_n (j := 1) dX9_odds_35 rfl rfl rfl ?_
    refine ax_iload_n (j := 2) dX9_odds_36 rfl rfl rfl ?_
    refine ad_V2 ksX5_knows lkX9_171 dX9_odds_37 rfl isP3.o rfl (Nat.le_of_ble_eq_true rfl) (Nat.le_of_ble_eq_true rfl) (s_X5_knows _ isP3 _ _) ?_
    refine ax_iconst (v := 1) dX9_odds_40 (by decide) rfl ?_
    refine ad_S4 ksX9_refusal lkX9_72 dX9_odds_41 rfl (Nat.le_of_ble_eq_true rfl) (Nat.le_of_ble_eq_true rfl) (s_X9_refusal _ _ _ _ _) ?_
    refine ax_ist5 dX9_odds_44 rfl (Nat.le_of_ble_eq_true rfl) rfl ?_
    refine ax_iload dX9_odds_46 rfl rfl ?_
    refine ax_if_eq (tgt := 56) dX9_odds_48 (by decide) rfl (fun c48 => ?_) (fun c48 => ?_)
    · refine ax_aload_n (j := 0) dX9_odds_56 rfl rfl rfl ?_
      refine am_getR flX9_19 dX9_odds_57 rfl is0 rfl ?_
      refine ax_aload_n (j := 0) dX9_odds_60 rfl rfl rfl ?_
      refine am_getR flX9_19 dX9_odds_61 rfl is0 rfl ?_
      refine ax_iload_n (j := 1) dX9_odds_64 rfl rfl rfl ?_
      refine ax_iload_n (j := 2) dX9_odds_65 rfl rfl rfl ?_
      refine ad_V2 ksX5_memoryOf lkX9_148 dX9_odds_66 rfl isP3.o rfl (Nat.le_of_ble_eq_true rfl) (Nat.le_of_ble_eq_true rfl) (s_X5_memoryOf _ isP3 _ _) ?_
      refine ax_iload_n (j := 3) dX9_odds_69 rfl rfl rfl ?_
      refine ax_iload dX9_odds_70 rfl rfl ?_
      refine ad_S4 ksX2_oddsOf lkX9_216 dX9_odds_72 rfl (Nat.le_of_ble_eq_true rfl) (Nat.le_of_ble_eq_true rfl) (s_X2_oddsOf _ isP3 _ _ _) ?_
      exact ax_ireturn rfl dX9_odds_75 ⟨by simp only [F_X9_odds, if_pos c7, if_pos c48], rfl⟩
    · refine ax_iload dX9_odds_51 rfl rfl ?_
      refine ax_goto (tgt := 75) dX9_odds_53 (by decide) ?_
      exact ax_ireturn rfl dX9_odds_75 ⟨by simp only [F_X9_odds, if_pos c7, if_neg c48], rfl⟩
  · refine ax_aload_n (j := 0) dX9_odds_10 rfl rfl rfl ?_
    refine am_getR flX9_19 dX9_odds_11 rfl is0 rfl ?_
    refine ax_iload dX9_odds_14 rfl rfl ?_
    refine ad_V1 ksX5_has lkX9_124 dX9_odds_16 rfl isP3.o rfl (Nat.le_of_ble_eq_true rfl) (Nat.le_of_ble_eq_true rfl) (s_X5_has _ isP3 _) ?_
    refine ax_if_eq (tgt := 26) dX9_odds_19 (by decide) rfl (fun c19 => ?_) (fun c19 => ?_)
    · refine ax_iconst (v := 0) dX9_odds_26 (by decide) rfl ?_
      refine ax_iload_n (j := 3) dX9_odds_27 rfl rfl rfl ?_
      refine ad_S1 ksX9_isLongEnough lkX9_180 dX9_odds_28 rfl (Nat.le_of_ble_eq_true rfl) (Nat.le_of_ble_eq_true rfl) (s_X9_isLongEnough _ _) ?_
      refine ax_aload_n (j := 0) dX9_odds_31 rfl rfl rfl ?_
      refine am_getR flX9_19 dX9_odds_32 rfl is0 rfl ?_
      refine ax_iload_n (j := 1) dX9_odds_35 rfl rfl rfl ?_
      refine ax_iload_n (j := 2) dX9_odds_36 rfl rfl rfl ?_
      refine ad_V2 ksX5_knows lkX9_171 dX9_odds_37 rfl isP3.o rfl (Nat.le_of_ble_eq_true rfl) (Nat.le_of_ble_eq_true rfl) (s_X5_knows _ isP3 _ _) ?_
      refine ax_iconst (v := 1) dX9_odds_40 (by decide) rfl ?_
      refine ad_S4 ksX9_refusal lkX9_72 dX9_odds_41 rfl (Nat.le_of_ble_eq_true rfl) (Nat.le_of_ble_eq_true rfl) (s_X9_refusal _ _ _ _ _) ?_
      refine ax_ist5 dX9_odds_44 rfl (Nat.le_of_ble_eq_true rfl) rfl ?_
      refine ax_iload dX9_odds_46 rfl rfl ?_
      refine ax_if_eq (tgt := 56) dX9_odds_48 (by decide) rfl (fun c48 => ?_) (fun c48 => ?_)
      · refine ax_aload_n (j := 0) dX9_odds_56 rfl rfl rfl ?_
        refine am_getR flX9_19 dX9_odds_57 rfl is0 rfl ?_
        refine ax_aload_n (j := 0) dX9_odds_60 rfl rfl rfl ?_
        refine am_getR flX9_19 dX9_odds_61 rfl is0 rfl ?_
        refine ax_iload_n (j := 1) dX9_odds_64 rfl rfl rfl ?_
        refine ax_iload_n (j := 2) dX9_odds_65 rfl rfl rfl ?_
        refine ad_V2 ksX5_memoryOf lkX9_148 dX9_odds_66 rfl isP3.o rfl (Nat.le_of_ble_eq_true rfl) (Nat.le_of_ble_eq_true rfl) (s_X5_memoryOf _ isP3 _ _) ?_
        refine ax_iload_n (j := 3) dX9_odds_69 rfl rfl rfl ?_
        refine ax_iload dX9_odds_70 rfl rfl ?_
        refine ad_S4 ksX2_oddsOf lkX9_216 dX9_odds_72 rfl (Nat.le_of_ble_eq_true rfl) (Nat.le_of_ble_eq_true rfl) (s_X2_oddsOf _ isP3 _ _ _) ?_
        exact ax_ireturn rfl dX9_odds_75 ⟨by simp only [F_X9_odds, if_neg c7, if_pos c19, if_pos c48], rfl⟩
      · refine ax_iload dX9_odds_51 rfl rfl ?_
        refine ax_goto (tgt := 75) dX9_odds_53 (by decide) ?_
        exact ax_ireturn rfl dX9_odds_75 ⟨by simp only [F_X9_odds, if_neg c7, if_pos c19, if_neg c48], rfl⟩
    · refine ax_iconst (v := 1) dX9_odds_22 (by decide) rfl ?_
      refine ax_goto (tgt := 27) dX9_odds_23 (by decide) ?_
      refine ax_iload_n (j := 3) dX9_odds_27 rfl rfl rfl ?_
      refine ad_S1 ksX9_isLongEnough lkX9_180 dX9_odds_28 rfl (Nat.le_of_ble_eq_true rfl) (Nat.le_of_ble_eq_true rfl) (s_X9_isLongEnough _ _) ?_
      refine ax_aload_n (j := 0) dX9_odds_31 rfl rfl rfl ?_
      refine am_getR flX9_19 dX9_odds_32 rfl is0 rfl ?_
      refine ax_iload_n (j := 1) dX9_odds_35 rfl rfl rfl ?_
      refine ax_iload_n (j := 2) dX9_odds_36 rfl rfl rfl ?_
      refine ad_V2 ksX5_knows lkX9_171 dX9_odds_37 rfl isP3.o rfl (Nat.le_of_ble_eq_true rfl) (Nat.le_of_ble_eq_true rfl) (s_X5_knows _ isP3 _ _) ?_
      refine ax_iconst (v := 1) dX9_odds_40 (by decide) rfl ?_
      refine ad_S4 ksX9_refusal lkX9_72 dX9_odds_41 rfl (Nat.le_of_ble_eq_true rfl) (Nat.le_of_ble_eq_true rfl) (s_X9_refusal _ _ _ _ _) ?_
      refine ax_ist5 dX9_odds_44 rfl (Nat.le_of_ble_eq_true rfl) rfl ?_
      refine ax_iload dX9_odds_46 rfl rfl ?_
      refine ax_if_eq (tgt := 56) dX9_odds_48 (by decide) rfl (fun c48 => ?_) (fun c48 => ?_)
      · refine ax_aload_n (j := 0) dX9_odds_56 rfl rfl rfl ?_
        refine am_getR flX9_19 dX9_odds_57 rfl is0 rfl ?_
        refine ax_aload_n (j := 0) dX9_odds_60 rfl rfl rfl ?_
        refine am_getR flX9_19 dX9_odds_61 rfl is0 rfl ?_
        refine ax_iload_n (j := 1) dX9_odds_64 rfl rfl rfl ?_
        refine ax_iload_n (j := 2) dX9_odds_65 rfl rfl rfl ?_
        refine ad_V2 ksX5_memoryOf lkX9_148 dX9_odds_66 rfl isP3.o rfl (Nat.le_of_ble_eq_true rfl) (Nat.le_of_ble_eq_true rfl) (s_X5_memoryOf _ isP3 _ _) ?_
        refine ax_iload_n (j := 3) dX9_odds_69 rfl rfl rfl ?_
        refine ax_iload dX9_odds_70 rfl rfl ?_
        refine ad_S4 ksX2_oddsOf lkX9_216 dX9_odds_72 rfl (Nat.le_of_ble_eq_true rfl) (Nat.le_of_ble_eq_true rfl) (s_X2_oddsOf _ isP3 _ _ _) ?_
        exact ax_ireturn rfl dX9_odds_75 ⟨by simp only [F_X9_odds, if_neg c7, if_neg c19, if_pos c48], rfl⟩
      · refine ax_iload dX9_odds_51 rfl rfl ?_
        refine ax_goto (tgt := 75) dX9_odds_53 (by decide) ?_
        exact ax_ireturn rfl dX9_odds_75 ⟨by simp only [F_X9_odds, if_neg c7, if_neg c19, if_neg c48], rfl⟩

def F_X9_ask (mem : ax_Me) (p0 : Int32) (p1 : Int32) : Int32 :=
  (if (F_X5_has mem 3 p0) = 0 then (if (F_X9_isLongEnough mem p1) = 0 then (if (F_X9_refusal mem 0 0 1 1) = 0 then (F_X6_surestWitness mem 3 p0 p1) else (F_X9_refusal mem 0 0 1 1)) else (if (F_X9_hasBit mem p1 p0) = 0 then (if (F_X9_refusal mem 0 0 1 1) = 0 then (F_X6_surestWitness mem 3 p0 p1) else (F_X9_refusal mem 0 0 1 1)) else (if (F_X9_refusal mem 0 1 1 1) = 0 then (F_X6_surestWitness mem 3 p0 p1) else (F_X9_refusal mem 0 1 1 1)))) else (if (F_X5_holdsAll mem 3 p1) = 0 then (if (F_X9_isLongEnough mem p1) = 0 then (if (F_X9_refusal mem 0 0 1 1) = 0 then (F_X6_surestWitness mem 3 p0 p1) else (F_X9_refusal mem 0 0 1 1)) else (if (F_X9_hasBit mem p1 p0) = 0 then (if (F_X9_refusal mem 0 0 1 1) = 0 then (F_X6_surestWitness mem 3 p0 p1) else (F_X9_refusal mem 0 0 1 1)) else (if (F_X9_refusal mem 0 1 1 1) = 0 then (F_X6_surestWitness mem 3 p0 p1) else (F_X9_refusal mem 0 1 1 1)))) else (if (F_X9_isLongEnough mem p1) = 0 then (if (F_X9_refusal mem 1 0 1 1) = 0 then (F_X6_surestWitness mem 3 p0 p1) else (F_X9_refusal mem 1 0 1 1)) else (if (F_X9_hasBit mem p1 p0) = 0 then (if (F_X9_refusal mem 1 0 1 1) = 0 then (F_X6_surestWitness mem 3 p0 p1) else (F_X9_refusal mem 1 0 1 1)) else (if (F_X9_refusal mem 1 1 1 1) = 0 then (F_X6_surestWitness mem 3 p0 p1) else (F_X9_refusal mem 1 1 1 1))))))
set_option maxRecDepth 20000 in
theorem s_X9_ask {G : ax_G} {l : Launch} (mem : ax_Me) (p0 : Int32) (p1 : Int32)  : AD G l 6 mX9_ask [.ref 0, .int p0, .int p1] mem (some (.int (F_X9_ask mem p0 p1))) mem := by
  refine ax_start (ls := [.ref 0, .int p0, .int p1, .float 0]) (u := 1) (by decide +kernel) (Nat.le_of_ble_eq_true rfl) (Nat.le_refl _) (Nat.le_refl _) rfl ?_
  refine ax_aload_n (j := 0) dX9_ask_0 rfl rfl rfl ?_
  refine am_getR flX9_19 dX9_ask_1 rfl is0 rfl ?_
  refine ax_iload_n (j := 1) dX9_ask_4 rfl rfl rfl ?_
  refine ad_V1 ksX5_has lkX9_124 dX9_ask_5 rfl isP3.o rfl (Nat.le_of_ble_eq_true rfl) (Nat.le_of_ble_eq_true rfl) (s_X5_has _ isP3 _) ?_
  refine ax_if_eq (tgt := 26) dX9_ask_8 (by decide) rfl (fun c8 => ?_) (fun c8 => ?_)
  · refine ax_iconst (v := 0) dX9_ask_26 (by decide) rfl ?_
    refine ax_iload_n (j := 2) dX9_ask_27 rfl rfl rfl ?_
    refine ad_S1 ksX9_isLongEnough lkX9_180 dX9_ask_28 rfl (Nat.le_of_ble_eq_true rfl) (Nat.le_of_ble_eq_true rfl) (s_X9_isLongEnough _ _) ?_
    refine ax_if_eq (tgt := 46) dX9_ask_31 (by decide) rfl (fun c31 => ?_) (fun c31 => ?_)
    · refine ax_iconst (v := 0) dX9_ask_46 (by decide) rfl ?_
      refine ax_iconst (v := 1) dX9_ask_47 (by decide) rfl ?_
      refine ax_iconst (v := 1) dX9_ask_48 (by decide) rfl ?_
      refine ad_S4 ksX9_refusal lkX9_72 dX9_ask_49 rfl (Nat.le_of_ble_eq_true rfl) (Nat.le_of_ble_eq_true rfl) (s_X9_refusal _ _ _ _ _) ?_
      refine ax_ist3 dX9_ask_52 rfl rfl (Nat.le_of_ble_eq_true rfl) rfl ?_
      refine ax_iload_n (j := 3) dX9_ask_53 rfl rfl rfl ?_
      refine ax_if_eq (tgt := 61) dX9_ask_54 (by decide) rfl (fun c54 => ?_) (fun c54 => ?_)
      · refine ax_aload_n (j := 0) dX9_ask_61 rfl rfl rfl ?_
        refine am_getR flX9_19 dX9_ask_62 rfl is0 rfl ?_
        refine ax_iload_n (j := 1) dX9_ask_65 rfl rfl rfl ?_
        refine ax_iload_n (j := 2) dX9_ask_66 rfl rfl rfl ?_
        refine ad_S3 ksX6_surestWitness lkX9_222 dX9_ask_67 rfl (Nat.le_of_ble_eq_true rfl) (Nat.le_of_ble_eq_true rfl) (s_X6_surestWitness _ isP3 _ _) ?_
        exact ax_ireturn rfl dX9_ask_70 ⟨by simp only [F_X9_ask, if_pos c8, if_pos c31, if_pos c54], rfl⟩
      · refine ax_iload_n (j := 3) dX9_ask_57 rfl rfl rfl ?_
        refine ax_goto (tgt := 70) dX9_ask_58 (by decide) ?_
        exact ax_ireturn rfl dX9_ask_70 ⟨by simp only [F_X9_ask, if_pos c8, if_pos c31, if_neg c54], rfl⟩
    · refine ax_iload_n (j := 2) dX9_ask_34 rfl rfl rfl ?_
      refine ax_iload_n (j := 1) dX9_ask_35 rfl rfl rfl ?_
      refine ad_S2 ksX9_hasBit lkX9_201 dX9_ask_36 rfl (Nat.le_of_ble_eq_true rfl) (Nat.le_of_ble_eq_true rfl) (s_X9_hasBit _ _ _) ?_
      refine ax_if_eq (tgt := 46) dX9_ask_39 (by decide) rfl (fun c39 => ?_) (fun c39 => ?_)
      · refine ax_iconst (v := 0) dX9_ask_46 (by decide) rfl ?_
        refine ax_iconst (v := 1) dX9_ask_47 (by decide) rfl ?_
        refine ax_iconst (v := 1) dX9_ask_48 (by decide) rfl ?_
        refine ad_S4 ksX9_refusal lkX9_72 dX9_ask_49 rfl (Nat.le_of_ble_eq_true rfl) (Nat.le_of_ble_eq_true rfl) (s_X9_refusal _ _ _ _ _) ?_
        refine ax_ist3 dX9_ask_52 rfl rfl (Nat.le_of_ble_eq_true rfl) rfl ?_
        refine ax_iload_n (j := 3) dX9_ask_53 rfl rfl rfl ?_
        refine ax_if_eq (tgt := 61) dX9_ask_54 (by decide) rfl (fun c54 => ?_) (fun c54 => ?_)
        · refine ax_aload_n (j := 0) dX9_ask_61 rfl rfl rfl ?_
          refine am_getR flX9_19 dX9_ask_62 rfl is0 rfl ?_
          refine ax_iload_n (j := 1) dX9_ask_65 rfl rfl rfl ?_
          refine ax_iload_n (j := 2) dX9_ask_66 rfl rfl rfl ?_
          refine ad_S3 ksX6_surestWitness lkX9_222 dX9_ask_67 rfl (Nat.le_of_ble_eq_true rfl) (Nat.le_of_ble_eq_true rfl) (s_X6_surestWitness _ isP3 _ _) ?_
          exact ax_ireturn rfl dX9_ask_70 ⟨by simp only [F_X9_ask, if_pos c8, if_neg c31, if_pos c39, if_pos c54], rfl⟩
        · refine ax_iload_n (j := 3) dX9_ask_57 rfl rfl rfl ?_
          refine ax_goto (tgt := 70) dX9_ask_58 (by decide) ?_
          exact ax_ireturn rfl dX9_ask_70 ⟨by simp only [F_X9_ask, if_pos c8, if_neg c31, if_pos c39, if_neg c54], rfl⟩
      · refine ax_iconst (v := 1) dX9_ask_42 (by decide) rfl ?_
        refine ax_goto (tgt := 47) dX9_ask_43 (by decide) ?_
        refine ax_iconst (v := 1) dX9_ask_47 (by decide) rfl ?_
        refine ax_iconst (v := 1) dX9_ask_48 (by decide) rfl ?_
        refine ad_S4 ksX9_refusal lkX9_72 dX9_ask_49 rfl (Nat.le_of_ble_eq_true rfl) (Nat.le_of_ble_eq_true rfl) (s_X9_refusal _ _ _ _ _) ?_
        refine ax_ist3 dX9_ask_52 rfl rfl (Nat.le_of_ble_eq_true rfl) rfl ?_
        refine ax_iload_n (j := 3) dX9_ask_53 rfl rfl rfl ?_
        refine ax_if_eq (tgt := 61) dX9_ask_54 (by decide) rfl (fun c54 => ?_) (fun c54 => ?_)
        · refine ax_aload_n (j := 0) dX9_ask_61 rfl rfl rfl ?_
          refine am_getR flX9_19 dX9_ask_62 rfl is0 rfl ?_
          refine ax_iload_n (j := 1) dX9_ask_65 rfl rfl rfl ?_
          refine ax_iload_n (j := 2) dX9_ask_66 rfl rfl rfl ?_
          refine ad_S3 ksX6_surestWitness lkX9_222 dX9_ask_67 rfl (Nat.le_of_ble_eq_true rfl) (Nat.le_of_ble_eq_true rfl) (s_X6_surestWitness _ isP3 _ _) ?_
          exact ax_ireturn rfl dX9_ask_70 ⟨by simp only [F_X9_ask, if_pos c8, if_neg c31, if_neg c39, if_pos c54], rfl⟩
        · refine ax_iload_n (j := 3) dX9_ask_57 rfl rfl rfl ?_
          refine ax_goto (tgt := 70) dX9_ask_58 (by decide) ?_
          exact ax_ireturn rfl dX9_ask_70 ⟨by simp only [F_X9_ask, if_pos c8, if_neg c31, if_neg c39, if_neg c54], rfl⟩
  · refine ax_aload_n (j := 0) dX9_ask_11 rfl rfl rfl ?_
    refine am_getR flX9_19 dX9_ask_12 rfl is0 rfl ?_
    refine ax_iload_n (j := 2) dX9_ask_15 rfl rfl rfl ?_
    refine ad_V1 ksX5_holdsAll lkX9_219 dX9_ask_16 rfl isP3.o rfl (Nat.le_of_ble_eq_true rfl) (Nat.le_of_ble_eq_true rfl) (s_X5_holdsAll _ isP3 _) ?_
    refine ax_if_eq (tgt := 26) dX9_ask_19 (by decide) rfl (fun c19 => ?_) (fun c19 => ?_)
    · refine ax_iconst (v := 0) dX9_ask_26 (by decide) rfl ?_
      refine ax_iload_n (j := 2) dX9_ask_27 rfl rfl rfl ?_
      refine ad_S1 ksX9_isLongEnough lkX9_180 dX9_ask_28 rfl (Nat.le_of_ble_eq_true rfl) (Nat.le_of_ble_eq_true rfl) (s_X9_isLongEnough _ _) ?_
      refine ax_if_eq (tgt := 46) dX9_ask_31 (by decide) rfl (fun c31 => ?_) (fun c31 => ?_)
      · refine ax_iconst (v := 0) dX9_ask_46 (by decide) rfl ?_
        refine ax_iconst (v := 1) dX9_ask_47 (by decide) rfl ?_
        refine ax_iconst (v := 1) dX9_ask_48 (by decide) rfl ?_
        refine ad_S4 ksX9_refusal lkX9_72 dX9_ask_49 rfl (Nat.le_of_ble_eq_true rfl) (Nat.le_of_ble_eq_true rfl) (s_X9_refusal _ _ _ _ _) ?_
        refine ax_ist3 dX9_ask_52 rfl rfl (Nat.le_of_ble_eq_true rfl) rfl ?_
        refine ax_iload_n (j := 3) dX9_ask_53 rfl rfl rfl ?_
        refine ax_if_eq (tgt := 61) dX9_ask_54 (by decide) rfl (fun c54 => ?_) (fun c54 => ?_)
        · refine ax_aload_n (j := 0) dX9_ask_61 rfl rfl rfl ?_
          refine am_getR flX9_19 dX9_ask_62 rfl is0 rfl ?_
          refine ax_iload_n (j := 1) dX9_ask_65 rfl rfl rfl ?_
          refine ax_iload_n (j := 2) dX9_ask_66 rfl rfl rfl ?_
          refine ad_S3 ksX6_surestWitness lkX9_222 dX9_ask_67 rfl (Nat.le_of_ble_eq_true rfl) (Nat.le_of_ble_eq_true rfl) (s_X6_surestWitness _ isP3 _ _) ?_
          exact ax_ireturn rfl dX9_ask_70 ⟨by simp only [F_X9_ask, if_neg c8, if_pos c19, if_pos c31, if_pos c54], rfl⟩
        · refine ax_iload_n (j := 3) dX9_ask_57 rfl rfl rfl ?_
          refine ax_goto (tgt := 70) dX9_ask_58 (by decide) ?_
          exact ax_ireturn rfl dX9_ask_70 ⟨by simp only [F_X9_ask, if_neg c8, if_pos c19, if_pos c31, if_neg c54], rfl⟩
      · refine ax_iload_n (j := 2) dX9_ask_34 rfl rfl rfl ?_
        refine ax_iload_n (j := 1) dX9_ask_35 rfl rfl rfl ?_
        refine ad_S2 ksX9_hasBit lkX9_201 dX9_ask_36 rfl (Nat.le_of_ble_eq_true rfl) (Nat.le_of_ble_eq_true rfl) (s_X9_hasBit _ _ _) ?_
        refine ax_if_eq (tgt := 46) dX9_ask_39 (by decide) rfl (fun c39 => ?_) (fun c39 => ?_)
        · refine ax_iconst (v := 0) dX9_ask_46 (by decide) rfl ?_
          refine ax_iconst (v := 1) dX9_ask_47 (by decide) rfl ?_
          refine ax_iconst (v := 1) dX9_ask_48 (by decide) rfl ?_
          refine ad_S4 ksX9_refusal lkX9_72 dX9_ask_49 rfl (Nat.le_of_ble_eq_true rfl) (Nat.le_of_ble_eq_true rfl) (s_X9_refusal _ _ _ _ _) ?_
          refine ax_ist3 dX9_ask_52 rfl rfl (Nat.le_of_ble_eq_true rfl) rfl ?_
          refine ax_iload_n (j := 3) dX9_ask_53 rfl rfl rfl ?_
          refine ax_if_eq (tgt := 61) dX9_ask_54 (by decide) rfl (fun c54 => ?_) (fun c54 => ?_)
          · refine ax_aload_n (j := 0) dX9_ask_61 rfl rfl rfl ?_
            refine am_getR flX9_19 dX9_ask_62 rfl is0 rfl ?_
            refine ax_iload_n (j := 1) dX9_ask_65 rfl rfl rfl ?_
            refine ax_iload_n (j := 2) dX9_ask_66 rfl rfl rfl ?_
            refine ad_S3 ksX6_surestWitness lkX9_222 dX9_ask_67 rfl (Nat.le_of_ble_eq_true rfl) (Nat.le_of_ble_eq_true rfl) (s_X6_surestWitness _ isP3 _ _) ?_
            exact ax_ireturn rfl dX9_ask_70 ⟨by simp only [F_X9_ask, if_neg c8, if_pos c19, if_neg c31, if_pos c39, if_pos c54], rfl⟩
          · refine ax_iload_n (j := 3) dX9_ask_57 rfl rfl rfl ?_
            refine ax_goto (tgt := 70) dX9_ask_58 (by decide) ?_
            exact ax_ireturn rfl dX9_ask_70 ⟨by simp only [F_X9_ask, if_neg c8, if_pos c19, if_neg c31, if_pos c39, if_neg c54], rfl⟩
        · refine ax_iconst (v := 1) dX9_ask_42 (by decide) rfl ?_
          refine ax_goto (tgt := 47) dX9_ask_43 (by decide) ?_
          refine ax_iconst (v := 1) dX9_ask_47 (by decide) rfl ?_
          refine ax_iconst (v := 1) dX9_ask_48 (by decide) rfl ?_
          refine ad_S4 ksX9_refusal lkX9_72 dX9_ask_49 rfl (Nat.le_of_ble_eq_true rfl) (Nat.le_of_ble_eq_true rfl) (s_X9_refusal _ _ _ _ _) ?_
          refine ax_ist3 dX9_ask_52 rfl rfl (Nat.le_of_ble_eq_true rfl) rfl ?_
          refine ax_iload_n (j := 3) dX9_ask_53 rfl rfl rfl ?_
          refine ax_if_eq (tgt := 61) dX9_ask_54 (by decide) rfl (fun c54 => ?_) (fun c54 => ?_)
          · refine ax_aload_n (j := 0) dX9_ask_61 rfl rfl rfl ?_
            refine am_getR flX9_19 dX9_ask_62 rfl is0 rfl ?_
            refine ax_iload_n (j := 1) dX9_ask_65 rfl rfl rfl ?_
            refine ax_iload_n (j := 2) dX9_ask_66 rfl rfl rfl ?_
            refine ad_S3 ksX6_surestWitness lkX9_222 dX9_ask_67 rfl (Nat.le_of_ble_eq_true rfl) (Nat.le_of_ble_eq_true rfl) (s_X6_surestWitness _ isP3 _ _) ?_
            exact ax_ireturn rfl dX9_ask_70 ⟨by simp only [F_X9_ask, if_neg c8, if_pos c19, if_neg c31, if_neg c39, if_pos c54], rfl⟩
          · refine ax_iload_n (j := 3) dX9_ask_57 rfl rfl rfl ?_
            refine ax_goto (tgt := 70) dX9_ask_58 (by decide) ?_
            exact ax_ireturn rfl dX9_ask_70 ⟨by simp only [F_X9_ask, if_neg c8, if_pos c19, if_neg c31, if_neg c39, if_neg c54], rfl⟩
    · refine ax_iconst (v := 1) dX9_ask_22 (by decide) rfl ?_
      refine ax_goto (tgt := 27) dX9_ask_23 (by decide) ?_
      refine ax_iload_n (j := 2) dX9_ask_27 rfl rfl rfl ?_
      refine ad_S1 ksX9_isLongEnough lkX9_180 dX9_ask_28 rfl (Nat.le_of_ble_eq_true rfl) (Nat.le_of_ble_eq_true rfl) (s_X9_isLongEnough _ _) ?_
      refine ax_if_eq (tgt := 46) dX9_ask_31 (by decide) rfl (fun c31 => ?_) (fun c31 => ?_)
      · refine ax_iconst (v := 0) dX9_ask_46 (by decide) rfl ?_
        refine ax_iconst (v := 1) dX9_ask_47 (by decide) rfl ?_
        refine ax_iconst (v := 1) dX9_ask_48 (by decide) rfl ?_
        refine ad_S4 ksX9_refusal lkX9_72 dX9_ask_49 rfl (Nat.le_of_ble_eq_true rfl) (Nat.le_of_ble_eq_true rfl) (s_X9_refusal _ _ _ _ _) ?_
        refine ax_ist3 dX9_ask_52 rfl rfl (Nat.le_of_ble_eq_true rfl) rfl ?_
        refine ax_iload_n (j := 3) dX9_ask_53 rfl rfl rfl ?_
        refine ax_if_eq (tgt := 61) dX9_ask_54 (by decide) rfl (fun c54 => ?_) (fun c54 => ?_)
        · refine ax_aload_n (j := 0) dX9_ask_61 rfl rfl rfl ?_
          refine am_getR flX9_19 dX9_ask_62 rfl is0 rfl ?_
          refine ax_iload_n (j := 1) dX9_ask_65 rfl rfl rfl ?_
          refine ax_iload_n (j := 2) dX9_ask_66 rfl rfl rfl ?_
          refine ad_S3 ksX6_surestWitness lkX9_222 dX9_ask_67 rfl (Nat.le_of_ble_eq_true rfl) (Nat.le_of_ble_eq_true rfl) (s_X6_surestWitness _ isP3 _ _) ?_
          exact ax_ireturn rfl dX9_ask_70 ⟨by simp only [F_X9_ask, if_neg c8, if_neg c19, if_pos c31, if_pos c54], rfl⟩
        · refine ax_iload_n (j := 3) dX9_ask_57 rfl rfl rfl ?_
          refine ax_goto (tgt := 70) dX9_ask_58 (by decide) ?_
          exact ax_ireturn rfl dX9_ask_70 ⟨by simp only [F_X9_ask, if_neg c8, if_neg c19, if_pos c31, if_neg c54], rfl⟩
      · refine ax_iload_n (j := 2) dX9_ask_34 rfl rfl rfl ?_
        refine ax_iload_n (j := 1) dX9_ask_35 rfl rfl rfl ?_
        refine ad_S2 ksX9_hasBit lkX9_201 dX9_ask_36 rfl (Nat.le_of_ble_eq_true rfl) (Nat.le_of_ble_eq_true rfl) (s_X9_hasBit _ _ _) ?_
        refine ax_if_eq (tgt := 46) dX9_ask_39 (by decide) rfl (fun c39 => ?_) (fun c39 => ?_)
        · refine ax_iconst (v := 0) dX9_ask_46 (by decide) rfl ?_
          refine ax_iconst (v := 1) dX9_ask_47 (by decide) rfl ?_
          refine ax_iconst (v := 1) dX9_ask_48 (by decide) rfl ?_
          refine ad_S4 ksX9_refusal lkX9_72 dX9_ask_49 rfl (Nat.le_of_ble_eq_true rfl) (Nat.le_of_ble_eq_true rfl) (s_X9_refusal _ _ _ _ _) ?_
          refine ax_ist3 dX9_ask_52 rfl rfl (Nat.le_of_ble_eq_true rfl) rfl ?_
          refine ax_iload_n (j := 3) dX9_ask_53 rfl rfl rfl ?_
          refine ax_if_eq (tgt := 61) dX9_ask_54 (by decide) rfl (fun c54 => ?_) (fun c54 => ?_)
          · refine ax_aload_n (j := 0) dX9_ask_61 rfl rfl rfl ?_
            refine am_getR flX9_19 dX9_ask_62 rfl is0 rfl ?_
            refine ax_iload_n (j := 1) dX9_ask_65 rfl rfl rfl ?_
            refine ax_iload_n (j := 2) dX9_ask_66 rfl rfl rfl ?_
            refine ad_S3 ksX6_surestWitness lkX9_222 dX9_ask_67 rfl (Nat.le_of_ble_eq_true rfl) (Nat.le_of_ble_eq_true rfl) (s_X6_surestWitness _ isP3 _ _) ?_
            exact ax_ireturn rfl dX9_ask_70 ⟨by simp only [F_X9_ask, if_neg c8, if_neg c19, if_neg c31, if_pos c39, if_pos c54], rfl⟩
          · refine ax_iload_n (j := 3) dX9_ask_57 rfl rfl rfl ?_
            refine ax_goto (tgt := 70) dX9_ask_58 (by decide) ?_
            exact ax_ireturn rfl dX9_ask_70 ⟨by simp only [F_X9_ask, if_neg c8, if_neg c19, if_neg c31, if_pos c39, if_neg c54], rfl⟩
        · refine ax_iconst (v := 1) dX9_ask_42 (by decide) rfl ?_
          refine ax_goto (tgt := 47) dX9_ask_43 (by decide) ?_
          refine ax_iconst (v := 1) dX9_ask_47 (by decide) rfl ?_
          refine ax_iconst (v := 1) dX9_ask_48 (by decide) rfl ?_
          refine ad_S4 ksX9_refusal lkX9_72 dX9_ask_49 rfl (Nat.le_of_ble_eq_true rfl) (Nat.le_of_ble_eq_true rfl) (s_X9_refusal _ _ _ _ _) ?_
          refine ax_ist3 dX9_ask_52 rfl rfl (Nat.le_of_ble_eq_true rfl) rfl ?_
          refine ax_iload_n (j := 3) dX9_ask_53 rfl rfl rfl ?_
          refine ax_if_eq (tgt := 61) dX9_ask_54 (by decide) rfl (fun c54 => ?_) (fun c54 => ?_)
          · refine ax_aload_n (j := 0) dX9_ask_61 rfl rfl rfl ?_
            refine am_getR flX9_19 dX9_ask_62 rfl is0 rfl ?_
            refine ax_iload_n (j := 1) dX9_ask_65 rfl rfl rfl ?_
            refine ax_iload_n (j := 2) dX9_ask_66 rfl rfl rfl ?_
            refine ad_S3 ksX6_surestWitness lkX9_222 dX9_ask_67 rfl (Nat.le_of_ble_eq_true rfl) (Nat.le_of_ble_eq_true rfl) (s_X6_surestWitness _ isP3 _ _) ?_
            exact ax_ireturn rfl dX9_ask_70 ⟨by simp only [F_X9_ask, if_neg c8, if_neg c19, if_neg c31, if_neg c39, if_pos c54], rfl⟩
          · refine ax_iload_n (j := 3) dX9_ask_57 rfl rfl rfl ?_
            refine ax_goto (tgt := 70) dX9_ask_58 (by decide) ?_
            exact ax_ireturn rfl dX9_ask_70 ⟨by simp only [F_X9_ask, if_neg c8, if_neg c19, if_neg c31, if_neg c39, if_neg c54], rfl⟩

def F_X9_mask (mem : ax_Me) (p0 : Int32) (p1 : Int32) (p2 : Int32) (p3 : Int32) : Int32 :=
  (if (F_X9_isLongEnough mem p2) = 0 then (if (F_X9_refusal mem (F_X9_isAsked mem p0 p1 p2) 0 (F_X5_knows mem 3 p0 p1) 1) = 0 then (F_X6_fewestMarks mem 3 (F_X5_memoryOf mem 3 p0 p1) p2 p1 p3) else (F_X9_refusal mem (F_X9_isAsked mem p0 p1 p2) 0 (F_X5_knows mem 3 p0 p1) 1)) else (if (F_X9_hasBit mem p2 p1) = 0 then (if (F_X9_refusal mem (F_X9_isAsked mem p0 p1 p2) 0 (F_X5_knows mem 3 p0 p1) 1) = 0 then (F_X6_fewestMarks mem 3 (F_X5_memoryOf mem 3 p0 p1) p2 p1 p3) else (F_X9_refusal mem (F_X9_isAsked mem p0 p1 p2) 0 (F_X5_knows mem 3 p0 p1) 1)) else (if (F_X9_isWithin mem p3 1 8) = 0 then (if (F_X9_refusal mem (F_X9_isAsked mem p0 p1 p2) 0 (F_X5_knows mem 3 p0 p1) 1) = 0 then (F_X6_fewestMarks mem 3 (F_X5_memoryOf mem 3 p0 p1) p2 p1 p3) else (F_X9_refusal mem (F_X9_isAsked mem p0 p1 p2) 0 (F_X5_knows mem 3 p0 p1) 1)) else (if (F_X9_refusal mem (F_X9_isAsked mem p0 p1 p2) 1 (F_X5_knows mem 3 p0 p1) 1) = 0 then (F_X6_fewestMarks mem 3 (F_X5_memoryOf mem 3 p0 p1) p2 p1 p3) else (F_X9_refusal mem (F_X9_isAsked mem p0 p1 p2) 1 (F_X5_knows mem 3 p0 p1) 1)))))
set_option maxRecDepth 20000 in
theorem s_X9_mask {G : ax_G} {l : Launch} (mem : ax_Me) (p0 : Int32) (p1 : Int32) (p2 : Int32) (p3 : Int32)  : AD G l 5 mX9_mask [.ref 0, .int p0, .int p1, .int p2, .int p3] mem (some (.int (F_X9_mask mem p0 p1 p2 p3))) mem := by
  refine ax_start (ls := [.ref 0, .int p0, .int p1, .int p2, .int p3, .float 0, .float 0]) (u := 2) (by decide +kernel) (Nat.le_of_ble_eq_true rfl) (Nat.le_refl _) (Nat.le_refl _) rfl ?_
  refine ax_iload_n (j := 3) dX9_mask_0 rfl rfl rfl ?_
  refine ad_S1 ksX9_isLongEnough lkX9_180 dX9_mask_1 rfl (Nat.le_of_ble_eq_true rfl) (Nat.le_of_ble_eq_true rfl) (s_X9_isLongEnough _ _) ?_
  refine ax_if_eq (tgt := 30) dX9_mask_4 (by decide) rfl (fun c4 => ?_) (fun c4 => ?_)
  · refine ax_iconst (v := 0) dX9_mask_30 (by decide) rfl ?_
    refine ax_ist5 dX9_mask_31 rfl (Nat.le_of_ble_eq_true rfl) rfl ?_
    refine ax_aload_n (j := 0) dX9_mask_33 rfl rfl rfl ?_
    refine ax_iload_n (j := 1) dX9_mask_34 rfl rfl rfl ?_
    refine ax_iload_n (j := 2) dX9_mask_35 rfl rfl rfl ?_
    refine ax_iload_n (j := 3) dX9_mask_36 rfl rfl rfl ?_
    refine ad_V3 ksX9_isAsked lkX9_177 dX9_mask_37 rfl is0 rfl (Nat.le_of_ble_eq_true rfl) (Nat.le_of_ble_eq_true rfl) (s_X9_isAsked _ _ _ _) ?_
    refine ax_iload dX9_mask_40 rfl rfl ?_
    refine ax_aload_n (j := 0) dX9_mask_42 rfl rfl rfl ?_
    refine am_getR flX9_19 dX9_mask_43 rfl is0 rfl ?_
    refine ax_iload_n (j := 1) dX9_mask_46 rfl rfl rfl ?_
    refine ax_iload_n (j := 2) dX9_mask_47 rfl rfl rfl ?_
    refine ad_V2 ksX5_knows lkX9_171 dX9_mask_48 rfl isP3.o rfl (Nat.le_of_ble_eq_true rfl) (Nat.le_of_ble_eq_true rfl) (s_X5_knows _ isP3 _ _) ?_
    refine ax_iconst (v := 1) dX9_mask_51 (by decide) rfl ?_
    refine ad_S4 ksX9_refusal lkX9_72 dX9_mask_52 rfl (Nat.le_of_ble_eq_true rfl) (Nat.le_of_ble_eq_true rfl) (s_X9_refusal _ _ _ _ _) ?_
    refine ax_ist6 dX9_mask_55 rfl (Nat.le_of_ble_eq_true rfl) rfl ?_
    refine ax_iload dX9_mask_57 rfl rfl ?_
    refine ax_if_eq (tgt := 67) dX9_mask_59 (by decide) rfl (fun c59 => ?_) (fun c59 => ?_)
    · refine ax_aload_n (j := 0) dX9_mask_67 rfl rfl rfl ?_
      refine am_getR flX9_19 dX9_mask_68 rfl is0 rfl ?_
      refine ax_aload_n (j := 0) dX9_mask_71 rfl rfl rfl ?_
      refine am_getR flX9_19 dX9_mask_72 rfl is0 rfl ?_
      refine ax_iload_n (j := 1) dX9_mask_75 rfl rfl rfl ?_
      refine ax_iload_n (j := 2) dX9_mask_76 rfl rfl rfl ?_
      refine ad_V2 ksX5_memoryOf lkX9_148 dX9_mask_77 rfl isP3.o rfl (Nat.le_of_ble_eq_true rfl) (Nat.le_of_ble_eq_true rfl) (s_X5_memoryOf _ isP3 _ _) ?_
      refine ax_iload_n (j := 3) dX9_mask_80 rfl rfl rfl ?_
      refine ax_iload_n (j := 2) dX9_mask_81 rfl rfl rfl ?_
      refine ax_iload dX9_mask_82 rfl rfl ?_
      refine ad_S5 ksX6_fewestMarks lkX9_237 dX9_mask_84 rfl (Nat.le_of_ble_eq_true rfl) (Nat.le_of_ble_eq_true rfl) (s_X6_fewestMarks _ isP3 _ _ _ _) ?_
      exact ax_ireturn rfl dX9_mask_87 ⟨by simp only [F_X9_mask, if_pos c4, if_pos c59], rfl⟩
    · refine ax_iload dX9_mask_62 rfl rfl ?_
      refine ax_goto (tgt := 87) dX9_mask_64 (by decide) ?_
      exact ax_ireturn rfl dX9_mask_87 ⟨by simp only [F_X9_mask, if_pos c4, if_neg c59], rfl⟩
  · refine ax_iload_n (j := 3) dX9_mask_7 rfl rfl rfl ?_
    refine ax_iload_n (j := 2) dX9_mask_8 rfl rfl rfl ?_
    refine ad_S2 ksX9_hasBit lkX9_201 dX9_mask_9 rfl (Nat.le_of_ble_eq_true rfl) (Nat.le_of_ble_eq_true rfl) (s_X9_hasBit _ _ _) ?_
    refine ax_if_eq (tgt := 30) dX9_mask_12 (by decide) rfl (fun c12 => ?_) (fun c12 => ?_)
    · refine ax_iconst (v := 0) dX9_mask_30 (by decide) rfl ?_
      refine ax_ist5 dX9_mask_31 rfl (Nat.le_of_ble_eq_true rfl) rfl ?_
      refine ax_aload_n (j := 0) dX9_mask_33 rfl rfl rfl ?_
      refine ax_iload_n (j := 1) dX9_mask_34 rfl rfl rfl ?_
      refine ax_iload_n (j := 2) dX9_mask_35 rfl rfl rfl ?_
      refine ax_iload_n (j := 3) dX9_mask_36 rfl rfl rfl ?_
      refine ad_V3 ksX9_isAsked lkX9_177 dX9_mask_37 rfl is0 rfl (Nat.le_of_ble_eq_true rfl) (Nat.le_of_ble_eq_true rfl) (s_X9_isAsked _ _ _ _) ?_
      refine ax_iload dX9_mask_40 rfl rfl ?_
      refine ax_aload_n (j := 0) dX9_mask_42 rfl rfl rfl ?_
      refine am_getR flX9_19 dX9_mask_43 rfl is0 rfl ?_
      refine ax_iload_n (j := 1) dX9_mask_46 rfl rfl rfl ?_
      refine ax_iload_n (j := 2) dX9_mask_47 rfl rfl rfl ?_
      refine ad_V2 ksX5_knows lkX9_171 dX9_mask_48 rfl isP3.o rfl (Nat.le_of_ble_eq_true rfl) (Nat.le_of_ble_eq_true rfl) (s_X5_knows _ isP3 _ _) ?_
      refine ax_iconst (v := 1) dX9_mask_51 (by decide) rfl ?_
      refine ad_S4 ksX9_refusal lkX9_72 dX9_mask_52 rfl (Nat.le_of_ble_eq_true rfl) (Nat.le_of_ble_eq_true rfl) (s_X9_refusal _ _ _ _ _) ?_
      refine ax_ist6 dX9_mask_55 rfl (Nat.le_of_ble_eq_true rfl) rfl ?_
      refine ax_iload dX9_mask_57 rfl rfl ?_
      refine ax_if_eq (tgt := 67) dX9_mask_59 (by decide) rfl (fun c59 => ?_) (fun c59 => ?_)
      · refine ax_aload_n (j := 0) dX9_mask_67 rfl rfl rfl ?_
        refine am_getR flX9_19 dX9_mask_68 rfl is0 rfl ?_
        refine ax_aload_n (j := 0) dX9_mask_71 rfl rfl rfl ?_
        refine am_getR flX9_19 dX9_mask_72 rfl is0 rfl ?_
        refine ax_iload_n (j := 1) dX9_mask_75 rfl rfl rfl ?_
        refine ax_iload_n (j := 2) dX9_mask_76 rfl rfl rfl ?_
        refine ad_V2 ksX5_memoryOf lkX9_148 dX9_mask_77 rfl isP3.o rfl (Nat.le_of_ble_eq_true rfl) (Nat.le_of_ble_eq_true rfl) (s_X5_memoryOf _ isP3 _ _) ?_
        refine ax_iload_n (j := 3) dX9_mask_80 rfl rfl rfl ?_
        refine ax_iload_n (j := 2) dX9_mask_81 rfl rfl rfl ?_
        refine ax_iload dX9_mask_82 rfl rfl ?_
        refine ad_S5 ksX6_fewestMarks lkX9_237 dX9_mask_84 rfl (Nat.le_of_ble_eq_true rfl) (Nat.le_of_ble_eq_true rfl) (s_X6_fewestMarks _ isP3 _ _ _ _) ?_
        exact ax_ireturn rfl dX9_mask_87 ⟨by simp only [F_X9_mask, if_neg c4, if_pos c12, if_pos c59], rfl⟩
      · refine ax_iload dX9_mask_62 rfl rfl ?_
        refine ax_goto (tgt := 87) dX9_mask_64 (by decide) ?_
        exact ax_ireturn rfl dX9_mask_87 ⟨by simp only [F_X9_mask, if_neg c4, if_pos c12, if_neg c59], rfl⟩
    · refine ax_iload dX9_mask_15 rfl rfl ?_
      refine ax_iconst (v := 1) dX9_mask_17 (by decide) rfl ?_
      refine ax_bipush (v := 8) dX9_mask_18 (by decide) rfl ?_
      refine ad_S3 ksX9_isWithin lkX9_64 dX9_mask_20 rfl (Nat.le_of_ble_eq_true rfl) (Nat.le_of_ble_eq_true rfl) (s_X9_isWithin _ _ _ _) ?_
      refine ax_if_eq (tgt := 30) dX9_mask_23 (by decide) rfl (fun c23 => ?_) (fun c23 => ?_)
      · refine ax_iconst (v := 0) dX9_mask_30 (by decide) rfl ?_
        refine ax_ist5 dX9_mask_31 rfl (Nat.le_of_ble_eq_true rfl) rfl ?_
        refine ax_aload_n (j := 0) dX9_mask_33 rfl rfl rfl ?_
        refine ax_iload_n (j := 1) dX9_mask_34 rfl rfl rfl ?_
        refine ax_iload_n (j := 2) dX9_mask_35 rfl rfl rfl ?_
        refine ax_iload_n (j := 3) dX9_mask_36 rfl rfl rfl ?_
        refine ad_V3 ksX9_isAsked lkX9_177 dX9_mask_37 rfl is0 rfl (Nat.le_of_ble_eq_true rfl) (Nat.le_of_ble_eq_true rfl) (s_X9_isAsked _ _ _ _) ?_
        refine ax_iload dX9_mask_40 rfl rfl ?_
        refine ax_aload_n (j := 0) dX9_mask_42 rfl rfl rfl ?_
        refine am_getR flX9_19 dX9_mask_43 rfl is0 rfl ?_
        refine ax_iload_n (j := 1) dX9_mask_46 rfl rfl rfl ?_
        refine ax_iload_n (j := 2) dX9_mask_47 rfl rfl rfl ?_
        refine ad_V2 ksX5_knows lkX9_171 dX9_mask_48 rfl isP3.o rfl (Nat.le_of_ble_eq_true rfl) (Nat.le_of_ble_eq_true rfl) (s_X5_knows _ isP3 _ _) ?_
        refine ax_iconst (v := 1) dX9_mask_51 (by decide) rfl ?_
        refine ad_S4 ksX9_refusal lkX9_72 dX9_mask_52 rfl (Nat.le_of_ble_eq_true rfl) (Nat.le_of_ble_eq_true rfl) (s_X9_refusal _ _ _ _ _) ?_
        refine ax_ist6 dX9_mask_55 rfl (Nat.le_of_ble_eq_true rfl) rfl ?_
        refine ax_iload dX9_mask_57 rfl rfl ?_
        refine ax_if_eq (tgt := 67) dX9_mask_59 (by decide) rfl (fun c59 => ?_) (fun c59 => ?_)
        · refine ax_aload_n (j := 0) dX9_mask_67 rfl rfl rfl ?_
          refine am_getR flX9_19 dX9_mask_68 rfl is0 rfl ?_
          refine ax_aload_n (j := 0) dX9_mask_71 rfl rfl rfl ?_
          refine am_getR flX9_19 dX9_mask_72 rfl is0 rfl ?_
          refine ax_iload_n (j := 1) dX9_mask_75 rfl rfl rfl ?_
          refine ax_iload_n (j := 2) dX9_mask_76 rfl rfl rfl ?_
          refine ad_V2 ksX5_memoryOf lkX9_148 dX9_mask_77 rfl isP3.o rfl (Nat.le_of_ble_eq_true rfl) (Nat.le_of_ble_eq_true rfl) (s_X5_memoryOf _ isP3 _ _) ?_
          refine ax_iload_n (j := 3) dX9_mask_80 rfl rfl rfl ?_
          refine ax_iload_n (j := 2) dX9_mask_81 rfl rfl rfl ?_
          refine ax_iload dX9_mask_82 rfl rfl ?_
          refine ad_S5 ksX6_fewestMarks lkX9_237 dX9_mask_84 rfl (Nat.le_of_ble_eq_true rfl) (Nat.le_of_ble_eq_true rfl) (s_X6_fewestMarks _ isP3 _ _ _ _) ?_
          exact ax_ireturn rfl dX9_mask_87 ⟨by simp only [F_X9_mask, if_neg c4, if_neg c12, if_pos c23, if_pos c59], rfl⟩
        · refine ax_iload dX9_mask_62 rfl rfl ?_
          refine ax_goto (tgt := 87) dX9_mask_64 (by decide) ?_
          exact ax_ireturn rfl dX9_mask_87 ⟨by simp only [F_X9_mask, if_neg c4, if_neg c12, if_pos c23, if_neg c59], rfl⟩
      · refine ax_iconst (v := 1) dX9_mask_26 (by decide) rfl ?_
        refine ax_goto (tgt := 31) dX9_mask_27 (by decide) ?_
        refine ax_ist5 dX9_mask_31 rfl (Nat.le_of_ble_eq_true rfl) rfl ?_
        refine ax_aload_n (j := 0) dX9_mask_33 rfl rfl rfl ?_
        refine ax_iload_n (j := 1) dX9_mask_34 rfl rfl rfl ?_
        refine ax_iload_n (j := 2) dX9_mask_35 rfl rfl rfl ?_
        refine ax_iload_n (j := 3) dX9_mask_36 rfl rfl rfl ?_
        refine ad_V3 ksX9_isAsked lkX9_177 dX9_mask_37 rfl is0 rfl (Nat.le_of_ble_eq_true rfl) (Nat.le_of_ble_eq_true rfl) (s_X9_isAsked _ _ _ _) ?_
        refine ax_iload dX9_mask_40 rfl rfl ?_
        refine ax_aload_n (j := 0) dX9_mask_42 rfl rfl rfl ?_
        refine am_getR flX9_19 dX9_mask_43 rfl is0 rfl ?_
        refine ax_iload_n (j := 1) dX9_mask_46 rfl rfl rfl ?_
        refine ax_iload_n (j := 2) dX9_mask_47 rfl rfl rfl ?_
        refine ad_V2 ksX5_knows lkX9_171 dX9_mask_48 rfl isP3.o rfl (Nat.le_of_ble_eq_true rfl) (Nat.le_of_ble_eq_true rfl) (s_X5_knows _ isP3 _ _) ?_
        refine ax_iconst (v := 1) dX9_mask_51 (by decide) rfl ?_
        refine ad_S4 ksX9_refusal lkX9_72 dX9_mask_52 rfl (Nat.le_of_ble_eq_true rfl) (Nat.le_of_ble_eq_true rfl) (s_X9_refusal _ _ _ _ _) ?_
        refine ax_ist6 dX9_mask_55 rfl (Nat.le_of_ble_eq_true rfl) rfl ?_
        refine ax_iload dX9_mask_57 rfl rfl ?_
        refine ax_if_eq (tgt := 67) dX9_mask_59 (by decide) rfl (fun c59 => ?_) (fun c59 => ?_)
        · refine ax_aload_n (j := 0) dX9_mask_67 rfl rfl rfl ?_
          refine am_getR flX9_19 dX9_mask_68 rfl is0 rfl ?_
          refine ax_aload_n (j := 0) dX9_mask_71 rfl rfl rfl ?_
          refine am_getR flX9_19 dX9_mask_72 rfl is0 rfl ?_
          refine ax_iload_n (j := 1) dX9_mask_75 rfl rfl rfl ?_
          refine ax_iload_n (j := 2) dX9_mask_76 rfl rfl rfl ?_
          refine ad_V2 ksX5_memoryOf lkX9_148 dX9_mask_77 rfl isP3.o rfl (Nat.le_of_ble_eq_true rfl) (Nat.le_of_ble_eq_true rfl) (s_X5_memoryOf _ isP3 _ _) ?_
          refine ax_iload_n (j := 3) dX9_mask_80 rfl rfl rfl ?_
          refine ax_iload_n (j := 2) dX9_mask_81 rfl rfl rfl ?_
          refine ax_iload dX9_mask_82 rfl rfl ?_
          refine ad_S5 ksX6_fewestMarks lkX9_237 dX9_mask_84 rfl (Nat.le_of_ble_eq_true rfl) (Nat.le_of_ble_eq_true rfl) (s_X6_fewestMarks _ isP3 _ _ _ _) ?_
          exact ax_ireturn rfl dX9_mask_87 ⟨by simp only [F_X9_mask, if_neg c4, if_neg c12, if_neg c23, if_pos c59], rfl⟩
        · refine ax_iload dX9_mask_62 rfl rfl ?_
          refine ax_goto (tgt := 87) dX9_mask_64 (by decide) ?_
          exact ax_ireturn rfl dX9_mask_87 ⟨by simp only [F_X9_mask, if_neg c4, if_neg c12, if_neg c23, if_neg c59], rfl⟩

def F_X9_spoil (mem : ax_Me) (p0 : Int32) (p1 : Int32) (p2 : Int32) (p3 : Int32) : Int32 :=
  (if (F_X9_isAsked mem p0 p1 p2) = 0 then (if (F_X9_isLongEnough mem p2) = 0 then (if (F_X9_refusal mem 0 0 (F_X5_knows mem 3 p0 p1) 1) = 0 then (F_X6_fewestMarks mem 3 (F_X5_memoryOf mem 3 p0 p1) p2 p3 1) else (F_X9_refusal mem 0 0 (F_X5_knows mem 3 p0 p1) 1)) else (if (F_X9_hasBit mem p2 p3) = 0 then (if (F_X9_refusal mem 0 0 (F_X5_knows mem 3 p0 p1) 1) = 0 then (F_X6_fewestMarks mem 3 (F_X5_memoryOf mem 3 p0 p1) p2 p3 1) else (F_X9_refusal mem 0 0 (F_X5_knows mem 3 p0 p1) 1)) else (if (F_X9_refusal mem 0 1 (F_X5_knows mem 3 p0 p1) 1) = 0 then (F_X6_fewestMarks mem 3 (F_X5_memoryOf mem 3 p0 p1) p2 p3 1) else (F_X9_refusal mem 0 1 (F_X5_knows mem 3 p0 p1) 1)))) else (if (F_X5_isPair mem 3 p3 p1) = 0 then (if (F_X9_isLongEnough mem p2) = 0 then (if (F_X9_refusal mem 0 0 (F_X5_knows mem 3 p0 p1) 1) = 0 then (F_X6_fewestMarks mem 3 (F_X5_memoryOf mem 3 p0 p1) p2 p3 1) else (F_X9_refusal mem 0 0 (F_X5_knows mem 3 p0 p1) 1)) else (if (F_X9_hasBit mem p2 p3) = 0 then (if (F_X9_refusal mem 0 0 (F_X5_knows mem 3 p0 p1) 1) = 0 then (F_X6_fewestMarks mem 3 (F_X5_memoryOf mem 3 p0 p1) p2 p3 1) else (F_X9_refusal mem 0 0 (F_X5_knows mem 3 p0 p1) 1)) else (if (F_X9_refusal mem 0 1 (F_X5_knows mem 3 p0 p1) 1) = 0 then (F_X6_fewestMarks mem 3 (F_X5_memoryOf mem 3 p0 p1) p2 p3 1) else (F_X9_refusal mem 0 1 (F_X5_knows mem 3 p0 p1) 1)))) else (if (F_X9_isLongEnough mem p2) = 0 then (if (F_X9_refusal mem 1 0 (F_X5_knows mem 3 p0 p1) 1) = 0 then (F_X6_fewestMarks mem 3 (F_X5_memoryOf mem 3 p0 p1) p2 p3 1) else (F_X9_refusal mem 1 0 (F_X5_knows mem 3 p0 p1) 1)) else (if (F_X9_hasBit mem p2 p3) = 0 then (if (F_X9_refusal mem 1 0 (F_X5_knows mem 3 p0 p1) 1) = 0 then (F_X6_fewestMarks mem 3 (F_X5_memoryOf mem 3 p0 p1) p2 p3 1) else (F_X9_refusal mem 1 0 (F_X5_knows mem 3 p0 p1) 1)) else (if (F_X9_refusal mem 1 1 (F_X5_knows mem 3 p0 p1) 1) = 0 then (F_X6_fewestMarks mem 3 (F_X5_memoryOf mem 3 p0 p1) p2 p3 1) else (F_X9_refusal mem 1 1 (F_X5_knows mem 3 p0 p1) 1))))))
set_option maxRecDepth 20000 in
theorem s_X9_spoil {G : ax_G} {l : Launch} (mem : ax_Me) (p0 : Int32) (p1 : Int32) (p2 : Int32) (p3 : Int32)  : AD G l 5 mX9_spoil [.ref 0, .int p0, .int p1, .int p2, .int p3] mem (some (.int (F_X9_spoil mem p0 p1 p2 p3))) mem := by
  refine ax_start (ls := [.ref 0, .int p0, .int p1, .int p2, .int p3, .float 0, .float 0]) (u := 2) (by decide +kernel) (Nat.le_of_ble_eq_true rfl) (Nat.le_refl _) (Nat.le_refl _) rfl ?_
  refine ax_aload_n (j := 0) dX9_spoil_0 rfl rfl rfl ?_
  refine ax_iload_n (j := 1) dX9_spoil_1 rfl rfl rfl ?_
  refine ax_iload_n (j := 2) dX9_spoil_2 rfl rfl rfl ?_
  refine ax_iload_n (j := 3) dX9_spoil_3 rfl rfl rfl ?_
  refine ad_V3 ksX9_isAsked lkX9_177 dX9_spoil_4 rfl is0 rfl (Nat.le_of_ble_eq_true rfl) (Nat.le_of_ble_eq_true rfl) (s_X9_isAsked _ _ _ _) ?_
  refine ax_if_eq (tgt := 27) dX9_spoil_7 (by decide) rfl (fun c7 => ?_) (fun c7 => ?_)
  · refine ax_iconst (v := 0) dX9_spoil_27 (by decide) rfl ?_
    refine ax_ist5 dX9_spoil_28 rfl (Nat.le_of_ble_eq_true rfl) rfl ?_
    refine ax_iload dX9_spoil_30 rfl rfl ?_
    refine ax_iload_n (j := 3) dX9_spoil_32 rfl rfl rfl ?_
    refine ad_S1 ksX9_isLongEnough lkX9_180 dX9_spoil_33 rfl (Nat.le_of_ble_eq_true rfl) (Nat.le_of_ble_eq_true rfl) (s_X9_isLongEnough _ _) ?_
    refine ax_if_eq (tgt := 52) dX9_spoil_36 (by decide) rfl (fun c36 => ?_) (fun c36 => ?_)
    · refine ax_iconst (v := 0) dX9_spoil_52 (by decide) rfl ?_
      refine ax_aload_n (j := 0) dX9_spoil_53 rfl rfl rfl ?_
      refine am_getR flX9_19 dX9_spoil_54 rfl is0 rfl ?_
      refine ax_iload_n (j := 1) dX9_spoil_57 rfl rfl rfl ?_
      refine ax_iload_n (j := 2) dX9_spoil_58 rfl rfl rfl ?_
      refine ad_V2 ksX5_knows lkX9_171 dX9_spoil_59 rfl isP3.o rfl (Nat.le_of_ble_eq_true rfl) (Nat.le_of_ble_eq_true rfl) (s_X5_knows _ isP3 _ _) ?_
      refine ax_iconst (v := 1) dX9_spoil_62 (by decide) rfl ?_
      refine ad_S4 ksX9_refusal lkX9_72 dX9_spoil_63 rfl (Nat.le_of_ble_eq_true rfl) (Nat.le_of_ble_eq_true rfl) (s_X9_refusal _ _ _ _ _) ?_
      refine ax_ist6 dX9_spoil_66 rfl (Nat.le_of_ble_eq_true rfl) rfl ?_
      refine ax_iload dX9_spoil_68 rfl rfl ?_
      refine ax_if_eq (tgt := 78) dX9_spoil_70 (by decide) rfl (fun c70 => ?_) (fun c70 => ?_)
      · refine ax_aload_n (j := 0) dX9_spoil_78 rfl rfl rfl ?_
        refine am_getR flX9_19 dX9_spoil_79 rfl is0 rfl ?_
        refine ax_aload_n (j := 0) dX9_spoil_82 rfl rfl rfl ?_
        refine am_getR flX9_19 dX9_spoil_83 rfl is0 rfl ?_
        refine ax_iload_n (j := 1) dX9_spoil_86 rfl rfl rfl ?_
        refine ax_iload_n (j := 2) dX9_spoil_87 rfl rfl rfl ?_
        refine ad_V2 ksX5_memoryOf lkX9_148 dX9_spoil_88 rfl isP3.o rfl (Nat.le_of_ble_eq_true rfl) (Nat.le_of_ble_eq_true rfl) (s_X5_memoryOf _ isP3 _ _) ?_
        refine ax_iload_n (j := 3) dX9_spoil_91 rfl rfl rfl ?_
        refine ax_iload dX9_spoil_92 rfl rfl ?_
        refine ax_iconst (v := 1) dX9_spoil_94 (by decide) rfl ?_
        refine ad_S5 ksX6_fewestMarks lkX9_237 dX9_spoil_95 rfl (Nat.le_of_ble_eq_true rfl) (Nat.le_of_ble_eq_true rfl) (s_X6_fewestMarks _ isP3 _ _ _ _) ?_
        exact ax_ireturn rfl dX9_spoil_98 ⟨by simp only [F_X9_spoil, if_pos c7, if_pos c36, if_pos c70], rfl⟩
      · refine ax_iload dX9_spoil_73 rfl rfl ?_
        refine ax_goto (tgt := 98) dX9_spoil_75 (by decide) ?_
        exact ax_ireturn rfl dX9_spoil_98 ⟨by simp only [F_X9_spoil, if_pos c7, if_pos c36, if_neg c70], rfl⟩
    · refine ax_iload_n (j := 3) dX9_spoil_39 rfl rfl rfl ?_
      refine ax_iload dX9_spoil_40 rfl rfl ?_
      refine ad_S2 ksX9_hasBit lkX9_201 dX9_spoil_42 rfl (Nat.le_of_ble_eq_true rfl) (Nat.le_of_ble_eq_true rfl) (s_X9_hasBit _ _ _) ?_
      refine ax_if_eq (tgt := 52) dX9_spoil_45 (by decide) rfl (fun c45 => ?_) (fun c45 => ?_)
      · refine ax_iconst (v := 0) dX9_spoil_52 (by decide) rfl ?_
        refine ax_aload_n (j := 0) dX9_spoil_53 rfl rfl rfl ?_
        refine am_getR flX9_19 dX9_spoil_54 rfl is0 rfl ?_
        refine ax_iload_n (j := 1) dX9_spoil_57 rfl rfl rfl ?_
        refine ax_iload_n (j := 2) dX9_spoil_58 rfl rfl rfl ?_
        refine ad_V2 ksX5_knows lkX9_171 dX9_spoil_59 rfl isP3.o rfl (Nat.le_of_ble_eq_true rfl) (Nat.le_of_ble_eq_true rfl) (s_X5_knows _ isP3 _ _) ?_
        refine ax_iconst (v := 1) dX9_spoil_62 (by decide) rfl ?_
        refine ad_S4 ksX9_refusal lkX9_72 dX9_spoil_63 rfl (Nat.le_of_ble_eq_true rfl) (Nat.le_of_ble_eq_true rfl) (s_X9_refusal _ _ _ _ _) ?_
        refine ax_ist6 dX9_spoil_66 rfl (Nat.le_of_ble_eq_true rfl) rfl ?_
        refine ax_iload dX9_spoil_68 rfl rfl ?_
        refine ax_if_eq (tgt := 78) dX9_spoil_70 (by decide) rfl (fun c70 => ?_) (fun c70 => ?_)
        · refine ax_aload_n (j := 0) dX9_spoil_78 rfl rfl rfl ?_
          refine am_getR flX9_19 dX9_spoil_79 rfl is0 rfl ?_
          refine ax_aload_n (j := 0) dX9_spoil_82 rfl rfl rfl ?_
          refine am_getR flX9_19 dX9_spoil_83 rfl is0 rfl ?_
          refine ax_iload_n (j := 1) dX9_spoil_86 rfl rfl rfl ?_
          refine ax_iload_n (j := 2) dX9_spoil_87 rfl rfl rfl ?_
          refine ad_V2 ksX5_memoryOf lkX9_148 dX9_spoil_88 rfl isP3.o rfl (Nat.le_of_ble_eq_true rfl) (Nat.le_of_ble_eq_true rfl) (s_X5_memoryOf _ isP3 _ _) ?_
          refine ax_iload_n (j := 3) dX9_spoil_91 rfl rfl rfl ?_
          refine ax_iload dX9_spoil_92 rfl rfl ?_
          refine ax_iconst (v := 1) dX9_spoil_94 (by decide) rfl ?_
          refine ad_S5 ksX6_fewestMarks lkX9_237 dX9_spoil_95 rfl (Nat.le_of_ble_eq_true rfl) (Nat.le_of_ble_eq_true rfl) (s_X6_fewestMarks _ isP3 _ _ _ _) ?_
          exact ax_ireturn rfl dX9_spoil_98 ⟨by simp only [F_X9_spoil, if_pos c7, if_neg c36, if_pos c45, if_pos c70], rfl⟩
        · refine ax_iload dX9_spoil_73 rfl rfl ?_
          refine ax_goto (tgt := 98) dX9_spoil_75 (by decide) ?_
          exact ax_ireturn rfl dX9_spoil_98 ⟨by simp only [F_X9_spoil, if_pos c7, if_neg c36, if_pos c45, if_neg c70], rfl⟩
      · refine ax_iconst (v := 1) dX9_spoil_48 (by decide) rfl ?_
        refine ax_goto (tgt := 53) dX9_spoil_49 (by decide) ?_
        refine ax_aload_n (j := 0) dX9_spoil_53 rfl rfl rfl ?_
        refine am_getR flX9_19 dX9_spoil_54 rfl is0 rfl ?_
        refine ax_iload_n (j := 1) dX9_spoil_57 rfl rfl rfl ?_
        refine ax_iload_n (j := 2) dX9_spoil_58 rfl rfl rfl ?_
        refine ad_V2 ksX5_knows lkX9_171 dX9_spoil_59 rfl isP3.o rfl (Nat.le_of_ble_eq_true rfl) (Nat.le_of_ble_eq_true rfl) (s_X5_knows _ isP3 _ _) ?_
        refine ax_iconst (v := 1) dX9_spoil_62 (by decide) rfl ?_
        refine ad_S4 ksX9_refusal lkX9_72 dX9_spoil_63 rfl (Nat.le_of_ble_eq_true rfl) (Nat.le_of_ble_eq_true rfl) (s_X9_refusal _ _ _ _ _) ?_
        refine ax_ist6 dX9_spoil_66 rfl (Nat.le_of_ble_eq_true rfl) rfl ?_
        refine ax_iload dX9_spoil_68 rfl rfl ?_
        refine ax_if_eq (tgt := 78) dX9_spoil_70 (by decide) rfl (fun c70 => ?_) (fun c70 => ?_)
        · refine ax_aload_n (j := 0) dX9_spoil_78 rfl rfl rfl ?_
          refine am_getR flX9_19 dX9_spoil_79 rfl is0 rfl ?_
          refine ax_aload_n (j := 0) dX9_spoil_82 rfl rfl rfl ?_
          refine am_getR flX9_19 dX9_spoil_83 rfl is0 rfl ?_
          refine ax_iload_n (j := 1) dX9_spoil_86 rfl rfl rfl ?_
          refine ax_iload_n (j := 2) dX9_spoil_87 rfl rfl rfl ?_
          refine ad_V2 ksX5_memoryOf lkX9_148 dX9_spoil_88 rfl isP3.o rfl (Nat.le_of_ble_eq_true rfl) (Nat.le_of_ble_eq_true rfl) (s_X5_memoryOf _ isP3 _ _) ?_
          refine ax_iload_n (j := 3) dX9_spoil_91 rfl rfl rfl ?_
          refine ax_iload dX9_spoil_92 rfl rfl ?_
          refine ax_iconst (v := 1) dX9_spoil_94 (by decide) rfl ?_
          refine ad_S5 ksX6_fewestMarks lkX9_237 dX9_spoil_95 rfl (Nat.le_of_ble_eq_true rfl) (Nat.le_of_ble_eq_true rfl) (s_X6_fewestMarks _ isP3 _ _ _ _) ?_
          exact ax_ireturn rfl dX9_spoil_98 ⟨by simp only [F_X9_spoil, if_pos c7, if_neg c36, if_neg c45, if_pos c70], rfl⟩
        · refine ax_iload dX9_spoil_73 rfl rfl ?_
          refine ax_goto (tgt := 98) dX9_spoil_75 (by decide) ?_
          exact ax_ireturn rfl dX9_spoil_98 ⟨by simp only [F_X9_spoil, if_pos c7, if_neg c36, if_neg c45, if_neg c70], rfl⟩
  · refine ax_aload_n (j := 0) dX9_spoil_10 rfl rfl rfl ?_
    refine am_getR flX9_19 dX9_spoil_11 rfl is0 rfl ?_
    refine ax_iload dX9_spoil_14 rfl rfl ?_
    refine ax_iload_n (j := 2) dX9_spoil_16 rfl rfl rfl ?_
    refine ad_V2 ksX5_isPair lkX9_144 dX9_spoil_17 rfl isP3.o rfl (Nat.le_of_ble_eq_true rfl) (Nat.le_of_ble_eq_true rfl) (s_X5_isPair _ isP3 _ _) ?_
    refine ax_if_eq (tgt := 27) dX9_spoil_20 (by decide) rfl (fun c20 => ?_) (fun c20 => ?_)
    · refine ax_iconst (v := 0) dX9_spoil_27 (by decide) rfl ?_
      refine ax_ist5 dX9_spoil_28 rfl (Nat.le_of_ble_eq_true rfl) rfl ?_
      refine ax_iload dX9_spoil_30 rfl rfl ?_
      refine ax_iload_n (j := 3) dX9_spoil_32 rfl rfl rfl ?_
      refine ad_S1 ksX9_isLongEnough lkX9_180 dX9_spoil_33 rfl (Nat.le_of_ble_eq_true rfl) (Nat.le_of_ble_eq_true rfl) (s_X9_isLongEnough _ _) ?_
      refine ax_if_eq (tgt := 52) dX9_spoil_36 (by decide) rfl (fun c36 => ?_) (fun c36 => ?_)
      · refine ax_iconst (v := 0) dX9_spoil_52 (by decide) rfl ?_
        refine ax_aload_n (j := 0) dX9_spoil_53 rfl rfl rfl ?_
        refine am_getR flX9_19 dX9_spoil_54 rfl is0 rfl ?_
        refine ax_iload_n (j := 1) dX9_spoil_57 rfl rfl rfl ?_
        refine ax_iload_n (j := 2) dX9_spoil_58 rfl rfl rfl ?_
        refine ad_V2 ksX5_knows lkX9_171 dX9_spoil_59 rfl isP3.o rfl (Nat.le_of_ble_eq_true rfl) (Nat.le_of_ble_eq_true rfl) (s_X5_knows _ isP3 _ _) ?_
        refine ax_iconst (v := 1) dX9_spoil_62 (by decide) rfl ?_
        refine ad_S4 ksX9_refusal lkX9_72 dX9_spoil_63 rfl (Nat.le_of_ble_eq_true rfl) (Nat.le_of_ble_eq_true rfl) (s_X9_refusal _ _ _ _ _) ?_
        refine ax_ist6 dX9_spoil_66 rfl (Nat.le_of_ble_eq_true rfl) rfl ?_
        refine ax_iload dX9_spoil_68 rfl rfl ?_
        refine ax_if_eq (tgt := 78) dX9_spoil_70 (by decide) rfl (fun c70 => ?_) (fun c70 => ?_)
        · refine ax_aload_n (j := 0) dX9_spoil_78 rfl rfl rfl ?_
          refine am_getR flX9_19 dX9_spoil_79 rfl is0 rfl ?_
          refine ax_aload_n (j := 0) dX9_spoil_82 rfl rfl rfl ?_
          refine am_getR flX9_19 dX9_spoil_83 rfl is0 rfl ?_
          refine ax_iload_n (j := 1) dX9_spoil_86 rfl rfl rfl ?_
          refine ax_iload_n (j := 2) dX9_spoil_87 rfl rfl rfl ?_
          refine ad_V2 ksX5_memoryOf lkX9_148 dX9_spoil_88 rfl isP3.o rfl (Nat.le_of_ble_eq_true rfl) (Nat.le_of_ble_eq_true rfl) (s_X5_memoryOf _ isP3 _ _) ?_
          refine ax_iload_n (j := 3) dX9_spoil_91 rfl rfl rfl ?_
          refine ax_iload dX9_spoil_92 rfl rfl ?_
          refine ax_iconst (v := 1) dX9_spoil_94 (by decide) rfl ?_
          refine ad_S5 ksX6_fewestMarks lkX9_237 dX9_spoil_95 rfl (Nat.le_of_ble_eq_true rfl) (Nat.le_of_ble_eq_true rfl) (s_X6_fewestMarks _ isP3 _ _ _ _) ?_
          exact ax_ireturn rfl dX9_spoil_98 ⟨by simp only [F_X9_spoil, if_neg c7, if_pos c20, if_pos c36, if_pos c70], rfl⟩
        · refine ax_iload dX9_spoil_73 rfl rfl ?_
          refine ax_goto (tgt := 98) dX9_spoil_75 (by decide) ?_
          exact ax_ireturn rfl dX9_spoil_98 ⟨by simp only [F_X9_spoil, if_neg c7, if_pos c20, if_pos c36, if_neg c70], rfl⟩
      · refine ax_iload_n (j := 3) dX9_spoil_39 rfl rfl rfl ?_
        refine ax_iload dX9_spoil_40 rfl rfl ?_
        refine ad_S2 ksX9_hasBit lkX9_201 dX9_spoil_42 rfl (Nat.le_of_ble_eq_true rfl) (Nat.le_of_ble_eq_true rfl) (s_X9_hasBit _ _ _) ?_
        refine ax_if_eq (tgt := 52) dX9_spoil_45 (by decide) rfl (fun c45 => ?_) (fun c45 => ?_)
        · refine ax_iconst (v := 0) dX9_spoil_52 (by decide) rfl ?_
          refine ax_aload_n (j := 0) dX9_spoil_53 rfl rfl rfl ?_
          refine am_getR flX9_19 dX9_spoil_54 rfl is0 rfl ?_
          refine ax_iload_n (j := 1) dX9_spoil_57 rfl rfl rfl ?_
          refine ax_iload_n (j := 2) dX9_spoil_58 rfl rfl rfl ?_
          refine ad_V2 ksX5_knows lkX9_171 dX9_spoil_59 rfl isP3.o rfl (Nat.le_of_ble_eq_true rfl) (Nat.le_of_ble_eq_true rfl) (s_X5_knows _ isP3 _ _) ?_
          refine ax_iconst (v := 1) dX9_spoil_62 (by decide) rfl ?_
          refine ad_S4 ksX9_refusal lkX9_72 dX9_spoil_63 rfl (Nat.le_of_ble_eq_true rfl) (Nat.le_of_ble_eq_true rfl) (s_X9_refusal _ _ _ _ _) ?_
          refine ax_ist6 dX9_spoil_66 rfl (Nat.le_of_ble_eq_true rfl) rfl ?_
          refine ax_iload dX9_spoil_68 rfl rfl ?_
          refine ax_if_eq (tgt := 78) dX9_spoil_70 (by decide) rfl (fun c70 => ?_) (fun c70 => ?_)
          · refine ax_aload_n (j := 0) dX9_spoil_78 rfl rfl rfl ?_
            refine am_getR flX9_19 dX9_spoil_79 rfl is0 rfl ?_
            refine ax_aload_n (j := 0) dX9_spoil_82 rfl rfl rfl ?_
            refine am_getR flX9_19 dX9_spoil_83 rfl is0 rfl ?_
            refine ax_iload_n (j := 1) dX9_spoil_86 rfl rfl rfl ?_
            refine ax_iload_n (j := 2) dX9_spoil_87 rfl rfl rfl ?_
            refine ad_V2 ksX5_memoryOf lkX9_148 dX9_spoil_88 rfl isP3.o rfl (Nat.le_of_ble_eq_true rfl) (Nat.le_of_ble_eq_true rfl) (s_X5_memoryOf _ isP3 _ _) ?_
            refine ax_iload_n (j := 3) dX9_spoil_91 rfl rfl rfl ?_
            refine ax_iload dX9_spoil_92 rfl rfl ?_
            refine ax_iconst (v := 1) dX9_spoil_94 (by decide) rfl ?_
            refine ad_S5 ksX6_fewestMarks lkX9_237 dX9_spoil_95 rfl (Nat.le_of_ble_eq_true rfl) (Nat.le_of_ble_eq_true rfl) (s_X6_fewestMarks _ isP3 _ _ _ _) ?_
            exact ax_ireturn rfl dX9_spoil_98 ⟨by simp only [F_X9_spoil, if_neg c7, if_pos c20, if_neg c36, if_pos c45, if_pos c70], rfl⟩
          · refine ax_iload dX9_spoil_73 rfl rfl ?_
            refine ax_goto (tgt := 98) dX9_spoil_75 (by decide) ?_
            exact ax_ireturn rfl dX9_spoil_98 ⟨by simp only [F_X9_spoil, if_neg c7, if_pos c20, if_neg c36, if_pos c45, if_neg c70], rfl⟩
        · refine ax_iconst (v := 1) dX9_spoil_48 (by decide) rfl ?_
          refine ax_goto (tgt := 53) dX9_spoil_49 (by decide) ?_
          refine ax_aload_n (j := 0) dX9_spoil_53 rfl rfl rfl ?_
          refine am_getR flX9_19 dX9_spoil_54 rfl is0 rfl ?_
          refine ax_iload_n (j := 1) dX9_spoil_57 rfl rfl rfl ?_
          refine ax_iload_n (j := 2) dX9_spoil_58 rfl rfl rfl ?_
          refine ad_V2 ksX5_knows lkX9_171 dX9_spoil_59 rfl isP3.o rfl (Nat.le_of_ble_eq_true rfl) (Nat.le_of_ble_eq_true rfl) (s_X5_knows _ isP3 _ _) ?_
          refine ax_iconst (v := 1) dX9_spoil_62 (by decide) rfl ?_
          refine ad_S4 ksX9_refusal lkX9_72 dX9_spoil_63 rfl (Nat.le_of_ble_eq_true rfl) (Nat.le_of_ble_eq_true rfl) (s_X9_refusal _ _ _ _ _) ?_
          refine ax_ist6 dX9_spoil_66 rfl (Nat.le_of_ble_eq_true rfl) rfl ?_
          refine ax_iload dX9_spoil_68 rfl rfl ?_
          refine ax_if_eq (tgt := 78) dX9_spoil_70 (by decide) rfl (fun c70 => ?_) (fun c70 => ?_)
          · refine ax_aload_n (j := 0) dX9_spoil_78 rfl rfl rfl ?_
            refine am_getR flX9_19 dX9_spoil_79 rfl is0 rfl ?_
            refine ax_aload_n (j := 0) dX9_spoil_82 rfl rfl rfl ?_
            refine am_getR flX9_19 dX9_spoil_83 rfl is0 rfl ?_
            refine ax_iload_n (j := 1) dX9_spoil_86 rfl rfl rfl ?_
            refine ax_iload_n (j := 2) dX9_spoil_87 rfl rfl rfl ?_
            refine ad_V2 ksX5_memoryOf lkX9_148 dX9_spoil_88 rfl isP3.o rfl (Nat.le_of_ble_eq_true rfl) (Nat.le_of_ble_eq_true rfl) (s_X5_memoryOf _ isP3 _ _) ?_
            refine ax_iload_n (j := 3) dX9_spoil_91 rfl rfl rfl ?_
            refine ax_iload dX9_spoil_92 rfl rfl ?_
            refine ax_iconst (v := 1) dX9_spoil_94 (by decide) rfl ?_
            refine ad_S5 ksX6_fewestMarks lkX9_237 dX9_spoil_95 rfl (Nat.le_of_ble_eq_true rfl) (Nat.le_of_ble_eq_true rfl) (s_X6_fewestMarks _ isP3 _ _ _ _) ?_
            exact ax_ireturn rfl dX9_spoil_98 ⟨by simp only [F_X9_spoil, if_neg c7, if_pos c20, if_neg c36, if_neg c45, if_pos c70], rfl⟩
          · refine ax_iload dX9_spoil_73 rfl rfl ?_
            refine ax_goto (tgt := 98) dX9_spoil_75 (by decide) ?_
            exact ax_ireturn rfl dX9_spoil_98 ⟨by simp only [F_X9_spoil, if_neg c7, if_pos c20, if_neg c36, if_neg c45, if_neg c70], rfl⟩
    · refine ax_iconst (v := 1) dX9_spoil_23 (by decide) rfl ?_
      refine ax_goto (tgt := 28) dX9_spoil_24 (by decide) ?_
      refine ax_ist5 dX9_spoil_28 rfl (Nat.le_of_ble_eq_true rfl) rfl ?_
      refine ax_iload dX9_spoil_30 rfl rfl ?_
      refine ax_iload_n (j := 3) dX9_spoil_32 rfl rfl rfl ?_
      refine ad_S1 ksX9_isLongEnough lkX9_180 dX9_spoil_33 rfl (Nat.le_of_ble_eq_true rfl) (Nat.le_of_ble_eq_true rfl) (s_X9_isLongEnough _ _) ?_
      refine ax_if_eq (tgt := 52) dX9_spoil_36 (by decide) rfl (fun c36 => ?_) (fun c36 => ?_)
      · refine ax_iconst (v := 0) dX9_spoil_52 (by decide) rfl ?_
        refine ax_aload_n (j := 0) dX9_spoil_53 rfl rfl rfl ?_
        refine am_getR flX9_19 dX9_spoil_54 rfl is0 rfl ?_
        refine ax_iload_n (j := 1) dX9_spoil_57 rfl rfl rfl ?_
        refine ax_iload_n (j := 2) dX9_spoil_58 rfl rfl rfl ?_
        refine ad_V2 ksX5_knows lkX9_171 dX9_spoil_59 rfl isP3.o rfl (Nat.le_of_ble_eq_true rfl) (Nat.le_of_ble_eq_true rfl) (s_X5_knows _ isP3 _ _) ?_
        refine ax_iconst (v := 1) dX9_spoil_62 (by decide) rfl ?_
        refine ad_S4 ksX9_refusal lkX9_72 dX9_spoil_63 rfl (Nat.le_of_ble_eq_true rfl) (Nat.le_of_ble_eq_true rfl) (s_X9_refusal _ _ _ _ _) ?_
        refine ax_ist6 dX9_spoil_66 rfl (Nat.le_of_ble_eq_true rfl) rfl ?_
        refine ax_iload dX9_spoil_68 rfl rfl ?_
        refine ax_if_eq (tgt := 78) dX9_spoil_70 (by decide) rfl (fun c70 => ?_) (fun c70 => ?_)
        · refine ax_aload_n (j := 0) dX9_spoil_78 rfl rfl rfl ?_
          refine am_getR flX9_19 dX9_spoil_79 rfl is0 rfl ?_
          refine ax_aload_n (j := 0) dX9_spoil_82 rfl rfl rfl ?_
          refine am_getR flX9_19 dX9_spoil_83 rfl is0 rfl ?_
          refine ax_iload_n (j := 1) dX9_spoil_86 rfl rfl rfl ?_
          refine ax_iload_n (j := 2) dX9_spoil_87 rfl rfl rfl ?_
          refine ad_V2 ksX5_memoryOf lkX9_148 dX9_spoil_88 rfl isP3.o rfl (Nat.le_of_ble_eq_true rfl) (Nat.le_of_ble_eq_true rfl) (s_X5_memoryOf _ isP3 _ _) ?_
          refine ax_iload_n (j := 3) dX9_spoil_91 rfl rfl rfl ?_
          refine ax_iload dX9_spoil_92 rfl rfl ?_
          refine ax_iconst (v := 1) dX9_spoil_94 (by decide) rfl ?_
          refine ad_S5 ksX6_fewestMarks lkX9_237 dX9_spoil_95 rfl (Nat.le_of_ble_eq_true rfl) (Nat.le_of_ble_eq_true rfl) (s_X6_fewestMarks _ isP3 _ _ _ _) ?_
          exact ax_ireturn rfl dX9_spoil_98 ⟨by simp only [F_X9_spoil, if_neg c7, if_neg c20, if_pos c36, if_pos c70], rfl⟩
        · refine ax_iload dX9_spoil_73 rfl rfl ?_
          refine ax_goto (tgt := 98) dX9_spoil_75 (by decide) ?_
          exact ax_ireturn rfl dX9_spoil_98 ⟨by simp only [F_X9_spoil, if_neg c7, if_neg c20, if_pos c36, if_neg c70], rfl⟩
      · refine ax_iload_n (j := 3) dX9_spoil_39 rfl rfl rfl ?_
        refine ax_iload dX9_spoil_40 rfl rfl ?_
        refine ad_S2 ksX9_hasBit lkX9_201 dX9_spoil_42 rfl (Nat.le_of_ble_eq_true rfl) (Nat.le_of_ble_eq_true rfl) (s_X9_hasBit _ _ _) ?_
        refine ax_if_eq (tgt := 52) dX9_spoil_45 (by decide) rfl (fun c45 => ?_) (fun c45 => ?_)
        · refine ax_iconst (v := 0) dX9_spoil_52 (by decide) rfl ?_
          refine ax_aload_n (j := 0) dX9_spoil_53 rfl rfl rfl ?_
          refine am_getR flX9_19 dX9_spoil_54 rfl is0 rfl ?_
          refine ax_iload_n (j := 1) dX9_spoil_57 rfl rfl rfl ?_
          refine ax_iload_n (j := 2) dX9_spoil_58 rfl rfl rfl ?_
          refine ad_V2 ksX5_knows lkX9_171 dX9_spoil_59 rfl isP3.o rfl (Nat.le_of_ble_eq_true rfl) (Nat.le_of_ble_eq_true rfl) (s_X5_knows _ isP3 _ _) ?_
          refine ax_iconst (v := 1) dX9_spoil_62 (by decide) rfl ?_
          refine ad_S4 ksX9_refusal lkX9_72 dX9_spoil_63 rfl (Nat.le_of_ble_eq_true rfl) (Nat.le_of_ble_eq_true rfl) (s_X9_refusal _ _ _ _ _) ?_
          refine ax_ist6 dX9_spoil_66 rfl (Nat.le_of_ble_eq_true rfl) rfl ?_
          refine ax_iload dX9_spoil_68 rfl rfl ?_
          refine ax_if_eq (tgt := 78) dX9_spoil_70 (by decide) rfl (fun c70 => ?_) (fun c70 => ?_)
          · refine ax_aload_n (j := 0) dX9_spoil_78 rfl rfl rfl ?_
            refine am_getR flX9_19 dX9_spoil_79 rfl is0 rfl ?_
            refine ax_aload_n (j := 0) dX9_spoil_82 rfl rfl rfl ?_
            refine am_getR flX9_19 dX9_spoil_83 rfl is0 rfl ?_
            refine ax_iload_n (j := 1) dX9_spoil_86 rfl rfl rfl ?_
            refine ax_iload_n (j := 2) dX9_spoil_87 rfl rfl rfl ?_
            refine ad_V2 ksX5_memoryOf lkX9_148 dX9_spoil_88 rfl isP3.o rfl (Nat.le_of_ble_eq_true rfl) (Nat.le_of_ble_eq_true rfl) (s_X5_memoryOf _ isP3 _ _) ?_
            refine ax_iload_n (j := 3) dX9_spoil_91 rfl rfl rfl ?_
            refine ax_iload dX9_spoil_92 rfl rfl ?_
            refine ax_iconst (v := 1) dX9_spoil_94 (by decide) rfl ?_
            refine ad_S5 ksX6_fewestMarks lkX9_237 dX9_spoil_95 rfl (Nat.le_of_ble_eq_true rfl) (Nat.le_of_ble_eq_true rfl) (s_X6_fewestMarks _ isP3 _ _ _ _) ?_
            exact ax_ireturn rfl dX9_spoil_98 ⟨by simp only [F_X9_spoil, if_neg c7, if_neg c20, if_neg c36, if_pos c45, if_pos c70], rfl⟩
          · refine ax_iload dX9_spoil_73 rfl rfl ?_
            refine ax_goto (tgt := 98) dX9_spoil_75 (by decide) ?_
            exact ax_ireturn rfl dX9_spoil_98 ⟨by simp only [F_X9_spoil, if_neg c7, if_neg c20, if_neg c36, if_pos c45, if_neg c70], rfl⟩
        · refine ax_iconst (v := 1) dX9_spoil_48 (by decide) rfl ?_
          refine ax_goto (tgt := 53) dX9_spoil_49 (by decide) ?_
          refine ax_aload_n (j := 0) dX9_spoil_53 rfl rfl rfl ?_
          refine am_getR flX9_19 dX9_spoil_54 rfl is0 rfl ?_
          refine ax_iload_n (j := 1) dX9_spoil_57 rfl rfl rfl ?_
          refine ax_iload_n (j := 2) dX9_spoil_58 rfl rfl rfl ?_
          refine ad_V2 ksX5_knows lkX9_171 dX9_spoil_59 rfl isP3.o rfl (Nat.le_of_ble_eq_true rfl) (Nat.le_of_ble_eq_true rfl) (s_X5_knows _ isP3 _ _) ?_
          refine ax_iconst (v := 1) dX9_spoil_62 (by decide) rfl ?_
          refine ad_S4 ksX9_refusal lkX9_72 dX9_spoil_63 rfl (Nat.le_of_ble_eq_true rfl) (Nat.le_of_ble_eq_true rfl) (s_X9_refusal _ _ _ _ _) ?_
          refine ax_ist6 dX9_spoil_66 rfl (Nat.le_of_ble_eq_true rfl) rfl ?_
          refine ax_iload dX9_spoil_68 rfl rfl ?_
          refine ax_if_eq (tgt := 78) dX9_spoil_70 (by decide) rfl (fun c70 => ?_) (fun c70 => ?_)
          · refine ax_aload_n (j := 0) dX9_spoil_78 rfl rfl rfl ?_
            refine am_getR flX9_19 dX9_spoil_79 rfl is0 rfl ?_
            refine ax_aload_n (j := 0) dX9_spoil_82 rfl rfl rfl ?_
            refine am_getR flX9_19 dX9_spoil_83 rfl is0 rfl ?_
            refine ax_iload_n (j := 1) dX9_spoil_86 rfl rfl rfl ?_
            refine ax_iload_n (j := 2) dX9_spoil_87 rfl rfl rfl ?_
            refine ad_V2 ksX5_memoryOf lkX9_148 dX9_spoil_88 rfl isP3.o rfl (Nat.le_of_ble_eq_true rfl) (Nat.le_of_ble_eq_true rfl) (s_X5_memoryOf _ isP3 _ _) ?_
            refine ax_iload_n (j := 3) dX9_spoil_91 rfl rfl rfl ?_
            refine ax_iload dX9_spoil_92 rfl rfl ?_
            refine ax_iconst (v := 1) dX9_spoil_94 (by decide) rfl ?_
            refine ad_S5 ksX6_fewestMarks lkX9_237 dX9_spoil_95 rfl (Nat.le_of_ble_eq_true rfl) (Nat.le_of_ble_eq_true rfl) (s_X6_fewestMarks _ isP3 _ _ _ _) ?_
            exact ax_ireturn rfl dX9_spoil_98 ⟨by simp only [F_X9_spoil, if_neg c7, if_neg c20, if_neg c36, if_neg c45, if_pos c70], rfl⟩
          · refine ax_iload dX9_spoil_73 rfl rfl ?_
            refine ax_goto (tgt := 98) dX9_spoil_75 (by decide) ?_
            exact ax_ireturn rfl dX9_spoil_98 ⟨by simp only [F_X9_spoil, if_neg c7, if_neg c20, if_neg c36, if_neg c45, if_neg c70], rfl⟩

def F_X9_lost (mem : ax_Me) (p0 : Int32) : Int32 :=
  (F_X5_fadedPair mem 3 p0)
set_option maxRecDepth 20000 in
theorem s_X9_lost {G : ax_G} {l : Launch} (mem : ax_Me) (p0 : Int32)  : AD G l 6 mX9_lost [.ref 0, .int p0] mem (some (.int (F_X9_lost mem p0))) mem := by
  refine ax_start (ls := [.ref 0, .int p0]) (u := 0) (by decide +kernel) (Nat.le_of_ble_eq_true rfl) (Nat.le_refl _) (Nat.le_refl _) rfl ?_
  refine ax_aload_n (j := 0) dX9_lost_0 rfl rfl rfl ?_
  refine am_getR flX9_19 dX9_lost_1 rfl is0 rfl ?_
  refine ax_iload_n (j := 1) dX9_lost_4 rfl rfl rfl ?_
  refine ad_V1 ksX5_fadedPair lkX9_247 dX9_lost_5 rfl isP3.o rfl (Nat.le_of_ble_eq_true rfl) (Nat.le_of_ble_eq_true rfl) (s_X5_fadedPair _ isP3 _) ?_
  exact ax_ireturn rfl dX9_lost_8 ⟨by simp only [F_X9_lost], rfl⟩

def F_X9_alike (mem : ax_Me) (p0 : Int32) : Int32 × ax_Me :=
  (if (F_X9_isWithin mem p0 0 60) = 0 then ((-1000000002), mem) else ((F_X5_firstTwins (F_X5_passYears (F_X5_become mem 8 3) 8 p0) 8), (F_X5_passYears (F_X5_become mem 8 3) 8 p0)))
set_option maxRecDepth 20000 in
theorem s_X9_alike {G : ax_G} {l : Launch} (mem : ax_Me) (p0 : Int32)  : AD G l 3 mX9_alike [.ref 0, .int p0] mem (some (.int (F_X9_alike mem p0).1)) (F_X9_alike mem p0).2 := by
  refine ax_start (ls := [.ref 0, .int p0]) (u := 0) (by decide +kernel) (Nat.le_of_ble_eq_true rfl) (Nat.le_refl _) (Nat.le_refl _) rfl ?_
  refine ax_iload_n (j := 1) dX9_alike_0 rfl rfl rfl ?_
  refine ax_iconst (v := 0) dX9_alike_1 (by decide) rfl ?_
  refine ax_bipush (v := 60) dX9_alike_2 (by decide) rfl ?_
  refine ad_S3 ksX9_isWithin lkX9_64 dX9_alike_4 rfl (Nat.le_of_ble_eq_true rfl) (Nat.le_of_ble_eq_true rfl) (s_X9_isWithin _ _ _ _) ?_
  refine ax_if_ne (tgt := 13) dX9_alike_7 (by decide) rfl (fun c7 => ?_) (fun c7 => ?_)
  · refine ax_aload_n (j := 0) dX9_alike_13 rfl rfl rfl ?_
    refine am_getR flX9_23 dX9_alike_14 rfl is0 rfl ?_
    refine ax_aload_n (j := 0) dX9_alike_17 rfl rfl rfl ?_
    refine am_getR flX9_19 dX9_alike_18 rfl is0 rfl ?_
    refine ad_V1v ksX5_become lkX9_87 dX9_alike_21 rfl isP8.o rfl (Nat.le_of_ble_eq_true rfl) (Nat.le_of_ble_eq_true rfl) (s_X5_become _ isP8 isP3) ?_
    refine ax_aload_n (j := 0) dX9_alike_24 rfl rfl rfl ?_
    refine am_getR flX9_23 dX9_alike_25 rfl is0 rfl ?_
    refine ax_iload_n (j := 1) dX9_alike_28 rfl rfl rfl ?_
    refine ad_V1v ksX5_passYears lkX9_158 dX9_alike_29 rfl isP8.o rfl (Nat.le_of_ble_eq_true rfl) (Nat.le_of_ble_eq_true rfl) (s_X5_passYears _ isP8 _) ?_
    refine ax_aload_n (j := 0) dX9_alike_32 rfl rfl rfl ?_
    refine am_getR flX9_23 dX9_alike_33 rfl is0 rfl ?_
    refine ad_V0 ksX5_firstTwins lkX9_250 dX9_alike_36 rfl isP8.o rfl (Nat.le_of_ble_eq_true rfl) (Nat.le_of_ble_eq_true rfl) (s_X5_firstTwins _ isP8) ?_
    exact ax_ireturn rfl dX9_alike_39 ⟨by simp only [F_X9_alike, if_neg c7], by simp only [F_X9_alike, if_neg c7]⟩
  · refine ax_ldc dX9_alike_10 cnX9_123 rfl ?_
    exact ax_ireturn rfl dX9_alike_12 ⟨by simp only [F_X9_alike, if_pos c7], by simp only [F_X9_alike, if_pos c7]⟩

def F_X9_see (mem : ax_Me) (p0 : Int32) (p1 : Int32) (p2 : Int32) (p3 : Int32) : Int32 × ax_Me :=
  (if (F_X9_isAsked mem p0 p1 p2) = 0 then (if (F_X9_isLongEnough mem p2) = 0 then (if (F_X9_refusal mem 0 0 (F_X5_knows mem 3 p0 p1) (F_X7_hasRoom mem)) = 0 then ((F_X7_add mem p0 p1 p2 p3).1, (F_X7_add mem p0 p1 p2 p3).2) else ((F_X9_refusal mem 0 0 (F_X5_knows mem 3 p0 p1) (F_X7_hasRoom mem)), mem)) else (if (F_X9_hasBit mem p2 p3) = 0 then (if (F_X9_refusal mem 0 0 (F_X5_knows mem 3 p0 p1) (F_X7_hasRoom mem)) = 0 then ((F_X7_add mem p0 p1 p2 p3).1, (F_X7_add mem p0 p1 p2 p3).2) else ((F_X9_refusal mem 0 0 (F_X5_knows mem 3 p0 p1) (F_X7_hasRoom mem)), mem)) else (if (F_X9_refusal mem 0 1 (F_X5_knows mem 3 p0 p1) (F_X7_hasRoom mem)) = 0 then ((F_X7_add mem p0 p1 p2 p3).1, (F_X7_add mem p0 p1 p2 p3).2) else ((F_X9_refusal mem 0 1 (F_X5_knows mem 3 p0 p1) (F_X7_hasRoom mem)), mem)))) else (if (F_X5_has mem 3 p3) = 0 then (if (F_X9_isLongEnough mem p2) = 0 then (if (F_X9_refusal mem 0 0 (F_X5_knows mem 3 p0 p1) (F_X7_hasRoom mem)) = 0 then ((F_X7_add mem p0 p1 p2 p3).1, (F_X7_add mem p0 p1 p2 p3).2) else ((F_X9_refusal mem 0 0 (F_X5_knows mem 3 p0 p1) (F_X7_hasRoom mem)), mem)) else (if (F_X9_hasBit mem p2 p3) = 0 then (if (F_X9_refusal mem 0 0 (F_X5_knows mem 3 p0 p1) (F_X7_hasRoom mem)) = 0 then ((F_X7_add mem p0 p1 p2 p3).1, (F_X7_add mem p0 p1 p2 p3).2) else ((F_X9_refusal mem 0 0 (F_X5_knows mem 3 p0 p1) (F_X7_hasRoom mem)), mem)) else (if (F_X9_refusal mem 0 1 (F_X5_knows mem 3 p0 p1) (F_X7_hasRoom mem)) = 0 then ((F_X7_add mem p0 p1 p2 p3).1, (F_X7_add mem p0 p1 p2 p3).2) else ((F_X9_refusal mem 0 1 (F_X5_knows mem 3 p0 p1) (F_X7_hasRoom mem)), mem)))) else (if (F_X9_isLongEnough mem p2) = 0 then (if (F_X9_refusal mem 1 0 (F_X5_knows mem 3 p0 p1) (F_X7_hasRoom mem)) = 0 then ((F_X7_add mem p0 p1 p2 p3).1, (F_X7_add mem p0 p1 p2 p3).2) else ((F_X9_refusal mem 1 0 (F_X5_knows mem 3 p0 p1) (F_X7_hasRoom mem)), mem)) else (if (F_X9_hasBit mem p2 p3) = 0 then (if (F_X9_refusal mem 1 0 (F_X5_knows mem 3 p0 p1) (F_X7_hasRoom mem)) = 0 then ((F_X7_add mem p0 p1 p2 p3).1, (F_X7_add mem p0 p1 p2 p3).2) else ((F_X9_refusal mem 1 0 (F_X5_knows mem 3 p0 p1) (F_X7_hasRoom mem)), mem)) else (if (F_X9_refusal mem 1 1 (F_X5_knows mem 3 p0 p1) (F_X7_hasRoom mem)) = 0 then ((F_X7_add mem p0 p1 p2 p3).1, (F_X7_add mem p0 p1 p2 p3).2) else ((F_X9_refusal mem 1 1 (F_X5_knows mem 3 p0 p1) (F_X7_hasRoom mem)), mem))))))
set_option maxRecDepth 20000 in
theorem s_X9_see {G : ax_G} {l : Launch} (mem : ax_Me) (p0 : Int32) (p1 : Int32) (p2 : Int32) (p3 : Int32)  : AD G l 4 mX9_see [.ref 0, .int p0, .int p1, .int p2, .int p3] mem (some (.int (F_X9_see mem p0 p1 p2 p3).1)) (F_X9_see mem p0 p1 p2 p3).2 := by
  refine ax_start (ls := [.ref 0, .int p0, .int p1, .int p2, .int p3, .float 0, .float 0]) (u := 2) (by decide +kernel) (Nat.le_of_ble_eq_true rfl) (Nat.le_refl _) (Nat.le_refl _) rfl ?_
  refine ax_aload_n (j := 0) dX9_see_0 rfl rfl rfl ?_
  refine ax_iload_n (j := 1) dX9_see_1 rfl rfl rfl ?_
  refine ax_iload_n (j := 2) dX9_see_2 rfl rfl rfl ?_
  refine ax_iload_n (j := 3) dX9_see_3 rfl rfl rfl ?_
  refine ad_V3 ksX9_isAsked lkX9_177 dX9_see_4 rfl is0 rfl (Nat.le_of_ble_eq_true rfl) (Nat.le_of_ble_eq_true rfl) (s_X9_isAsked _ _ _ _) ?_
  refine ax_if_eq (tgt := 26) dX9_see_7 (by decide) rfl (fun c7 => ?_) (fun c7 => ?_)
  · refine ax_iconst (v := 0) dX9_see_26 (by decide) rfl ?_
    refine ax_ist5 dX9_see_27 rfl (Nat.le_of_ble_eq_true rfl) rfl ?_
    refine ax_iload dX9_see_29 rfl rfl ?_
    refine ax_iload_n (j := 3) dX9_see_31 rfl rfl rfl ?_
    refine ad_S1 ksX9_isLongEnough lkX9_180 dX9_see_32 rfl (Nat.le_of_ble_eq_true rfl) (Nat.le_of_ble_eq_true rfl) (s_X9_isLongEnough _ _) ?_
    refine ax_if_eq (tgt := 51) dX9_see_35 (by decide) rfl (fun c35 => ?_) (fun c35 => ?_)
    · refine ax_iconst (v := 0) dX9_see_51 (by decide) rfl ?_
      refine ax_aload_n (j := 0) dX9_see_52 rfl rfl rfl ?_
      refine am_getR flX9_19 dX9_see_53 rfl is0 rfl ?_
      refine ax_iload_n (j := 1) dX9_see_56 rfl rfl rfl ?_
      refine ax_iload_n (j := 2) dX9_see_57 rfl rfl rfl ?_
      refine ad_V2 ksX5_knows lkX9_171 dX9_see_58 rfl isP3.o rfl (Nat.le_of_ble_eq_true rfl) (Nat.le_of_ble_eq_true rfl) (s_X5_knows _ isP3 _ _) ?_
      refine ax_aload_n (j := 0) dX9_see_61 rfl rfl rfl ?_
      refine am_getR flX9_36 dX9_see_62 rfl is0 rfl ?_
      refine ad_V0 ksX7_hasRoom lkX9_253 dX9_see_65 rfl is115 rfl (Nat.le_of_ble_eq_true rfl) (Nat.le_of_ble_eq_true rfl) (s_X7_hasRoom _ ) ?_
      refine ad_S4 ksX9_refusal lkX9_72 dX9_see_68 rfl (Nat.le_of_ble_eq_true rfl) (Nat.le_of_ble_eq_true rfl) (s_X9_refusal _ _ _ _ _) ?_
      refine ax_ist6 dX9_see_71 rfl (Nat.le_of_ble_eq_true rfl) rfl ?_
      refine ax_iload dX9_see_73 rfl rfl ?_
      refine ax_if_eq (tgt := 83) dX9_see_75 (by decide) rfl (fun c75 => ?_) (fun c75 => ?_)
      · refine ax_aload_n (j := 0) dX9_see_83 rfl rfl rfl ?_
        refine am_getR flX9_36 dX9_see_84 rfl is0 rfl ?_
        refine ax_iload_n (j := 1) dX9_see_87 rfl rfl rfl ?_
        refine ax_iload_n (j := 2) dX9_see_88 rfl rfl rfl ?_
        refine ax_iload_n (j := 3) dX9_see_89 rfl rfl rfl ?_
        refine ax_iload dX9_see_90 rfl rfl ?_
        refine ad_V4 ksX7_add lkX9_254 dX9_see_92 rfl is115 rfl (Nat.le_of_ble_eq_true rfl) (Nat.le_of_ble_eq_true rfl) (s_X7_add _ _ _ _ _) ?_
        exact ax_ireturn rfl dX9_see_95 ⟨by simp only [F_X9_see, if_pos c7, if_pos c35, if_pos c75], by simp only [F_X9_see, if_pos c7, if_pos c35, if_pos c75]⟩
      · refine ax_iload dX9_see_78 rfl rfl ?_
        refine ax_goto (tgt := 95) dX9_see_80 (by decide) ?_
        exact ax_ireturn rfl dX9_see_95 ⟨by simp only [F_X9_see, if_pos c7, if_pos c35, if_neg c75], by simp only [F_X9_see, if_pos c7, if_pos c35, if_neg c75]⟩
    · refine ax_iload_n (j := 3) dX9_see_38 rfl rfl rfl ?_
      refine ax_iload dX9_see_39 rfl rfl ?_
      refine ad_S2 ksX9_hasBit lkX9_201 dX9_see_41 rfl (Nat.le_of_ble_eq_true rfl) (Nat.le_of_ble_eq_true rfl) (s_X9_hasBit _ _ _) ?_
      refine ax_if_eq (tgt := 51) dX9_see_44 (by decide) rfl (fun c44 => ?_) (fun c44 => ?_)
      · refine ax_iconst (v := 0) dX9_see_51 (by decide) rfl ?_
        refine ax_aload_n (j := 0) dX9_see_52 rfl rfl rfl ?_
        refine am_getR flX9_19 dX9_see_53 rfl is0 rfl ?_
        refine ax_iload_n (j := 1) dX9_see_56 rfl rfl rfl ?_
        refine ax_iload_n (j := 2) dX9_see_57 rfl rfl rfl ?_
        refine ad_V2 ksX5_knows lkX9_171 dX9_see_58 rfl isP3.o rfl (Nat.le_of_ble_eq_true rfl) (Nat.le_of_ble_eq_true rfl) (s_X5_knows _ isP3 _ _) ?_
        refine ax_aload_n (j := 0) dX9_see_61 rfl rfl rfl ?_
        refine am_getR flX9_36 dX9_see_62 rfl is0 rfl ?_
        refine ad_V0 ksX7_hasRoom lkX9_253 dX9_see_65 rfl is115 rfl (Nat.le_of_ble_eq_true rfl) (Nat.le_of_ble_eq_true rfl) (s_X7_hasRoom _ ) ?_
        refine ad_S4 ksX9_refusal lkX9_72 dX9_see_68 rfl (Nat.le_of_ble_eq_true rfl) (Nat.le_of_ble_eq_true rfl) (s_X9_refusal _ _ _ _ _) ?_
        refine ax_ist6 dX9_see_71 rfl (Nat.le_of_ble_eq_true rfl) rfl ?_
        refine ax_iload dX9_see_73 rfl rfl ?_
        refine ax_if_eq (tgt := 83) dX9_see_75 (by decide) rfl (fun c75 => ?_) (fun c75 => ?_)
        · refine ax_aload_n (j := 0) dX9_see_83 rfl rfl rfl ?_
          refine am_getR flX9_36 dX9_see_84 rfl is0 rfl ?_
          refine ax_iload_n (j := 1) dX9_see_87 rfl rfl rfl ?_
          refine ax_iload_n (j := 2) dX9_see_88 rfl rfl rfl ?_
          refine ax_iload_n (j := 3) dX9_see_89 rfl rfl rfl ?_
          refine ax_iload dX9_see_90 rfl rfl ?_
          refine ad_V4 ksX7_add lkX9_254 dX9_see_92 rfl is115 rfl (Nat.le_of_ble_eq_true rfl) (Nat.le_of_ble_eq_true rfl) (s_X7_add _ _ _ _ _) ?_
          exact ax_ireturn rfl dX9_see_95 ⟨by simp only [F_X9_see, if_pos c7, if_neg c35, if_pos c44, if_pos c75], by simp only [F_X9_see, if_pos c7, if_neg c35, if_pos c44, if_pos c75]⟩
        · refine ax_iload dX9_see_78 rfl rfl ?_
          refine ax_goto (tgt := 95) dX9_see_80 (by decide) ?_
          exact ax_ireturn rfl dX9_see_95 ⟨by simp only [F_X9_see, if_pos c7, if_neg c35, if_pos c44, if_neg c75], by simp only [F_X9_see, if_pos c7, if_neg c35, if_pos c44, if_neg c75]⟩
      · refine ax_iconst (v := 1) dX9_see_47 (by decide) rfl ?_
        refine ax_goto (tgt := 52) dX9_see_48 (by decide) ?_
        refine ax_aload_n (j := 0) dX9_see_52 rfl rfl rfl ?_
        refine am_getR flX9_19 dX9_see_53 rfl is0 rfl ?_
        refine ax_iload_n (j := 1) dX9_see_56 rfl rfl rfl ?_
        refine ax_iload_n (j := 2) dX9_see_57 rfl rfl rfl ?_
        refine ad_V2 ksX5_knows lkX9_171 dX9_see_58 rfl isP3.o rfl (Nat.le_of_ble_eq_true rfl) (Nat.le_of_ble_eq_true rfl) (s_X5_knows _ isP3 _ _) ?_
        refine ax_aload_n (j := 0) dX9_see_61 rfl rfl rfl ?_
        refine am_getR flX9_36 dX9_see_62 rfl is0 rfl ?_
        refine ad_V0 ksX7_hasRoom lkX9_253 dX9_see_65 rfl is115 rfl (Nat.le_of_ble_eq_true rfl) (Nat.le_of_ble_eq_true rfl) (s_X7_hasRoom _ ) ?_
        refine ad_S4 ksX9_refusal lkX9_72 dX9_see_68 rfl (Nat.le_of_ble_eq_true rfl) (Nat.le_of_ble_eq_true rfl) (s_X9_refusal _ _ _ _ _) ?_
        refine ax_ist6 dX9_see_71 rfl (Nat.le_of_ble_eq_true rfl) rfl ?_
        refine ax_iload dX9_see_73 rfl rfl ?_
        refine ax_if_eq (tgt := 83) dX9_see_75 (by decide) rfl (fun c75 => ?_) (fun c75 => ?_)
        · refine ax_aload_n (j := 0) dX9_see_83 rfl rfl rfl ?_
          refine am_getR flX9_36 dX9_see_84 rfl is0 rfl ?_
          refine ax_iload_n (j := 1) dX9_see_87 rfl rfl rfl ?_
          refine ax_iload_n (j := 2) dX9_see_88 rfl rfl rfl ?_
          refine ax_iload_n (j := 3) dX9_see_89 rfl rfl rfl ?_
          refine ax_iload dX9_see_90 rfl rfl ?_
          refine ad_V4 ksX7_add lkX9_254 dX9_see_92 rfl is115 rfl (Nat.le_of_ble_eq_true rfl) (Nat.le_of_ble_eq_true rfl) (s_X7_add _ _ _ _ _) ?_
          exact ax_ireturn rfl dX9_see_95 ⟨by simp only [F_X9_see, if_pos c7, if_neg c35, if_neg c44, if_pos c75], by simp only [F_X9_see, if_pos c7, if_neg c35, if_neg c44, if_pos c75]⟩
        · refine ax_iload dX9_see_78 rfl rfl ?_
          refine ax_goto (tgt := 95) dX9_see_80 (by decide) ?_
          exact ax_ireturn rfl dX9_see_95 ⟨by simp only [F_X9_see, if_pos c7, if_neg c35, if_neg c44, if_neg c75], by simp only [F_X9_see, if_pos c7, if_neg c35, if_neg c44, if_neg c75]⟩
  · refine ax_aload_n (j := 0) dX9_see_10 rfl rfl rfl ?_
    refine am_getR flX9_19 dX9_see_11 rfl is0 rfl ?_
    refine ax_iload dX9_see_14 rfl rfl ?_
    refine ad_V1 ksX5_has lkX9_124 dX9_see_16 rfl isP3.o rfl (Nat.le_of_ble_eq_true rfl) (Nat.le_of_ble_eq_true rfl) (s_X5_has _ isP3 _) ?_
    refine ax_if_eq (tgt := 26) dX9_see_19 (by decide) rfl (fun c19 => ?_) (fun c19 => ?_)
    · refine ax_iconst (v := 0) dX9_see_26 (by decide) rfl ?_
      refine ax_ist5 dX9_see_27 rfl (Nat.le_of_ble_eq_true rfl) rfl ?_
      refine ax_iload dX9_see_29 rfl rfl ?_
      refine ax_iload_n (j := 3) dX9_see_31 rfl rfl rfl ?_
      refine ad_S1 ksX9_isLongEnough lkX9_180 dX9_see_32 rfl (Nat.le_of_ble_eq_true rfl) (Nat.le_of_ble_eq_true rfl) (s_X9_isLongEnough _ _) ?_
      refine ax_if_eq (tgt := 51) dX9_see_35 (by decide) rfl (fun c35 => ?_) (fun c35 => ?_)
      · refine ax_iconst (v := 0) dX9_see_51 (by decide) rfl ?_
        refine ax_aload_n (j := 0) dX9_see_52 rfl rfl rfl ?_
        refine am_getR flX9_19 dX9_see_53 rfl is0 rfl ?_
        refine ax_iload_n (j := 1) dX9_see_56 rfl rfl rfl ?_
        refine ax_iload_n (j := 2) dX9_see_57 rfl rfl rfl ?_
        refine ad_V2 ksX5_knows lkX9_171 dX9_see_58 rfl isP3.o rfl (Nat.le_of_ble_eq_true rfl) (Nat.le_of_ble_eq_true rfl) (s_X5_knows _ isP3 _ _) ?_
        refine ax_aload_n (j := 0) dX9_see_61 rfl rfl rfl ?_
        refine am_getR flX9_36 dX9_see_62 rfl is0 rfl ?_
        refine ad_V0 ksX7_hasRoom lkX9_253 dX9_see_65 rfl is115 rfl (Nat.le_of_ble_eq_true rfl) (Nat.le_of_ble_eq_true rfl) (s_X7_hasRoom _ ) ?_
        refine ad_S4 ksX9_refusal lkX9_72 dX9_see_68 rfl (Nat.le_of_ble_eq_true rfl) (Nat.le_of_ble_eq_true rfl) (s_X9_refusal _ _ _ _ _) ?_
        refine ax_ist6 dX9_see_71 rfl (Nat.le_of_ble_eq_true rfl) rfl ?_
        refine ax_iload dX9_see_73 rfl rfl ?_
        refine ax_if_eq (tgt := 83) dX9_see_75 (by decide) rfl (fun c75 => ?_) (fun c75 => ?_)
        · refine ax_aload_n (j := 0) dX9_see_83 rfl rfl rfl ?_
          refine am_getR flX9_36 dX9_see_84 rfl is0 rfl ?_
          refine ax_iload_n (j := 1) dX9_see_87 rfl rfl rfl ?_
          refine ax_iload_n (j := 2) dX9_see_88 rfl rfl rfl ?_
          refine ax_iload_n (j := 3) dX9_see_89 rfl rfl rfl ?_
          refine ax_iload dX9_see_90 rfl rfl ?_
          refine ad_V4 ksX7_add lkX9_254 dX9_see_92 rfl is115 rfl (Nat.le_of_ble_eq_true rfl) (Nat.le_of_ble_eq_true rfl) (s_X7_add _ _ _ _ _) ?_
          exact ax_ireturn rfl dX9_see_95 ⟨by simp only [F_X9_see, if_neg c7, if_pos c19, if_pos c35, if_pos c75], by simp only [F_X9_see, if_neg c7, if_pos c19, if_pos c35, if_pos c75]⟩
        · refine ax_iload dX9_see_78 rfl rfl ?_
          refine ax_goto (tgt := 95) dX9_see_80 (by decide) ?_
          exact ax_ireturn rfl dX9_see_95 ⟨by simp only [F_X9_see, if_neg c7, if_pos c19, if_pos c35, if_neg c75], by simp only [F_X9_see, if_neg c7, if_pos c19, if_pos c35, if_neg c75]⟩
      · refine ax_iload_n (j := 3) dX9_see_38 rfl rfl rfl ?_
        refine ax_iload dX9_see_39 rfl rfl ?_
        refine ad_S2 ksX9_hasBit lkX9_201 dX9_see_41 rfl (Nat.le_of_ble_eq_true rfl) (Nat.le_of_ble_eq_true rfl) (s_X9_hasBit _ _ _) ?_
        refine ax_if_eq (tgt := 51) dX9_see_44 (by decide) rfl (fun c44 => ?_) (fun c44 => ?_)
        · refine ax_iconst (v := 0) dX9_see_51 (by decide) rfl ?_
          refine ax_aload_n (j := 0) dX9_see_52 rfl rfl rfl ?_
          refine am_getR flX9_19 dX9_see_53 rfl is0 rfl ?_
          refine ax_iload_n (j := 1) dX9_see_56 rfl rfl rfl ?_
          refine ax_iload_n (j := 2) dX9_see_57 rfl rfl rfl ?_
          refine ad_V2 ksX5_knows lkX9_171 dX9_see_58 rfl isP3.o rfl (Nat.le_of_ble_eq_true rfl) (Nat.le_of_ble_eq_true rfl) (s_X5_knows _ isP3 _ _) ?_
          refine ax_aload_n (j := 0) dX9_see_61 rfl rfl rfl ?_
          refine am_getR flX9_36 dX9_see_62 rfl is0 rfl ?_
          refine ad_V0 ksX7_hasRoom lkX9_253 dX9_see_65 rfl is115 rfl (Nat.le_of_ble_eq_true rfl) (Nat.le_of_ble_eq_true rfl) (s_X7_hasRoom _ ) ?_
          refine ad_S4 ksX9_refusal lkX9_72 dX9_see_68 rfl (Nat.le_of_ble_eq_true rfl) (Nat.le_of_ble_eq_true rfl) (s_X9_refusal _ _ _ _ _) ?_
          refine ax_ist6 dX9_see_71 rfl (Nat.le_of_ble_eq_true rfl) rfl ?_
          refine ax_iload dX9_see_73 rfl rfl ?_
          refine ax_if_eq (tgt := 83) dX9_see_75 (by decide) rfl (fun c75 => ?_) (fun c75 => ?_)
          · refine ax_aload_n (j := 0) dX9_see_83 rfl rfl rfl ?_
            refine am_getR flX9_36 dX9_see_84 rfl is0 rfl ?_
            refine ax_iload_n (j := 1) dX9_see_87 rfl rfl rfl ?_
            refine ax_iload_n (j := 2) dX9_see_88 rfl rfl rfl ?_
            refine ax_iload_n (j := 3) dX9_see_89 rfl rfl rfl ?_
            refine ax_iload dX9_see_90 rfl rfl ?_
            refine ad_V4 ksX7_add lkX9_254 dX9_see_92 rfl is115 rfl (Nat.le_of_ble_eq_true rfl) (Nat.le_of_ble_eq_true rfl) (s_X7_add _ _ _ _ _) ?_
            exact ax_ireturn rfl dX9_see_95 ⟨by simp only [F_X9_see, if_neg c7, if_pos c19, if_neg c35, if_pos c44, if_pos c75], by simp only [F_X9_see, if_neg c7, if_pos c19, if_neg c35, if_pos c44, if_pos c75]⟩
          · refine ax_iload dX9_see_78 rfl rfl ?_
            refine ax_goto (tgt := 95) dX9_see_80 (by decide) ?_
            exact ax_ireturn rfl dX9_see_95 ⟨by simp only [F_X9_see, if_neg c7, if_pos c19, if_neg c35, if_pos c44, if_neg c75], by simp only [F_X9_see, if_neg c7, if_pos c19, if_neg c35, if_pos c44, if_neg c75]⟩
        · refine ax_iconst (v := 1) dX9_see_47 (by decide) rfl ?_
          refine ax_goto (tgt := 52) dX9_see_48 (by decide) ?_
          refine ax_aload_n (j := 0) dX9_see_52 rfl rfl rfl ?_
          refine am_getR flX9_19 dX9_see_53 rfl is0 rfl ?_
          refine ax_iload_n (j := 1) dX9_see_56 rfl rfl rfl ?_
          refine ax_iload_n (j := 2) dX9_see_57 rfl rfl rfl ?_
          refine ad_V2 ksX5_knows lkX9_171 dX9_see_58 rfl isP3.o rfl (Nat.le_of_ble_eq_true rfl) (Nat.le_of_ble_eq_true rfl) (s_X5_knows _ isP3 _ _) ?_
          refine ax_aload_n (j := 0) dX9_see_61 rfl rfl rfl ?_
          refine am_getR flX9_36 dX9_see_62 rfl is0 rfl ?_
          refine ad_V0 ksX7_hasRoom lkX9_253 dX9_see_65 rfl is115 rfl (Nat.le_of_ble_eq_true rfl) (Nat.le_of_ble_eq_true rfl) (s_X7_hasRoom _ ) ?_
          refine ad_S4 ksX9_refusal lkX9_72 dX9_see_68 rfl (Nat.le_of_ble_eq_true rfl) (Nat.le_of_ble_eq_true rfl) (s_X9_refusal _ _ _ _ _) ?_
          refine ax_ist6 dX9_see_71 rfl (Nat.le_of_ble_eq_true rfl) rfl ?_
          refine ax_iload dX9_see_73 rfl rfl ?_
          refine ax_if_eq (tgt := 83) dX9_see_75 (by decide) rfl (fun c75 => ?_) (fun c75 => ?_)
          · refine ax_aload_n (j := 0) dX9_see_83 rfl rfl rfl ?_
            refine am_getR flX9_36 dX9_see_84 rfl is0 rfl ?_
            refine ax_iload_n (j := 1) dX9_see_87 rfl rfl rfl ?_
            refine ax_iload_n (j := 2) dX9_see_88 rfl rfl rfl ?_
            refine ax_iload_n (j := 3) dX9_see_89 rfl rfl rfl ?_
            refine ax_iload dX9_see_90 rfl rfl ?_
            refine ad_V4 ksX7_add lkX9_254 dX9_see_92 rfl is115 rfl (Nat.le_of_ble_eq_true rfl) (Nat.le_of_ble_eq_true rfl) (s_X7_add _ _ _ _ _) ?_
            exact ax_ireturn rfl dX9_see_95 ⟨by simp only [F_X9_see, if_neg c7, if_pos c19, if_neg c35, if_neg c44, if_pos c75], by simp only [F_X9_see, if_neg c7, if_pos c19, if_neg c35, if_neg c44, if_pos c75]⟩
          · refine ax_iload dX9_see_78 rfl rfl ?_
            refine ax_goto (tgt := 95) dX9_see_80 (by decide) ?_
            exact ax_ireturn rfl dX9_see_95 ⟨by simp only [F_X9_see, if_neg c7, if_pos c19, if_neg c35, if_neg c44, if_neg c75], by simp only [F_X9_see, if_neg c7, if_pos c19, if_neg c35, if_neg c44, if_neg c75]⟩
    · refine ax_iconst (v := 1) dX9_see_22 (by decide) rfl ?_
      refine ax_goto (tgt := 27) dX9_see_23 (by decide) ?_
      refine ax_ist5 dX9_see_27 rfl (Nat.le_of_ble_eq_true rfl) rfl ?_
      refine ax_iload dX9_see_29 rfl rfl ?_
      refine ax_iload_n (j := 3) dX9_see_31 rfl rfl rfl ?_
      refine ad_S1 ksX9_isLongEnough lkX9_180 dX9_see_32 rfl (Nat.le_of_ble_eq_true rfl) (Nat.le_of_ble_eq_true rfl) (s_X9_isLongEnough _ _) ?_
      refine ax_if_eq (tgt := 51) dX9_see_35 (by decide) rfl (fun c35 => ?_) (fun c35 => ?_)
      · refine ax_iconst (v := 0) dX9_see_51 (by decide) rfl ?_
        refine ax_aload_n (j := 0) dX9_see_52 rfl rfl rfl ?_
        refine am_getR flX9_19 dX9_see_53 rfl is0 rfl ?_
        refine ax_iload_n (j := 1) dX9_see_56 rfl rfl rfl ?_
        refine ax_iload_n (j := 2) dX9_see_57 rfl rfl rfl ?_
        refine ad_V2 ksX5_knows lkX9_171 dX9_see_58 rfl isP3.o rfl (Nat.le_of_ble_eq_true rfl) (Nat.le_of_ble_eq_true rfl) (s_X5_knows _ isP3 _ _) ?_
        refine ax_aload_n (j := 0) dX9_see_61 rfl rfl rfl ?_
        refine am_getR flX9_36 dX9_see_62 rfl is0 rfl ?_
        refine ad_V0 ksX7_hasRoom lkX9_253 dX9_see_65 rfl is115 rfl (Nat.le_of_ble_eq_true rfl) (Nat.le_of_ble_eq_true rfl) (s_X7_hasRoom _ ) ?_
        refine ad_S4 ksX9_refusal lkX9_72 dX9_see_68 rfl (Nat.le_of_ble_eq_true rfl) (Nat.le_of_ble_eq_true rfl) (s_X9_refusal _ _ _ _ _) ?_
        refine ax_ist6 dX9_see_71 rfl (Nat.le_of_ble_eq_true rfl) rfl ?_
        refine ax_iload dX9_see_73 rfl rfl ?_
        refine ax_if_eq (tgt := 83) dX9_see_75 (by decide) rfl (fun c75 => ?_) (fun c75 => ?_)
        · refine ax_aload_n (j := 0) dX9_see_83 rfl rfl rfl ?_
          refine am_getR flX9_36 dX9_see_84 rfl is0 rfl ?_
          refine ax_iload_n (j := 1) dX9_see_87 rfl rfl rfl ?_
          refine ax_iload_n (j := 2) dX9_see_88 rfl rfl rfl ?_
          refine ax_iload_n (j := 3) dX9_see_89 rfl rfl rfl ?_
          refine ax_iload dX9_see_90 rfl rfl ?_
          refine ad_V4 ksX7_add lkX9_254 dX9_see_92 rfl is115 rfl (Nat.le_of_ble_eq_true rfl) (Nat.le_of_ble_eq_true rfl) (s_X7_add _ _ _ _ _) ?_
          exact ax_ireturn rfl dX9_see_95 ⟨by simp only [F_X9_see, if_neg c7, if_neg c19, if_pos c35, if_pos c75], by simp only [F_X9_see, if_neg c7, if_neg c19, if_pos c35, if_pos c75]⟩
        · refine ax_iload dX9_see_78 rfl rfl ?_
          refine ax_goto (tgt := 95) dX9_see_80 (by decide) ?_
          exact ax_ireturn rfl dX9_see_95 ⟨by simp only [F_X9_see, if_neg c7, if_neg c19, if_pos c35, if_neg c75], by simp only [F_X9_see, if_neg c7, if_neg c19, if_pos c35, if_neg c75]⟩
      · refine ax_iload_n (j := 3) dX9_see_38 rfl rfl rfl ?_
        refine ax_iload dX9_see_39 rfl rfl ?_
        refine ad_S2 ksX9_hasBit lkX9_201 dX9_see_41 rfl (Nat.le_of_ble_eq_true rfl) (Nat.le_of_ble_eq_true rfl) (s_X9_hasBit _ _ _) ?_
        refine ax_if_eq (tgt := 51) dX9_see_44 (by decide) rfl (fun c44 => ?_) (fun c44 => ?_)
        · refine ax_iconst (v := 0) dX9_see_51 (by decide) rfl ?_
          refine ax_aload_n (j := 0) dX9_see_52 rfl rfl rfl ?_
          refine am_getR flX9_19 dX9_see_53 rfl is0 rfl ?_
          refine ax_iload_n (j := 1) dX9_see_56 rfl rfl rfl ?_
          refine ax_iload_n (j := 2) dX9_see_57 rfl rfl rfl ?_
          refine ad_V2 ksX5_knows lkX9_171 dX9_see_58 rfl isP3.o rfl (Nat.le_of_ble_eq_true rfl) (Nat.le_of_ble_eq_true rfl) (s_X5_knows _ isP3 _ _) ?_
          refine ax_aload_n (j := 0) dX9_see_61 rfl rfl rfl ?_
          refine am_getR flX9_36 dX9_see_62 rfl is0 rfl ?_
          refine ad_V0 ksX7_hasRoom lkX9_253 dX9_see_65 rfl is115 rfl (Nat.le_of_ble_eq_true rfl) (Nat.le_of_ble_eq_true rfl) (s_X7_hasRoom _ ) ?_
          refine ad_S4 ksX9_refusal lkX9_72 dX9_see_68 rfl (Nat.le_of_ble_eq_true rfl) (Nat.le_of_ble_eq_true rfl) (s_X9_refusal _ _ _ _ _) ?_
          refine ax_ist6 dX9_see_71 rfl (Nat.le_of_ble_eq_true rfl) rfl ?_
          refine ax_iload dX9_see_73 rfl rfl ?_
          refine ax_if_eq (tgt := 83) dX9_see_75 (by decide) rfl (fun c75 => ?_) (fun c75 => ?_)
          · refine ax_aload_n (j := 0) dX9_see_83 rfl rfl rfl ?_
            refine am_getR flX9_36 dX9_see_84 rfl is0 rfl ?_
            refine ax_iload_n (j := 1) dX9_see_87 rfl rfl rfl ?_
            refine ax_iload_n (j := 2) dX9_see_88 rfl rfl rfl ?_
            refine ax_iload_n (j := 3) dX9_see_89 rfl rfl rfl ?_
            refine ax_iload dX9_see_90 rfl rfl ?_
            refine ad_V4 ksX7_add lkX9_254 dX9_see_92 rfl is115 rfl (Nat.le_of_ble_eq_true rfl) (Nat.le_of_ble_eq_true rfl) (s_X7_add _ _ _ _ _) ?_
            exact ax_ireturn rfl dX9_see_95 ⟨by simp only [F_X9_see, if_neg c7, if_neg c19, if_neg c35, if_pos c44, if_pos c75], by simp only [F_X9_see, if_neg c7, if_neg c19, if_neg c35, if_pos c44, if_pos c75]⟩
          · refine ax_iload dX9_see_78 rfl rfl ?_
            refine ax_goto (tgt := 95) dX9_see_80 (by decide) ?_
            exact ax_ireturn rfl dX9_see_95 ⟨by simp only [F_X9_see, if_neg c7, if_neg c19, if_neg c35, if_pos c44, if_neg c75], by simp only [F_X9_see, if_neg c7, if_neg c19, if_neg c35, if_pos c44, if_neg c75]⟩
        · refine ax_iconst (v := 1) dX9_see_47 (by decide) rfl ?_
          refine ax_goto (tgt := 52) dX9_see_48 (by decide) ?_
          refine ax_aload_n (j := 0) dX9_see_52 rfl rfl rfl ?_
          refine am_getR flX9_19 dX9_see_53 rfl is0 rfl ?_
          refine ax_iload_n (j := 1) dX9_see_56 rfl rfl rfl ?_
          refine ax_iload_n (j := 2) dX9_see_57 rfl rfl rfl ?_
          refine ad_V2 ksX5_knows lkX9_171 dX9_see_58 rfl isP3.o rfl (Nat.le_of_ble_eq_true rfl) (Nat.le_of_ble_eq_true rfl) (s_X5_knows _ isP3 _ _) ?_
          refine ax_aload_n (j := 0) dX9_see_61 rfl rfl rfl ?_
          refine am_getR flX9_36 dX9_see_62 rfl is0 rfl ?_
          refine ad_V0 ksX7_hasRoom lkX9_253 dX9_see_65 rfl is115 rfl (Nat.le_of_ble_eq_true rfl) (Nat.le_of_ble_eq_true rfl) (s_X7_hasRoom _ ) ?_
          refine ad_S4 ksX9_refusal lkX9_72 dX9_see_68 rfl (Nat.le_of_ble_eq_true rfl) (Nat.le_of_ble_eq_true rfl) (s_X9_refusal _ _ _ _ _) ?_
          refine ax_ist6 dX9_see_71 rfl (Nat.le_of_ble_eq_true rfl) rfl ?_
          refine ax_iload dX9_see_73 rfl rfl ?_
          refine ax_if_eq (tgt := 83) dX9_see_75 (by decide) rfl (fun c75 => ?_) (fun c75 => ?_)
          · refine ax_aload_n (j := 0) dX9_see_83 rfl rfl rfl ?_
            refine am_getR flX9_36 dX9_see_84 rfl is0 rfl ?_
            refine ax_iload_n (j := 1) dX9_see_87 rfl rfl rfl ?_
            refine ax_iload_n (j := 2) dX9_see_88 rfl rfl rfl ?_
            refine ax_iload_n (j := 3) dX9_see_89 rfl rfl rfl ?_
            refine ax_iload dX9_see_90 rfl rfl ?_
            refine ad_V4 ksX7_add lkX9_254 dX9_see_92 rfl is115 rfl (Nat.le_of_ble_eq_true rfl) (Nat.le_of_ble_eq_true rfl) (s_X7_add _ _ _ _ _) ?_
            exact ax_ireturn rfl dX9_see_95 ⟨by simp only [F_X9_see, if_neg c7, if_neg c19, if_neg c35, if_neg c44, if_pos c75], by simp only [F_X9_see, if_neg c7, if_neg c19, if_neg c35, if_neg c44, if_pos c75]⟩
          · refine ax_iload dX9_see_78 rfl rfl ?_
            refine ax_goto (tgt := 95) dX9_see_80 (by decide) ?_
            exact ax_ireturn rfl dX9_see_95 ⟨by simp only [F_X9_see, if_neg c7, if_neg c19, if_neg c35, if_neg c44, if_neg c75], by simp only [F_X9_see, if_neg c7, if_neg c19, if_neg c35, if_neg c44, if_neg c75]⟩

def F_X9_nods (mem : ax_Me) (p0 : Int32) : Int32 :=
  (if (F_X5_has mem 3 p0) = 0 then (-1000000001) else (F_X7_countOtherwise mem 3 p0))
set_option maxRecDepth 20000 in
theorem s_X9_nods {G : ax_G} {l : Launch} (mem : ax_Me) (p0 : Int32)  : AD G l 6 mX9_nods [.ref 0, .int p0] mem (some (.int (F_X9_nods mem p0))) mem := by
  refine ax_start (ls := [.ref 0, .int p0]) (u := 0) (by decide +kernel) (Nat.le_of_ble_eq_true rfl) (Nat.le_refl _) (Nat.le_refl _) rfl ?_
  refine ax_aload_n (j := 0) dX9_nods_0 rfl rfl rfl ?_
  refine am_getR flX9_19 dX9_nods_1 rfl is0 rfl ?_
  refine ax_iload_n (j := 1) dX9_nods_4 rfl rfl rfl ?_
  refine ad_V1 ksX5_has lkX9_124 dX9_nods_5 rfl isP3.o rfl (Nat.le_of_ble_eq_true rfl) (Nat.le_of_ble_eq_true rfl) (s_X5_has _ isP3 _) ?_
  refine ax_if_eq (tgt := 26) dX9_nods_8 (by decide) rfl (fun c8 => ?_) (fun c8 => ?_)
  · refine ax_ldc dX9_nods_26 cnX9_128 rfl ?_
    exact ax_ireturn rfl dX9_nods_28 ⟨by simp only [F_X9_nods, if_pos c8], rfl⟩
  · refine ax_aload_n (j := 0) dX9_nods_11 rfl rfl rfl ?_
    refine am_getR flX9_36 dX9_nods_12 rfl is0 rfl ?_
    refine ax_aload_n (j := 0) dX9_nods_15 rfl rfl rfl ?_
    refine am_getR flX9_19 dX9_nods_16 rfl is0 rfl ?_
    refine ax_iload_n (j := 1) dX9_nods_19 rfl rfl rfl ?_
    refine ad_V2 ksX7_countOtherwise lkX9_258 dX9_nods_20 rfl is115 rfl (Nat.le_of_ble_eq_true rfl) (Nat.le_of_ble_eq_true rfl) (s_X7_countOtherwise _ isP3 _) ?_
    refine ax_goto (tgt := 28) dX9_nods_23 (by decide) ?_
    exact ax_ireturn rfl dX9_nods_28 ⟨by simp only [F_X9_nods, if_neg c8], rfl⟩

def F_X9_write (mem : ax_Me) (p0 : Int32) (p1 : Int32) : Int32 × ax_Me :=
  (if (F_X5_has mem 3 p0) = 0 then (if (F_X9_refusal mem 0 1 1 (F_X0_hasRoom mem)) = 0 then ((F_X0_add mem p0 p1).1, (F_X0_add mem p0 p1).2) else ((F_X9_refusal mem 0 1 1 (F_X0_hasRoom mem)), mem)) else (if (F_X5_has mem 3 p1) = 0 then (if (F_X9_refusal mem 0 1 1 (F_X0_hasRoom mem)) = 0 then ((F_X0_add mem p0 p1).1, (F_X0_add mem p0 p1).2) else ((F_X9_refusal mem 0 1 1 (F_X0_hasRoom mem)), mem)) else (if (F_X9_refusal mem 1 1 1 (F_X0_hasRoom mem)) = 0 then ((F_X0_add mem p0 p1).1, (F_X0_add mem p0 p1).2) else ((F_X9_refusal mem 1 1 1 (F_X0_hasRoom mem)), mem))))
set_option maxRecDepth 20000 in
theorem s_X9_write {G : ax_G} {l : Launch} (mem : ax_Me) (p0 : Int32) (p1 : Int32)  : AD G l 2 mX9_write [.ref 0, .int p0, .int p1] mem (some (.int (F_X9_write mem p0 p1).1)) (F_X9_write mem p0 p1).2 := by
  refine ax_start (ls := [.ref 0, .int p0, .int p1, .float 0]) (u := 1) (by decide +kernel) (Nat.le_of_ble_eq_true rfl) (Nat.le_refl _) (Nat.le_refl _) rfl ?_
  refine ax_aload_n (j := 0) dX9_write_0 rfl rfl rfl ?_
  refine am_getR flX9_19 dX9_write_1 rfl is0 rfl ?_
  refine ax_iload_n (j := 1) dX9_write_4 rfl rfl rfl ?_
  refine ad_V1 ksX5_has lkX9_124 dX9_write_5 rfl isP3.o rfl (Nat.le_of_ble_eq_true rfl) (Nat.le_of_ble_eq_true rfl) (s_X5_has _ isP3 _) ?_
  refine ax_if_eq (tgt := 26) dX9_write_8 (by decide) rfl (fun c8 => ?_) (fun c8 => ?_)
  · refine ax_iconst (v := 0) dX9_write_26 (by decide) rfl ?_
    refine ax_iconst (v := 1) dX9_write_27 (by decide) rfl ?_
    refine ax_iconst (v := 1) dX9_write_28 (by decide) rfl ?_
    refine ax_aload_n (j := 0) dX9_write_29 rfl rfl rfl ?_
    refine am_getR flX9_43 dX9_write_30 rfl is0 rfl ?_
    refine ad_V0 ksX0_hasRoom lkX9_265 dX9_write_33 rfl is120 rfl (Nat.le_of_ble_eq_true rfl) (Nat.le_of_ble_eq_true rfl) (s_X0_hasRoom _ ) ?_
    refine ad_S4 ksX9_refusal lkX9_72 dX9_write_36 rfl (Nat.le_of_ble_eq_true rfl) (Nat.le_of_ble_eq_true rfl) (s_X9_refusal _ _ _ _ _) ?_
    refine ax_ist3 dX9_write_39 rfl rfl (Nat.le_of_ble_eq_true rfl) rfl ?_
    refine ax_iload_n (j := 3) dX9_write_40 rfl rfl rfl ?_
    refine ax_if_eq (tgt := 48) dX9_write_41 (by decide) rfl (fun c41 => ?_) (fun c41 => ?_)
    · refine ax_aload_n (j := 0) dX9_write_48 rfl rfl rfl ?_
      refine am_getR flX9_43 dX9_write_49 rfl is0 rfl ?_
      refine ax_iload_n (j := 1) dX9_write_52 rfl rfl rfl ?_
      refine ax_iload_n (j := 2) dX9_write_53 rfl rfl rfl ?_
      refine ad_V2 ksX0_add lkX9_266 dX9_write_54 rfl is120 rfl (Nat.le_of_ble_eq_true rfl) (Nat.le_of_ble_eq_true rfl) (s_X0_add _ _ _) ?_
      exact ax_ireturn rfl dX9_write_57 ⟨by simp only [F_X9_write, if_pos c8, if_pos c41], by simp only [F_X9_write, if_pos c8, if_pos c41]⟩
    · refine ax_iload_n (j := 3) dX9_write_44 rfl rfl rfl ?_
      refine ax_goto (tgt := 57) dX9_write_45 (by decide) ?_
      exact ax_ireturn rfl dX9_write_57 ⟨by simp only [F_X9_write, if_pos c8, if_neg c41], by simp only [F_X9_write, if_pos c8, if_neg c41]⟩
  · refine ax_aload_n (j := 0) dX9_write_11 rfl rfl rfl ?_
    refine am_getR flX9_19 dX9_write_12 rfl is0 rfl ?_
    refine ax_iload_n (j := 2) dX9_write_15 rfl rfl rfl ?_
    refine ad_V1 ksX5_has lkX9_124 dX9_write_16 rfl isP3.o rfl (Nat.le_of_ble_eq_true rfl) (Nat.le_of_ble_eq_true rfl) (s_X5_has _ isP3 _) ?_
    refine ax_if_eq (tgt := 26) dX9_write_19 (by decide) rfl (fun c19 => ?_) (fun c19 => ?_)
    · refine ax_iconst (v := 0) dX9_write_26 (by decide) rfl ?_
      refine ax_iconst (v := 1) dX9_write_27 (by decide) rfl ?_
      refine ax_iconst (v := 1) dX9_write_28 (by decide) rfl ?_
      refine ax_aload_n (j := 0) dX9_write_29 rfl rfl rfl ?_
      refine am_getR flX9_43 dX9_write_30 rfl is0 rfl ?_
      refine ad_V0 ksX0_hasRoom lkX9_265 dX9_write_33 rfl is120 rfl (Nat.le_of_ble_eq_true rfl) (Nat.le_of_ble_eq_true rfl) (s_X0_hasRoom _ ) ?_
      refine ad_S4 ksX9_refusal lkX9_72 dX9_write_36 rfl (Nat.le_of_ble_eq_true rfl) (Nat.le_of_ble_eq_true rfl) (s_X9_refusal _ _ _ _ _) ?_
      refine ax_ist3 dX9_write_39 rfl rfl (Nat.le_of_ble_eq_true rfl) rfl ?_
      refine ax_iload_n (j := 3) dX9_write_40 rfl rfl rfl ?_
      refine ax_if_eq (tgt := 48) dX9_write_41 (by decide) rfl (fun c41 => ?_) (fun c41 => ?_)
      · refine ax_aload_n (j := 0) dX9_write_48 rfl rfl rfl ?_
        refine am_getR flX9_43 dX9_write_49 rfl is0 rfl ?_
        refine ax_iload_n (j := 1) dX9_write_52 rfl rfl rfl ?_
        refine ax_iload_n (j := 2) dX9_write_53 rfl rfl rfl ?_
        refine ad_V2 ksX0_add lkX9_266 dX9_write_54 rfl is120 rfl (Nat.le_of_ble_eq_true rfl) (Nat.le_of_ble_eq_true rfl) (s_X0_add _ _ _) ?_
        exact ax_ireturn rfl dX9_write_57 ⟨by simp only [F_X9_write, if_neg c8, if_pos c19, if_pos c41], by simp only [F_X9_write, if_neg c8, if_pos c19, if_pos c41]⟩
      · refine ax_iload_n (j := 3) dX9_write_44 rfl rfl rfl ?_
        refine ax_goto (tgt := 57) dX9_write_45 (by decide) ?_
        exact ax_ireturn rfl dX9_write_57 ⟨by simp only [F_X9_write, if_neg c8, if_pos c19, if_neg c41], by simp only [F_X9_write, if_neg c8, if_pos c19, if_neg c41]⟩
    · refine ax_iconst (v := 1) dX9_write_22 (by decide) rfl ?_
      refine ax_goto (tgt := 27) dX9_write_23 (by decide) ?_
      refine ax_iconst (v := 1) dX9_write_27 (by decide) rfl ?_
      refine ax_iconst (v := 1) dX9_write_28 (by decide) rfl ?_
      refine ax_aload_n (j := 0) dX9_write_29 rfl rfl rfl ?_
      refine am_getR flX9_43 dX9_write_30 rfl is0 rfl ?_
      refine ad_V0 ksX0_hasRoom lkX9_265 dX9_write_33 rfl is120 rfl (Nat.le_of_ble_eq_true rfl) (Nat.le_of_ble_eq_true rfl) (s_X0_hasRoom _ ) ?_
      refine ad_S4 ksX9_refusal lkX9_72 dX9_write_36 rfl (Nat.le_of_ble_eq_true rfl) (Nat.le_of_ble_eq_true rfl) (s_X9_refusal _ _ _ _ _) ?_
      refine ax_ist3 dX9_write_39 rfl rfl (Nat.le_of_ble_eq_true rfl) rfl ?_
      refine ax_iload_n (j := 3) dX9_write_40 rfl rfl rfl ?_
      refine ax_if_eq (tgt := 48) dX9_write_41 (by decide) rfl (fun c41 => ?_) (fun c41 => ?_)
      · refine ax_aload_n (j := 0) dX9_write_48 rfl rfl rfl ?_
        refine am_getR flX9_43 dX9_write_49 rfl is0 rfl ?_
        refine ax_iload_n (j := 1) dX9_write_52 rfl rfl rfl ?_
        refine ax_iload_n (j := 2) dX9_write_53 rfl rfl rfl ?_
        refine ad_V2 ksX0_add lkX9_266 dX9_write_54 rfl is120 rfl (Nat.le_of_ble_eq_true rfl) (Nat.le_of_ble_eq_true rfl) (s_X0_add _ _ _) ?_
        exact ax_ireturn rfl dX9_write_57 ⟨by simp only [F_X9_write, if_neg c8, if_neg c19, if_pos c41], by simp only [F_X9_write, if_neg c8, if_neg c19, if_pos c41]⟩
      · refine ax_iload_n (j := 3) dX9_write_44 rfl rfl rfl ?_
        refine ax_goto (tgt := 57) dX9_write_45 (by decide) ?_
        exact ax_ireturn rfl dX9_write_57 ⟨by simp only [F_X9_write, if_neg c8, if_neg c19, if_neg c41], by simp only [F_X9_write, if_neg c8, if_neg c19, if_neg c41]⟩

def F_X9_tear (mem : ax_Me)  : Int32 × ax_Me :=
  (((mem 115 4) + (mem 120 2)), (F_X0_empty (F_X7_empty mem)))
set_option maxRecDepth 20000 in
theorem s_X9_tear {G : ax_G} {l : Launch} (mem : ax_Me)   : AD G l 1 mX9_tear [.ref 0] mem (some (.int (F_X9_tear mem).1)) (F_X9_tear mem).2 := by
  refine ax_start (ls := [.ref 0, .float 0]) (u := 1) (by decide +kernel) (Nat.le_of_ble_eq_true rfl) (Nat.le_refl _) (Nat.le_refl _) rfl ?_
  refine ax_aload_n (j := 0) dX9_tear_0 rfl rfl rfl ?_
  refine am_getR flX9_36 dX9_tear_1 rfl is0 rfl ?_
  refine am_getI flX9_120 dX9_tear_4 rfl is115 rfl ?_
  refine ax_aload_n (j := 0) dX9_tear_7 rfl rfl rfl ?_
  refine am_getR flX9_43 dX9_tear_8 rfl is0 rfl ?_
  refine am_getI flX9_121 dX9_tear_11 rfl is120 rfl ?_
  refine ax_iadd dX9_tear_14 rfl ?_
  refine ax_ist1 dX9_tear_15 rfl rfl (Nat.le_of_ble_eq_true rfl) rfl ?_
  refine ax_aload_n (j := 0) dX9_tear_16 rfl rfl rfl ?_
  refine am_getR flX9_36 dX9_tear_17 rfl is0 rfl ?_
  refine ad_V0v ksX7_empty lkX9_92 dX9_tear_20 rfl is115 rfl (Nat.le_of_ble_eq_true rfl) (Nat.le_of_ble_eq_true rfl) (s_X7_empty _ ) ?_
  refine ax_aload_n (j := 0) dX9_tear_23 rfl rfl rfl ?_
  refine am_getR flX9_43 dX9_tear_24 rfl is0 rfl ?_
  refine ad_V0v ksX0_empty lkX9_93 dX9_tear_27 rfl is120 rfl (Nat.le_of_ble_eq_true rfl) (Nat.le_of_ble_eq_true rfl) (s_X0_empty _ ) ?_
  refine ax_iload_n (j := 1) dX9_tear_30 rfl rfl rfl ?_
  exact ax_ireturn rfl dX9_tear_31 ⟨by simp only [F_X9_tear], by simp only [F_X9_tear]⟩

def F_X9_judge (mem : ax_Me)  : Int32 :=
  (F_X0_firstWrong mem 3)
set_option maxRecDepth 20000 in
theorem s_X9_judge {G : ax_G} {l : Launch} (mem : ax_Me)   : AD G l 3 mX9_judge [.ref 0] mem (some (.int (F_X9_judge mem))) mem := by
  refine ax_start (ls := [.ref 0]) (u := 0) (by decide +kernel) (Nat.le_of_ble_eq_true rfl) (Nat.le_refl _) (Nat.le_refl _) rfl ?_
  refine ax_aload_n (j := 0) dX9_judge_0 rfl rfl rfl ?_
  refine am_getR flX9_43 dX9_judge_1 rfl is0 rfl ?_
  refine ax_aload_n (j := 0) dX9_judge_4 rfl rfl rfl ?_
  refine am_getR flX9_19 dX9_judge_5 rfl is0 rfl ?_
  refine ad_V1 ksX0_firstWrong lkX9_268 dX9_judge_8 rfl is120 rfl (Nat.le_of_ble_eq_true rfl) (Nat.le_of_ble_eq_true rfl) (s_X0_firstWrong _ isP3) ?_
  exact ax_ireturn rfl dX9_judge_11 ⟨by simp only [F_X9_judge], rfl⟩

def F_X9_seed (mem : ax_Me) (p0 : Int32) : Int32 × ax_Me :=
  (if 0 ≤ p0 then ((mem 123 0), (ax_u mem 123 0 p0)) else ((-1000000002), mem))
set_option maxRecDepth 20000 in
theorem s_X9_seed {G : ax_G} {l : Launch} (mem : ax_Me) (p0 : Int32)  : AD G l 0 mX9_seed [.ref 0, .int p0] mem (some (.int (F_X9_seed mem p0).1)) (F_X9_seed mem p0).2 := by
  refine ax_start (ls := [.ref 0, .int p0, .float 0]) (u := 1) (by decide +kernel) (Nat.le_of_ble_eq_true rfl) (Nat.le_refl _) (Nat.le_refl _) rfl ?_
  refine ax_iload_n (j := 1) dX9_seed_0 rfl rfl rfl ?_
  refine ax_if_ge (tgt := 7) dX9_seed_1 (by decide) rfl (fun c1 => ?_) (fun c1 => ?_)
  · refine ax_aload_n (j := 0) dX9_seed_7 rfl rfl rfl ?_
    refine am_getR flX9_50 dX9_seed_8 rfl is0 rfl ?_
    refine am_getI flX9_271 dX9_seed_11 rfl is123 rfl ?_
    refine ax_ist2 dX9_seed_14 rfl rfl (Nat.le_of_ble_eq_true rfl) rfl ?_
    refine ax_aload_n (j := 0) dX9_seed_15 rfl rfl rfl ?_
    refine am_getR flX9_50 dX9_seed_16 rfl is0 rfl ?_
    refine ax_iload_n (j := 1) dX9_seed_19 rfl rfl rfl ?_
    refine am_putI flX9_271 dX9_seed_20 rfl is123 rfl rfl rfl ?_
    refine ax_iload_n (j := 2) dX9_seed_23 rfl rfl rfl ?_
    exact ax_ireturn rfl dX9_seed_24 ⟨by simp only [F_X9_seed, if_pos c1], by simp only [F_X9_seed, if_pos c1]⟩
  · refine ax_ldc dX9_seed_4 cnX9_123 rfl ?_
    exact ax_ireturn rfl dX9_seed_6 ⟨by simp only [F_X9_seed, if_neg c1], by simp only [F_X9_seed, if_neg c1]⟩

def F_X9_keep (mem : ax_Me) (p0 : Int32) : Int32 × ax_Me :=
  (if p0 = 0 then (1, (F_X4_empty (F_X3_take mem 124 3 (mem 123 0)))) else (if p0 = 1 then (1, (F_X4_empty (F_X3_take mem 130 3 (mem 123 0)))) else ((-1000000001), mem)))
set_option maxRecDepth 20000 in
theorem s_X9_keep {G : ax_G} {l : Launch} (mem : ax_Me) (p0 : Int32)  : AD G l 3 mX9_keep [.ref 0, .int p0] mem (some (.int (F_X9_keep mem p0).1)) (F_X9_keep mem p0).2 := by
  refine ax_start (ls := [.ref 0, .int p0, .float 0]) (u := 1) (by decide +kernel) (Nat.le_of_ble_eq_true rfl) (Nat.le_refl _) (Nat.le_refl _) rfl ?_
  refine ax_aload_n (j := 0) dX9_keep_0 rfl rfl rfl ?_
  refine ax_iload_n (j := 1) dX9_keep_1 rfl rfl rfl ?_
  by_cases i2_0 : p0 = 0
  · refine ad_V1 ksX9_imageOf lkX9_274 dX9_keep_2 rfl is0 rfl (Nat.le_of_ble_eq_true rfl) (Nat.le_of_ble_eq_true rfl) (s_X9_imageOf0 _ _ i2_0) ?_
    refine ax_ast2 dX9_keep_5 rfl rfl (Nat.le_of_ble_eq_true rfl) rfl ?_
    refine ax_aload_n (j := 2) dX9_keep_6 rfl rfl rfl ?_
    refine ax_ifnonnull (tgt := 13) dX9_keep_7 (by decide) ?_
    refine ax_aload_n (j := 2) dX9_keep_13 rfl rfl rfl ?_
    refine ax_aload_n (j := 0) dX9_keep_14 rfl rfl rfl ?_
    refine am_getR flX9_19 dX9_keep_15 rfl is0 rfl ?_
    refine ax_aload_n (j := 0) dX9_keep_18 rfl rfl rfl ?_
    refine am_getR flX9_50 dX9_keep_19 rfl is0 rfl ?_
    refine am_getI flX9_271 dX9_keep_22 rfl is123 rfl ?_
    refine ad_V2v ksX3_take lkX9_278 dX9_keep_25 rfl isI124.o rfl (Nat.le_of_ble_eq_true rfl) (Nat.le_of_ble_eq_true rfl) (s_X3_take _ isI124 isP3 _) ?_
    refine ax_aload_n (j := 0) dX9_keep_28 rfl rfl rfl ?_
    refine am_getR flX9_29 dX9_keep_29 rfl is0 rfl ?_
    refine ad_V0v ksX4_empty lkX9_91 dX9_keep_32 rfl is13 rfl (Nat.le_of_ble_eq_true rfl) (Nat.le_of_ble_eq_true rfl) (s_X4_empty _ ) ?_
    refine ax_iconst (v := 1) dX9_keep_35 (by decide) rfl ?_
    exact ax_ireturn rfl dX9_keep_36 ⟨by simp only [F_X9_keep, if_pos i2_0], by simp only [F_X9_keep, if_pos i2_0]⟩
  by_cases i2_1 : p0 = 1
  · refine ad_V1 ksX9_imageOf lkX9_274 dX9_keep_2 rfl is0 rfl (Nat.le_of_ble_eq_true rfl) (Nat.le_of_ble_eq_true rfl) (s_X9_imageOf1 _ _ i2_1) ?_
    refine ax_ast2 dX9_keep_5 rfl rfl (Nat.le_of_ble_eq_true rfl) rfl ?_
    refine ax_aload_n (j := 2) dX9_keep_6 rfl rfl rfl ?_
    refine ax_ifnonnull (tgt := 13) dX9_keep_7 (by decide) ?_
    refine ax_aload_n (j := 2) dX9_keep_13 rfl rfl rfl ?_
    refine ax_aload_n (j := 0) dX9_keep_14 rfl rfl rfl ?_
    refine am_getR flX9_19 dX9_keep_15 rfl is0 rfl ?_
    refine ax_aload_n (j := 0) dX9_keep_18 rfl rfl rfl ?_
    refine am_getR flX9_50 dX9_keep_19 rfl is0 rfl ?_
    refine am_getI flX9_271 dX9_keep_22 rfl is123 rfl ?_
    refine ad_V2v ksX3_take lkX9_278 dX9_keep_25 rfl isI130.o rfl (Nat.le_of_ble_eq_true rfl) (Nat.le_of_ble_eq_true rfl) (s_X3_take _ isI130 isP3 _) ?_
    refine ax_aload_n (j := 0) dX9_keep_28 rfl rfl rfl ?_
    refine am_getR flX9_29 dX9_keep_29 rfl is0 rfl ?_
    refine ad_V0v ksX4_empty lkX9_91 dX9_keep_32 rfl is13 rfl (Nat.le_of_ble_eq_true rfl) (Nat.le_of_ble_eq_true rfl) (s_X4_empty _ ) ?_
    refine ax_iconst (v := 1) dX9_keep_35 (by decide) rfl ?_
    exact ax_ireturn rfl dX9_keep_36 ⟨by simp only [F_X9_keep, if_neg i2_0, if_pos i2_1], by simp only [F_X9_keep, if_neg i2_0, if_pos i2_1]⟩
  refine ad_V1 ksX9_imageOf lkX9_274 dX9_keep_2 rfl is0 rfl (Nat.le_of_ble_eq_true rfl) (Nat.le_of_ble_eq_true rfl) (s_X9_imageOf2 _ _ i2_0 i2_1) ?_
  refine ax_astore_nN (j := 2) dX9_keep_5 rfl rfl (Nat.le_of_ble_eq_true rfl) rfl ?_
  refine ax_aload_nN (j := 2) dX9_keep_6 rfl rfl rfl ?_
  refine ax_ifnonnullN dX9_keep_7 rfl ?_
  refine ax_ldc dX9_keep_10 cnX9_128 rfl ?_
  exact ax_ireturn rfl dX9_keep_12 ⟨by simp only [F_X9_keep, if_neg i2_0, if_neg i2_1], by simp only [F_X9_keep, if_neg i2_0, if_neg i2_1]⟩

def F_X9_goBack (mem : ax_Me) (p0 : Int32) : Int32 × ax_Me :=
  (if p0 = 0 then (if (mem 124 2) = 0 then ((-1000000003), mem) else (1, (F_X4_empty (ax_u (F_X5_become mem 3 125) 123 0 ((F_X5_become mem 3 125) 124 1))))) else (if p0 = 1 then (if (mem 130 2) = 0 then ((-1000000003), mem) else (1, (F_X4_empty (ax_u (F_X5_become mem 3 131) 123 0 ((F_X5_become mem 3 131) 130 1))))) else ((-1000000001), mem)))
set_option maxRecDepth 20000 in
theorem s_X9_goBack {G : ax_G} {l : Launch} (mem : ax_Me) (p0 : Int32)  : AD G l 2 mX9_goBack [.ref 0, .int p0] mem (some (.int (F_X9_goBack mem p0).1)) (F_X9_goBack mem p0).2 := by
  refine ax_start (ls := [.ref 0, .int p0, .float 0]) (u := 1) (by decide +kernel) (Nat.le_of_ble_eq_true rfl) (Nat.le_refl _) (Nat.le_refl _) rfl ?_
  refine ax_aload_n (j := 0) dX9_goBack_0 rfl rfl rfl ?_
  refine ax_iload_n (j := 1) dX9_goBack_1 rfl rfl rfl ?_
  by_cases i2_0 : p0 = 0
  · refine ad_V1 ksX9_imageOf lkX9_274 dX9_goBack_2 rfl is0 rfl (Nat.le_of_ble_eq_true rfl) (Nat.le_of_ble_eq_true rfl) (s_X9_imageOf0 _ _ i2_0) ?_
    refine ax_ast2 dX9_goBack_5 rfl rfl (Nat.le_of_ble_eq_true rfl) rfl ?_
    refine ax_aload_n (j := 2) dX9_goBack_6 rfl rfl rfl ?_
    refine ax_ifnonnull (tgt := 13) dX9_goBack_7 (by decide) ?_
    refine ax_aload_n (j := 2) dX9_goBack_13 rfl rfl rfl ?_
    refine am_getI flX9_282 dX9_goBack_14 rfl isI124.o rfl ?_
    refine ax_if_ne (tgt := 23) dX9_goBack_17 (by decide) rfl (fun c17 => ?_) (fun c17 => ?_)
    · refine ax_aload_n (j := 0) dX9_goBack_23 rfl rfl rfl ?_
      refine am_getR flX9_19 dX9_goBack_24 rfl is0 rfl ?_
      refine ax_aload_n (j := 2) dX9_goBack_27 rfl rfl rfl ?_
      refine am_getR flX9_286 dX9_goBack_28 rfl isI124.o rfl ?_
      refine ad_V1v ksX5_become lkX9_87 dX9_goBack_31 rfl isP3.o rfl (Nat.le_of_ble_eq_true rfl) (Nat.le_of_ble_eq_true rfl) (s_X5_become _ isP3 isI124.p) ?_
      refine ax_aload_n (j := 0) dX9_goBack_34 rfl rfl rfl ?_
      refine am_getR flX9_50 dX9_goBack_35 rfl is0 rfl ?_
      refine ax_aload_n (j := 2) dX9_goBack_38 rfl rfl rfl ?_
      refine am_getI flX9_289 dX9_goBack_39 rfl isI124.o rfl ?_
      refine am_putI flX9_271 dX9_goBack_42 rfl is123 rfl rfl rfl ?_
      refine ax_aload_n (j := 0) dX9_goBack_45 rfl rfl rfl ?_
      refine am_getR flX9_29 dX9_goBack_46 rfl is0 rfl ?_
      refine ad_V0v ksX4_empty lkX9_91 dX9_goBack_49 rfl is13 rfl (Nat.le_of_ble_eq_true rfl) (Nat.le_of_ble_eq_true rfl) (s_X4_empty _ ) ?_
      refine ax_iconst (v := 1) dX9_goBack_52 (by decide) rfl ?_
      exact ax_ireturn rfl dX9_goBack_53 ⟨by simp only [F_X9_goBack, if_pos i2_0, if_neg c17], by simp only [F_X9_goBack, if_pos i2_0, if_neg c17]⟩
    · refine ax_ldc dX9_goBack_20 cnX9_200 rfl ?_
      exact ax_ireturn rfl dX9_goBack_22 ⟨by simp only [F_X9_goBack, if_pos i2_0, if_pos c17], by simp only [F_X9_goBack, if_pos i2_0, if_pos c17]⟩
  by_cases i2_1 : p0 = 1
  · refine ad_V1 ksX9_imageOf lkX9_274 dX9_goBack_2 rfl is0 rfl (Nat.le_of_ble_eq_true rfl) (Nat.le_of_ble_eq_true rfl) (s_X9_imageOf1 _ _ i2_1) ?_
    refine ax_ast2 dX9_goBack_5 rfl rfl (Nat.le_of_ble_eq_true rfl) rfl ?_
    refine ax_aload_n (j := 2) dX9_goBack_6 rfl rfl rfl ?_
    refine ax_ifnonnull (tgt := 13) dX9_goBack_7 (by decide) ?_
    refine ax_aload_n (j := 2) dX9_goBack_13 rfl rfl rfl ?_
    refine am_getI flX9_282 dX9_goBack_14 rfl isI130.o rfl ?_
    refine ax_if_ne (tgt := 23) dX9_goBack_17 (by decide) rfl (fun c17 => ?_) (fun c17 => ?_)
    · refine ax_aload_n (j := 0) dX9_goBack_23 rfl rfl rfl ?_
      refine am_getR flX9_19 dX9_goBack_24 rfl is0 rfl ?_
      refine ax_aload_n (j := 2) dX9_goBack_27 rfl rfl rfl ?_
      refine am_getR flX9_286 dX9_goBack_28 rfl isI130.o rfl ?_
      refine ad_V1v ksX5_become lkX9_87 dX9_goBack_31 rfl isP3.o rfl (Nat.le_of_ble_eq_true rfl) (Nat.le_of_ble_eq_true rfl) (s_X5_become _ isP3 isI130.p) ?_
      refine ax_aload_n (j := 0) dX9_goBack_34 rfl rfl rfl ?_
      refine am_getR flX9_50 dX9_goBack_35 rfl is0 rfl ?_
      refine ax_aload_n (j := 2) dX9_goBack_38 rfl rfl rfl ?_
      refine am_getI flX9_289 dX9_goBack_39 rfl isI130.o rfl ?_
      refine am_putI flX9_271 dX9_goBack_42 rfl is123 rfl rfl rfl ?_
      refine ax_aload_n (j := 0) dX9_goBack_45 rfl rfl rfl ?_
      refine am_getR flX9_29 dX9_goBack_46 rfl is0 rfl ?_
      refine ad_V0v ksX4_empty lkX9_91 dX9_goBack_49 rfl is13 rfl (Nat.le_of_ble_eq_true rfl) (Nat.le_of_ble_eq_true rfl) (s_X4_empty _ ) ?_
      refine ax_iconst (v := 1) dX9_goBack_52 (by decide) rfl ?_
      exact ax_ireturn rfl dX9_goBack_53 ⟨by simp only [F_X9_goBack, if_neg i2_0, if_pos i2_1, if_neg c17], by simp only [F_X9_goBack, if_neg i2_0, if_pos i2_1, if_neg c17]⟩
    · refine ax_ldc dX9_goBack_20 cnX9_200 rfl ?_
      exact ax_ireturn rfl dX9_goBack_22 ⟨by simp only [F_X9_goBack, if_neg i2_0, if_pos i2_1, if_pos c17], by simp only [F_X9_goBack, if_neg i2_0, if_pos i2_1, if_pos c17]⟩
  refine ad_V1 ksX9_imageOf lkX9_274 dX9_goBack_2 rfl is0 rfl (Nat.le_of_ble_eq_true rfl) (Nat.le_of_ble_eq_true rfl) (s_X9_imageOf2 _ _ i2_0 i2_1) ?_
  refine ax_astore_nN (j := 2) dX9_goBack_5 rfl rfl (Nat.le_of_ble_eq_true rfl) rfl ?_
  refine ax_aload_nN (j := 2) dX9_goBack_6 rfl rfl rfl ?_
  refine ax_ifnonnullN dX9_goBack_7 rfl ?_
  refine ax_ldc dX9_goBack_10 cnX9_128 rfl ?_
  exact ax_ireturn rfl dX9_goBack_12 ⟨by simp only [F_X9_goBack, if_neg i2_0, if_neg i2_1], by simp only [F_X9_goBack, if_neg i2_0, if_neg i2_1]⟩

def F_X9_bestRow (mem : ax_Me) (p0 : Int32) (p1 : Int32) (p2 : Int32) : Int32 :=
  (if (F_X9_refusal mem (F_X5_isPair mem 3 p0 p1) (F_X9_isRowLength mem p2) (F_X5_knows mem 3 p0 p1) 1) = 0 then (F_X6_surest mem 3 p0 p1 p2) else (F_X9_refusal mem (F_X5_isPair mem 3 p0 p1) (F_X9_isRowLength mem p2) (F_X5_knows mem 3 p0 p1) 1))
set_option maxRecDepth 20000 in
theorem s_X9_bestRow {G : ax_G} {l : Launch} (mem : ax_Me) (p0 : Int32) (p1 : Int32) (p2 : Int32) (hc : ok8 mem 3) : AD G l 6 mX9_bestRow [.ref 0, .int p0, .int p1, .int p2] mem (some (.int (F_X9_bestRow mem p0 p1 p2))) mem := by
  refine ax_start (ls := [.ref 0, .int p0, .int p1, .int p2, .float 0]) (u := 1) (by decide +kernel) (Nat.le_of_ble_eq_true rfl) (Nat.le_refl _) (Nat.le_refl _) rfl ?_
  refine ax_aload_n (j := 0) dX9_bestRow_0 rfl rfl rfl ?_
  refine am_getR flX9_19 dX9_bestRow_1 rfl is0 rfl ?_
  refine ax_iload_n (j := 1) dX9_bestRow_4 rfl rfl rfl ?_
  refine ax_iload_n (j := 2) dX9_bestRow_5 rfl rfl rfl ?_
  refine ad_V2 ksX5_isPair lkX9_144 dX9_bestRow_6 rfl isP3.o rfl (Nat.le_of_ble_eq_true rfl) (Nat.le_of_ble_eq_true rfl) (s_X5_isPair _ isP3 _ _) ?_
  refine ax_iload_n (j := 3) dX9_bestRow_9 rfl rfl rfl ?_
  refine ad_S1 ksX9_isRowLength lkX9_208 dX9_bestRow_10 rfl (Nat.le_of_ble_eq_true rfl) (Nat.le_of_ble_eq_true rfl) (s_X9_isRowLength _ _) ?_
  refine ax_aload_n (j := 0) dX9_bestRow_13 rfl rfl rfl ?_
  refine am_getR flX9_19 dX9_bestRow_14 rfl is0 rfl ?_
  refine ax_iload_n (j := 1) dX9_bestRow_17 rfl rfl rfl ?_
  refine ax_iload_n (j := 2) dX9_bestRow_18 rfl rfl rfl ?_
  refine ad_V2 ksX5_knows lkX9_171 dX9_bestRow_19 rfl isP3.o rfl (Nat.le_of_ble_eq_true rfl) (Nat.le_of_ble_eq_true rfl) (s_X5_knows _ isP3 _ _) ?_
  refine ax_iconst (v := 1) dX9_bestRow_22 (by decide) rfl ?_
  refine ad_S4 ksX9_refusal lkX9_72 dX9_bestRow_23 rfl (Nat.le_of_ble_eq_true rfl) (Nat.le_of_ble_eq_true rfl) (s_X9_refusal _ _ _ _ _) ?_
  refine ax_ist4 dX9_bestRow_26 rfl (Nat.le_of_ble_eq_true rfl) rfl ?_
  refine ax_iload dX9_bestRow_28 rfl rfl ?_
  refine ax_if_eq (tgt := 38) dX9_bestRow_30 (by decide) rfl (fun c30 => ?_) (fun c30 => ?_)
  · refine ax_aload_n (j := 0) dX9_bestRow_38 rfl rfl rfl ?_
    refine am_getR flX9_19 dX9_bestRow_39 rfl is0 rfl ?_
    refine ax_iload_n (j := 1) dX9_bestRow_42 rfl rfl rfl ?_
    refine ax_iload_n (j := 2) dX9_bestRow_43 rfl rfl rfl ?_
    refine ax_iload_n (j := 3) dX9_bestRow_44 rfl rfl rfl ?_
    refine ad_S4 ksX6_surest lkX9_211 dX9_bestRow_45 rfl (Nat.le_of_ble_eq_true rfl) (Nat.le_of_ble_eq_true rfl) (s_X6_surest _ isP3 _ _ _ (by assumption)) ?_
    exact ax_ireturn rfl dX9_bestRow_48 ⟨by simp only [F_X9_bestRow, if_pos c30], rfl⟩
  · refine ax_iload dX9_bestRow_33 rfl rfl ?_
    refine ax_goto (tgt := 48) dX9_bestRow_35 (by decide) ?_
    exact ax_ireturn rfl dX9_bestRow_48 ⟨by simp only [F_X9_bestRow, if_neg c30], rfl⟩

def F_X9_ring (mem : ax_Me) (p0 : Int32) : Int32 :=
  (if (F_X5_has mem 3 p0) = 0 then (-1000000001) else (F_X5_stepsBackTo mem 3 p0))
set_option maxRecDepth 20000 in
theorem s_X9_ring {G : ax_G} {l : Launch} (mem : ax_Me) (p0 : Int32) (hc : ok8 mem 3) : AD G l 3 mX9_ring [.ref 0, .int p0] mem (some (.int (F_X9_ring mem p0))) mem := by
  refine ax_start (ls := [.ref 0, .int p0]) (u := 0) (by decide +kernel) (Nat.le_of_ble_eq_true rfl) (Nat.le_refl _) (Nat.le_refl _) rfl ?_
  refine ax_aload_n (j := 0) dX9_ring_0 rfl rfl rfl ?_
  refine am_getR flX9_19 dX9_ring_1 rfl is0 rfl ?_
  refine ax_iload_n (j := 1) dX9_ring_4 rfl rfl rfl ?_
  refine ad_V1 ksX5_has lkX9_124 dX9_ring_5 rfl isP3.o rfl (Nat.le_of_ble_eq_true rfl) (Nat.le_of_ble_eq_true rfl) (s_X5_has _ isP3 _) ?_
  refine ax_if_eq (tgt := 22) dX9_ring_8 (by decide) rfl (fun c8 => ?_) (fun c8 => ?_)
  · refine ax_ldc dX9_ring_22 cnX9_128 rfl ?_
    exact ax_ireturn rfl dX9_ring_24 ⟨by simp only [F_X9_ring, if_pos c8], rfl⟩
  · refine ax_aload_n (j := 0) dX9_ring_11 rfl rfl rfl ?_
    refine am_getR flX9_19 dX9_ring_12 rfl is0 rfl ?_
    refine ax_iload_n (j := 1) dX9_ring_15 rfl rfl rfl ?_
    refine ad_V1 ksX5_stepsBackTo lkX9_225 dX9_ring_16 rfl isP3.o rfl (Nat.le_of_ble_eq_true rfl) (Nat.le_of_ble_eq_true rfl) (s_X5_stepsBackTo _ isP3 _ (by assumption)) ?_
    refine ax_goto (tgt := 24) dX9_ring_19 (by decide) ?_
    exact ax_ireturn rfl dX9_ring_24 ⟨by simp only [F_X9_ring, if_neg c8], rfl⟩

def F_X9_rings (mem : ax_Me) (p0 : Int32) : Int32 :=
  (if p0 = 0 then (F_X5_countInRings mem 3) else (if p0 = 1 then (F_X5_countAstray mem 3) else (if p0 = 2 then (F_X5_countAstrayAndKnown mem 3) else (-1000000002))))
set_option maxRecDepth 20000 in
theorem s_X9_rings {G : ax_G} {l : Launch} (mem : ax_Me) (p0 : Int32) (hc : ok8 mem 3) : AD G l 6 mX9_rings [.ref 0, .int p0] mem (some (.int (F_X9_rings mem p0))) mem := by
  refine ax_start (ls := [.ref 0, .int p0]) (u := 0) (by decide +kernel) (Nat.le_of_ble_eq_true rfl) (Nat.le_refl _) (Nat.le_refl _) rfl ?_
  refine ax_iload_n (j := 1) dX9_rings_0 rfl rfl rfl ?_
  by_cases s1_0 : p0 = 0
  · refine ax_tableIn (off := 27) (tgt := 28) dX9_rings_1 (by rw [s1_0]; decide) (by rw [s1_0]; decide) (by rw [s1_0]; rfl) (by decide) ?_
    refine ax_aload_n (j := 0) dX9_rings_28 rfl rfl rfl ?_
    refine am_getR flX9_19 dX9_rings_29 rfl is0 rfl ?_
    refine ad_V0 ksX5_countInRings lkX9_228 dX9_rings_32 rfl isP3.o rfl (Nat.le_of_ble_eq_true rfl) (Nat.le_of_ble_eq_true rfl) (s_X5_countInRings _ isP3 (by assumption)) ?_
    exact ax_ireturn rfl dX9_rings_35 ⟨by simp only [F_X9_rings, if_pos s1_0], rfl⟩
  by_cases s1_1 : p0 = 1
  · refine ax_tableIn (off := 35) (tgt := 36) dX9_rings_1 (by rw [s1_1]; decide) (by rw [s1_1]; decide) (by rw [s1_1]; rfl) (by decide) ?_
    refine ax_aload_n (j := 0) dX9_rings_36 rfl rfl rfl ?_
    refine am_getR flX9_19 dX9_rings_37 rfl is0 rfl ?_
    refine ad_V0 ksX5_countAstray lkX9_231 dX9_rings_40 rfl isP3.o rfl (Nat.le_of_ble_eq_true rfl) (Nat.le_of_ble_eq_true rfl) (s_X5_countAstray _ isP3) ?_
    exact ax_ireturn rfl dX9_rings_43 ⟨by simp only [F_X9_rings, if_neg s1_0, if_pos s1_1], rfl⟩
  by_cases s1_2 : p0 = 2
  · refine ax_tableIn (off := 43) (tgt := 44) dX9_rings_1 (by rw [s1_2]; decide) (by rw [s1_2]; decide) (by rw [s1_2]; rfl) (by decide) ?_
    refine ax_aload_n (j := 0) dX9_rings_44 rfl rfl rfl ?_
    refine am_getR flX9_19 dX9_rings_45 rfl is0 rfl ?_
    refine ad_V0 ksX5_countAstrayAndKnown lkX9_234 dX9_rings_48 rfl isP3.o rfl (Nat.le_of_ble_eq_true rfl) (Nat.le_of_ble_eq_true rfl) (s_X5_countAstrayAndKnown _ isP3) ?_
    exact ax_ireturn rfl dX9_rings_51 ⟨by simp only [F_X9_rings, if_neg s1_0, if_neg s1_1, if_pos s1_2], rfl⟩
  refine ax_tableOut (tgt := 52) dX9_rings_1 (by have q0 := lv_neT s1_0 (a := 0) rfl; have q1 := lv_neT s1_1 (a := 1) rfl; have q2 := lv_neT s1_2 (a := 2) rfl; omega) (by decide) ?_
  refine ax_ldc dX9_rings_52 cnX9_123 rfl ?_
  exact ax_ireturn rfl dX9_rings_54 ⟨by simp only [F_X9_rings, if_neg s1_0, if_neg s1_1, if_neg s1_2], rfl⟩

def F_X9_impostor (mem : ax_Me) (p0 : Int32) (p1 : Int32) (p2 : Int32) (p3 : Int32) (p4 : Int32) : Int32 :=
  (if (F_X5_isPair mem 3 p0 p1) = 0 then (if (F_X9_isRowLength mem p3) = 0 then (if (F_X9_refusal mem 0 0 (F_X5_knows mem 3 p0 p1) 1) = 0 then (if p4 = 0 then (F_X6_countPicking mem 3 (F_X5_memoryOf mem 3 p0 p1) p0 p2 p3) else (F_X6_leastPicking mem 3 (F_X5_memoryOf mem 3 p0 p1) p0 p2 p3)) else (F_X9_refusal mem 0 0 (F_X5_knows mem 3 p0 p1) 1)) else (if (F_X9_isWithin mem p4 0 1) = 0 then (if (F_X9_refusal mem 0 0 (F_X5_knows mem 3 p0 p1) 1) = 0 then (if p4 = 0 then (F_X6_countPicking mem 3 (F_X5_memoryOf mem 3 p0 p1) p0 p2 p3) else (F_X6_leastPicking mem 3 (F_X5_memoryOf mem 3 p0 p1) p0 p2 p3)) else (F_X9_refusal mem 0 0 (F_X5_knows mem 3 p0 p1) 1)) else (if (F_X9_refusal mem 0 1 (F_X5_knows mem 3 p0 p1) 1) = 0 then (if p4 = 0 then (F_X6_countPicking mem 3 (F_X5_memoryOf mem 3 p0 p1) p0 p2 p3) else (F_X6_leastPicking mem 3 (F_X5_memoryOf mem 3 p0 p1) p0 p2 p3)) else (F_X9_refusal mem 0 1 (F_X5_knows mem 3 p0 p1) 1)))) else (if (F_X5_isPair mem 3 p0 p2) = 0 then (if (F_X9_isRowLength mem p3) = 0 then (if (F_X9_refusal mem 0 0 (F_X5_knows mem 3 p0 p1) 1) = 0 then (if p4 = 0 then (F_X6_countPicking mem 3 (F_X5_memoryOf mem 3 p0 p1) p0 p2 p3) else (F_X6_leastPicking mem 3 (F_X5_memoryOf mem 3 p0 p1) p0 p2 p3)) else (F_X9_refusal mem 0 0 (F_X5_knows mem 3 p0 p1) 1)) else (if (F_X9_isWithin mem p4 0 1) = 0 then (if (F_X9_refusal mem 0 0 (F_X5_knows mem 3 p0 p1) 1) = 0 then (if p4 = 0 then (F_X6_countPicking mem 3 (F_X5_memoryOf mem 3 p0 p1) p0 p2 p3) else (F_X6_leastPicking mem 3 (F_X5_memoryOf mem 3 p0 p1) p0 p2 p3)) else (F_X9_refusal mem 0 0 (F_X5_knows mem 3 p0 p1) 1)) else (if (F_X9_refusal mem 0 1 (F_X5_knows mem 3 p0 p1) 1) = 0 then (if p4 = 0 then (F_X6_countPicking mem 3 (F_X5_memoryOf mem 3 p0 p1) p0 p2 p3) else (F_X6_leastPicking mem 3 (F_X5_memoryOf mem 3 p0 p1) p0 p2 p3)) else (F_X9_refusal mem 0 1 (F_X5_knows mem 3 p0 p1) 1)))) else (if (F_X9_isRowLength mem p3) = 0 then (if (F_X9_refusal mem 1 0 (F_X5_knows mem 3 p0 p1) 1) = 0 then (if p4 = 0 then (F_X6_countPicking mem 3 (F_X5_memoryOf mem 3 p0 p1) p0 p2 p3) else (F_X6_leastPicking mem 3 (F_X5_memoryOf mem 3 p0 p1) p0 p2 p3)) else (F_X9_refusal mem 1 0 (F_X5_knows mem 3 p0 p1) 1)) else (if (F_X9_isWithin mem p4 0 1) = 0 then (if (F_X9_refusal mem 1 0 (F_X5_knows mem 3 p0 p1) 1) = 0 then (if p4 = 0 then (F_X6_countPicking mem 3 (F_X5_memoryOf mem 3 p0 p1) p0 p2 p3) else (F_X6_leastPicking mem 3 (F_X5_memoryOf mem 3 p0 p1) p0 p2 p3)) else (F_X9_refusal mem 1 0 (F_X5_knows mem 3 p0 p1) 1)) else (if (F_X9_refusal mem 1 1 (F_X5_knows mem 3 p0 p1) 1) = 0 then (if p4 = 0 then (F_X6_countPicking mem 3 (F_X5_memoryOf mem 3 p0 p1) p0 p2 p3) else (F_X6_leastPicking mem 3 (F_X5_memoryOf mem 3 p0 p1) p0 p2 p3)) else (F_X9_refusal mem 1 1 (F_X5_knows mem 3 p0 p1) 1))))))
set_option maxRecDepth 20000 in
theorem s_X9_impostor {G : ax_G} {l : Launch} (mem : ax_Me) (p0 : Int32) (p1 : Int32) (p2 : Int32) (p3 : Int32) (p4 : Int32) (hc : ok8 mem 3) : AD G l 5 mX9_impostor [.ref 0, .int p0, .int p1, .int p2, .int p3, .int p4] mem (some (.int (F_X9_impostor mem p0 p1 p2 p3 p4))) mem := by
  refine ax_start (ls := [.ref 0, .int p0, .int p1, .int p2, .int p3, .int p4, .float 0, .float 0, .float 0]) (u := 3) (by decide +kernel) (Nat.le_of_ble_eq_true rfl) (Nat.le_refl _) (Nat.le_refl _) rfl ?_
  refine ax_aload_n (j := 0) dX9_impostor_0 rfl rfl rfl ?_
  refine am_getR flX9_19 dX9_impostor_1 rfl is0 rfl ?_
  refine ax_iload_n (j := 1) dX9_impostor_4 rfl rfl rfl ?_
  refine ax_iload_n (j := 2) dX9_impostor_5 rfl rfl rfl ?_
  refine ad_V2 ksX5_isPair lkX9_144 dX9_impostor_6 rfl isP3.o rfl (Nat.le_of_ble_eq_true rfl) (Nat.le_of_ble_eq_true rfl) (s_X5_isPair _ isP3 _ _) ?_
  refine ax_if_eq (tgt := 28) dX9_impostor_9 (by decide) rfl (fun c9 => ?_) (fun c9 => ?_)
  · refine ax_iconst (v := 0) dX9_impostor_28 (by decide) rfl ?_
    refine ax_ist6 dX9_impostor_29 rfl (Nat.le_of_ble_eq_true rfl) rfl ?_
    refine ax_iload dX9_impostor_31 rfl rfl ?_
    refine ax_iload dX9_impostor_33 rfl rfl ?_
    refine ad_S1 ksX9_isRowLength lkX9_208 dX9_impostor_35 rfl (Nat.le_of_ble_eq_true rfl) (Nat.le_of_ble_eq_true rfl) (s_X9_isRowLength _ _) ?_
    refine ax_if_eq (tgt := 55) dX9_impostor_38 (by decide) rfl (fun c38 => ?_) (fun c38 => ?_)
    · refine ax_iconst (v := 0) dX9_impostor_55 (by decide) rfl ?_
      refine ax_aload_n (j := 0) dX9_impostor_56 rfl rfl rfl ?_
      refine am_getR flX9_19 dX9_impostor_57 rfl is0 rfl ?_
      refine ax_iload_n (j := 1) dX9_impostor_60 rfl rfl rfl ?_
      refine ax_iload_n (j := 2) dX9_impostor_61 rfl rfl rfl ?_
      refine ad_V2 ksX5_knows lkX9_171 dX9_impostor_62 rfl isP3.o rfl (Nat.le_of_ble_eq_true rfl) (Nat.le_of_ble_eq_true rfl) (s_X5_knows _ isP3 _ _) ?_
      refine ax_iconst (v := 1) dX9_impostor_65 (by decide) rfl ?_
      refine ad_S4 ksX9_refusal lkX9_72 dX9_impostor_66 rfl (Nat.le_of_ble_eq_true rfl) (Nat.le_of_ble_eq_true rfl) (s_X9_refusal _ _ _ _ _) ?_
      refine ax_ist7 dX9_impostor_69 rfl (Nat.le_of_ble_eq_true rfl) rfl ?_
      refine ax_iload dX9_impostor_71 rfl rfl ?_
      refine ax_if_eq (tgt := 79) dX9_impostor_73 (by decide) rfl (fun c73 => ?_) (fun c73 => ?_)
      · refine ax_aload_n (j := 0) dX9_impostor_79 rfl rfl rfl ?_
        refine am_getR flX9_19 dX9_impostor_80 rfl is0 rfl ?_
        refine ax_iload_n (j := 1) dX9_impostor_83 rfl rfl rfl ?_
        refine ax_iload_n (j := 2) dX9_impostor_84 rfl rfl rfl ?_
        refine ad_V2 ksX5_memoryOf lkX9_148 dX9_impostor_85 rfl isP3.o rfl (Nat.le_of_ble_eq_true rfl) (Nat.le_of_ble_eq_true rfl) (s_X5_memoryOf _ isP3 _ _) ?_
        refine ax_ist8 dX9_impostor_88 rfl (Nat.le_of_ble_eq_true rfl) rfl ?_
        refine ax_iload dX9_impostor_90 rfl rfl ?_
        refine ax_if_ne (tgt := 111) dX9_impostor_92 (by decide) rfl (fun c92 => ?_) (fun c92 => ?_)
        · refine ax_aload_n (j := 0) dX9_impostor_111 rfl rfl rfl ?_
          refine am_getR flX9_19 dX9_impostor_112 rfl is0 rfl ?_
          refine ax_iload dX9_impostor_115 rfl rfl ?_
          refine ax_iload_n (j := 1) dX9_impostor_117 rfl rfl rfl ?_
          refine ax_iload_n (j := 3) dX9_impostor_118 rfl rfl rfl ?_
          refine ax_iload dX9_impostor_119 rfl rfl ?_
          refine ad_S5 ksX6_leastPicking lkX9_244 dX9_impostor_121 rfl (Nat.le_of_ble_eq_true rfl) (Nat.le_of_ble_eq_true rfl) (s_X6_leastPicking _ isP3 _ _ _ _ (by assumption)) ?_
          exact ax_ireturn rfl dX9_impostor_124 ⟨by simp only [F_X9_impostor, if_pos c9, if_pos c38, if_pos c73, if_neg c92], rfl⟩
        · refine ax_aload_n (j := 0) dX9_impostor_95 rfl rfl rfl ?_
          refine am_getR flX9_19 dX9_impostor_96 rfl is0 rfl ?_
          refine ax_iload dX9_impostor_99 rfl rfl ?_
          refine ax_iload_n (j := 1) dX9_impostor_101 rfl rfl rfl ?_
          refine ax_iload_n (j := 3) dX9_impostor_102 rfl rfl rfl ?_
          refine ax_iload dX9_impostor_103 rfl rfl ?_
          refine ad_S5 ksX6_countPicking lkX9_241 dX9_impostor_105 rfl (Nat.le_of_ble_eq_true rfl) (Nat.le_of_ble_eq_true rfl) (s_X6_countPicking _ isP3 _ _ _ _ (by assumption)) ?_
          refine ax_goto (tgt := 124) dX9_impostor_108 (by decide) ?_
          exact ax_ireturn rfl dX9_impostor_124 ⟨by simp only [F_X9_impostor, if_pos c9, if_pos c38, if_pos c73, if_pos c92], rfl⟩
      · refine ax_iload dX9_impostor_76 rfl rfl ?_
        exact ax_ireturn rfl dX9_impostor_78 ⟨by simp only [F_X9_impostor, if_pos c9, if_pos c38, if_neg c73], rfl⟩
    · refine ax_iload dX9_impostor_41 rfl rfl ?_
      refine ax_iconst (v := 0) dX9_impostor_43 (by decide) rfl ?_
      refine ax_iconst (v := 1) dX9_impostor_44 (by decide) rfl ?_
      refine ad_S3 ksX9_isWithin lkX9_64 dX9_impostor_45 rfl (Nat.le_of_ble_eq_true rfl) (Nat.le_of_ble_eq_true rfl) (s_X9_isWithin _ _ _ _) ?_
      refine ax_if_eq (tgt := 55) dX9_impostor_48 (by decide) rfl (fun c48 => ?_) (fun c48 => ?_)
      · refine ax_iconst (v := 0) dX9_impostor_55 (by decide) rfl ?_
        refine ax_aload_n (j := 0) dX9_impostor_56 rfl rfl rfl ?_
        refine am_getR flX9_19 dX9_impostor_57 rfl is0 rfl ?_
        refine ax_iload_n (j := 1) dX9_impostor_60 rfl rfl rfl ?_
        refine ax_iload_n (j := 2) dX9_impostor_61 rfl rfl rfl ?_
        refine ad_V2 ksX5_knows lkX9_171 dX9_impostor_62 rfl isP3.o rfl (Nat.le_of_ble_eq_true rfl) (Nat.le_of_ble_eq_true rfl) (s_X5_knows _ isP3 _ _) ?_
        refine ax_iconst (v := 1) dX9_impostor_65 (by decide) rfl ?_
        refine ad_S4 ksX9_refusal lkX9_72 dX9_impostor_66 rfl (Nat.le_of_ble_eq_true rfl) (Nat.le_of_ble_eq_true rfl) (s_X9_refusal _ _ _ _ _) ?_
        refine ax_ist7 dX9_impostor_69 rfl (Nat.le_of_ble_eq_true rfl) rfl ?_
        refine ax_iload dX9_impostor_71 rfl rfl ?_
        refine ax_if_eq (tgt := 79) dX9_impostor_73 (by decide) rfl (fun c73 => ?_) (fun c73 => ?_)
        · refine ax_aload_n (j := 0) dX9_impostor_79 rfl rfl rfl ?_
          refine am_getR flX9_19 dX9_impostor_80 rfl is0 rfl ?_
          refine ax_iload_n (j := 1) dX9_impostor_83 rfl rfl rfl ?_
          refine ax_iload_n (j := 2) dX9_impostor_84 rfl rfl rfl ?_
          refine ad_V2 ksX5_memoryOf lkX9_148 dX9_impostor_85 rfl isP3.o rfl (Nat.le_of_ble_eq_true rfl) (Nat.le_of_ble_eq_true rfl) (s_X5_memoryOf _ isP3 _ _) ?_
          refine ax_ist8 dX9_impostor_88 rfl (Nat.le_of_ble_eq_true rfl) rfl ?_
          refine ax_iload dX9_impostor_90 rfl rfl ?_
          refine ax_if_ne (tgt := 111) dX9_impostor_92 (by decide) rfl (fun c92 => ?_) (fun c92 => ?_)
          · refine ax_aload_n (j := 0) dX9_impostor_111 rfl rfl rfl ?_
            refine am_getR flX9_19 dX9_impostor_112 rfl is0 rfl ?_
            refine ax_iload dX9_impostor_115 rfl rfl ?_
            refine ax_iload_n (j := 1) dX9_impostor_117 rfl rfl rfl ?_
            refine ax_iload_n (j := 3) dX9_impostor_118 rfl rfl rfl ?_
            refine ax_iload dX9_impostor_119 rfl rfl ?_
            refine ad_S5 ksX6_leastPicking lkX9_244 dX9_impostor_121 rfl (Nat.le_of_ble_eq_true rfl) (Nat.le_of_ble_eq_true rfl) (s_X6_leastPicking _ isP3 _ _ _ _ (by assumption)) ?_
            exact ax_ireturn rfl dX9_impostor_124 ⟨by simp only [F_X9_impostor, if_pos c9, if_neg c38, if_pos c48, if_pos c73, if_neg c92], rfl⟩
          · refine ax_aload_n (j := 0) dX9_impostor_95 rfl rfl rfl ?_
            refine am_getR flX9_19 dX9_impostor_96 rfl is0 rfl ?_
            refine ax_iload dX9_impostor_99 rfl rfl ?_
            refine ax_iload_n (j := 1) dX9_impostor_101 rfl rfl rfl ?_
            refine ax_iload_n (j := 3) dX9_impostor_102 rfl rfl rfl ?_
            refine ax_iload dX9_impostor_103 rfl rfl ?_
            refine ad_S5 ksX6_countPicking lkX9_241 dX9_impostor_105 rfl (Nat.le_of_ble_eq_true rfl) (Nat.le_of_ble_eq_true rfl) (s_X6_countPicking _ isP3 _ _ _ _ (by assumption)) ?_
            refine ax_goto (tgt := 124) dX9_impostor_108 (by decide) ?_
            exact ax_ireturn rfl dX9_impostor_124 ⟨by simp only [F_X9_impostor, if_pos c9, if_neg c38, if_pos c48, if_pos c73, if_pos c92], rfl⟩
        · refine ax_iload dX9_impostor_76 rfl rfl ?_
          exact ax_ireturn rfl dX9_impostor_78 ⟨by simp only [F_X9_impostor, if_pos c9, if_neg c38, if_pos c48, if_neg c73], rfl⟩
      · refine ax_iconst (v := 1) dX9_impostor_51 (by decide) rfl ?_
        refine ax_goto (tgt := 56) dX9_impostor_52 (by decide) ?_
        refine ax_aload_n (j := 0) dX9_impostor_56 rfl rfl rfl ?_
        refine am_getR flX9_19 dX9_impostor_57 rfl is0 rfl ?_
        refine ax_iload_n (j := 1) dX9_impostor_60 rfl rfl rfl ?_
        refine ax_iload_n (j := 2) dX9_impostor_61 rfl rfl rfl ?_
        refine ad_V2 ksX5_knows lkX9_171 dX9_impostor_62 rfl isP3.o rfl (Nat.le_of_ble_eq_true rfl) (Nat.le_of_ble_eq_true rfl) (s_X5_knows _ isP3 _ _) ?_
        refine ax_iconst (v := 1) dX9_impostor_65 (by decide) rfl ?_
        refine ad_S4 ksX9_refusal lkX9_72 dX9_impostor_66 rfl (Nat.le_of_ble_eq_true rfl) (Nat.le_of_ble_eq_true rfl) (s_X9_refusal _ _ _ _ _) ?_
        refine ax_ist7 dX9_impostor_69 rfl (Nat.le_of_ble_eq_true rfl) rfl ?_
        refine ax_iload dX9_impostor_71 rfl rfl ?_
        refine ax_if_eq (tgt := 79) dX9_impostor_73 (by decide) rfl (fun c73 => ?_) (fun c73 => ?_)
        · refine ax_aload_n (j := 0) dX9_impostor_79 rfl rfl rfl ?_
          refine am_getR flX9_19 dX9_impostor_80 rfl is0 rfl ?_
          refine ax_iload_n (j := 1) dX9_impostor_83 rfl rfl rfl ?_
          refine ax_iload_n (j := 2) dX9_impostor_84 rfl rfl rfl ?_
          refine ad_V2 ksX5_memoryOf lkX9_148 dX9_impostor_85 rfl isP3.o rfl (Nat.le_of_ble_eq_true rfl) (Nat.le_of_ble_eq_true rfl) (s_X5_memoryOf _ isP3 _ _) ?_
          refine ax_ist8 dX9_impostor_88 rfl (Nat.le_of_ble_eq_true rfl) rfl ?_
          refine ax_iload dX9_impostor_90 rfl rfl ?_
          refine ax_if_ne (tgt := 111) dX9_impostor_92 (by decide) rfl (fun c92 => ?_) (fun c92 => ?_)
          · refine ax_aload_n (j := 0) dX9_impostor_111 rfl rfl rfl ?_
            refine am_getR flX9_19 dX9_impostor_112 rfl is0 rfl ?_
            refine ax_iload dX9_impostor_115 rfl rfl ?_
            refine ax_iload_n (j := 1) dX9_impostor_117 rfl rfl rfl ?_
            refine ax_iload_n (j := 3) dX9_impostor_118 rfl rfl rfl ?_
            refine ax_iload dX9_impostor_119 rfl rfl ?_
            refine ad_S5 ksX6_leastPicking lkX9_244 dX9_impostor_121 rfl (Nat.le_of_ble_eq_true rfl) (Nat.le_of_ble_eq_true rfl) (s_X6_leastPicking _ isP3 _ _ _ _ (by assumption)) ?_
            exact ax_ireturn rfl dX9_impostor_124 ⟨by simp only [F_X9_impostor, if_pos c9, if_neg c38, if_neg c48, if_pos c73, if_neg c92], rfl⟩
          · refine ax_aload_n (j := 0) dX9_impostor_95 rfl rfl rfl ?_
            refine am_getR flX9_19 dX9_impostor_96 rfl is0 rfl ?_
            refine ax_iload dX9_impostor_99 rfl rfl ?_
            refine ax_iload_n (j := 1) dX9_impostor_101 rfl rfl rfl ?_
            refine ax_iload_n (j := 3) dX9_impostor_102 rfl rfl rfl ?_
            refine ax_iload dX9_impostor_103 rfl rfl ?_
            refine ad_S5 ksX6_countPicking lkX9_241 dX9_impostor_105 rfl (Nat.le_of_ble_eq_true rfl) (Nat.le_of_ble_eq_true rfl) (s_X6_countPicking _ isP3 _ _ _ _ (by assumption)) ?_
            refine ax_goto (tgt := 124) dX9_impostor_108 (by decide) ?_
            exact ax_ireturn rfl dX9_impostor_124 ⟨by simp only [F_X9_impostor, if_pos c9, if_neg c38, if_neg c48, if_pos c73, if_pos c92], rfl⟩
        · refine ax_iload dX9_impostor_76 rfl rfl ?_
          exact ax_ireturn rfl dX9_impostor_78 ⟨by simp only [F_X9_impostor, if_pos c9, if_neg c38, if_neg c48, if_neg c73], rfl⟩
  · refine ax_aload_n (j := 0) dX9_impostor_12 rfl rfl rfl ?_
    refine am_getR flX9_19 dX9_impostor_13 rfl is0 rfl ?_
    refine ax_iload_n (j := 1) dX9_impostor_16 rfl rfl rfl ?_
    refine ax_iload_n (j := 3) dX9_impostor_17 rfl rfl rfl ?_
    refine ad_V2 ksX5_isPair lkX9_144 dX9_impostor_18 rfl isP3.o rfl (Nat.le_of_ble_eq_true rfl) (Nat.le_of_ble_eq_true rfl) (s_X5_isPair _ isP3 _ _) ?_
    refine ax_if_eq (tgt := 28) dX9_impostor_21 (by decide) rfl (fun c21 => ?_) (fun c21 => ?_)
    · refine ax_iconst (v := 0) dX9_impostor_28 (by decide) rfl ?_
      refine ax_ist6 dX9_impostor_29 rfl (Nat.le_of_ble_eq_true rfl) rfl ?_
      refine ax_iload dX9_impostor_31 rfl rfl ?_
      refine ax_iload dX9_impostor_33 rfl rfl ?_
      refine ad_S1 ksX9_isRowLength lkX9_208 dX9_impostor_35 rfl (Nat.le_of_ble_eq_true rfl) (Nat.le_of_ble_eq_true rfl) (s_X9_isRowLength _ _) ?_
      refine ax_if_eq (tgt := 55) dX9_impostor_38 (by decide) rfl (fun c38 => ?_) (fun c38 => ?_)
      · refine ax_iconst (v := 0) dX9_impostor_55 (by decide) rfl ?_
        refine ax_aload_n (j := 0) dX9_impostor_56 rfl rfl rfl ?_
        refine am_getR flX9_19 dX9_impostor_57 rfl is0 rfl ?_
        refine ax_iload_n (j := 1) dX9_impostor_60 rfl rfl rfl ?_
        refine ax_iload_n (j := 2) dX9_impostor_61 rfl rfl rfl ?_
        refine ad_V2 ksX5_knows lkX9_171 dX9_impostor_62 rfl isP3.o rfl (Nat.le_of_ble_eq_true rfl) (Nat.le_of_ble_eq_true rfl) (s_X5_knows _ isP3 _ _) ?_
        refine ax_iconst (v := 1) dX9_impostor_65 (by decide) rfl ?_
        refine ad_S4 ksX9_refusal lkX9_72 dX9_impostor_66 rfl (Nat.le_of_ble_eq_true rfl) (Nat.le_of_ble_eq_true rfl) (s_X9_refusal _ _ _ _ _) ?_
        refine ax_ist7 dX9_impostor_69 rfl (Nat.le_of_ble_eq_true rfl) rfl ?_
        refine ax_iload dX9_impostor_71 rfl rfl ?_
        refine ax_if_eq (tgt := 79) dX9_impostor_73 (by decide) rfl (fun c73 => ?_) (fun c73 => ?_)
        · refine ax_aload_n (j := 0) dX9_impostor_79 rfl rfl rfl ?_
          refine am_getR flX9_19 dX9_impostor_80 rfl is0 rfl ?_
          refine ax_iload_n (j := 1) dX9_impostor_83 rfl rfl rfl ?_
          refine ax_iload_n (j := 2) dX9_impostor_84 rfl rfl rfl ?_
          refine ad_V2 ksX5_memoryOf lkX9_148 dX9_impostor_85 rfl isP3.o rfl (Nat.le_of_ble_eq_true rfl) (Nat.le_of_ble_eq_true rfl) (s_X5_memoryOf _ isP3 _ _) ?_
          refine ax_ist8 dX9_impostor_88 rfl (Nat.le_of_ble_eq_true rfl) rfl ?_
          refine ax_iload dX9_impostor_90 rfl rfl ?_
          refine ax_if_ne (tgt := 111) dX9_impostor_92 (by decide) rfl (fun c92 => ?_) (fun c92 => ?_)
          · refine ax_aload_n (j := 0) dX9_impostor_111 rfl rfl rfl ?_
            refine am_getR flX9_19 dX9_impostor_112 rfl is0 rfl ?_
            refine ax_iload dX9_impostor_115 rfl rfl ?_
            refine ax_iload_n (j := 1) dX9_impostor_117 rfl rfl rfl ?_
            refine ax_iload_n (j := 3) dX9_impostor_118 rfl rfl rfl ?_
            refine ax_iload dX9_impostor_119 rfl rfl ?_
            refine ad_S5 ksX6_leastPicking lkX9_244 dX9_impostor_121 rfl (Nat.le_of_ble_eq_true rfl) (Nat.le_of_ble_eq_true rfl) (s_X6_leastPicking _ isP3 _ _ _ _ (by assumption)) ?_
            exact ax_ireturn rfl dX9_impostor_124 ⟨by simp only [F_X9_impostor, if_neg c9, if_pos c21, if_pos c38, if_pos c73, if_neg c92], rfl⟩
          · refine ax_aload_n (j := 0) dX9_impostor_95 rfl rfl rfl ?_
            refine am_getR flX9_19 dX9_impostor_96 rfl is0 rfl ?_
            refine ax_iload dX9_impostor_99 rfl rfl ?_
            refine ax_iload_n (j := 1) dX9_impostor_101 rfl rfl rfl ?_
            refine ax_iload_n (j := 3) dX9_impostor_102 rfl rfl rfl ?_
            refine ax_iload dX9_impostor_103 rfl rfl ?_
            refine ad_S5 ksX6_countPicking lkX9_241 dX9_impostor_105 rfl (Nat.le_of_ble_eq_true rfl) (Nat.le_of_ble_eq_true rfl) (s_X6_countPicking _ isP3 _ _ _ _ (by assumption)) ?_
            refine ax_goto (tgt := 124) dX9_impostor_108 (by decide) ?_
            exact ax_ireturn rfl dX9_impostor_124 ⟨by simp only [F_X9_impostor, if_neg c9, if_pos c21, if_pos c38, if_pos c73, if_pos c92], rfl⟩
        · refine ax_iload dX9_impostor_76 rfl rfl ?_
          exact ax_ireturn rfl dX9_impostor_78 ⟨by simp only [F_X9_impostor, if_neg c9, if_pos c21, if_pos c38, if_neg c73], rfl⟩
      · refine ax_iload dX9_impostor_41 rfl rfl ?_
        refine ax_iconst (v := 0) dX9_impostor_43 (by decide) rfl ?_
        refine ax_iconst (v := 1) dX9_impostor_44 (by decide) rfl ?_
        refine ad_S3 ksX9_isWithin lkX9_64 dX9_impostor_45 rfl (Nat.le_of_ble_eq_true rfl) (Nat.le_of_ble_eq_true rfl) (s_X9_isWithin _ _ _ _) ?_
        refine ax_if_eq (tgt := 55) dX9_impostor_48 (by decide) rfl (fun c48 => ?_) (fun c48 => ?_)
        · refine ax_iconst (v := 0) dX9_impostor_55 (by decide) rfl ?_
          refine ax_aload_n (j := 0) dX9_impostor_56 rfl rfl rfl ?_
          refine am_getR flX9_19 dX9_impostor_57 rfl is0 rfl ?_
          refine ax_iload_n (j := 1) dX9_impostor_60 rfl rfl rfl ?_
          refine ax_iload_n (j := 2) dX9_impostor_61 rfl rfl rfl ?_
          refine ad_V2 ksX5_knows lkX9_171 dX9_impostor_62 rfl isP3.o rfl (Nat.le_of_ble_eq_true rfl) (Nat.le_of_ble_eq_true rfl) (s_X5_knows _ isP3 _ _) ?_
          refine ax_iconst (v := 1) dX9_impostor_65 (by decide) rfl ?_
          refine ad_S4 ksX9_refusal lkX9_72 dX9_impostor_66 rfl (Nat.le_of_ble_eq_true rfl) (Nat.le_of_ble_eq_true rfl) (s_X9_refusal _ _ _ _ _) ?_
          refine ax_ist7 dX9_impostor_69 rfl (Nat.le_of_ble_eq_true rfl) rfl ?_
          refine ax_iload dX9_impostor_71 rfl rfl ?_
          refine ax_if_eq (tgt := 79) dX9_impostor_73 (by decide) rfl (fun c73 => ?_) (fun c73 => ?_)
          · refine ax_aload_n (j := 0) dX9_impostor_79 rfl rfl rfl ?_
            refine am_getR flX9_19 dX9_impostor_80 rfl is0 rfl ?_
            refine ax_iload_n (j := 1) dX9_impostor_83 rfl rfl rfl ?_
            refine ax_iload_n (j := 2) dX9_impostor_84 rfl rfl rfl ?_
            refine ad_V2 ksX5_memoryOf lkX9_148 dX9_impostor_85 rfl isP3.o rfl (Nat.le_of_ble_eq_true rfl) (Nat.le_of_ble_eq_true rfl) (s_X5_memoryOf _ isP3 _ _) ?_
            refine ax_ist8 dX9_impostor_88 rfl (Nat.le_of_ble_eq_true rfl) rfl ?_
            refine ax_iload dX9_impostor_90 rfl rfl ?_
            refine ax_if_ne (tgt := 111) dX9_impostor_92 (by decide) rfl (fun c92 => ?_) (fun c92 => ?_)
            · refine ax_aload_n (j := 0) dX9_impostor_111 rfl rfl rfl ?_
              refine am_getR flX9_19 dX9_impostor_112 rfl is0 rfl ?_
              refine ax_iload dX9_impostor_115 rfl rfl ?_
              refine ax_iload_n (j := 1) dX9_impostor_117 rfl rfl rfl ?_
              refine ax_iload_n (j := 3) dX9_impostor_118 rfl rfl rfl ?_
              refine ax_iload dX9_impostor_119 rfl rfl ?_
              refine ad_S5 ksX6_leastPicking lkX9_244 dX9_impostor_121 rfl (Nat.le_of_ble_eq_true rfl) (Nat.le_of_ble_eq_true rfl) (s_X6_leastPicking _ isP3 _ _ _ _ (by assumption)) ?_
              exact ax_ireturn rfl dX9_impostor_124 ⟨by simp only [F_X9_impostor, if_neg c9, if_pos c21, if_neg c38, if_pos c48, if_pos c73, if_neg c92], rfl⟩
            · refine ax_aload_n (j := 0) dX9_impostor_95 rfl rfl rfl ?_
              refine am_getR flX9_19 dX9_impostor_96 rfl is0 rfl ?_
              refine ax_iload dX9_impostor_99 rfl rfl ?_
              refine ax_iload_n (j := 1) dX9_impostor_101 rfl rfl rfl ?_
              refine ax_iload_n (j := 3) dX9_impostor_102 rfl rfl rfl ?_
              refine ax_iload dX9_impostor_103 rfl rfl ?_
              refine ad_S5 ksX6_countPicking lkX9_241 dX9_impostor_105 rfl (Nat.le_of_ble_eq_true rfl) (Nat.le_of_ble_eq_true rfl) (s_X6_countPicking _ isP3 _ _ _ _ (by assumption)) ?_
              refine ax_goto (tgt := 124) dX9_impostor_108 (by decide) ?_
              exact ax_ireturn rfl dX9_impostor_124 ⟨by simp only [F_X9_impostor, if_neg c9, if_pos c21, if_neg c38, if_pos c48, if_pos c73, if_pos c92], rfl⟩
          · refine ax_iload dX9_impostor_76 rfl rfl ?_
            exact ax_ireturn rfl dX9_impostor_78 ⟨by simp only [F_X9_impostor, if_neg c9, if_pos c21, if_neg c38, if_pos c48, if_neg c73], rfl⟩
        · refine ax_iconst (v := 1) dX9_impostor_51 (by decide) rfl ?_
          refine ax_goto (tgt := 56) dX9_impostor_52 (by decide) ?_
          refine ax_aload_n (j := 0) dX9_impostor_56 rfl rfl rfl ?_
          refine am_getR flX9_19 dX9_impostor_57 rfl is0 rfl ?_
          refine ax_iload_n (j := 1) dX9_impostor_60 rfl rfl rfl ?_
          refine ax_iload_n (j := 2) dX9_impostor_61 rfl rfl rfl ?_
          refine ad_V2 ksX5_knows lkX9_171 dX9_impostor_62 rfl isP3.o rfl (Nat.le_of_ble_eq_true rfl) (Nat.le_of_ble_eq_true rfl) (s_X5_knows _ isP3 _ _) ?_
          refine ax_iconst (v := 1) dX9_impostor_65 (by decide) rfl ?_
          refine ad_S4 ksX9_refusal lkX9_72 dX9_impostor_66 rfl (Nat.le_of_ble_eq_true rfl) (Nat.le_of_ble_eq_true rfl) (s_X9_refusal _ _ _ _ _) ?_
          refine ax_ist7 dX9_impostor_69 rfl (Nat.le_of_ble_eq_true rfl) rfl ?_
          refine ax_iload dX9_impostor_71 rfl rfl ?_
          refine ax_if_eq (tgt := 79) dX9_impostor_73 (by decide) rfl (fun c73 => ?_) (fun c73 => ?_)
          · refine ax_aload_n (j := 0) dX9_impostor_79 rfl rfl rfl ?_
            refine am_getR flX9_19 dX9_impostor_80 rfl is0 rfl ?_
            refine ax_iload_n (j := 1) dX9_impostor_83 rfl rfl rfl ?_
            refine ax_iload_n (j := 2) dX9_impostor_84 rfl rfl rfl ?_
            refine ad_V2 ksX5_memoryOf lkX9_148 dX9_impostor_85 rfl isP3.o rfl (Nat.le_of_ble_eq_true rfl) (Nat.le_of_ble_eq_true rfl) (s_X5_memoryOf _ isP3 _ _) ?_
            refine ax_ist8 dX9_impostor_88 rfl (Nat.le_of_ble_eq_true rfl) rfl ?_
            refine ax_iload dX9_impostor_90 rfl rfl ?_
            refine ax_if_ne (tgt := 111) dX9_impostor_92 (by decide) rfl (fun c92 => ?_) (fun c92 => ?_)
            · refine ax_aload_n (j := 0) dX9_impostor_111 rfl rfl rfl ?_
              refine am_getR flX9_19 dX9_impostor_112 rfl is0 rfl ?_
              refine ax_iload dX9_impostor_115 rfl rfl ?_
              refine ax_iload_n (j := 1) dX9_impostor_117 rfl rfl rfl ?_
              refine ax_iload_n (j := 3) dX9_impostor_118 rfl rfl rfl ?_
              refine ax_iload dX9_impostor_119 rfl rfl ?_
              refine ad_S5 ksX6_leastPicking lkX9_244 dX9_impostor_121 rfl (Nat.le_of_ble_eq_true rfl) (Nat.le_of_ble_eq_true rfl) (s_X6_leastPicking _ isP3 _ _ _ _ (by assumption)) ?_
              exact ax_ireturn rfl dX9_impostor_124 ⟨by simp only [F_X9_impostor, if_neg c9, if_pos c21, if_neg c38, if_neg c48, if_pos c73, if_neg c92], rfl⟩
            · refine ax_aload_n (j := 0) dX9_impostor_95 rfl rfl rfl ?_
              refine am_getR flX9_19 dX9_impostor_96 rfl is0 rfl ?_
              refine ax_iload dX9_impostor_99 rfl rfl ?_
              refine ax_iload_n (j := 1) dX9_impostor_101 rfl rfl rfl ?_
              refine ax_iload_n (j := 3) dX9_impostor_102 rfl rfl rfl ?_
              refine ax_iload dX9_impostor_103 rfl rfl ?_
              refine ad_S5 ksX6_countPicking lkX9_241 dX9_impostor_105 rfl (Nat.le_of_ble_eq_true rfl) (Nat.le_of_ble_eq_true rfl) (s_X6_countPicking _ isP3 _ _ _ _ (by assumption)) ?_
              refine ax_goto (tgt := 124) dX9_impostor_108 (by decide) ?_
              exact ax_ireturn rfl dX9_impostor_124 ⟨by simp only [F_X9_impostor, if_neg c9, if_pos c21, if_neg c38, if_neg c48, if_pos c73, if_pos c92], rfl⟩
          · refine ax_iload dX9_impostor_76 rfl rfl ?_
            exact ax_ireturn rfl dX9_impostor_78 ⟨by simp only [F_X9_impostor, if_neg c9, if_pos c21, if_neg c38, if_neg c48, if_neg c73], rfl⟩
    · refine ax_iconst (v := 1) dX9_impostor_24 (by decide) rfl ?_
      refine ax_goto (tgt := 29) dX9_impostor_25 (by decide) ?_
      refine ax_ist6 dX9_impostor_29 rfl (Nat.le_of_ble_eq_true rfl) rfl ?_
      refine ax_iload dX9_impostor_31 rfl rfl ?_
      refine ax_iload dX9_impostor_33 rfl rfl ?_
      refine ad_S1 ksX9_isRowLength lkX9_208 dX9_impostor_35 rfl (Nat.le_of_ble_eq_true rfl) (Nat.le_of_ble_eq_true rfl) (s_X9_isRowLength _ _) ?_
      refine ax_if_eq (tgt := 55) dX9_impostor_38 (by decide) rfl (fun c38 => ?_) (fun c38 => ?_)
      · refine ax_iconst (v := 0) dX9_impostor_55 (by decide) rfl ?_
        refine ax_aload_n (j := 0) dX9_impostor_56 rfl rfl rfl ?_
        refine am_getR flX9_19 dX9_impostor_57 rfl is0 rfl ?_
        refine ax_iload_n (j := 1) dX9_impostor_60 rfl rfl rfl ?_
        refine ax_iload_n (j := 2) dX9_impostor_61 rfl rfl rfl ?_
        refine ad_V2 ksX5_knows lkX9_171 dX9_impostor_62 rfl isP3.o rfl (Nat.le_of_ble_eq_true rfl) (Nat.le_of_ble_eq_true rfl) (s_X5_knows _ isP3 _ _) ?_
        refine ax_iconst (v := 1) dX9_impostor_65 (by decide) rfl ?_
        refine ad_S4 ksX9_refusal lkX9_72 dX9_impostor_66 rfl (Nat.le_of_ble_eq_true rfl) (Nat.le_of_ble_eq_true rfl) (s_X9_refusal _ _ _ _ _) ?_
        refine ax_ist7 dX9_impostor_69 rfl (Nat.le_of_ble_eq_true rfl) rfl ?_
        refine ax_iload dX9_impostor_71 rfl rfl ?_
        refine ax_if_eq (tgt := 79) dX9_impostor_73 (by decide) rfl (fun c73 => ?_) (fun c73 => ?_)
        · refine ax_aload_n (j := 0) dX9_impostor_79 rfl rfl rfl ?_
          refine am_getR flX9_19 dX9_impostor_80 rfl is0 rfl ?_
          refine ax_iload_n (j := 1) dX9_impostor_83 rfl rfl rfl ?_
          refine ax_iload_n (j := 2) dX9_impostor_84 rfl rfl rfl ?_
          refine ad_V2 ksX5_memoryOf lkX9_148 dX9_impostor_85 rfl isP3.o rfl (Nat.le_of_ble_eq_true rfl) (Nat.le_of_ble_eq_true rfl) (s_X5_memoryOf _ isP3 _ _) ?_
          refine ax_ist8 dX9_impostor_88 rfl (Nat.le_of_ble_eq_true rfl) rfl ?_
          refine ax_iload dX9_impostor_90 rfl rfl ?_
          refine ax_if_ne (tgt := 111) dX9_impostor_92 (by decide) rfl (fun c92 => ?_) (fun c92 => ?_)
          · refine ax_aload_n (j := 0) dX9_impostor_111 rfl rfl rfl ?_
            refine am_getR flX9_19 dX9_impostor_112 rfl is0 rfl ?_
            refine ax_iload dX9_impostor_115 rfl rfl ?_
            refine ax_iload_n (j := 1) dX9_impostor_117 rfl rfl rfl ?_
            refine ax_iload_n (j := 3) dX9_impostor_118 rfl rfl rfl ?_
            refine ax_iload dX9_impostor_119 rfl rfl ?_
            refine ad_S5 ksX6_leastPicking lkX9_244 dX9_impostor_121 rfl (Nat.le_of_ble_eq_true rfl) (Nat.le_of_ble_eq_true rfl) (s_X6_leastPicking _ isP3 _ _ _ _ (by assumption)) ?_
            exact ax_ireturn rfl dX9_impostor_124 ⟨by simp only [F_X9_impostor, if_neg c9, if_neg c21, if_pos c38, if_pos c73, if_neg c92], rfl⟩
          · refine ax_aload_n (j := 0) dX9_impostor_95 rfl rfl rfl ?_
            refine am_getR flX9_19 dX9_impostor_96 rfl is0 rfl ?_
            refine ax_iload dX9_impostor_99 rfl rfl ?_
            refine ax_iload_n (j := 1) dX9_impostor_101 rfl rfl rfl ?_
            refine ax_iload_n (j := 3) dX9_impostor_102 rfl rfl rfl ?_
            refine ax_iload dX9_impostor_103 rfl rfl ?_
            refine ad_S5 ksX6_countPicking lkX9_241 dX9_impostor_105 rfl (Nat.le_of_ble_eq_true rfl) (Nat.le_of_ble_eq_true rfl) (s_X6_countPicking _ isP3 _ _ _ _ (by assumption)) ?_
            refine ax_goto (tgt := 124) dX9_impostor_108 (by decide) ?_
            exact ax_ireturn rfl dX9_impostor_124 ⟨by simp only [F_X9_impostor, if_neg c9, if_neg c21, if_pos c38, if_pos c73, if_pos c92], rfl⟩
        · refine ax_iload dX9_impostor_76 rfl rfl ?_
          exact ax_ireturn rfl dX9_impostor_78 ⟨by simp only [F_X9_impostor, if_neg c9, if_neg c21, if_pos c38, if_neg c73], rfl⟩
      · refine ax_iload dX9_impostor_41 rfl rfl ?_
        refine ax_iconst (v := 0) dX9_impostor_43 (by decide) rfl ?_
        refine ax_iconst (v := 1) dX9_impostor_44 (by decide) rfl ?_
        refine ad_S3 ksX9_isWithin lkX9_64 dX9_impostor_45 rfl (Nat.le_of_ble_eq_true rfl) (Nat.le_of_ble_eq_true rfl) (s_X9_isWithin _ _ _ _) ?_
        refine ax_if_eq (tgt := 55) dX9_impostor_48 (by decide) rfl (fun c48 => ?_) (fun c48 => ?_)
        · refine ax_iconst (v := 0) dX9_impostor_55 (by decide) rfl ?_
          refine ax_aload_n (j := 0) dX9_impostor_56 rfl rfl rfl ?_
          refine am_getR flX9_19 dX9_impostor_57 rfl is0 rfl ?_
          refine ax_iload_n (j := 1) dX9_impostor_60 rfl rfl rfl ?_
          refine ax_iload_n (j := 2) dX9_impostor_61 rfl rfl rfl ?_
          refine ad_V2 ksX5_knows lkX9_171 dX9_impostor_62 rfl isP3.o rfl (Nat.le_of_ble_eq_true rfl) (Nat.le_of_ble_eq_true rfl) (s_X5_knows _ isP3 _ _) ?_
          refine ax_iconst (v := 1) dX9_impostor_65 (by decide) rfl ?_
          refine ad_S4 ksX9_refusal lkX9_72 dX9_impostor_66 rfl (Nat.le_of_ble_eq_true rfl) (Nat.le_of_ble_eq_true rfl) (s_X9_refusal _ _ _ _ _) ?_
          refine ax_ist7 dX9_impostor_69 rfl (Nat.le_of_ble_eq_true rfl) rfl ?_
          refine ax_iload dX9_impostor_71 rfl rfl ?_
          refine ax_if_eq (tgt := 79) dX9_impostor_73 (by decide) rfl (fun c73 => ?_) (fun c73 => ?_)
          · refine ax_aload_n (j := 0) dX9_impostor_79 rfl rfl rfl ?_
            refine am_getR flX9_19 dX9_impostor_80 rfl is0 rfl ?_
            refine ax_iload_n (j := 1) dX9_impostor_83 rfl rfl rfl ?_
            refine ax_iload_n (j := 2) dX9_impostor_84 rfl rfl rfl ?_
            refine ad_V2 ksX5_memoryOf lkX9_148 dX9_impostor_85 rfl isP3.o rfl (Nat.le_of_ble_eq_true rfl) (Nat.le_of_ble_eq_true rfl) (s_X5_memoryOf _ isP3 _ _) ?_
            refine ax_ist8 dX9_impostor_88 rfl (Nat.le_of_ble_eq_true rfl) rfl ?_
            refine ax_iload dX9_impostor_90 rfl rfl ?_
            refine ax_if_ne (tgt := 111) dX9_impostor_92 (by decide) rfl (fun c92 => ?_) (fun c92 => ?_)
            · refine ax_aload_n (j := 0) dX9_impostor_111 rfl rfl rfl ?_
              refine am_getR flX9_19 dX9_impostor_112 rfl is0 rfl ?_
              refine ax_iload dX9_impostor_115 rfl rfl ?_
              refine ax_iload_n (j := 1) dX9_impostor_117 rfl rfl rfl ?_
              refine ax_iload_n (j := 3) dX9_impostor_118 rfl rfl rfl ?_
              refine ax_iload dX9_impostor_119 rfl rfl ?_
              refine ad_S5 ksX6_leastPicking lkX9_244 dX9_impostor_121 rfl (Nat.le_of_ble_eq_true rfl) (Nat.le_of_ble_eq_true rfl) (s_X6_leastPicking _ isP3 _ _ _ _ (by assumption)) ?_
              exact ax_ireturn rfl dX9_impostor_124 ⟨by simp only [F_X9_impostor, if_neg c9, if_neg c21, if_neg c38, if_pos c48, if_pos c73, if_neg c92], rfl⟩
            · refine ax_aload_n (j := 0) dX9_impostor_95 rfl rfl rfl ?_
              refine am_getR flX9_19 dX9_impostor_96 rfl is0 rfl ?_
              refine ax_iload dX9_impostor_99 rfl rfl ?_
              refine ax_iload_n (j := 1) dX9_impostor_101 rfl rfl rfl ?_
              refine ax_iload_n (j := 3) dX9_impostor_102 rfl rfl rfl ?_
              refine ax_iload dX9_impostor_103 rfl rfl ?_
              refine ad_S5 ksX6_countPicking lkX9_241 dX9_impostor_105 rfl (Nat.le_of_ble_eq_true rfl) (Nat.le_of_ble_eq_true rfl) (s_X6_countPicking _ isP3 _ _ _ _ (by assumption)) ?_
              refine ax_goto (tgt := 124) dX9_impostor_108 (by decide) ?_
              exact ax_ireturn rfl dX9_impostor_124 ⟨by simp only [F_X9_impostor, if_neg c9, if_neg c21, if_neg c38, if_pos c48, if_pos c73, if_pos c92], rfl⟩
          · refine ax_iload dX9_impostor_76 rfl rfl ?_
            exact ax_ireturn rfl dX9_impostor_78 ⟨by simp only [F_X9_impostor, if_neg c9, if_neg c21, if_neg c38, if_pos c48, if_neg c73], rfl⟩
        · refine ax_iconst (v := 1) dX9_impostor_51 (by decide) rfl ?_
          refine ax_goto (tgt := 56) dX9_impostor_52 (by decide) ?_
          refine ax_aload_n (j := 0) dX9_impostor_56 rfl rfl rfl ?_
          refine am_getR flX9_19 dX9_impostor_57 rfl is0 rfl ?_
          refine ax_iload_n (j := 1) dX9_impostor_60 rfl rfl rfl ?_
          refine ax_iload_n (j := 2) dX9_impostor_61 rfl rfl rfl ?_
          refine ad_V2 ksX5_knows lkX9_171 dX9_impostor_62 rfl isP3.o rfl (Nat.le_of_ble_eq_true rfl) (Nat.le_of_ble_eq_true rfl) (s_X5_knows _ isP3 _ _) ?_
          refine ax_iconst (v := 1) dX9_impostor_65 (by decide) rfl ?_
          refine ad_S4 ksX9_refusal lkX9_72 dX9_impostor_66 rfl (Nat.le_of_ble_eq_true rfl) (Nat.le_of_ble_eq_true rfl) (s_X9_refusal _ _ _ _ _) ?_
          refine ax_ist7 dX9_impostor_69 rfl (Nat.le_of_ble_eq_true rfl) rfl ?_
          refine ax_iload dX9_impostor_71 rfl rfl ?_
          refine ax_if_eq (tgt := 79) dX9_impostor_73 (by decide) rfl (fun c73 => ?_) (fun c73 => ?_)
          · refine ax_aload_n (j := 0) dX9_impostor_79 rfl rfl rfl ?_
            refine am_getR flX9_19 dX9_impostor_80 rfl is0 rfl ?_
            refine ax_iload_n (j := 1) dX9_impostor_83 rfl rfl rfl ?_
            refine ax_iload_n (j := 2) dX9_impostor_84 rfl rfl rfl ?_
            refine ad_V2 ksX5_memoryOf lkX9_148 dX9_impostor_85 rfl isP3.o rfl (Nat.le_of_ble_eq_true rfl) (Nat.le_of_ble_eq_true rfl) (s_X5_memoryOf _ isP3 _ _) ?_
            refine ax_ist8 dX9_impostor_88 rfl (Nat.le_of_ble_eq_true rfl) rfl ?_
            refine ax_iload dX9_impostor_90 rfl rfl ?_
            refine ax_if_ne (tgt := 111) dX9_impostor_92 (by decide) rfl (fun c92 => ?_) (fun c92 => ?_)
            · refine ax_aload_n (j := 0) dX9_impostor_111 rfl rfl rfl ?_
              refine am_getR flX9_19 dX9_impostor_112 rfl is0 rfl ?_
              refine ax_iload dX9_impostor_115 rfl rfl ?_
              refine ax_iload_n (j := 1) dX9_impostor_117 rfl rfl rfl ?_
              refine ax_iload_n (j := 3) dX9_impostor_118 rfl rfl rfl ?_
              refine ax_iload dX9_impostor_119 rfl rfl ?_
              refine ad_S5 ksX6_leastPicking lkX9_244 dX9_impostor_121 rfl (Nat.le_of_ble_eq_true rfl) (Nat.le_of_ble_eq_true rfl) (s_X6_leastPicking _ isP3 _ _ _ _ (by assumption)) ?_
              exact ax_ireturn rfl dX9_impostor_124 ⟨by simp only [F_X9_impostor, if_neg c9, if_neg c21, if_neg c38, if_neg c48, if_pos c73, if_neg c92], rfl⟩
            · refine ax_aload_n (j := 0) dX9_impostor_95 rfl rfl rfl ?_
              refine am_getR flX9_19 dX9_impostor_96 rfl is0 rfl ?_
              refine ax_iload dX9_impostor_99 rfl rfl ?_
              refine ax_iload_n (j := 1) dX9_impostor_101 rfl rfl rfl ?_
              refine ax_iload_n (j := 3) dX9_impostor_102 rfl rfl rfl ?_
              refine ax_iload dX9_impostor_103 rfl rfl ?_
              refine ad_S5 ksX6_countPicking lkX9_241 dX9_impostor_105 rfl (Nat.le_of_ble_eq_true rfl) (Nat.le_of_ble_eq_true rfl) (s_X6_countPicking _ isP3 _ _ _ _ (by assumption)) ?_
              refine ax_goto (tgt := 124) dX9_impostor_108 (by decide) ?_
              exact ax_ireturn rfl dX9_impostor_124 ⟨by simp only [F_X9_impostor, if_neg c9, if_neg c21, if_neg c38, if_neg c48, if_pos c73, if_pos c92], rfl⟩
          · refine ax_iload dX9_impostor_76 rfl rfl ?_
            exact ax_ireturn rfl dX9_impostor_78 ⟨by simp only [F_X9_impostor, if_neg c9, if_neg c21, if_neg c38, if_neg c48, if_neg c73], rfl⟩

def F_X9_showNext (mem : ax_Me) (p0 : Int32) (p1 : Int32) : Int32 :=
  (if (F_X9_refusal mem (F_X5_isPair mem 3 p0 p1) 1 (F_X5_knows mem 3 p0 p1) 1) = 0 then (F_X6_widest mem 3 (F_X5_memoryOf mem 3 p0 p1) p0) else (F_X9_refusal mem (F_X5_isPair mem 3 p0 p1) 1 (F_X5_knows mem 3 p0 p1) 1))
set_option maxRecDepth 20000 in
theorem s_X9_showNext {G : ax_G} {l : Launch} (mem : ax_Me) (p0 : Int32) (p1 : Int32) (hc : ok8 mem 3) : AD G l 5 mX9_showNext [.ref 0, .int p0, .int p1] mem (some (.int (F_X9_showNext mem p0 p1))) mem := by
  refine ax_start (ls := [.ref 0, .int p0, .int p1, .float 0]) (u := 1) (by decide +kernel) (Nat.le_of_ble_eq_true rfl) (Nat.le_refl _) (Nat.le_refl _) rfl ?_
  refine ax_aload_n (j := 0) dX9_showNext_0 rfl rfl rfl ?_
  refine am_getR flX9_19 dX9_showNext_1 rfl is0 rfl ?_
  refine ax_iload_n (j := 1) dX9_showNext_4 rfl rfl rfl ?_
  refine ax_iload_n (j := 2) dX9_showNext_5 rfl rfl rfl ?_
  refine ad_V2 ksX5_isPair lkX9_144 dX9_showNext_6 rfl isP3.o rfl (Nat.le_of_ble_eq_true rfl) (Nat.le_of_ble_eq_true rfl) (s_X5_isPair _ isP3 _ _) ?_
  refine ax_iconst (v := 1) dX9_showNext_9 (by decide) rfl ?_
  refine ax_aload_n (j := 0) dX9_showNext_10 rfl rfl rfl ?_
  refine am_getR flX9_19 dX9_showNext_11 rfl is0 rfl ?_
  refine ax_iload_n (j := 1) dX9_showNext_14 rfl rfl rfl ?_
  refine ax_iload_n (j := 2) dX9_showNext_15 rfl rfl rfl ?_
  refine ad_V2 ksX5_knows lkX9_171 dX9_showNext_16 rfl isP3.o rfl (Nat.le_of_ble_eq_true rfl) (Nat.le_of_ble_eq_true rfl) (s_X5_knows _ isP3 _ _) ?_
  refine ax_iconst (v := 1) dX9_showNext_19 (by decide) rfl ?_
  refine ad_S4 ksX9_refusal lkX9_72 dX9_showNext_20 rfl (Nat.le_of_ble_eq_true rfl) (Nat.le_of_ble_eq_true rfl) (s_X9_refusal _ _ _ _ _) ?_
  refine ax_ist3 dX9_showNext_23 rfl rfl (Nat.le_of_ble_eq_true rfl) rfl ?_
  refine ax_iload_n (j := 3) dX9_showNext_24 rfl rfl rfl ?_
  refine ax_if_eq (tgt := 32) dX9_showNext_25 (by decide) rfl (fun c25 => ?_) (fun c25 => ?_)
  · refine ax_aload_n (j := 0) dX9_showNext_32 rfl rfl rfl ?_
    refine am_getR flX9_19 dX9_showNext_33 rfl is0 rfl ?_
    refine ax_aload_n (j := 0) dX9_showNext_36 rfl rfl rfl ?_
    refine am_getR flX9_19 dX9_showNext_37 rfl is0 rfl ?_
    refine ax_iload_n (j := 1) dX9_showNext_40 rfl rfl rfl ?_
    refine ax_iload_n (j := 2) dX9_showNext_41 rfl rfl rfl ?_
    refine ad_V2 ksX5_memoryOf lkX9_148 dX9_showNext_42 rfl isP3.o rfl (Nat.le_of_ble_eq_true rfl) (Nat.le_of_ble_eq_true rfl) (s_X5_memoryOf _ isP3 _ _) ?_
    refine ax_iload_n (j := 1) dX9_showNext_45 rfl rfl rfl ?_
    refine ad_S3 ksX6_widest lkX9_262 dX9_showNext_46 rfl (Nat.le_of_ble_eq_true rfl) (Nat.le_of_ble_eq_true rfl) (s_X6_widest _ isP3 _ _ (by assumption)) ?_
    exact ax_ireturn rfl dX9_showNext_49 ⟨by simp only [F_X9_showNext, if_pos c25], rfl⟩
  · refine ax_iload_n (j := 3) dX9_showNext_28 rfl rfl rfl ?_
    refine ax_goto (tgt := 49) dX9_showNext_29 (by decide) ?_
    exact ax_ireturn rfl dX9_showNext_49 ⟨by simp only [F_X9_showNext, if_neg c25], rfl⟩

def f_X9_honest_4 (mem : ax_Me)   (j : Nat) (s : Int32) : Int32 :=
  match s with
  | x0 => (if (F_X7_countOtherwise mem 3 (nI j)) = 0 then (x0 ||| (1 <<< ((nI j) &&& 31))) else x0)
def F_X9_honest (mem : ax_Me)  : Int32 :=
  (ax_it (f_X9_honest_4 mem) (((mem 3 4) : Int32).toNatClampNeg) (0) 0)
set_option maxRecDepth 20000 in
theorem lp_X9_honest_4 {G : ax_G} {l : Launch} {Q : Option Value → ax_H → Prop} (mem : ax_Me)    : ∀ (n j : Nat) (x0 : Int32), j + n = ((mem 3 4) : Int32).toNatClampNeg → AX G l mX9_honest 6 42 [.ref 0, .int (ax_it (f_X9_honest_4 mem) n j x0), .int (nI (((mem 3 4) : Int32).toNatClampNeg))] [] 153 0 (ax_hm mem) 153 0 Q → AX G l mX9_honest 6 4 [.ref 0, .int x0, .int (nI j)] [] 153 0 (ax_hm mem) 153 0 Q := by
  intro n
  induction n with
  | zero =>
    intro j x0 hj hx
    refine ax_iload_n (j := 2) dX9_honest_4 rfl rfl rfl ?_
    refine ax_aload_n (j := 0) dX9_honest_5 rfl rfl rfl ?_
    refine am_getR flX9_19 dX9_honest_6 rfl is0 rfl ?_
    refine am_getI flX9_97 dX9_honest_9 rfl isP3.o rfl ?_
    refine ax_icmp_ge (tgt := 42) dX9_honest_12 (by decide) rfl (fun c12 => ?_) (fun c12 => ?_)
    · have q := hx
      simp only [ax_it] at q
      rw [show (((mem 3 4) : Int32).toNatClampNeg) = j by omega] at q
      exact q
    · exact absurd (cl_ge (by omega)) c12
  | succ n ih =>
    intro j x0 hj hx
    refine ax_iload_n (j := 2) dX9_honest_4 rfl rfl rfl ?_
    refine ax_aload_n (j := 0) dX9_honest_5 rfl rfl rfl ?_
    refine am_getR flX9_19 dX9_honest_6 rfl is0 rfl ?_
    refine am_getI flX9_97 dX9_honest_9 rfl isP3.o rfl ?_
    refine ax_icmp_ge (tgt := 42) dX9_honest_12 (by decide) rfl (fun c12 => ?_) (fun c12 => ?_)
    · exact absurd c12 (cl_nle (by omega))
    · refine ax_aload_n (j := 0) dX9_honest_15 rfl rfl rfl ?_
      refine am_getR flX9_36 dX9_honest_16 rfl is0 rfl ?_
      refine ax_aload_n (j := 0) dX9_honest_19 rfl rfl rfl ?_
      refine am_getR flX9_19 dX9_honest_20 rfl is0 rfl ?_
      refine ax_iload_n (j := 2) dX9_honest_23 rfl rfl rfl ?_
      refine ad_V2 ksX7_countOtherwise lkX9_258 dX9_honest_24 rfl is115 rfl (Nat.le_of_ble_eq_true rfl) (Nat.le_of_ble_eq_true rfl) (s_X7_countOtherwise _ isP3 _) ?_
      refine ax_if_ne (tgt := 36) dX9_honest_27 (by decide) rfl (fun c27 => ?_) (fun c27 => ?_)
      · refine ax_iinc2 (v := nI (j + 1)) dX9_honest_36 rfl (cl_inc j) (Nat.le_of_ble_eq_true rfl) rfl ?_
        refine ax_goto (tgt := 4) dX9_honest_39 (by decide) ?_
        have e1 : f_X9_honest_4 mem j x0 = x0 := by simp only [f_X9_honest_4, if_neg c27]
        simp only [ax_it, e1] at hx
        exact ih (j + 1) (x0) (by omega) hx
      · refine ax_iload_n (j := 1) dX9_honest_30 rfl rfl rfl ?_
        refine ax_iconst (v := 1) dX9_honest_31 (by decide) rfl ?_
        refine ax_iload_n (j := 2) dX9_honest_32 rfl rfl rfl ?_
        refine ax_ishl dX9_honest_33 rfl ?_
        refine ax_ior dX9_honest_34 rfl ?_
        refine ax_ist1 dX9_honest_35 rfl rfl (Nat.le_of_ble_eq_true rfl) rfl ?_
        refine ax_iinc2 (v := nI (j + 1)) dX9_honest_36 rfl (cl_inc j) (Nat.le_of_ble_eq_true rfl) rfl ?_
        refine ax_goto (tgt := 4) dX9_honest_39 (by decide) ?_
        have e1 : f_X9_honest_4 mem j x0 = (x0 ||| (1 <<< ((nI j) &&& 31))) := by simp only [f_X9_honest_4, if_pos c27]
        simp only [ax_it, e1] at hx
        exact ih (j + 1) ((x0 ||| (1 <<< ((nI j) &&& 31)))) (by omega) hx
set_option maxRecDepth 20000 in
theorem s_X9_honest {G : ax_G} {l : Launch} (mem : ax_Me)   : AD G l 6 mX9_honest [.ref 0] mem (some (.int (F_X9_honest mem))) mem := by
  refine ax_start (ls := [.ref 0, .float 0, .float 0]) (u := 2) (by decide +kernel) (Nat.le_of_ble_eq_true rfl) (Nat.le_refl _) (Nat.le_refl _) rfl ?_
  refine ax_iconst (v := 0) dX9_honest_0 (by decide) rfl ?_
  refine ax_ist1 dX9_honest_1 rfl rfl (Nat.le_of_ble_eq_true rfl) rfl ?_
  refine ax_iconst (v := 0) dX9_honest_2 (by decide) rfl ?_
  refine ax_ist2 dX9_honest_3 rfl rfl (Nat.le_of_ble_eq_true rfl) rfl ?_
  refine lp_X9_honest_4 mem     (((mem 3 4) : Int32).toNatClampNeg) (0) (0) (Nat.zero_add _)  ?_
  refine ax_iload_n (j := 1) dX9_honest_42 rfl rfl rfl ?_
  exact ax_ireturn rfl dX9_honest_43 ⟨by simp only [F_X9_honest], rfl⟩

