/-! ===== the class, written by program: a function over the memory and a contract for each method; leaves first ===== -/
def F_X9_isWithin (mem : ax_Me) (p0 : Int32) (p1 : Int32) (p2 : Int32) : Int32 :=
  (if p0 < p1 then 0 else (if p2 < p0 then 0 else 1))
set_option maxRecDepth 20000 in
theorem s_X9_isWithin {G : ax_G} {l : Launch} (mem : ax_Me) (p0 : Int32) (p1 : Int32) (p2 : Int32)  : AD G l 0 mX9_isWithin [.int p0, .int p1, .int p2] mem (some (.int (F_X9_isWithin mem p0 p1 p2))) mem := by
  refine ax_start (ls := [.int p0, .int p1, .int p2]) (u := 0) (by decide +kernel) (Nat.le_of_ble_eq_true rfl) (Nat.le_refl _) (Nat.le_refl _) rfl ?_
  refine ax_iload_n (j := 0) dX9_isWithin_0 rfl rfl rfl ?_
  refine ax_iload_n (j := 1) dX9_isWithin_1 rfl rfl rfl ?_
  refine ax_icmp_lt (tgt := 14) dX9_isWithin_2 (by decide) rfl (fun c2 => ?_) (fun c2 => ?_)
  · refine ax_iconst (v := 0) dX9_isWithin_14 (by decide) rfl ?_
    exact ax_zreturn rfl dX9_isWithin_15 rfl ⟨by simp only [F_X9_isWithin, if_pos c2], rfl⟩
  · refine ax_iload_n (j := 0) dX9_isWithin_5 rfl rfl rfl ?_
    refine ax_iload_n (j := 2) dX9_isWithin_6 rfl rfl rfl ?_
    refine ax_icmp_gt (tgt := 14) dX9_isWithin_7 (by decide) rfl (fun c7 => ?_) (fun c7 => ?_)
    · refine ax_iconst (v := 0) dX9_isWithin_14 (by decide) rfl ?_
      exact ax_zreturn rfl dX9_isWithin_15 rfl ⟨by simp only [F_X9_isWithin, if_neg c2, if_pos c7], rfl⟩
    · refine ax_iconst (v := 1) dX9_isWithin_10 (by decide) rfl ?_
      refine ax_goto (tgt := 15) dX9_isWithin_11 (by decide) ?_
      exact ax_zreturn rfl dX9_isWithin_15 rfl ⟨by simp only [F_X9_isWithin, if_neg c2, if_neg c7], rfl⟩

def F_X9_hasBit (mem : ax_Me) (p0 : Int32) (p1 : Int32) : Int32 :=
  (if (F_X9_isWithin mem p1 0 7) = 0 then 0 else (if ((p0 >>> (p1 &&& 31)) &&& 1) = 1 then 1 else 0))
set_option maxRecDepth 20000 in
theorem s_X9_hasBit {G : ax_G} {l : Launch} (mem : ax_Me) (p0 : Int32) (p1 : Int32)  : AD G l 1 mX9_hasBit [.int p0, .int p1] mem (some (.int (F_X9_hasBit mem p0 p1))) mem := by
  refine ax_start (ls := [.int p0, .int p1]) (u := 0) (by decide +kernel) (Nat.le_of_ble_eq_true rfl) (Nat.le_refl _) (Nat.le_refl _) rfl ?_
  refine ax_iload_n (j := 1) dX9_hasBit_0 rfl rfl rfl ?_
  refine ax_iconst (v := 0) dX9_hasBit_1 (by decide) rfl ?_
  refine ax_bipush (v := 7) dX9_hasBit_2 (by decide) rfl ?_
  refine ad_S3 ksX9_isWithin lkX9_64 dX9_hasBit_4 rfl (Nat.le_of_ble_eq_true rfl) (Nat.le_of_ble_eq_true rfl) (s_X9_isWithin _ _ _ _) ?_
  refine ax_if_eq (tgt := 23) dX9_hasBit_7 (by decide) rfl (fun c7 => ?_) (fun c7 => ?_)
  · refine ax_iconst (v := 0) dX9_hasBit_23 (by decide) rfl ?_
    exact ax_zreturn rfl dX9_hasBit_24 rfl ⟨by simp only [F_X9_hasBit, if_pos c7], rfl⟩
  · refine ax_iload_n (j := 0) dX9_hasBit_10 rfl rfl rfl ?_
    refine ax_iload_n (j := 1) dX9_hasBit_11 rfl rfl rfl ?_
    refine ax_ishr dX9_hasBit_12 rfl ?_
    refine ax_iconst (v := 1) dX9_hasBit_13 (by decide) rfl ?_
    refine ax_iand dX9_hasBit_14 rfl ?_
    refine ax_iconst (v := 1) dX9_hasBit_15 (by decide) rfl ?_
    refine ax_icmp_ne (tgt := 23) dX9_hasBit_16 (by decide) rfl (fun c16 => ?_) (fun c16 => ?_)
    · refine ax_iconst (v := 0) dX9_hasBit_23 (by decide) rfl ?_
      exact ax_zreturn rfl dX9_hasBit_24 rfl ⟨by simp only [F_X9_hasBit, if_neg c7, if_neg c16], rfl⟩
    · refine ax_iconst (v := 1) dX9_hasBit_19 (by decide) rfl ?_
      refine ax_goto (tgt := 24) dX9_hasBit_20 (by decide) ?_
      exact ax_zreturn rfl dX9_hasBit_24 rfl ⟨by simp only [F_X9_hasBit, if_neg c7, if_pos c16], rfl⟩

def F_J6_bitCount_0f7a4 (mem : ax_Me) (p0 : Int32) : Int32 :=
  ((((((((p0 - ((p0.toUInt32 >>> ((1 : Int32).toUInt32 &&& Int32.toUInt32 31)).toInt32 &&& (1431655765))) &&& (858993459)) + (((p0 - ((p0.toUInt32 >>> ((1 : Int32).toUInt32 &&& Int32.toUInt32 31)).toInt32 &&& (1431655765))).toUInt32 >>> ((2 : Int32).toUInt32 &&& Int32.toUInt32 31)).toInt32 &&& (858993459))) + ((((p0 - ((p0.toUInt32 >>> ((1 : Int32).toUInt32 &&& Int32.toUInt32 31)).toInt32 &&& (1431655765))) &&& (858993459)) + (((p0 - ((p0.toUInt32 >>> ((1 : Int32).toUInt32 &&& Int32.toUInt32 31)).toInt32 &&& (1431655765))).toUInt32 >>> ((2 : Int32).toUInt32 &&& Int32.toUInt32 31)).toInt32 &&& (858993459))).toUInt32 >>> ((4 : Int32).toUInt32 &&& Int32.toUInt32 31)).toInt32) &&& (252645135)) + ((((((p0 - ((p0.toUInt32 >>> ((1 : Int32).toUInt32 &&& Int32.toUInt32 31)).toInt32 &&& (1431655765))) &&& (858993459)) + (((p0 - ((p0.toUInt32 >>> ((1 : Int32).toUInt32 &&& Int32.toUInt32 31)).toInt32 &&& (1431655765))).toUInt32 >>> ((2 : Int32).toUInt32 &&& Int32.toUInt32 31)).toInt32 &&& (858993459))) + ((((p0 - ((p0.toUInt32 >>> ((1 : Int32).toUInt32 &&& Int32.toUInt32 31)).toInt32 &&& (1431655765))) &&& (858993459)) + (((p0 - ((p0.toUInt32 >>> ((1 : Int32).toUInt32 &&& Int32.toUInt32 31)).toInt32 &&& (1431655765))).toUInt32 >>> ((2 : Int32).toUInt32 &&& Int32.toUInt32 31)).toInt32 &&& (858993459))).toUInt32 >>> ((4 : Int32).toUInt32 &&& Int32.toUInt32 31)).toInt32) &&& (252645135)).toUInt32 >>> ((8 : Int32).toUInt32 &&& Int32.toUInt32 31)).toInt32) + (((((((p0 - ((p0.toUInt32 >>> ((1 : Int32).toUInt32 &&& Int32.toUInt32 31)).toInt32 &&& (1431655765))) &&& (858993459)) + (((p0 - ((p0.toUInt32 >>> ((1 : Int32).toUInt32 &&& Int32.toUInt32 31)).toInt32 &&& (1431655765))).toUInt32 >>> ((2 : Int32).toUInt32 &&& Int32.toUInt32 31)).toInt32 &&& (858993459))) + ((((p0 - ((p0.toUInt32 >>> ((1 : Int32).toUInt32 &&& Int32.toUInt32 31)).toInt32 &&& (1431655765))) &&& (858993459)) + (((p0 - ((p0.toUInt32 >>> ((1 : Int32).toUInt32 &&& Int32.toUInt32 31)).toInt32 &&& (1431655765))).toUInt32 >>> ((2 : Int32).toUInt32 &&& Int32.toUInt32 31)).toInt32 &&& (858993459))).toUInt32 >>> ((4 : Int32).toUInt32 &&& Int32.toUInt32 31)).toInt32) &&& (252645135)) + ((((((p0 - ((p0.toUInt32 >>> ((1 : Int32).toUInt32 &&& Int32.toUInt32 31)).toInt32 &&& (1431655765))) &&& (858993459)) + (((p0 - ((p0.toUInt32 >>> ((1 : Int32).toUInt32 &&& Int32.toUInt32 31)).toInt32 &&& (1431655765))).toUInt32 >>> ((2 : Int32).toUInt32 &&& Int32.toUInt32 31)).toInt32 &&& (858993459))) + ((((p0 - ((p0.toUInt32 >>> ((1 : Int32).toUInt32 &&& Int32.toUInt32 31)).toInt32 &&& (1431655765))) &&& (858993459)) + (((p0 - ((p0.toUInt32 >>> ((1 : Int32).toUInt32 &&& Int32.toUInt32 31)).toInt32 &&& (1431655765))).toUInt32 >>> ((2 : Int32).toUInt32 &&& Int32.toUInt32 31)).toInt32 &&& (858993459))).toUInt32 >>> ((4 : Int32).toUInt32 &&& Int32.toUInt32 31)).toInt32) &&& (252645135)).toUInt32 >>> ((8 : Int32).toUInt32 &&& Int32.toUInt32 31)).toInt32).toUInt32 >>> ((16 : Int32).toUInt32 &&& Int32.toUInt32 31)).toInt32) &&& 63)
set_option maxRecDepth 20000 in
theorem s_J6_bitCount_0f7a4 {G : ax_G} {l : Launch} (mem : ax_Me) (p0 : Int32)  : AD G l 0 mJ6_bitCount_0f7a4 [.int p0] mem (some (.int (F_J6_bitCount_0f7a4 mem p0))) mem := by
  refine ax_start (ls := [.int p0]) (u := 0) (by decide +kernel) (Nat.le_of_ble_eq_true rfl) (Nat.le_refl _) (Nat.le_refl _) rfl ?_
  refine ax_iload_n (j := 0) dJ6_bitCount_0f7a4_0 rfl rfl rfl ?_
  refine ax_iload_n (j := 0) dJ6_bitCount_0f7a4_1 rfl rfl rfl ?_
  refine ax_iconst (v := 1) dJ6_bitCount_0f7a4_2 (by decide) rfl ?_
  refine ax_iushr dJ6_bitCount_0f7a4_3 rfl ?_
  refine ax_ldcw dJ6_bitCount_0f7a4_4 cnJ6_265 rfl ?_
  refine ax_iand dJ6_bitCount_0f7a4_7 rfl ?_
  refine ax_isub dJ6_bitCount_0f7a4_8 rfl ?_
  refine ax_ist0 dJ6_bitCount_0f7a4_9 rfl rfl (Nat.le_of_ble_eq_true rfl) rfl ?_
  refine ax_iload_n (j := 0) dJ6_bitCount_0f7a4_10 rfl rfl rfl ?_
  refine ax_ldcw dJ6_bitCount_0f7a4_11 cnJ6_266 rfl ?_
  refine ax_iand dJ6_bitCount_0f7a4_14 rfl ?_
  refine ax_iload_n (j := 0) dJ6_bitCount_0f7a4_15 rfl rfl rfl ?_
  refine ax_iconst (v := 2) dJ6_bitCount_0f7a4_16 (by decide) rfl ?_
  refine ax_iushr dJ6_bitCount_0f7a4_17 rfl ?_
  refine ax_ldcw dJ6_bitCount_0f7a4_18 cnJ6_266 rfl ?_
  refine ax_iand dJ6_bitCount_0f7a4_21 rfl ?_
  refine ax_iadd dJ6_bitCount_0f7a4_22 rfl ?_
  refine ax_ist0 dJ6_bitCount_0f7a4_23 rfl rfl (Nat.le_of_ble_eq_true rfl) rfl ?_
  refine ax_iload_n (j := 0) dJ6_bitCount_0f7a4_24 rfl rfl rfl ?_
  refine ax_iload_n (j := 0) dJ6_bitCount_0f7a4_25 rfl rfl rfl ?_
  refine ax_iconst (v := 4) dJ6_bitCount_0f7a4_26 (by decide) rfl ?_
  refine ax_iushr dJ6_bitCount_0f7a4_27 rfl ?_
  refine ax_iadd dJ6_bitCount_0f7a4_28 rfl ?_
  refine ax_ldcw dJ6_bitCount_0f7a4_29 cnJ6_267 rfl ?_
  refine ax_iand dJ6_bitCount_0f7a4_32 rfl ?_
  refine ax_ist0 dJ6_bitCount_0f7a4_33 rfl rfl (Nat.le_of_ble_eq_true rfl) rfl ?_
  refine ax_iload_n (j := 0) dJ6_bitCount_0f7a4_34 rfl rfl rfl ?_
  refine ax_iload_n (j := 0) dJ6_bitCount_0f7a4_35 rfl rfl rfl ?_
  refine ax_bipush (v := 8) dJ6_bitCount_0f7a4_36 (by decide) rfl ?_
  refine ax_iushr dJ6_bitCount_0f7a4_38 rfl ?_
  refine ax_iadd dJ6_bitCount_0f7a4_39 rfl ?_
  refine ax_ist0 dJ6_bitCount_0f7a4_40 rfl rfl (Nat.le_of_ble_eq_true rfl) rfl ?_
  refine ax_iload_n (j := 0) dJ6_bitCount_0f7a4_41 rfl rfl rfl ?_
  refine ax_iload_n (j := 0) dJ6_bitCount_0f7a4_42 rfl rfl rfl ?_
  refine ax_bipush (v := 16) dJ6_bitCount_0f7a4_43 (by decide) rfl ?_
  refine ax_iushr dJ6_bitCount_0f7a4_45 rfl ?_
  refine ax_iadd dJ6_bitCount_0f7a4_46 rfl ?_
  refine ax_ist0 dJ6_bitCount_0f7a4_47 rfl rfl (Nat.le_of_ble_eq_true rfl) rfl ?_
  refine ax_iload_n (j := 0) dJ6_bitCount_0f7a4_48 rfl rfl rfl ?_
  refine ax_bipush (v := 63) dJ6_bitCount_0f7a4_49 (by decide) rfl ?_
  refine ax_iand dJ6_bitCount_0f7a4_51 rfl ?_
  exact ax_ireturn rfl dJ6_bitCount_0f7a4_52 ⟨by simp only [F_J6_bitCount_0f7a4], rfl⟩

def F_X9_refusal (mem : ax_Me) (p0 : Int32) (p1 : Int32) (p2 : Int32) (p3 : Int32) : Int32 :=
  (if p0 = 0 then (-1000000001) else (if p1 = 0 then (-1000000002) else (if p2 = 0 then (-1000000003) else (if p3 = 0 then (-1000000004) else 0))))
set_option maxRecDepth 20000 in
theorem s_X9_refusal {G : ax_G} {l : Launch} (mem : ax_Me) (p0 : Int32) (p1 : Int32) (p2 : Int32) (p3 : Int32)  : AD G l 0 mX9_refusal [.int p0, .int p1, .int p2, .int p3] mem (some (.int (F_X9_refusal mem p0 p1 p2 p3))) mem := by
  refine ax_start (ls := [.int p0, .int p1, .int p2, .int p3]) (u := 0) (by decide +kernel) (Nat.le_of_ble_eq_true rfl) (Nat.le_refl _) (Nat.le_refl _) rfl ?_
  refine ax_iload_n (j := 0) dX9_refusal_0 rfl rfl rfl ?_
  refine ax_if_ne (tgt := 7) dX9_refusal_1 (by decide) rfl (fun c1 => ?_) (fun c1 => ?_)
  · refine ax_iload_n (j := 1) dX9_refusal_7 rfl rfl rfl ?_
    refine ax_if_ne (tgt := 14) dX9_refusal_8 (by decide) rfl (fun c8 => ?_) (fun c8 => ?_)
    · refine ax_iload_n (j := 2) dX9_refusal_14 rfl rfl rfl ?_
      refine ax_if_ne (tgt := 21) dX9_refusal_15 (by decide) rfl (fun c15 => ?_) (fun c15 => ?_)
      · refine ax_iload_n (j := 3) dX9_refusal_21 rfl rfl rfl ?_
        refine ax_if_eq (tgt := 29) dX9_refusal_22 (by decide) rfl (fun c22 => ?_) (fun c22 => ?_)
        · refine ax_ldcw dX9_refusal_29 cnX9_290 rfl ?_
          exact ax_ireturn rfl dX9_refusal_32 ⟨by simp only [F_X9_refusal, if_neg c1, if_neg c8, if_neg c15, if_pos c22], rfl⟩
        · refine ax_iconst (v := 0) dX9_refusal_25 (by decide) rfl ?_
          refine ax_goto (tgt := 32) dX9_refusal_26 (by decide) ?_
          exact ax_ireturn rfl dX9_refusal_32 ⟨by simp only [F_X9_refusal, if_neg c1, if_neg c8, if_neg c15, if_neg c22], rfl⟩
      · refine ax_ldc dX9_refusal_18 cnX9_200 rfl ?_
        exact ax_ireturn rfl dX9_refusal_20 ⟨by simp only [F_X9_refusal, if_neg c1, if_neg c8, if_pos c15], rfl⟩
    · refine ax_ldc dX9_refusal_11 cnX9_123 rfl ?_
      exact ax_ireturn rfl dX9_refusal_13 ⟨by simp only [F_X9_refusal, if_neg c1, if_pos c8], rfl⟩
  · refine ax_ldc dX9_refusal_4 cnX9_128 rfl ?_
    exact ax_ireturn rfl dX9_refusal_6 ⟨by simp only [F_X9_refusal, if_pos c1], rfl⟩

def F_X9_isLongEnough (mem : ax_Me) (p0 : Int32) : Int32 :=
  (if (F_J6_bitCount_0f7a4 mem p0) < 2 then 0 else 1)
set_option maxRecDepth 20000 in
theorem s_X9_isLongEnough {G : ax_G} {l : Launch} (mem : ax_Me) (p0 : Int32)  : AD G l 1 mX9_isLongEnough [.int p0] mem (some (.int (F_X9_isLongEnough mem p0))) mem := by
  refine ax_start (ls := [.int p0]) (u := 0) (by decide +kernel) (Nat.le_of_ble_eq_true rfl) (Nat.le_refl _) (Nat.le_refl _) rfl ?_
  refine ax_iload_n (j := 0) dX9_isLongEnough_0 rfl rfl rfl ?_
  refine ad_S1 ksJ6_bitCount_0f7a4 lkX9_291 dX9_isLongEnough_1 rfl (Nat.le_of_ble_eq_true rfl) (Nat.le_of_ble_eq_true rfl) (s_J6_bitCount_0f7a4 _ _) ?_
  refine ax_iconst (v := 2) dX9_isLongEnough_4 (by decide) rfl ?_
  refine ax_icmp_lt (tgt := 12) dX9_isLongEnough_5 (by decide) rfl (fun c5 => ?_) (fun c5 => ?_)
  · refine ax_iconst (v := 0) dX9_isLongEnough_12 (by decide) rfl ?_
    exact ax_zreturn rfl dX9_isLongEnough_13 rfl ⟨by simp only [F_X9_isLongEnough, if_pos c5], rfl⟩
  · refine ax_iconst (v := 1) dX9_isLongEnough_8 (by decide) rfl ?_
    refine ax_goto (tgt := 13) dX9_isLongEnough_9 (by decide) ?_
    exact ax_zreturn rfl dX9_isLongEnough_13 rfl ⟨by simp only [F_X9_isLongEnough, if_neg c5], rfl⟩

def F_X2_apart (mem : ax_Me) (p0 : Int32) (p1 : Int32) : Int32 :=
  (F_J6_bitCount_0f7a4 mem (p0 ^^^ p1))
set_option maxRecDepth 20000 in
theorem s_X2_apart {G : ax_G} {l : Launch} (mem : ax_Me) (p0 : Int32) (p1 : Int32)  : AD G l 1 mX2_apart [.int p0, .int p1] mem (some (.int (F_X2_apart mem p0 p1))) mem := by
  refine ax_start (ls := [.int p0, .int p1]) (u := 0) (by decide +kernel) (Nat.le_of_ble_eq_true rfl) (Nat.le_refl _) (Nat.le_refl _) rfl ?_
  refine ax_iload_n (j := 0) dX2_apart_0 rfl rfl rfl ?_
  refine ax_iload_n (j := 1) dX2_apart_1 rfl rfl rfl ?_
  refine ax_ixor dX2_apart_2 rfl ?_
  refine ad_S1 ksJ6_bitCount_0f7a4 lkX2_9 dX2_apart_3 rfl (Nat.le_of_ble_eq_true rfl) (Nat.le_of_ble_eq_true rfl) (s_J6_bitCount_0f7a4 _ _) ?_
  exact ax_ireturn rfl dX2_apart_6 ⟨by simp only [F_X2_apart], rfl⟩

theorem within_z {mem : ax_Me} {x a b : Int32} : narrow .boolean (.int (F_X9_isWithin mem x a b)) = .int (F_X9_isWithin mem x a b) := by
  unfold F_X9_isWithin
  split
  · rfl
  · split <;> rfl
def F_X9_isRowLength (mem : ax_Me) (p0 : Int32) : Int32 :=
  (F_X9_isWithin mem p0 2 8)
set_option maxRecDepth 20000 in
theorem s_X9_isRowLength {G : ax_G} {l : Launch} (mem : ax_Me) (p0 : Int32)  : AD G l 1 mX9_isRowLength [.int p0] mem (some (.int (F_X9_isRowLength mem p0))) mem := by
  refine ax_start (ls := [.int p0]) (u := 0) (by decide +kernel) (Nat.le_of_ble_eq_true rfl) (Nat.le_refl _) (Nat.le_refl _) rfl ?_
  refine ax_iload_n (j := 0) dX9_isRowLength_0 rfl rfl rfl ?_
  refine ax_iconst (v := 2) dX9_isRowLength_1 (by decide) rfl ?_
  refine ax_bipush (v := 8) dX9_isRowLength_2 (by decide) rfl ?_
  refine ad_S3 ksX9_isWithin lkX9_64 dX9_isRowLength_4 rfl (Nat.le_of_ble_eq_true rfl) (Nat.le_of_ble_eq_true rfl) (s_X9_isWithin _ _ _ _) ?_
  exact ax_zreturn rfl dX9_isRowLength_7 within_z ⟨by simp only [F_X9_isRowLength], rfl⟩

def F_X8_isFigure (mem : ax_Me) (p0 : Int32) : Int32 :=
  (F_X9_isWithin mem p0 48 57)
set_option maxRecDepth 20000 in
theorem s_X8_isFigure {G : ax_G} {l : Launch} (mem : ax_Me) (p0 : Int32)  : AD G l 1 mX8_isFigure [.int p0] mem (some (.int (F_X8_isFigure mem p0))) mem := by
  refine ax_start (ls := [.int p0]) (u := 0) (by decide +kernel) (Nat.le_of_ble_eq_true rfl) (Nat.le_refl _) (Nat.le_refl _) rfl ?_
  refine ax_iload_n (j := 0) dX8_isFigure_0 rfl rfl rfl ?_
  refine ax_bipush (v := 48) dX8_isFigure_1 (by decide) rfl ?_
  refine ax_bipush (v := 57) dX8_isFigure_3 (by decide) rfl ?_
  refine ad_S3 ksX9_isWithin lkX8_22 dX8_isFigure_5 rfl (Nat.le_of_ble_eq_true rfl) (Nat.le_of_ble_eq_true rfl) (s_X9_isWithin _ _ _ _) ?_
  exact ax_zreturn rfl dX8_isFigure_8 within_z ⟨by simp only [F_X8_isFigure], rfl⟩

def F_X5_has (mem : ax_Me) (a : Nat) (p0 : Int32) : Int32 :=
  (if p0 < 0 then 0 else (if (mem a 4) ≤ p0 then 0 else (if 8 ≤ p0 then 0 else 1)))
set_option maxRecDepth 20000 in
theorem s_X5_has {G : ax_G} {l : Launch} (mem : ax_Me) {a : Nat} (hP : ax_isP a) (p0 : Int32)  : AD G l 0 mX5_has [.ref a, .int p0] mem (some (.int (F_X5_has mem a p0))) mem := by
  refine ax_start (ls := [.ref a, .int p0]) (u := 0) (by decide +kernel) (Nat.le_of_ble_eq_true rfl) (Nat.le_refl _) (Nat.le_refl _) rfl ?_
  refine ax_iload_n (j := 1) dX5_has_0 rfl rfl rfl ?_
  refine ax_if_lt (tgt := 22) dX5_has_1 (by decide) rfl (fun c1 => ?_) (fun c1 => ?_)
  · refine ax_iconst (v := 0) dX5_has_22 (by decide) rfl ?_
    exact ax_zreturn rfl dX5_has_23 rfl ⟨by simp only [F_X5_has, if_pos c1], rfl⟩
  · refine ax_iload_n (j := 1) dX5_has_4 rfl rfl rfl ?_
    refine ax_aload_n (j := 0) dX5_has_5 rfl rfl rfl ?_
    refine am_getI flX5_30 dX5_has_6 rfl hP.o rfl ?_
    refine ax_icmp_ge (tgt := 22) dX5_has_9 (by decide) rfl (fun c9 => ?_) (fun c9 => ?_)
    · refine ax_iconst (v := 0) dX5_has_22 (by decide) rfl ?_
      exact ax_zreturn rfl dX5_has_23 rfl ⟨by simp only [F_X5_has, if_neg c1, if_pos c9], rfl⟩
    · refine ax_iload_n (j := 1) dX5_has_12 rfl rfl rfl ?_
      refine ax_bipush (v := 8) dX5_has_13 (by decide) rfl ?_
      refine ax_icmp_ge (tgt := 22) dX5_has_15 (by decide) rfl (fun c15 => ?_) (fun c15 => ?_)
      · refine ax_iconst (v := 0) dX5_has_22 (by decide) rfl ?_
        exact ax_zreturn rfl dX5_has_23 rfl ⟨by simp only [F_X5_has, if_neg c1, if_neg c9, if_pos c15], rfl⟩
      · refine ax_iconst (v := 1) dX5_has_18 (by decide) rfl ?_
        refine ax_goto (tgt := 23) dX5_has_19 (by decide) ?_
        exact ax_zreturn rfl dX5_has_23 rfl ⟨by simp only [F_X5_has, if_neg c1, if_neg c9, if_neg c15], rfl⟩

theorem has_of {mem : ax_Me} {a : Nat} {p : Int32} (h : ¬ F_X5_has mem a p = 0) : ¬ p < 0 ∧ ¬ mem a 4 ≤ p ∧ ¬ 8 ≤ p := by
  unfold F_X5_has at h
  refine ⟨fun q => h (by rw [if_pos q]), fun q => ?_, fun q => ?_⟩
  · by_cases q0 : p < 0
    · exact h (by rw [if_pos q0])
    · exact h (by rw [if_neg q0, if_pos q])
  · by_cases q0 : p < 0
    · exact h (by rw [if_pos q0])
    · by_cases q1 : mem a 4 ≤ p
      · exact h (by rw [if_neg q0, if_pos q1])
      · exact h (by rw [if_neg q0, if_neg q1, if_pos q])
theorem has_in {mem : ax_Me} {a : Nat} {p : Int32} (h : ¬ F_X5_has mem a p = 0) : vp_in p 8 := by
  obtain ⟨h1, h2, h3⟩ := has_of h
  rw [vp_in_iff]
  rw [Int32.lt_iff_toInt_lt] at h1
  rw [Int32.le_iff_toInt_le] at h3
  have e0 : (0 : Int32).toInt = 0 := rfl
  have e8 : (8 : Int32).toInt = 8 := rfl
  omega
def F_X5_isPair (mem : ax_Me) (a : Nat) (p0 : Int32) (p1 : Int32) : Int32 :=
  (if (F_X5_has mem a p0) = 0 then 0 else (if (F_X5_has mem a p1) = 0 then 0 else (if p0 = p1 then 0 else 1)))
set_option maxRecDepth 20000 in
theorem s_X5_isPair {G : ax_G} {l : Launch} (mem : ax_Me) {a : Nat} (hP : ax_isP a) (p0 : Int32) (p1 : Int32)  : AD G l 1 mX5_isPair [.ref a, .int p0, .int p1] mem (some (.int (F_X5_isPair mem a p0 p1))) mem := by
  refine ax_start (ls := [.ref a, .int p0, .int p1]) (u := 0) (by decide +kernel) (Nat.le_of_ble_eq_true rfl) (Nat.le_refl _) (Nat.le_refl _) rfl ?_
  refine ax_aload_n (j := 0) dX5_isPair_0 rfl rfl rfl ?_
  refine ax_iload_n (j := 1) dX5_isPair_1 rfl rfl rfl ?_
  refine ad_V1 ksX5_has lkX5_47 dX5_isPair_2 rfl hP.o rfl (Nat.le_of_ble_eq_true rfl) (Nat.le_of_ble_eq_true rfl) (s_X5_has _ hP _) ?_
  refine ax_if_eq (tgt := 25) dX5_isPair_5 (by decide) rfl (fun c5 => ?_) (fun c5 => ?_)
  · refine ax_iconst (v := 0) dX5_isPair_25 (by decide) rfl ?_
    exact ax_zreturn rfl dX5_isPair_26 rfl ⟨by simp only [F_X5_isPair, if_pos c5], rfl⟩
  · refine ax_aload_n (j := 0) dX5_isPair_8 rfl rfl rfl ?_
    refine ax_iload_n (j := 2) dX5_isPair_9 rfl rfl rfl ?_
    refine ad_V1 ksX5_has lkX5_47 dX5_isPair_10 rfl hP.o rfl (Nat.le_of_ble_eq_true rfl) (Nat.le_of_ble_eq_true rfl) (s_X5_has _ hP _) ?_
    refine ax_if_eq (tgt := 25) dX5_isPair_13 (by decide) rfl (fun c13 => ?_) (fun c13 => ?_)
    · refine ax_iconst (v := 0) dX5_isPair_25 (by decide) rfl ?_
      exact ax_zreturn rfl dX5_isPair_26 rfl ⟨by simp only [F_X5_isPair, if_neg c5, if_pos c13], rfl⟩
    · refine ax_iload_n (j := 1) dX5_isPair_16 rfl rfl rfl ?_
      refine ax_iload_n (j := 2) dX5_isPair_17 rfl rfl rfl ?_
      refine ax_icmp_eq (tgt := 25) dX5_isPair_18 (by decide) rfl (fun c18 => ?_) (fun c18 => ?_)
      · refine ax_iconst (v := 0) dX5_isPair_25 (by decide) rfl ?_
        exact ax_zreturn rfl dX5_isPair_26 rfl ⟨by simp only [F_X5_isPair, if_neg c5, if_neg c13, if_pos c18], rfl⟩
      · refine ax_iconst (v := 1) dX5_isPair_21 (by decide) rfl ?_
        refine ax_goto (tgt := 26) dX5_isPair_22 (by decide) ?_
        exact ax_zreturn rfl dX5_isPair_26 rfl ⟨by simp only [F_X5_isPair, if_neg c5, if_neg c13, if_neg c18], rfl⟩

def F_X5_everybody (mem : ax_Me) (a : Nat) : Int32 :=
  ((1 <<< ((mem a 4) &&& 31)) - 1)
set_option maxRecDepth 20000 in
theorem s_X5_everybody {G : ax_G} {l : Launch} (mem : ax_Me) {a : Nat} (hP : ax_isP a)  : AD G l 0 mX5_everybody [.ref a] mem (some (.int (F_X5_everybody mem a))) mem := by
  refine ax_start (ls := [.ref a]) (u := 0) (by decide +kernel) (Nat.le_of_ble_eq_true rfl) (Nat.le_refl _) (Nat.le_refl _) rfl ?_
  refine ax_iconst (v := 1) dX5_everybody_0 (by decide) rfl ?_
  refine ax_aload_n (j := 0) dX5_everybody_1 rfl rfl rfl ?_
  refine am_getI flX5_30 dX5_everybody_2 rfl hP.o rfl ?_
  refine ax_ishl dX5_everybody_5 rfl ?_
  refine ax_iconst (v := 1) dX5_everybody_6 (by decide) rfl ?_
  refine ax_isub dX5_everybody_7 rfl ?_
  exact ax_ireturn rfl dX5_everybody_8 ⟨by simp only [F_X5_everybody], rfl⟩

def F_X5_holdsAll (mem : ax_Me) (a : Nat) (p0 : Int32) : Int32 :=
  (if (p0 &&& ((F_X5_everybody mem a) ^^^ (-1))) = 0 then 1 else 0)
set_option maxRecDepth 20000 in
theorem s_X5_holdsAll {G : ax_G} {l : Launch} (mem : ax_Me) {a : Nat} (hP : ax_isP a) (p0 : Int32)  : AD G l 1 mX5_holdsAll [.ref a, .int p0] mem (some (.int (F_X5_holdsAll mem a p0))) mem := by
  refine ax_start (ls := [.ref a, .int p0]) (u := 0) (by decide +kernel) (Nat.le_of_ble_eq_true rfl) (Nat.le_refl _) (Nat.le_refl _) rfl ?_
  refine ax_iload_n (j := 1) dX5_holdsAll_0 rfl rfl rfl ?_
  refine ax_aload_n (j := 0) dX5_holdsAll_1 rfl rfl rfl ?_
  refine ad_V0 ksX5_everybody lkX5_51 dX5_holdsAll_2 rfl hP.o rfl (Nat.le_of_ble_eq_true rfl) (Nat.le_of_ble_eq_true rfl) (s_X5_everybody _ hP) ?_
  refine ax_iconst (v := (-1)) dX5_holdsAll_5 (by decide) rfl ?_
  refine ax_ixor dX5_holdsAll_6 rfl ?_
  refine ax_iand dX5_holdsAll_7 rfl ?_
  refine ax_if_ne (tgt := 15) dX5_holdsAll_8 (by decide) rfl (fun c8 => ?_) (fun c8 => ?_)
  · refine ax_iconst (v := 0) dX5_holdsAll_15 (by decide) rfl ?_
    exact ax_zreturn rfl dX5_holdsAll_16 rfl ⟨by simp only [F_X5_holdsAll, if_neg c8], rfl⟩
  · refine ax_iconst (v := 1) dX5_holdsAll_11 (by decide) rfl ?_
    refine ax_goto (tgt := 16) dX5_holdsAll_12 (by decide) ?_
    exact ax_zreturn rfl dX5_holdsAll_16 rfl ⟨by simp only [F_X5_holdsAll, if_pos c8], rfl⟩

theorem pair_of {mem : ax_Me} {a : Nat} {w p : Int32} (h : ¬ F_X5_isPair mem a w p = 0) : (¬ F_X5_has mem a w = 0) ∧ (¬ F_X5_has mem a p = 0) ∧ ¬ w = p := by
  unfold F_X5_isPair at h
  refine ⟨fun q => h (by rw [if_pos q]), fun q => ?_, fun q => ?_⟩
  · by_cases q0 : F_X5_has mem a w = 0
    · exact h (by rw [if_pos q0])
    · exact h (by rw [if_neg q0, if_pos q])
  · by_cases q0 : F_X5_has mem a w = 0
    · exact h (by rw [if_pos q0])
    · by_cases q1 : F_X5_has mem a p = 0
      · exact h (by rw [if_neg q0, if_pos q1])
      · exact h (by rw [if_neg q0, if_neg q1, if_pos q])
theorem in8_8 {w p : Int32} (hw : vp_in w 8) (hp : vp_in p 8) : vp_in (w * 8 + p) 64 ∧ (w * 8 + p).toNatClampNeg = w.toNatClampNeg * 8 + p.toNatClampNeg := by
  obtain ⟨i, hi, rfl⟩ := vp_in_of hw (by decide)
  obtain ⟨j, hj, rfl⟩ := vp_in_of hp (by decide)
  have e : nI i * 8 + nI j = nI (i * 8 + j) := by
    rw [show (8 : Int32) = nI 8 from rfl, pk_mul, nI_add]
  rw [e, nI_clamp (by omega), nI_clamp (by omega), nI_clamp (by omega)]
  exact ⟨vp_in_nI (by omega) (by omega), rfl⟩
theorem pair_in {mem : ax_Me} {a : Nat} {w p : Int32} (h : ¬ F_X5_isPair mem a w p = 0) : vp_in (w * 8 + p) 64 := (in8_8 (has_in (pair_of h).1) (has_in (pair_of h).2.1)).1
def F_X5_marksOf (mem : ax_Me) (a : Nat) (p0 : Int32) : Int32 :=
  (if (F_X5_has mem a p0) = 0 then 0 else (mem (a + 1) p0.toNatClampNeg))
set_option maxRecDepth 20000 in
theorem s_X5_marksOf {G : ax_G} {l : Launch} (mem : ax_Me) {a : Nat} (hP : ax_isP a) (p0 : Int32)  : AD G l 1 mX5_marksOf [.ref a, .int p0] mem (some (.int (F_X5_marksOf mem a p0))) mem := by
  refine ax_start (ls := [.ref a, .int p0]) (u := 0) (by decide +kernel) (Nat.le_of_ble_eq_true rfl) (Nat.le_refl _) (Nat.le_refl _) rfl ?_
  refine ax_aload_n (j := 0) dX5_marksOf_0 rfl rfl rfl ?_
  refine ax_iload_n (j := 1) dX5_marksOf_1 rfl rfl rfl ?_
  refine ad_V1 ksX5_has lkX5_47 dX5_marksOf_2 rfl hP.o rfl (Nat.le_of_ble_eq_true rfl) (Nat.le_of_ble_eq_true rfl) (s_X5_has _ hP _) ?_
  refine ax_if_eq (tgt := 17) dX5_marksOf_5 (by decide) rfl (fun c5 => ?_) (fun c5 => ?_)
  · refine ax_iconst (v := 0) dX5_marksOf_17 (by decide) rfl ?_
    exact ax_ireturn rfl dX5_marksOf_18 ⟨by simp only [F_X5_marksOf, if_pos c5], rfl⟩
  · refine ax_aload_n (j := 0) dX5_marksOf_8 rfl rfl rfl ?_
    refine am_getR flX5_9 dX5_marksOf_9 rfl hP.o rfl ?_
    refine ax_iload_n (j := 1) dX5_marksOf_12 rfl rfl rfl ?_
    refine am_iald dX5_marksOf_13 rfl hP.m1 (has_in c5) ?_
    refine ax_goto (tgt := 18) dX5_marksOf_14 (by decide) ?_
    exact ax_ireturn rfl dX5_marksOf_18 ⟨by simp only [F_X5_marksOf, if_neg c5], rfl⟩

def F_X5_changesOf (mem : ax_Me) (a : Nat) (p0 : Int32) : Int32 :=
  (if (F_X5_has mem a p0) = 0 then 0 else (mem (a + 2) p0.toNatClampNeg))
set_option maxRecDepth 20000 in
theorem s_X5_changesOf {G : ax_G} {l : Launch} (mem : ax_Me) {a : Nat} (hP : ax_isP a) (p0 : Int32)  : AD G l 1 mX5_changesOf [.ref a, .int p0] mem (some (.int (F_X5_changesOf mem a p0))) mem := by
  refine ax_start (ls := [.ref a, .int p0]) (u := 0) (by decide +kernel) (Nat.le_of_ble_eq_true rfl) (Nat.le_refl _) (Nat.le_refl _) rfl ?_
  refine ax_aload_n (j := 0) dX5_changesOf_0 rfl rfl rfl ?_
  refine ax_iload_n (j := 1) dX5_changesOf_1 rfl rfl rfl ?_
  refine ad_V1 ksX5_has lkX5_47 dX5_changesOf_2 rfl hP.o rfl (Nat.le_of_ble_eq_true rfl) (Nat.le_of_ble_eq_true rfl) (s_X5_has _ hP _) ?_
  refine ax_if_eq (tgt := 17) dX5_changesOf_5 (by decide) rfl (fun c5 => ?_) (fun c5 => ?_)
  · refine ax_iconst (v := 0) dX5_changesOf_17 (by decide) rfl ?_
    exact ax_ireturn rfl dX5_changesOf_18 ⟨by simp only [F_X5_changesOf, if_pos c5], rfl⟩
  · refine ax_aload_n (j := 0) dX5_changesOf_8 rfl rfl rfl ?_
    refine am_getR flX5_15 dX5_changesOf_9 rfl hP.o rfl ?_
    refine ax_iload_n (j := 1) dX5_changesOf_12 rfl rfl rfl ?_
    refine am_iald dX5_changesOf_13 rfl hP.m2 (has_in c5) ?_
    refine ax_goto (tgt := 18) dX5_changesOf_14 (by decide) ?_
    exact ax_ireturn rfl dX5_changesOf_18 ⟨by simp only [F_X5_changesOf, if_neg c5], rfl⟩

def F_X5_identityOf (mem : ax_Me) (a : Nat) (p0 : Int32) : Int32 :=
  (if (F_X5_has mem a p0) = 0 then (-1) else (mem (a + 3) p0.toNatClampNeg))
set_option maxRecDepth 20000 in
theorem s_X5_identityOf {G : ax_G} {l : Launch} (mem : ax_Me) {a : Nat} (hP : ax_isP a) (p0 : Int32)  : AD G l 1 mX5_identityOf [.ref a, .int p0] mem (some (.int (F_X5_identityOf mem a p0))) mem := by
  refine ax_start (ls := [.ref a, .int p0]) (u := 0) (by decide +kernel) (Nat.le_of_ble_eq_true rfl) (Nat.le_refl _) (Nat.le_refl _) rfl ?_
  refine ax_aload_n (j := 0) dX5_identityOf_0 rfl rfl rfl ?_
  refine ax_iload_n (j := 1) dX5_identityOf_1 rfl rfl rfl ?_
  refine ad_V1 ksX5_has lkX5_47 dX5_identityOf_2 rfl hP.o rfl (Nat.le_of_ble_eq_true rfl) (Nat.le_of_ble_eq_true rfl) (s_X5_has _ hP _) ?_
  refine ax_if_eq (tgt := 17) dX5_identityOf_5 (by decide) rfl (fun c5 => ?_) (fun c5 => ?_)
  · refine ax_iconst (v := (-1)) dX5_identityOf_17 (by decide) rfl ?_
    exact ax_ireturn rfl dX5_identityOf_18 ⟨by simp only [F_X5_identityOf, if_pos c5], rfl⟩
  · refine ax_aload_n (j := 0) dX5_identityOf_8 rfl rfl rfl ?_
    refine am_getR flX5_18 dX5_identityOf_9 rfl hP.o rfl ?_
    refine ax_iload_n (j := 1) dX5_identityOf_12 rfl rfl rfl ?_
    refine am_iald dX5_identityOf_13 rfl hP.m3 (has_in c5) ?_
    refine ax_goto (tgt := 18) dX5_identityOf_14 (by decide) ?_
    exact ax_ireturn rfl dX5_identityOf_18 ⟨by simp only [F_X5_identityOf, if_neg c5], rfl⟩

def F_X5_memoryOf (mem : ax_Me) (a : Nat) (p0 : Int32) (p1 : Int32) : Int32 :=
  (if (F_X5_isPair mem a p0 p1) = 0 then (-1) else (mem (a + 4) ((p0 * 8) + p1).toNatClampNeg))
set_option maxRecDepth 20000 in
theorem s_X5_memoryOf {G : ax_G} {l : Launch} (mem : ax_Me) {a : Nat} (hP : ax_isP a) (p0 : Int32) (p1 : Int32)  : AD G l 2 mX5_memoryOf [.ref a, .int p0, .int p1] mem (some (.int (F_X5_memoryOf mem a p0 p1))) mem := by
  refine ax_start (ls := [.ref a, .int p0, .int p1]) (u := 0) (by decide +kernel) (Nat.le_of_ble_eq_true rfl) (Nat.le_refl _) (Nat.le_refl _) rfl ?_
  refine ax_aload_n (j := 0) dX5_memoryOf_0 rfl rfl rfl ?_
  refine ax_iload_n (j := 1) dX5_memoryOf_1 rfl rfl rfl ?_
  refine ax_iload_n (j := 2) dX5_memoryOf_2 rfl rfl rfl ?_
  refine ad_V2 ksX5_isPair lkX5_55 dX5_memoryOf_3 rfl hP.o rfl (Nat.le_of_ble_eq_true rfl) (Nat.le_of_ble_eq_true rfl) (s_X5_isPair _ hP _ _) ?_
  refine ax_if_eq (tgt := 23) dX5_memoryOf_6 (by decide) rfl (fun c6 => ?_) (fun c6 => ?_)
  · refine ax_iconst (v := (-1)) dX5_memoryOf_23 (by decide) rfl ?_
    exact ax_ireturn rfl dX5_memoryOf_24 ⟨by simp only [F_X5_memoryOf, if_pos c6], rfl⟩
  · refine ax_aload_n (j := 0) dX5_memoryOf_9 rfl rfl rfl ?_
    refine am_getR flX5_21 dX5_memoryOf_10 rfl hP.o rfl ?_
    refine ax_iload_n (j := 1) dX5_memoryOf_13 rfl rfl rfl ?_
    refine ax_bipush (v := 8) dX5_memoryOf_14 (by decide) rfl ?_
    refine ax_imul dX5_memoryOf_16 rfl ?_
    refine ax_iload_n (j := 2) dX5_memoryOf_17 rfl rfl rfl ?_
    refine ax_iadd dX5_memoryOf_18 rfl ?_
    refine am_iald dX5_memoryOf_19 rfl hP.m4 (pair_in c6) ?_
    refine ax_goto (tgt := 24) dX5_memoryOf_20 (by decide) ?_
    exact ax_ireturn rfl dX5_memoryOf_24 ⟨by simp only [F_X5_memoryOf, if_neg c6], rfl⟩

def F_X5_knows (mem : ax_Me) (a : Nat) (p0 : Int32) (p1 : Int32) : Int32 :=
  (if (F_X5_memoryOf mem a p0 p1) = (-1) then 0 else 1)
set_option maxRecDepth 20000 in
theorem s_X5_knows {G : ax_G} {l : Launch} (mem : ax_Me) {a : Nat} (hP : ax_isP a) (p0 : Int32) (p1 : Int32)  : AD G l 3 mX5_knows [.ref a, .int p0, .int p1] mem (some (.int (F_X5_knows mem a p0 p1))) mem := by
  refine ax_start (ls := [.ref a, .int p0, .int p1]) (u := 0) (by decide +kernel) (Nat.le_of_ble_eq_true rfl) (Nat.le_refl _) (Nat.le_refl _) rfl ?_
  refine ax_aload_n (j := 0) dX5_knows_0 rfl rfl rfl ?_
  refine ax_iload_n (j := 1) dX5_knows_1 rfl rfl rfl ?_
  refine ax_iload_n (j := 2) dX5_knows_2 rfl rfl rfl ?_
  refine ad_V2 ksX5_memoryOf lkX5_59 dX5_knows_3 rfl hP.o rfl (Nat.le_of_ble_eq_true rfl) (Nat.le_of_ble_eq_true rfl) (s_X5_memoryOf _ hP _ _) ?_
  refine ax_iconst (v := (-1)) dX5_knows_6 (by decide) rfl ?_
  refine ax_icmp_eq (tgt := 14) dX5_knows_7 (by decide) rfl (fun c7 => ?_) (fun c7 => ?_)
  · refine ax_iconst (v := 0) dX5_knows_14 (by decide) rfl ?_
    exact ax_zreturn rfl dX5_knows_15 rfl ⟨by simp only [F_X5_knows, if_pos c7], rfl⟩
  · refine ax_iconst (v := 1) dX5_knows_10 (by decide) rfl ?_
    refine ax_goto (tgt := 15) dX5_knows_11 (by decide) ?_
    exact ax_zreturn rfl dX5_knows_15 rfl ⟨by simp only [F_X5_knows, if_neg c7], rfl⟩

def F_X5_flip (mem : ax_Me) (a : Nat) (p0 : Int32) (p1 : Int32) : ax_Me :=
  (if (F_X5_has mem a p0) = 0 then mem else (ax_u mem (a + 1) p0.toNatClampNeg ((mem (a + 1) p0.toNatClampNeg) ^^^ (1 <<< (p1 &&& 31)))))
set_option maxRecDepth 20000 in
theorem s_X5_flip {G : ax_G} {l : Launch} (mem : ax_Me) {a : Nat} (hP : ax_isP a) (p0 : Int32) (p1 : Int32)  : AD G l 1 mX5_flip [.ref a, .int p0, .int p1] mem none (F_X5_flip mem a p0 p1) := by
  refine ax_start (ls := [.ref a, .int p0, .int p1]) (u := 0) (by decide +kernel) (Nat.le_of_ble_eq_true rfl) (Nat.le_refl _) (Nat.le_refl _) rfl ?_
  refine ax_aload_n (j := 0) dX5_flip_0 rfl rfl rfl ?_
  refine ax_iload_n (j := 1) dX5_flip_1 rfl rfl rfl ?_
  refine ad_V1 ksX5_has lkX5_47 dX5_flip_2 rfl hP.o rfl (Nat.le_of_ble_eq_true rfl) (Nat.le_of_ble_eq_true rfl) (s_X5_has _ hP _) ?_
  refine ax_if_eq (tgt := 20) dX5_flip_5 (by decide) rfl (fun c5 => ?_) (fun c5 => ?_)
  · exact ax_vreturn rfl dX5_flip_20 ⟨rfl, by simp only [F_X5_flip, if_pos c5]⟩
  · refine ax_aload_n (j := 0) dX5_flip_8 rfl rfl rfl ?_
    refine am_getR flX5_9 dX5_flip_9 rfl hP.o rfl ?_
    refine ax_iload_n (j := 1) dX5_flip_12 rfl rfl rfl ?_
    refine ax_dup2 dX5_flip_13 rfl rfl rfl ?_
    refine am_iald dX5_flip_14 rfl hP.m1 (has_in c5) ?_
    refine ax_iconst (v := 1) dX5_flip_15 (by decide) rfl ?_
    refine ax_iload_n (j := 2) dX5_flip_16 rfl rfl rfl ?_
    refine ax_ishl dX5_flip_17 rfl ?_
    refine ax_ixor dX5_flip_18 rfl ?_
    refine am_iast dX5_flip_19 rfl hP.m1 (has_in c5) ?_
    exact ax_vreturn rfl dX5_flip_20 ⟨rfl, by simp only [F_X5_flip, if_neg c5]⟩

def F_X5_learn (mem : ax_Me) (a : Nat) (p0 : Int32) (p1 : Int32) : ax_Me :=
  (if (F_X5_isPair mem a p0 p1) = 0 then mem else (ax_u mem (a + 4) ((p0 * 8) + p1).toNatClampNeg (F_X5_marksOf mem a p1)))
set_option maxRecDepth 20000 in
theorem s_X5_learn {G : ax_G} {l : Launch} (mem : ax_Me) {a : Nat} (hP : ax_isP a) (p0 : Int32) (p1 : Int32)  : AD G l 2 mX5_learn [.ref a, .int p0, .int p1] mem none (F_X5_learn mem a p0 p1) := by
  refine ax_start (ls := [.ref a, .int p0, .int p1]) (u := 0) (by decide +kernel) (Nat.le_of_ble_eq_true rfl) (Nat.le_refl _) (Nat.le_refl _) rfl ?_
  refine ax_aload_n (j := 0) dX5_learn_0 rfl rfl rfl ?_
  refine ax_iload_n (j := 1) dX5_learn_1 rfl rfl rfl ?_
  refine ax_iload_n (j := 2) dX5_learn_2 rfl rfl rfl ?_
  refine ad_V2 ksX5_isPair lkX5_55 dX5_learn_3 rfl hP.o rfl (Nat.le_of_ble_eq_true rfl) (Nat.le_of_ble_eq_true rfl) (s_X5_isPair _ hP _ _) ?_
  refine ax_if_eq (tgt := 25) dX5_learn_6 (by decide) rfl (fun c6 => ?_) (fun c6 => ?_)
  · exact ax_vreturn rfl dX5_learn_25 ⟨rfl, by simp only [F_X5_learn, if_pos c6]⟩
  · refine ax_aload_n (j := 0) dX5_learn_9 rfl rfl rfl ?_
    refine am_getR flX5_21 dX5_learn_10 rfl hP.o rfl ?_
    refine ax_iload_n (j := 1) dX5_learn_13 rfl rfl rfl ?_
    refine ax_bipush (v := 8) dX5_learn_14 (by decide) rfl ?_
    refine ax_imul dX5_learn_16 rfl ?_
    refine ax_iload_n (j := 2) dX5_learn_17 rfl rfl rfl ?_
    refine ax_iadd dX5_learn_18 rfl ?_
    refine ax_aload_n (j := 0) dX5_learn_19 rfl rfl rfl ?_
    refine ax_iload_n (j := 2) dX5_learn_20 rfl rfl rfl ?_
    refine ad_V1 ksX5_marksOf lkX5_63 dX5_learn_21 rfl hP.o rfl (Nat.le_of_ble_eq_true rfl) (Nat.le_of_ble_eq_true rfl) (s_X5_marksOf _ hP _) ?_
    refine am_iast dX5_learn_24 rfl hP.m4 (pair_in c6) ?_
    exact ax_vreturn rfl dX5_learn_25 ⟨rfl, by simp only [F_X5_learn, if_neg c6]⟩

def F_X5_unlearn (mem : ax_Me) (a : Nat) (p0 : Int32) (p1 : Int32) : ax_Me :=
  (if (F_X5_isPair mem a p0 p1) = 0 then mem else (ax_u mem (a + 4) ((p0 * 8) + p1).toNatClampNeg (-1)))
set_option maxRecDepth 20000 in
theorem s_X5_unlearn {G : ax_G} {l : Launch} (mem : ax_Me) {a : Nat} (hP : ax_isP a) (p0 : Int32) (p1 : Int32)  : AD G l 2 mX5_unlearn [.ref a, .int p0, .int p1] mem none (F_X5_unlearn mem a p0 p1) := by
  refine ax_start (ls := [.ref a, .int p0, .int p1]) (u := 0) (by decide +kernel) (Nat.le_of_ble_eq_true rfl) (Nat.le_refl _) (Nat.le_refl _) rfl ?_
  refine ax_aload_n (j := 0) dX5_unlearn_0 rfl rfl rfl ?_
  refine ax_iload_n (j := 1) dX5_unlearn_1 rfl rfl rfl ?_
  refine ax_iload_n (j := 2) dX5_unlearn_2 rfl rfl rfl ?_
  refine ad_V2 ksX5_isPair lkX5_55 dX5_unlearn_3 rfl hP.o rfl (Nat.le_of_ble_eq_true rfl) (Nat.le_of_ble_eq_true rfl) (s_X5_isPair _ hP _ _) ?_
  refine ax_if_eq (tgt := 21) dX5_unlearn_6 (by decide) rfl (fun c6 => ?_) (fun c6 => ?_)
  · exact ax_vreturn rfl dX5_unlearn_21 ⟨rfl, by simp only [F_X5_unlearn, if_pos c6]⟩
  · refine ax_aload_n (j := 0) dX5_unlearn_9 rfl rfl rfl ?_
    refine am_getR flX5_21 dX5_unlearn_10 rfl hP.o rfl ?_
    refine ax_iload_n (j := 1) dX5_unlearn_13 rfl rfl rfl ?_
    refine ax_bipush (v := 8) dX5_unlearn_14 (by decide) rfl ?_
    refine ax_imul dX5_unlearn_16 rfl ?_
    refine ax_iload_n (j := 2) dX5_unlearn_17 rfl rfl rfl ?_
    refine ax_iadd dX5_unlearn_18 rfl ?_
    refine ax_iconst (v := (-1)) dX5_unlearn_19 (by decide) rfl ?_
    refine am_iast dX5_unlearn_20 rfl hP.m4 (pair_in c6) ?_
    exact ax_vreturn rfl dX5_unlearn_21 ⟨rfl, by simp only [F_X5_unlearn, if_neg c6]⟩

def F_X5_identify (mem : ax_Me) (a : Nat) (p0 : Int32) (p1 : Int32) : ax_Me :=
  (if (F_X5_has mem a p0) = 0 then mem else (ax_u mem (a + 3) p0.toNatClampNeg p1))
set_option maxRecDepth 20000 in
theorem s_X5_identify {G : ax_G} {l : Launch} (mem : ax_Me) {a : Nat} (hP : ax_isP a) (p0 : Int32) (p1 : Int32)  : AD G l 1 mX5_identify [.ref a, .int p0, .int p1] mem none (F_X5_identify mem a p0 p1) := by
  refine ax_start (ls := [.ref a, .int p0, .int p1]) (u := 0) (by decide +kernel) (Nat.le_of_ble_eq_true rfl) (Nat.le_refl _) (Nat.le_refl _) rfl ?_
  refine ax_aload_n (j := 0) dX5_identify_0 rfl rfl rfl ?_
  refine ax_iload_n (j := 1) dX5_identify_1 rfl rfl rfl ?_
  refine ad_V1 ksX5_has lkX5_47 dX5_identify_2 rfl hP.o rfl (Nat.le_of_ble_eq_true rfl) (Nat.le_of_ble_eq_true rfl) (s_X5_has _ hP _) ?_
  refine ax_if_eq (tgt := 15) dX5_identify_5 (by decide) rfl (fun c5 => ?_) (fun c5 => ?_)
  · exact ax_vreturn rfl dX5_identify_15 ⟨rfl, by simp only [F_X5_identify, if_pos c5]⟩
  · refine ax_aload_n (j := 0) dX5_identify_8 rfl rfl rfl ?_
    refine am_getR flX5_18 dX5_identify_9 rfl hP.o rfl ?_
    refine ax_iload_n (j := 1) dX5_identify_12 rfl rfl rfl ?_
    refine ax_iload_n (j := 2) dX5_identify_13 rfl rfl rfl ?_
    refine am_iast dX5_identify_14 rfl hP.m3 (has_in c5) ?_
    exact ax_vreturn rfl dX5_identify_15 ⟨rfl, by simp only [F_X5_identify, if_neg c5]⟩

