/-! ===== rows of AX that touch stack and locals alone ===== -/
theorem ax_cat1 {G : ax_G} {v : Value} (h : ax_sm v = true) : (ax_v G v).category = 1 := by
  cases v <;> first | rfl | (simp [ax_sm] at h)
def ax_p (G : ax_G) (ls : List Value) : List (Nat × Value) := (ls.zipIdx.filter (fun q => ax_nf q.1)).map (fun q => (q.2, ax_v G q.1))
theorem ax_p_mem {G : ax_G} {ls : List Value} {k : Nat} {v : Value} (h : ls[k]? = some v) (hn : ax_nf v = true) : (k, ax_v G v) ∈ ax_p G ls := by
  unfold ax_p
  refine List.mem_map.mpr ⟨(v, k), List.mem_filter.mpr ⟨?_, hn⟩, rfl⟩
  exact List.mem_zipIdx_iff_getElem?.mpr h
theorem ax_L_has {G : ax_G} {la : Array Slot} {nL : Nat} {ls : List Value} (h : ax_L G la nL ls) : lv_has la nL (ax_p G ls) := by
  refine ⟨h.1, h.2.1, fun q hq => ?_⟩
  unfold ax_p at hq
  obtain ⟨⟨v, k⟩, h1, rfl⟩ := List.mem_map.mp hq
  obtain ⟨h2, h3⟩ := List.mem_filter.mp h1
  exact h.2.2 k v (List.mem_zipIdx_iff_getElem?.mp h2) h3
theorem ax_L_store {G : ax_G} {la' : Array Slot} {nL i : Nat} {ls : List Value} {v : Value} (hs : ls.all ax_sm = true) (h' : lv_has la' nL ((i, ax_v G v) :: (ax_p G ls).filter (fun q => !(q.1 == i) && !(q.1 + 1 == i && q.2.category == 2)))) : ax_L G la' nL (ls.set i v) := by
  refine ⟨h'.1, h'.2.1, fun k w hk hn => ?_⟩
  by_cases hki : k = i
  · subst hki
    have hlt : k < ls.length := by
      have := (List.getElem?_eq_some_iff.mp hk).1
      simpa using this
    rw [List.getElem?_set_self hlt] at hk
    cases hk
    exact h'.2.2 _ List.mem_cons_self
  · rw [List.getElem?_set_ne (fun e => hki e.symm)] at hk
    have hw : ax_sm w = true := List.all_eq_true.mp hs w (List.mem_of_getElem? hk)
    refine h'.2.2 (k, ax_v G w) (List.mem_cons_of_mem _ (List.mem_filter.mpr ⟨ax_p_mem hk hn, ?_⟩))
    simp [hki, ax_cat1 hw]
section AXS
variable {G : ax_G} {l : Launch} {M : ax_M} {d pc pc' : Nat} {ls st : List Value} {n z : Nat} {h : ax_H} {n' z' : Nat} {Q : Option Value → ax_H → Prop}
theorem ax_iconst {i : Int} {v : Int32} (hd : decode M.2.1 pc = .ok (.iconst i, 1)) (hv : Int32.ofInt i = v) (hp : pc + 1 = pc') (k : AX G l M d pc' ls (.int v :: st) n z h n' z' Q) : AX G l M d pc ls (st) n z h n' z' Q := by
  subst hp
  exact ax_go (fun p e s m args below meth c R H locs cells slots la Q' hx hb hL hown hK hS hR w => lv_iconst hx hb hd hv w) k
theorem ax_bipush {i : Int} {v : Int32} (hd : decode M.2.1 pc = .ok (.bipush i, 2)) (hv : (Int8.ofInt i).toInt32 = v) (hp : pc + 2 = pc') (k : AX G l M d pc' ls (.int v :: st) n z h n' z' Q) : AX G l M d pc ls (st) n z h n' z' Q := by
  subst hp
  exact ax_go (fun p e s m args below meth c R H locs cells slots la Q' hx hb hL hown hK hS hR w => lv_bipush hx hb hd hv w) k
theorem ax_sipush {i : Int} {v : Int32} (hd : decode M.2.1 pc = .ok (.sipush i, 3)) (hv : (Int16.ofInt i).toInt32 = v) (hp : pc + 3 = pc') (k : AX G l M d pc' ls (.int v :: st) n z h n' z' Q) : AX G l M d pc ls (st) n z h n' z' Q := by
  subst hp
  exact ax_go (fun p e s m args below meth c R H locs cells slots la Q' hx hb hL hown hK hS hR w => lv_sipush hx hb hd hv w) k
theorem ax_lconst {i : Fin 2} {v : Int64} (hd : decode M.2.1 pc = .ok (.lconst i, 1)) (hv : Int64.ofNat (i : Nat) = v) (hp : pc + 1 = pc') (k : AX G l M d pc' ls (.long v :: st) n z h n' z' Q) : AX G l M d pc ls (st) n z h n' z' Q := by
  subst hp
  exact ax_go (fun p e s m args below meth c R H locs cells slots la Q' hx hb hL hown hK hS hR w => lv_lconst hx hb hd hv w) k
theorem ax_null  (hd : decode M.2.1 pc = .ok (.aconst_null, 1)) (hp : pc + 1 = pc') (k : AX G l M d pc' ls (.null :: st) n z h n' z' Q) : AX G l M d pc ls (st) n z h n' z' Q := by
  subst hp
  exact ax_go (fun p e s m args below meth c R H locs cells slots la Q' hx hb hL hown hK hS hR w => lv_null hx hb hd w) k
theorem ax_ldc {i : Nat} {v : Int32} (hd : decode M.2.1 pc = .ok (.ldc i, 2)) (hm : Cond.constant M.1.cls i v ∈ lw_tbl) (hp : pc + 2 = pc') (k : AX G l M d pc' ls (.int v :: st) n z h n' z' Q) : AX G l M d pc ls (st) n z h n' z' Q := by
  subst hp
  exact ax_go (fun p e s m args below meth c R H locs cells slots la Q' hx hb hL hown hK hS hR w => lv_ldc hx hb hown (hK.1.use hm rfl) hd w) k
theorem ax_ldcw {i : Nat} {v : Int32} (hd : decode M.2.1 pc = .ok (.ldc_w i, 3)) (hm : Cond.constant M.1.cls i v ∈ lw_tbl) (hp : pc + 3 = pc') (k : AX G l M d pc' ls (.int v :: st) n z h n' z' Q) : AX G l M d pc ls (st) n z h n' z' Q := by
  subst hp
  exact ax_go (fun p e s m args below meth c R H locs cells slots la Q' hx hb hL hown hK hS hR w => lv_ldcw hx hb hown (hK.1.use hm rfl) hd w) k
theorem ax_ldc2 {i : Nat} {v : Int64} (hd : decode M.2.1 pc = .ok (.ldc2_w i, 3)) (hm : Cond.constantLong M.1.cls i v ∈ lw_tbl) (hp : pc + 3 = pc') (k : AX G l M d pc' ls (.long v :: st) n z h n' z' Q) : AX G l M d pc ls (st) n z h n' z' Q := by
  subst hp
  exact ax_go (fun p e s m args below meth c R H locs cells slots la Q' hx hb hL hown hK hS hR w => lv_ldc2 hx hb hown (hK.1.use hm rfl) hd w) k
theorem ax_iload_n {i : Fin 4} {j : Nat} {x : Int32} (hd : decode M.2.1 pc = .ok (.iload_n i, 1)) (hi : (i : Nat) = j) (hl : ls[j]? = some (.int x)) (hp : pc + 1 = pc') (k : AX G l M d pc' ls (.int x :: st) n z h n' z' Q) : AX G l M d pc ls (st) n z h n' z' Q := by
  subst hp
  exact ax_go (fun p e s m args below meth c R H locs cells slots la Q' hx hb hL hown hK hS hR w => lv_iload_n hx hb hd hi (hL.2.2 j _ hl rfl) w) k
theorem ax_iload {j : Nat} {x : Int32} (hd : decode M.2.1 pc = .ok (.iload j, 2)) (hl : ls[j]? = some (.int x)) (hp : pc + 2 = pc') (k : AX G l M d pc' ls (.int x :: st) n z h n' z' Q) : AX G l M d pc ls (st) n z h n' z' Q := by
  subst hp
  exact ax_go (fun p e s m args below meth c R H locs cells slots la Q' hx hb hL hown hK hS hR w => lv_iload hx hb hd (hL.2.2 j _ hl rfl) w) k
theorem ax_lload_n {i : Fin 4} {j : Nat} {x : Int64} (hd : decode M.2.1 pc = .ok (.lload_n i, 1)) (hi : (i : Nat) = j) (hl : ls[j]? = some (.long x)) (hp : pc + 1 = pc') (k : AX G l M d pc' ls (.long x :: st) n z h n' z' Q) : AX G l M d pc ls (st) n z h n' z' Q := by
  subst hp
  exact ax_go (fun p e s m args below meth c R H locs cells slots la Q' hx hb hL hown hK hS hR w => lv_lload_n hx hb hd hi (hL.2.2 j _ hl rfl) w) k
theorem ax_lload {j : Nat} {x : Int64} (hd : decode M.2.1 pc = .ok (.lload j, 2)) (hl : ls[j]? = some (.long x)) (hp : pc + 2 = pc') (k : AX G l M d pc' ls (.long x :: st) n z h n' z' Q) : AX G l M d pc ls (st) n z h n' z' Q := by
  subst hp
  exact ax_go (fun p e s m args below meth c R H locs cells slots la Q' hx hb hL hown hK hS hR w => lv_lload hx hb hd (hL.2.2 j _ hl rfl) w) k
theorem ax_aload_n {i : Fin 4} {j : Nat} {x : Nat} (hd : decode M.2.1 pc = .ok (.aload_n i, 1)) (hi : (i : Nat) = j) (hl : ls[j]? = some (.ref x)) (hp : pc + 1 = pc') (k : AX G l M d pc' ls (.ref x :: st) n z h n' z' Q) : AX G l M d pc ls (st) n z h n' z' Q := by
  subst hp
  exact ax_go (fun p e s m args below meth c R H locs cells slots la Q' hx hb hL hown hK hS hR w => lv_aload_n hx hb hd hi (hL.2.2 j _ hl rfl) w) k
theorem ax_aload {j : Nat} {x : Nat} (hd : decode M.2.1 pc = .ok (.aload j, 2)) (hl : ls[j]? = some (.ref x)) (hp : pc + 2 = pc') (k : AX G l M d pc' ls (.ref x :: st) n z h n' z' Q) : AX G l M d pc ls (st) n z h n' z' Q := by
  subst hp
  exact ax_go (fun p e s m args below meth c R H locs cells slots la Q' hx hb hL hown hK hS hR w => lv_aload hx hb hd (hL.2.2 j _ hl rfl) w) k
theorem ax_aload_nN {i : Fin 4} {j : Nat} (hd : decode M.2.1 pc = .ok (.aload_n i, 1)) (hi : (i : Nat) = j) (hl : ls[j]? = some .null) (hp : pc + 1 = pc') (k : AX G l M d pc' ls (.null :: st) n z h n' z' Q) : AX G l M d pc ls (st) n z h n' z' Q := by
  subst hp
  exact ax_go (fun p e s m args below meth c R H locs cells slots la Q' hx hb hL hown hK hS hR w => lv_aload_nN hx hb hd hi (hL.2.2 j _ hl rfl) w) k
theorem ax_aload_nX {i : Fin 4} {j : Nat} {x : UInt64} (hd : decode M.2.1 pc = .ok (.aload_n i, 1)) (hi : (i : Nat) = j) (hl : ls[j]? = some (.double x)) (hp : pc + 1 = pc') (k : AX G l M d pc' ls (.double x :: st) n z h n' z' Q) : AX G l M d pc ls (st) n z h n' z' Q := by
  subst hp
  exact ax_go (fun p e s m args below meth c R H locs cells slots la Q' hx hb hL hown hK hS hR w => lv_aload_n hx hb hd hi (hL.2.2 j _ hl rfl) w) k
theorem ax_iadd {x y : Int32} (hd : decode M.2.1 pc = .ok (.iadd, 1)) (hp : pc + 1 = pc') (k : AX G l M d pc' ls (.int (x + y) :: st) n z h n' z' Q) : AX G l M d pc ls (.int y :: .int x :: st) n z h n' z' Q := by
  subst hp
  exact ax_go (fun p e s m args below meth c R H locs cells slots la Q' hx hb hL hown hK hS hR w => lv_iadd hx hb hd w) k
theorem ax_isub {x y : Int32} (hd : decode M.2.1 pc = .ok (.isub, 1)) (hp : pc + 1 = pc') (k : AX G l M d pc' ls (.int (x - y) :: st) n z h n' z' Q) : AX G l M d pc ls (.int y :: .int x :: st) n z h n' z' Q := by
  subst hp
  exact ax_go (fun p e s m args below meth c R H locs cells slots la Q' hx hb hL hown hK hS hR w => lv_isub hx hb hd w) k
theorem ax_imul {x y : Int32} (hd : decode M.2.1 pc = .ok (.imul, 1)) (hp : pc + 1 = pc') (k : AX G l M d pc' ls (.int (x * y) :: st) n z h n' z' Q) : AX G l M d pc ls (.int y :: .int x :: st) n z h n' z' Q := by
  subst hp
  exact ax_go (fun p e s m args below meth c R H locs cells slots la Q' hx hb hL hown hK hS hR w => lv_imul hx hb hd w) k
theorem ax_iand {x y : Int32} (hd : decode M.2.1 pc = .ok (.iand, 1)) (hp : pc + 1 = pc') (k : AX G l M d pc' ls (.int (x &&& y) :: st) n z h n' z' Q) : AX G l M d pc ls (.int y :: .int x :: st) n z h n' z' Q := by
  subst hp
  exact ax_go (fun p e s m args below meth c R H locs cells slots la Q' hx hb hL hown hK hS hR w => lv_iand hx hb hd w) k
theorem ax_ior {x y : Int32} (hd : decode M.2.1 pc = .ok (.ior, 1)) (hp : pc + 1 = pc') (k : AX G l M d pc' ls (.int (x ||| y) :: st) n z h n' z' Q) : AX G l M d pc ls (.int y :: .int x :: st) n z h n' z' Q := by
  subst hp
  exact ax_go (fun p e s m args below meth c R H locs cells slots la Q' hx hb hL hown hK hS hR w => lv_ior hx hb hd w) k
theorem ax_ixor {x y : Int32} (hd : decode M.2.1 pc = .ok (.ixor, 1)) (hp : pc + 1 = pc') (k : AX G l M d pc' ls (.int (x ^^^ y) :: st) n z h n' z' Q) : AX G l M d pc ls (.int y :: .int x :: st) n z h n' z' Q := by
  subst hp
  exact ax_go (fun p e s m args below meth c R H locs cells slots la Q' hx hb hL hown hK hS hR w => lv_ixor hx hb hd w) k
theorem ax_ishl {x y : Int32} (hd : decode M.2.1 pc = .ok (.ishl, 1)) (hp : pc + 1 = pc') (k : AX G l M d pc' ls (.int (x <<< (y &&& 31)) :: st) n z h n' z' Q) : AX G l M d pc ls (.int y :: .int x :: st) n z h n' z' Q := by
  subst hp
  exact ax_go (fun p e s m args below meth c R H locs cells slots la Q' hx hb hL hown hK hS hR w => lv_ishl hx hb hd w) k
theorem ax_ishr {x y : Int32} (hd : decode M.2.1 pc = .ok (.ishr, 1)) (hp : pc + 1 = pc') (k : AX G l M d pc' ls (.int (x >>> (y &&& 31)) :: st) n z h n' z' Q) : AX G l M d pc ls (.int y :: .int x :: st) n z h n' z' Q := by
  subst hp
  exact ax_go (fun p e s m args below meth c R H locs cells slots la Q' hx hb hL hown hK hS hR w => lv_ishr hx hb hd w) k
theorem ax_ineg {x : Int32} (hd : decode M.2.1 pc = .ok (.ineg, 1)) (hp : pc + 1 = pc') (k : AX G l M d pc' ls (.int (-x) :: st) n z h n' z' Q) : AX G l M d pc ls (.int x :: st) n z h n' z' Q := by
  subst hp
  exact ax_go (fun p e s m args below meth c R H locs cells slots la Q' hx hb hL hown hK hS hR w => lv_ineg hx hb hd w) k
theorem ax_ladd {x y : Int64} (hd : decode M.2.1 pc = .ok (.ladd, 1)) (hp : pc + 1 = pc') (k : AX G l M d pc' ls (.long (x + y) :: st) n z h n' z' Q) : AX G l M d pc ls (.long y :: .long x :: st) n z h n' z' Q := by
  subst hp
  exact ax_go (fun p e s m args below meth c R H locs cells slots la Q' hx hb hL hown hK hS hR w => lv_ladd hx hb hd w) k
theorem ax_lsub {x y : Int64} (hd : decode M.2.1 pc = .ok (.lsub, 1)) (hp : pc + 1 = pc') (k : AX G l M d pc' ls (.long (x - y) :: st) n z h n' z' Q) : AX G l M d pc ls (.long y :: .long x :: st) n z h n' z' Q := by
  subst hp
  exact ax_go (fun p e s m args below meth c R H locs cells slots la Q' hx hb hL hown hK hS hR w => lv_lsub hx hb hd w) k
theorem ax_lmul {x y : Int64} (hd : decode M.2.1 pc = .ok (.lmul, 1)) (hp : pc + 1 = pc') (k : AX G l M d pc' ls (.long (x * y) :: st) n z h n' z' Q) : AX G l M d pc ls (.long y :: .long x :: st) n z h n' z' Q := by
  subst hp
  exact ax_go (fun p e s m args below meth c R H locs cells slots la Q' hx hb hL hown hK hS hR w => lv_lmul hx hb hd w) k
theorem ax_idiv {x y : Int32} (hd : decode M.2.1 pc = .ok (.idiv, 1)) (hne : ¬ y = 0) (hp : pc + 1 = pc') (k : AX G l M d pc' ls (.int (x / y) :: st) n z h n' z' Q) : AX G l M d pc ls (.int y :: .int x :: st) n z h n' z' Q := by
  subst hp
  exact ax_go (fun p e s m args below meth c R H locs cells slots la Q' hx hb hL hown hK hS hR w => lv_idiv hx hb hd hne w) k
theorem ax_irem {x y : Int32} (hd : decode M.2.1 pc = .ok (.irem, 1)) (hne : ¬ y = 0) (hp : pc + 1 = pc') (k : AX G l M d pc' ls (.int (x - x / y * y) :: st) n z h n' z' Q) : AX G l M d pc ls (.int y :: .int x :: st) n z h n' z' Q := by
  subst hp
  exact ax_go (fun p e s m args below meth c R H locs cells slots la Q' hx hb hL hown hK hS hR w => lv_irem hx hb hd hne w) k
theorem ax_lrem {x y : Int64} (hd : decode M.2.1 pc = .ok (.lrem, 1)) (hne : ¬ y = 0) (hp : pc + 1 = pc') (k : AX G l M d pc' ls (.long (x - x / y * y) :: st) n z h n' z' Q) : AX G l M d pc ls (.long y :: .long x :: st) n z h n' z' Q := by
  subst hp
  exact ax_go (fun p e s m args below meth c R H locs cells slots la Q' hx hb hL hown hK hS hR w => lv_lrem hx hb hd hne w) k
theorem ax_iushr {x y : Int32} (hd : decode M.2.1 pc = .ok (.iushr, 1)) (hp : pc + 1 = pc') (k : AX G l M d pc' ls (.int (x.toUInt32 >>> (y.toUInt32 &&& Int32.toUInt32 31)).toInt32 :: st) n z h n' z' Q) : AX G l M d pc ls (.int y :: .int x :: st) n z h n' z' Q := by
  subst hp
  exact ax_go (fun p e s m args below meth c R H locs cells slots la Q' hx hb hL hown hK hS hR w => lv_iushr hx hb hd rfl w) k
theorem ax_i2l {x : Int32} (hd : decode M.2.1 pc = .ok (.i2l, 1)) (hp : pc + 1 = pc') (k : AX G l M d pc' ls (.long x.toInt64 :: st) n z h n' z' Q) : AX G l M d pc ls (.int x :: st) n z h n' z' Q := by
  subst hp
  exact ax_go (fun p e s m args below meth c R H locs cells slots la Q' hx hb hL hown hK hS hR w => lv_i2l hx hb hd rfl w) k
theorem ax_l2i {x : Int64} (hd : decode M.2.1 pc = .ok (.l2i, 1)) (hp : pc + 1 = pc') (k : AX G l M d pc' ls (.int x.toInt32 :: st) n z h n' z' Q) : AX G l M d pc ls (.long x :: st) n z h n' z' Q := by
  subst hp
  exact ax_go (fun p e s m args below meth c R H locs cells slots la Q' hx hb hL hown hK hS hR w => lv_l2i hx hb hd rfl w) k
theorem ax_lcmp {x y : Int64} (hd : decode M.2.1 pc = .ok (.lcmp, 1)) (hp : pc + 1 = pc') (k : AX G l M d pc' ls (.int (lg_cmp x y) :: st) n z h n' z' Q) : AX G l M d pc ls (.long y :: .long x :: st) n z h n' z' Q := by
  subst hp
  exact ax_go (fun p e s m args below meth c R H locs cells slots la Q' hx hb hL hown hK hS hR w => W.lcmp hx hb hd w) k
theorem ax_dup {v : Value} (hd : decode M.2.1 pc = .ok (.dup, 1)) (hv : ax_sm v = true) (hp : pc + 1 = pc') (k : AX G l M d pc' ls (v :: v :: st) n z h n' z' Q) : AX G l M d pc ls (v :: st) n z h n' z' Q := by
  subst hp
  exact ax_go (fun p e s m args below meth c R H locs cells slots la Q' hx hb hL hown hK hS hR w => lv_dup hx hb hd (ax_cat1 hv) w) k
theorem ax_pop {v : Value} (hd : decode M.2.1 pc = .ok (.pop, 1)) (hv : ax_sm v = true) (hp : pc + 1 = pc') (k : AX G l M d pc' ls (st) n z h n' z' Q) : AX G l M d pc ls (v :: st) n z h n' z' Q := by
  subst hp
  exact ax_go (fun p e s m args below meth c R H locs cells slots la Q' hx hb hL hown hK hS hR w => lv_pop hx hb hd (ax_cat1 hv) w) k
theorem ax_dup_x1 {v w : Value} (hd : decode M.2.1 pc = .ok (.dup_x1, 1)) (hv : ax_sm v = true) (hw : ax_sm w = true) (hp : pc + 1 = pc') (k : AX G l M d pc' ls (v :: w :: v :: st) n z h n' z' Q) : AX G l M d pc ls (v :: w :: st) n z h n' z' Q := by
  subst hp
  exact ax_go (fun p e s m args below meth c R H locs cells slots la Q' hx hb hL hown hK hS hR w => lv_dup_x1 hx hb hd (ax_cat1 hv) (ax_cat1 hw) w) k
theorem ax_dup2 {v w : Value} (hd : decode M.2.1 pc = .ok (.dup2, 1)) (hv : ax_sm v = true) (hw : ax_sm w = true) (hp : pc + 1 = pc') (k : AX G l M d pc' ls (v :: w :: v :: w :: st) n z h n' z' Q) : AX G l M d pc ls (v :: w :: st) n z h n' z' Q := by
  subst hp
  exact ax_go (fun p e s m args below meth c R H locs cells slots la Q' hx hb hL hown hK hS hR w => lv_dup2_11 hx hb hd (ax_cat1 hv) (ax_cat1 hw) w) k
theorem ax_if_eq {x : Int32} {off : Int} {tgt : Nat} (hd : decode M.2.1 pc = .ok (.ifCond .eq off, 3)) (ht : (pc : Int) + off = (tgt : Int)) (hp : pc + 3 = pc') (k1 : x = 0 → AX G l M d tgt ls st n z h n' z' Q) (k2 : ¬ x = 0 → AX G l M d pc' ls st n z h n' z' Q) : AX G l M d pc ls (.int x :: st) n z h n' z' Q := by
  subst hp
  exact ax_br (fun p e s m args below meth c R H locs cells slots la Q' hx hb w1 w2 => lv_if_eq hx hb hd ht w1 w2) k1 k2
theorem ax_if_ne {x : Int32} {off : Int} {tgt : Nat} (hd : decode M.2.1 pc = .ok (.ifCond .ne off, 3)) (ht : (pc : Int) + off = (tgt : Int)) (hp : pc + 3 = pc') (k1 : ¬ x = 0 → AX G l M d tgt ls st n z h n' z' Q) (k2 : x = 0 → AX G l M d pc' ls st n z h n' z' Q) : AX G l M d pc ls (.int x :: st) n z h n' z' Q := by
  subst hp
  exact ax_br (fun p e s m args below meth c R H locs cells slots la Q' hx hb w1 w2 => lv_if_ne hx hb hd ht w1 w2) k1 k2
theorem ax_if_lt {x : Int32} {off : Int} {tgt : Nat} (hd : decode M.2.1 pc = .ok (.ifCond .lt off, 3)) (ht : (pc : Int) + off = (tgt : Int)) (hp : pc + 3 = pc') (k1 : x < 0 → AX G l M d tgt ls st n z h n' z' Q) (k2 : ¬ x < 0 → AX G l M d pc' ls st n z h n' z' Q) : AX G l M d pc ls (.int x :: st) n z h n' z' Q := by
  subst hp
  exact ax_br (fun p e s m args below meth c R H locs cells slots la Q' hx hb w1 w2 => lv_if_lt hx hb hd ht w1 w2) k1 k2
theorem ax_if_ge {x : Int32} {off : Int} {tgt : Nat} (hd : decode M.2.1 pc = .ok (.ifCond .ge off, 3)) (ht : (pc : Int) + off = (tgt : Int)) (hp : pc + 3 = pc') (k1 : 0 ≤ x → AX G l M d tgt ls st n z h n' z' Q) (k2 : ¬ 0 ≤ x → AX G l M d pc' ls st n z h n' z' Q) : AX G l M d pc ls (.int x :: st) n z h n' z' Q := by
  subst hp
  exact ax_br (fun p e s m args below meth c R H locs cells slots la Q' hx hb w1 w2 => lv_if_ge hx hb hd ht w1 w2) k1 k2
theorem ax_if_gt {x : Int32} {off : Int} {tgt : Nat} (hd : decode M.2.1 pc = .ok (.ifCond .gt off, 3)) (ht : (pc : Int) + off = (tgt : Int)) (hp : pc + 3 = pc') (k1 : 0 < x → AX G l M d tgt ls st n z h n' z' Q) (k2 : ¬ 0 < x → AX G l M d pc' ls st n z h n' z' Q) : AX G l M d pc ls (.int x :: st) n z h n' z' Q := by
  subst hp
  exact ax_br (fun p e s m args below meth c R H locs cells slots la Q' hx hb w1 w2 => lv_if_gt hx hb hd ht w1 w2) k1 k2
theorem ax_if_le {x : Int32} {off : Int} {tgt : Nat} (hd : decode M.2.1 pc = .ok (.ifCond .le off, 3)) (ht : (pc : Int) + off = (tgt : Int)) (hp : pc + 3 = pc') (k1 : x ≤ 0 → AX G l M d tgt ls st n z h n' z' Q) (k2 : ¬ x ≤ 0 → AX G l M d pc' ls st n z h n' z' Q) : AX G l M d pc ls (.int x :: st) n z h n' z' Q := by
  subst hp
  exact ax_br (fun p e s m args below meth c R H locs cells slots la Q' hx hb w1 w2 => lv_if_le hx hb hd ht w1 w2) k1 k2
theorem ax_icmp_eq {x y : Int32} {off : Int} {tgt : Nat} (hd : decode M.2.1 pc = .ok (.if_icmp .eq off, 3)) (ht : (pc : Int) + off = (tgt : Int)) (hp : pc + 3 = pc') (k1 : x = y → AX G l M d tgt ls st n z h n' z' Q) (k2 : ¬ x = y → AX G l M d pc' ls st n z h n' z' Q) : AX G l M d pc ls (.int y :: .int x :: st) n z h n' z' Q := by
  subst hp
  exact ax_br (fun p e s m args below meth c R H locs cells slots la Q' hx hb w1 w2 => lv_icmp_eq hx hb hd ht w1 w2) k1 k2
theorem ax_icmp_ne {x y : Int32} {off : Int} {tgt : Nat} (hd : decode M.2.1 pc = .ok (.if_icmp .ne off, 3)) (ht : (pc : Int) + off = (tgt : Int)) (hp : pc + 3 = pc') (k1 : ¬ x = y → AX G l M d tgt ls st n z h n' z' Q) (k2 : x = y → AX G l M d pc' ls st n z h n' z' Q) : AX G l M d pc ls (.int y :: .int x :: st) n z h n' z' Q := by
  subst hp
  exact ax_br (fun p e s m args below meth c R H locs cells slots la Q' hx hb w1 w2 => lv_icmp_ne hx hb hd ht w1 w2) k1 k2
theorem ax_icmp_lt {x y : Int32} {off : Int} {tgt : Nat} (hd : decode M.2.1 pc = .ok (.if_icmp .lt off, 3)) (ht : (pc : Int) + off = (tgt : Int)) (hp : pc + 3 = pc') (k1 : x < y → AX G l M d tgt ls st n z h n' z' Q) (k2 : ¬ x < y → AX G l M d pc' ls st n z h n' z' Q) : AX G l M d pc ls (.int y :: .int x :: st) n z h n' z' Q := by
  subst hp
  exact ax_br (fun p e s m args below meth c R H locs cells slots la Q' hx hb w1 w2 => lv_icmp_lt hx hb hd ht w1 w2) k1 k2
theorem ax_icmp_ge {x y : Int32} {off : Int} {tgt : Nat} (hd : decode M.2.1 pc = .ok (.if_icmp .ge off, 3)) (ht : (pc : Int) + off = (tgt : Int)) (hp : pc + 3 = pc') (k1 : y ≤ x → AX G l M d tgt ls st n z h n' z' Q) (k2 : ¬ y ≤ x → AX G l M d pc' ls st n z h n' z' Q) : AX G l M d pc ls (.int y :: .int x :: st) n z h n' z' Q := by
  subst hp
  exact ax_br (fun p e s m args below meth c R H locs cells slots la Q' hx hb w1 w2 => lv_icmp_ge hx hb hd ht w1 w2) k1 k2
theorem ax_icmp_gt {x y : Int32} {off : Int} {tgt : Nat} (hd : decode M.2.1 pc = .ok (.if_icmp .gt off, 3)) (ht : (pc : Int) + off = (tgt : Int)) (hp : pc + 3 = pc') (k1 : y < x → AX G l M d tgt ls st n z h n' z' Q) (k2 : ¬ y < x → AX G l M d pc' ls st n z h n' z' Q) : AX G l M d pc ls (.int y :: .int x :: st) n z h n' z' Q := by
  subst hp
  exact ax_br (fun p e s m args below meth c R H locs cells slots la Q' hx hb w1 w2 => lv_icmp_gt hx hb hd ht w1 w2) k1 k2
theorem ax_icmp_le {x y : Int32} {off : Int} {tgt : Nat} (hd : decode M.2.1 pc = .ok (.if_icmp .le off, 3)) (ht : (pc : Int) + off = (tgt : Int)) (hp : pc + 3 = pc') (k1 : x ≤ y → AX G l M d tgt ls st n z h n' z' Q) (k2 : ¬ x ≤ y → AX G l M d pc' ls st n z h n' z' Q) : AX G l M d pc ls (.int y :: .int x :: st) n z h n' z' Q := by
  subst hp
  exact ax_br (fun p e s m args below meth c R H locs cells slots la Q' hx hb w1 w2 => lv_icmp_le hx hb hd ht w1 w2) k1 k2
theorem ax_goto {off : Int} {tgt : Nat} (hd : decode M.2.1 pc = .ok (.goto off, 3)) (ht : (pc : Int) + off = (tgt : Int)) (k : AX G l M d tgt ls st n z h n' z' Q) : AX G l M d pc ls st n z h n' z' Q :=
  ax_go (fun p e s m args below meth c R H locs cells slots la Q' hx hb hL hown hK hS hR w => lv_goto hx hb hd ht w) k
theorem ax_ifnull {x : Nat} {off : Int} (hd : decode M.2.1 pc = .ok (.ifnull off, 3)) (hp : pc + 3 = pc') (k : AX G l M d pc' ls st n z h n' z' Q) : AX G l M d pc ls (.ref x :: st) n z h n' z' Q := by
  subst hp
  exact ax_go (fun p e s m args below meth c R H locs cells slots la Q' hx hb hL hown hK hS hR w => lv_ifnull hx hb hd w) k
theorem ax_ifnonnull {x : Nat} {off : Int} {tgt : Nat} (hd : decode M.2.1 pc = .ok (.ifnonnull off, 3)) (ht : (pc : Int) + off = (tgt : Int)) (k : AX G l M d tgt ls st n z h n' z' Q) : AX G l M d pc ls (.ref x :: st) n z h n' z' Q :=
  ax_go (fun p e s m args below meth c R H locs cells slots la Q' hx hb hL hown hK hS hR w => lv_ifnonnull hx hb hd ht w) k
theorem ax_ifnullN  {off : Int} {tgt : Nat} (hd : decode M.2.1 pc = .ok (.ifnull off, 3)) (ht : (pc : Int) + off = (tgt : Int)) (k : AX G l M d tgt ls st n z h n' z' Q) : AX G l M d pc ls (.null :: st) n z h n' z' Q :=
  ax_go (fun p e s m args below meth c R H locs cells slots la Q' hx hb hL hown hK hS hR w => lv_ifnullN hx hb hd ht w) k
theorem ax_ifnonnullN  {off : Int} (hd : decode M.2.1 pc = .ok (.ifnonnull off, 3)) (hp : pc + 3 = pc') (k : AX G l M d pc' ls st n z h n' z' Q) : AX G l M d pc ls (.null :: st) n z h n' z' Q := by
  subst hp
  exact ax_go (fun p e s m args below meth c R H locs cells slots la Q' hx hb hL hown hK hS hR w => lv_ifnonnullN hx hb hd w) k
theorem ax_tableOut {dflt lo hi : Int} {offs : Array Int} {len : Nat} {x : Int32} {tgt : Nat} (hd : decode M.2.1 pc = .ok (.tableswitch dflt lo hi offs, len)) (h1 : x.toInt < lo ∨ hi < x.toInt) (ht : (pc : Int) + dflt = (tgt : Int)) (k : AX G l M d tgt ls st n z h n' z' Q) : AX G l M d pc ls (.int x :: st) n z h n' z' Q :=
  ax_go (fun p e s m args below meth c R H locs cells slots la Q' hx hb hL hown hK hS hR w => lv_tableOut hx hb hd h1 ht w) k
theorem ax_tableIn {dflt lo hi : Int} {offs : Array Int} {len : Nat} {x : Int32} {off : Int} {tgt : Nat} (hd : decode M.2.1 pc = .ok (.tableswitch dflt lo hi offs, len)) (h1 : ¬ x.toInt < lo) (h2 : ¬ hi < x.toInt) (ho : offs[(x.toInt - lo).toNat]? = some off) (ht : (pc : Int) + off = (tgt : Int)) (k : AX G l M d tgt ls st n z h n' z' Q) : AX G l M d pc ls (.int x :: st) n z h n' z' Q :=
  ax_go (fun p e s m args below meth c R H locs cells slots la Q' hx hb hL hown hK hS hR w => lv_tableIn hx hb hd h1 h2 ho ht w) k
theorem ax_sto {i : Nat} {v : Value} (hs : ls.all ax_sm = true)
    (hstep : ∀ (p : Program) (e : Env) (s : State) (m : MethodId) (args : Array Value) (below : List Frame) (meth : Method) (c : Code) (R : Room) (H : Heap) (locs : List Loc) (cells slots : Nat) (la : Array Slot) (Q' : State → Prop),
      p.tables.exec = Jvm.exec → c.code = M.2.1 → lv_has la M.2.2.1 (ax_p G ls) →
      (∀ la' : Array Slot, lv_has la' M.2.2.1 ((i, ax_v G v) :: (ax_p G ls).filter (fun q => !(q.1 == i) && !(q.1 + 1 == i && q.2.category == 2))) → W p l e R s m args below meth c H locs cells slots Q' (F0 m pc' la' (st.map (ax_v G)))) →
      W p l e R s m args below meth c H locs cells slots Q' (F0 m pc la ((v :: st).map (ax_v G))))
    (k : AX G l M d pc' (ls.set i v) st n z h n' z' Q) : AX G l M d pc ls (v :: st) n z h n' z' Q := by
  intro p e s m args below meth c R H locs cells slots la C hd hlo hn hz hc hs' hR hS hL
  exact hstep p e s m args below meth c R H locs cells slots la _ C.1 C.2.1 (ax_L_has hL) (fun la' h' => k p e s m args below meth c R H locs cells slots la' C hd hlo hn hz hc hs' hR hS (ax_L_store hs h'))
theorem ax_istore_n {i : Fin 4} {j : Nat} {x : Int32} (hd : decode M.2.1 pc = .ok (.istore_n i, 1)) (hi : (i : Nat) = j) (hp : pc + 1 = pc') (hn : j < M.2.2.1) (hs : ls.all ax_sm = true) (k : AX G l M d pc' (ls.set j (.int x)) st n z h n' z' Q) : AX G l M d pc ls (.int x :: st) n z h n' z' Q := by
  subst hp
  exact ax_sto hs (fun p e s m args below meth c R H locs cells slots la Q' hx hb hL w => lv_istore_n hx hb hd hi hL hn rfl w) k
theorem ax_istore {j : Nat} {x : Int32} (hd : decode M.2.1 pc = .ok (.istore j, 2)) (hp : pc + 2 = pc') (hn : j < M.2.2.1) (hs : ls.all ax_sm = true) (k : AX G l M d pc' (ls.set j (.int x)) st n z h n' z' Q) : AX G l M d pc ls (.int x :: st) n z h n' z' Q := by
  subst hp
  exact ax_sto hs (fun p e s m args below meth c R H locs cells slots la Q' hx hb hL w => lv_istore hx hb hd hL hn rfl w) k
theorem ax_astore_n {i : Fin 4} {j : Nat} {x : Nat} (hd : decode M.2.1 pc = .ok (.astore_n i, 1)) (hi : (i : Nat) = j) (hp : pc + 1 = pc') (hn : j < M.2.2.1) (hs : ls.all ax_sm = true) (k : AX G l M d pc' (ls.set j (.ref x)) st n z h n' z' Q) : AX G l M d pc ls (.ref x :: st) n z h n' z' Q := by
  subst hp
  exact ax_sto hs (fun p e s m args below meth c R H locs cells slots la Q' hx hb hL w => lv_astore_n hx hb hd hi hL hn rfl w) k
theorem ax_astore {j : Nat} {x : Nat} (hd : decode M.2.1 pc = .ok (.astore j, 2)) (hp : pc + 2 = pc') (hn : j < M.2.2.1) (hs : ls.all ax_sm = true) (k : AX G l M d pc' (ls.set j (.ref x)) st n z h n' z' Q) : AX G l M d pc ls (.ref x :: st) n z h n' z' Q := by
  subst hp
  exact ax_sto hs (fun p e s m args below meth c R H locs cells slots la Q' hx hb hL w => lv_astore hx hb hd hL hn rfl w) k
theorem ax_astore_nN {i : Fin 4} {j : Nat} (hd : decode M.2.1 pc = .ok (.astore_n i, 1)) (hi : (i : Nat) = j) (hp : pc + 1 = pc') (hn : j < M.2.2.1) (hs : ls.all ax_sm = true) (k : AX G l M d pc' (ls.set j .null) st n z h n' z' Q) : AX G l M d pc ls (.null :: st) n z h n' z' Q := by
  subst hp
  exact ax_sto hs (fun p e s m args below meth c R H locs cells slots la Q' hx hb hL w => lv_astore_nN hx hb hd hi hL hn rfl w) k
theorem ax_iinc_g {j : Nat} {i : Int} {x v : Int32} (hd : decode M.2.1 pc = .ok (.iinc j i, 3)) (hp : pc + 3 = pc') (hl : ls[j]? = some (.int x)) (hv : x + Int32.ofInt i = v) (hn : j < M.2.2.1) (hs : ls.all ax_sm = true) (k : AX G l M d pc' (ls.set j (.int v)) st n z h n' z' Q) : AX G l M d pc ls st n z h n' z' Q := by
  subst hp
  intro p e s m args below meth c R H locs cells slots la C hd' hlo hn' hz hc hs' hR hS hL
  have hL' : lv_has la M.2.2.1 ((j, .int x) :: ax_p G ls) := ⟨hL.1, hL.2.1, fun q hq => by
    rcases List.mem_cons.mp hq with rfl | hq
    · exact hL.2.2 j _ hl rfl
    · exact (ax_L_has hL).2.2 q hq⟩
  refine lv_iinc C.1 C.2.1 hd hL' (k := 0) rfl hv hn rfl (fun la' h' => ?_)
  refine k p e s m args below meth c R H locs cells slots la' C hd' hlo hn' hz hc hs' hR hS (ax_L_store (v := .int v) hs ⟨h'.1, h'.2.1, fun q hq => h'.2.2 q ?_⟩)
  rcases List.mem_cons.mp hq with rfl | hq
  · exact List.mem_cons_self
  · exact List.mem_cons_of_mem _ (by
      obtain ⟨q1, q2⟩ := List.mem_filter.mp hq
      exact List.mem_filter.mpr ⟨List.mem_cons_of_mem _ q1, q2⟩)
theorem ax_ist0 {i : Fin 4} {a0 : Value} {r : List Value} {x : Int32} (hd : decode M.2.1 pc = .ok (.istore_n i, 1)) (hi : (i : Nat) = 0) (hp : pc + 1 = pc') (hn : 0 < M.2.2.1) (hs : (a0 :: r).all ax_sm = true) (k : AX G l M d pc' (.int x :: r) st n z h n' z' Q) : AX G l M d pc (a0 :: r) (.int x :: st) n z h n' z' Q := ax_istore_n hd hi hp hn hs k
theorem ax_ast0 {i : Fin 4} {a0 : Value} {r : List Value} {x : Nat} (hd : decode M.2.1 pc = .ok (.astore_n i, 1)) (hi : (i : Nat) = 0) (hp : pc + 1 = pc') (hn : 0 < M.2.2.1) (hs : (a0 :: r).all ax_sm = true) (k : AX G l M d pc' (.ref x :: r) st n z h n' z' Q) : AX G l M d pc (a0 :: r) (.ref x :: st) n z h n' z' Q := ax_astore_n hd hi hp hn hs k
theorem ax_iinc0 {i : Int} {r : List Value} {x v : Int32} (hd : decode M.2.1 pc = .ok (.iinc 0 i, 3)) (hp : pc + 3 = pc') (hv : x + Int32.ofInt i = v) (hn : 0 < M.2.2.1) (hs : (.int x :: r).all ax_sm = true) (k : AX G l M d pc' (.int v :: r) st n z h n' z' Q) : AX G l M d pc (.int x :: r) st n z h n' z' Q := ax_iinc_g hd hp rfl hv hn hs k
theorem ax_ist1 {i : Fin 4} {a0 a1 : Value} {r : List Value} {x : Int32} (hd : decode M.2.1 pc = .ok (.istore_n i, 1)) (hi : (i : Nat) = 1) (hp : pc + 1 = pc') (hn : 1 < M.2.2.1) (hs : (a0 :: a1 :: r).all ax_sm = true) (k : AX G l M d pc' (a0 :: .int x :: r) st n z h n' z' Q) : AX G l M d pc (a0 :: a1 :: r) (.int x :: st) n z h n' z' Q := ax_istore_n hd hi hp hn hs k
theorem ax_ast1 {i : Fin 4} {a0 a1 : Value} {r : List Value} {x : Nat} (hd : decode M.2.1 pc = .ok (.astore_n i, 1)) (hi : (i : Nat) = 1) (hp : pc + 1 = pc') (hn : 1 < M.2.2.1) (hs : (a0 :: a1 :: r).all ax_sm = true) (k : AX G l M d pc' (a0 :: .ref x :: r) st n z h n' z' Q) : AX G l M d pc (a0 :: a1 :: r) (.ref x :: st) n z h n' z' Q := ax_astore_n hd hi hp hn hs k
theorem ax_iinc1 {i : Int} {a0 : Value} {r : List Value} {x v : Int32} (hd : decode M.2.1 pc = .ok (.iinc 1 i, 3)) (hp : pc + 3 = pc') (hv : x + Int32.ofInt i = v) (hn : 1 < M.2.2.1) (hs : (a0 :: .int x :: r).all ax_sm = true) (k : AX G l M d pc' (a0 :: .int v :: r) st n z h n' z' Q) : AX G l M d pc (a0 :: .int x :: r) st n z h n' z' Q := ax_iinc_g hd hp rfl hv hn hs k
theorem ax_ist2 {i : Fin 4} {a0 a1 a2 : Value} {r : List Value} {x : Int32} (hd : decode M.2.1 pc = .ok (.istore_n i, 1)) (hi : (i : Nat) = 2) (hp : pc + 1 = pc') (hn : 2 < M.2.2.1) (hs : (a0 :: a1 :: a2 :: r).all ax_sm = true) (k : AX G l M d pc' (a0 :: a1 :: .int x :: r) st n z h n' z' Q) : AX G l M d pc (a0 :: a1 :: a2 :: r) (.int x :: st) n z h n' z' Q := ax_istore_n hd hi hp hn hs k
theorem ax_ast2 {i : Fin 4} {a0 a1 a2 : Value} {r : List Value} {x : Nat} (hd : decode M.2.1 pc = .ok (.astore_n i, 1)) (hi : (i : Nat) = 2) (hp : pc + 1 = pc') (hn : 2 < M.2.2.1) (hs : (a0 :: a1 :: a2 :: r).all ax_sm = true) (k : AX G l M d pc' (a0 :: a1 :: .ref x :: r) st n z h n' z' Q) : AX G l M d pc (a0 :: a1 :: a2 :: r) (.ref x :: st) n z h n' z' Q := ax_astore_n hd hi hp hn hs k
theorem ax_iinc2 {i : Int} {a0 a1 : Value} {r : List Value} {x v : Int32} (hd : decode M.2.1 pc = .ok (.iinc 2 i, 3)) (hp : pc + 3 = pc') (hv : x + Int32.ofInt i = v) (hn : 2 < M.2.2.1) (hs : (a0 :: a1 :: .int x :: r).all ax_sm = true) (k : AX G l M d pc' (a0 :: a1 :: .int v :: r) st n z h n' z' Q) : AX G l M d pc (a0 :: a1 :: .int x :: r) st n z h n' z' Q := ax_iinc_g hd hp rfl hv hn hs k
theorem ax_ist3 {i : Fin 4} {a0 a1 a2 a3 : Value} {r : List Value} {x : Int32} (hd : decode M.2.1 pc = .ok (.istore_n i, 1)) (hi : (i : Nat) = 3) (hp : pc + 1 = pc') (hn : 3 < M.2.2.1) (hs : (a0 :: a1 :: a2 :: a3 :: r).all ax_sm = true) (k : AX G l M d pc' (a0 :: a1 :: a2 :: .int x :: r) st n z h n' z' Q) : AX G l M d pc (a0 :: a1 :: a2 :: a3 :: r) (.int x :: st) n z h n' z' Q := ax_istore_n hd hi hp hn hs k
theorem ax_ast3 {i : Fin 4} {a0 a1 a2 a3 : Value} {r : List Value} {x : Nat} (hd : decode M.2.1 pc = .ok (.astore_n i, 1)) (hi : (i : Nat) = 3) (hp : pc + 1 = pc') (hn : 3 < M.2.2.1) (hs : (a0 :: a1 :: a2 :: a3 :: r).all ax_sm = true) (k : AX G l M d pc' (a0 :: a1 :: a2 :: .ref x :: r) st n z h n' z' Q) : AX G l M d pc (a0 :: a1 :: a2 :: a3 :: r) (.ref x :: st) n z h n' z' Q := ax_astore_n hd hi hp hn hs k
theorem ax_iinc3 {i : Int} {a0 a1 a2 : Value} {r : List Value} {x v : Int32} (hd : decode M.2.1 pc = .ok (.iinc 3 i, 3)) (hp : pc + 3 = pc') (hv : x + Int32.ofInt i = v) (hn : 3 < M.2.2.1) (hs : (a0 :: a1 :: a2 :: .int x :: r).all ax_sm = true) (k : AX G l M d pc' (a0 :: a1 :: a2 :: .int v :: r) st n z h n' z' Q) : AX G l M d pc (a0 :: a1 :: a2 :: .int x :: r) st n z h n' z' Q := ax_iinc_g hd hp rfl hv hn hs k
theorem ax_ist4 {a0 a1 a2 a3 a4 : Value} {r : List Value} {x : Int32} (hd : decode M.2.1 pc = .ok (.istore 4, 2)) (hp : pc + 2 = pc') (hn : 4 < M.2.2.1) (hs : (a0 :: a1 :: a2 :: a3 :: a4 :: r).all ax_sm = true) (k : AX G l M d pc' (a0 :: a1 :: a2 :: a3 :: .int x :: r) st n z h n' z' Q) : AX G l M d pc (a0 :: a1 :: a2 :: a3 :: a4 :: r) (.int x :: st) n z h n' z' Q := ax_istore hd hp hn hs k
theorem ax_ast4 {a0 a1 a2 a3 a4 : Value} {r : List Value} {x : Nat} (hd : decode M.2.1 pc = .ok (.astore 4, 2)) (hp : pc + 2 = pc') (hn : 4 < M.2.2.1) (hs : (a0 :: a1 :: a2 :: a3 :: a4 :: r).all ax_sm = true) (k : AX G l M d pc' (a0 :: a1 :: a2 :: a3 :: .ref x :: r) st n z h n' z' Q) : AX G l M d pc (a0 :: a1 :: a2 :: a3 :: a4 :: r) (.ref x :: st) n z h n' z' Q := ax_astore hd hp hn hs k
theorem ax_iinc4 {i : Int} {a0 a1 a2 a3 : Value} {r : List Value} {x v : Int32} (hd : decode M.2.1 pc = .ok (.iinc 4 i, 3)) (hp : pc + 3 = pc') (hv : x + Int32.ofInt i = v) (hn : 4 < M.2.2.1) (hs : (a0 :: a1 :: a2 :: a3 :: .int x :: r).all ax_sm = true) (k : AX G l M d pc' (a0 :: a1 :: a2 :: a3 :: .int v :: r) st n z h n' z' Q) : AX G l M d pc (a0 :: a1 :: a2 :: a3 :: .int x :: r) st n z h n' z' Q := ax_iinc_g hd hp rfl hv hn hs k
theorem ax_ist5 {a0 a1 a2 a3 a4 a5 : Value} {r : List Value} {x : Int32} (hd : decode M.2.1 pc = .ok (.istore 5, 2)) (hp : pc + 2 = pc') (hn : 5 < M.2.2.1) (hs : (a0 :: a1 :: a2 :: a3 :: a4 :: a5 :: r).all ax_sm = true) (k : AX G l M d pc' (a0 :: a1 :: a2 :: a3 :: a4 :: .int x :: r) st n z h n' z' Q) : AX G l M d pc (a0 :: a1 :: a2 :: a3 :: a4 :: a5 :: r) (.int x :: st) n z h n' z' Q := ax_istore hd hp hn hs k
theorem ax_ast5 {a0 a1 a2 a3 a4 a5 : Value} {r : List Value} {x : Nat} (hd : decode M.2.1 pc = .ok (.astore 5, 2)) (hp : pc + 2 = pc') (hn : 5 < M.2.2.1) (hs : (a0 :: a1 :: a2 :: a3 :: a4 :: a5 :: r).all ax_sm = true) (k : AX G l M d pc' (a0 :: a1 :: a2 :: a3 :: a4 :: .ref x :: r) st n z h n' z' Q) : AX G l M d pc (a0 :: a1 :: a2 :: a3 :: a4 :: a5 :: r) (.ref x :: st) n z h n' z' Q := ax_astore hd hp hn hs k
theorem ax_iinc5 {i : Int} {a0 a1 a2 a3 a4 : Value} {r : List Value} {x v : Int32} (hd : decode M.2.1 pc = .ok (.iinc 5 i, 3)) (hp : pc + 3 = pc') (hv : x + Int32.ofInt i = v) (hn : 5 < M.2.2.1) (hs : (a0 :: a1 :: a2 :: a3 :: a4 :: .int x :: r).all ax_sm = true) (k : AX G l M d pc' (a0 :: a1 :: a2 :: a3 :: a4 :: .int v :: r) st n z h n' z' Q) : AX G l M d pc (a0 :: a1 :: a2 :: a3 :: a4 :: .int x :: r) st n z h n' z' Q := ax_iinc_g hd hp rfl hv hn hs k
theorem ax_ist6 {a0 a1 a2 a3 a4 a5 a6 : Value} {r : List Value} {x : Int32} (hd : decode M.2.1 pc = .ok (.istore 6, 2)) (hp : pc + 2 = pc') (hn : 6 < M.2.2.1) (hs : (a0 :: a1 :: a2 :: a3 :: a4 :: a5 :: a6 :: r).all ax_sm = true) (k : AX G l M d pc' (a0 :: a1 :: a2 :: a3 :: a4 :: a5 :: .int x :: r) st n z h n' z' Q) : AX G l M d pc (a0 :: a1 :: a2 :: a3 :: a4 :: a5 :: a6 :: r) (.int x :: st) n z h n' z' Q := ax_istore hd hp hn hs k
theorem ax_ast6 {a0 a1 a2 a3 a4 a5 a6 : Value} {r : List Value} {x : Nat} (hd : decode M.2.1 pc = .ok (.astore 6, 2)) (hp : pc + 2 = pc') (hn : 6 < M.2.2.1) (hs : (a0 :: a1 :: a2 :: a3 :: a4 :: a5 :: a6 :: r).all ax_sm = true) (k : AX G l M d pc' (a0 :: a1 :: a2 :: a3 :: a4 :: a5 :: .ref x :: r) st n z h n' z' Q) : AX G l M d pc (a0 :: a1 :: a2 :: a3 :: a4 :: a5 :: a6 :: r) (.ref x :: st) n z h n' z' Q := ax_astore hd hp hn hs k
theorem ax_iinc6 {i : Int} {a0 a1 a2 a3 a4 a5 : Value} {r : List Value} {x v : Int32} (hd : decode M.2.1 pc = .ok (.iinc 6 i, 3)) (hp : pc + 3 = pc') (hv : x + Int32.ofInt i = v) (hn : 6 < M.2.2.1) (hs : (a0 :: a1 :: a2 :: a3 :: a4 :: a5 :: .int x :: r).all ax_sm = true) (k : AX G l M d pc' (a0 :: a1 :: a2 :: a3 :: a4 :: a5 :: .int v :: r) st n z h n' z' Q) : AX G l M d pc (a0 :: a1 :: a2 :: a3 :: a4 :: a5 :: .int x :: r) st n z h n' z' Q := ax_iinc_g hd hp rfl hv hn hs k
theorem ax_ist7 {a0 a1 a2 a3 a4 a5 a6 a7 : Value} {r : List Value} {x : Int32} (hd : decode M.2.1 pc = .ok (.istore 7, 2)) (hp : pc + 2 = pc') (hn : 7 < M.2.2.1) (hs : (a0 :: a1 :: a2 :: a3 :: a4 :: a5 :: a6 :: a7 :: r).all ax_sm = true) (k : AX G l M d pc' (a0 :: a1 :: a2 :: a3 :: a4 :: a5 :: a6 :: .int x :: r) st n z h n' z' Q) : AX G l M d pc (a0 :: a1 :: a2 :: a3 :: a4 :: a5 :: a6 :: a7 :: r) (.int x :: st) n z h n' z' Q := ax_istore hd hp hn hs k
theorem ax_ast7 {a0 a1 a2 a3 a4 a5 a6 a7 : Value} {r : List Value} {x : Nat} (hd : decode M.2.1 pc = .ok (.astore 7, 2)) (hp : pc + 2 = pc') (hn : 7 < M.2.2.1) (hs : (a0 :: a1 :: a2 :: a3 :: a4 :: a5 :: a6 :: a7 :: r).all ax_sm = true) (k : AX G l M d pc' (a0 :: a1 :: a2 :: a3 :: a4 :: a5 :: a6 :: .ref x :: r) st n z h n' z' Q) : AX G l M d pc (a0 :: a1 :: a2 :: a3 :: a4 :: a5 :: a6 :: a7 :: r) (.ref x :: st) n z h n' z' Q := ax_astore hd hp hn hs k
theorem ax_iinc7 {i : Int} {a0 a1 a2 a3 a4 a5 a6 : Value} {r : List Value} {x v : Int32} (hd : decode M.2.1 pc = .ok (.iinc 7 i, 3)) (hp : pc + 3 = pc') (hv : x + Int32.ofInt i = v) (hn : 7 < M.2.2.1) (hs : (a0 :: a1 :: a2 :: a3 :: a4 :: a5 :: a6 :: .int x :: r).all ax_sm = true) (k : AX G l M d pc' (a0 :: a1 :: a2 :: a3 :: a4 :: a5 :: a6 :: .int v :: r) st n z h n' z' Q) : AX G l M d pc (a0 :: a1 :: a2 :: a3 :: a4 :: a5 :: a6 :: .int x :: r) st n z h n' z' Q := ax_iinc_g hd hp rfl hv hn hs k
theorem ax_ist8 {a0 a1 a2 a3 a4 a5 a6 a7 a8 : Value} {r : List Value} {x : Int32} (hd : decode M.2.1 pc = .ok (.istore 8, 2)) (hp : pc + 2 = pc') (hn : 8 < M.2.2.1) (hs : (a0 :: a1 :: a2 :: a3 :: a4 :: a5 :: a6 :: a7 :: a8 :: r).all ax_sm = true) (k : AX G l M d pc' (a0 :: a1 :: a2 :: a3 :: a4 :: a5 :: a6 :: a7 :: .int x :: r) st n z h n' z' Q) : AX G l M d pc (a0 :: a1 :: a2 :: a3 :: a4 :: a5 :: a6 :: a7 :: a8 :: r) (.int x :: st) n z h n' z' Q := ax_istore hd hp hn hs k
theorem ax_ast8 {a0 a1 a2 a3 a4 a5 a6 a7 a8 : Value} {r : List Value} {x : Nat} (hd : decode M.2.1 pc = .ok (.astore 8, 2)) (hp : pc + 2 = pc') (hn : 8 < M.2.2.1) (hs : (a0 :: a1 :: a2 :: a3 :: a4 :: a5 :: a6 :: a7 :: a8 :: r).all ax_sm = true) (k : AX G l M d pc' (a0 :: a1 :: a2 :: a3 :: a4 :: a5 :: a6 :: a7 :: .ref x :: r) st n z h n' z' Q) : AX G l M d pc (a0 :: a1 :: a2 :: a3 :: a4 :: a5 :: a6 :: a7 :: a8 :: r) (.ref x :: st) n z h n' z' Q := ax_astore hd hp hn hs k
theorem ax_iinc8 {i : Int} {a0 a1 a2 a3 a4 a5 a6 a7 : Value} {r : List Value} {x v : Int32} (hd : decode M.2.1 pc = .ok (.iinc 8 i, 3)) (hp : pc + 3 = pc') (hv : x + Int32.ofInt i = v) (hn : 8 < M.2.2.1) (hs : (a0 :: a1 :: a2 :: a3 :: a4 :: a5 :: a6 :: a7 :: .int x :: r).all ax_sm = true) (k : AX G l M d pc' (a0 :: a1 :: a2 :: a3 :: a4 :: a5 :: a6 :: a7 :: .int v :: r) st n z h n' z' Q) : AX G l M d pc (a0 :: a1 :: a2 :: a3 :: a4 :: a5 :: a6 :: a7 :: .int x :: r) st n z h n' z' Q := ax_iinc_g hd hp rfl hv hn hs k
theorem ax_ist9 {a0 a1 a2 a3 a4 a5 a6 a7 a8 a9 : Value} {r : List Value} {x : Int32} (hd : decode M.2.1 pc = .ok (.istore 9, 2)) (hp : pc + 2 = pc') (hn : 9 < M.2.2.1) (hs : (a0 :: a1 :: a2 :: a3 :: a4 :: a5 :: a6 :: a7 :: a8 :: a9 :: r).all ax_sm = true) (k : AX G l M d pc' (a0 :: a1 :: a2 :: a3 :: a4 :: a5 :: a6 :: a7 :: a8 :: .int x :: r) st n z h n' z' Q) : AX G l M d pc (a0 :: a1 :: a2 :: a3 :: a4 :: a5 :: a6 :: a7 :: a8 :: a9 :: r) (.int x :: st) n z h n' z' Q := ax_istore hd hp hn hs k
theorem ax_ast9 {a0 a1 a2 a3 a4 a5 a6 a7 a8 a9 : Value} {r : List Value} {x : Nat} (hd : decode M.2.1 pc = .ok (.astore 9, 2)) (hp : pc + 2 = pc') (hn : 9 < M.2.2.1) (hs : (a0 :: a1 :: a2 :: a3 :: a4 :: a5 :: a6 :: a7 :: a8 :: a9 :: r).all ax_sm = true) (k : AX G l M d pc' (a0 :: a1 :: a2 :: a3 :: a4 :: a5 :: a6 :: a7 :: a8 :: .ref x :: r) st n z h n' z' Q) : AX G l M d pc (a0 :: a1 :: a2 :: a3 :: a4 :: a5 :: a6 :: a7 :: a8 :: a9 :: r) (.ref x :: st) n z h n' z' Q := ax_astore hd hp hn hs k
theorem ax_iinc9 {i : Int} {a0 a1 a2 a3 a4 a5 a6 a7 a8 : Value} {r : List Value} {x v : Int32} (hd : decode M.2.1 pc = .ok (.iinc 9 i, 3)) (hp : pc + 3 = pc') (hv : x + Int32.ofInt i = v) (hn : 9 < M.2.2.1) (hs : (a0 :: a1 :: a2 :: a3 :: a4 :: a5 :: a6 :: a7 :: a8 :: .int x :: r).all ax_sm = true) (k : AX G l M d pc' (a0 :: a1 :: a2 :: a3 :: a4 :: a5 :: a6 :: a7 :: a8 :: .int v :: r) st n z h n' z' Q) : AX G l M d pc (a0 :: a1 :: a2 :: a3 :: a4 :: a5 :: a6 :: a7 :: a8 :: .int x :: r) st n z h n' z' Q := ax_iinc_g hd hp rfl hv hn hs k
theorem ax_ist10 {a0 a1 a2 a3 a4 a5 a6 a7 a8 a9 a10 : Value} {r : List Value} {x : Int32} (hd : decode M.2.1 pc = .ok (.istore 10, 2)) (hp : pc + 2 = pc') (hn : 10 < M.2.2.1) (hs : (a0 :: a1 :: a2 :: a3 :: a4 :: a5 :: a6 :: a7 :: a8 :: a9 :: a10 :: r).all ax_sm = true) (k : AX G l M d pc' (a0 :: a1 :: a2 :: a3 :: a4 :: a5 :: a6 :: a7 :: a8 :: a9 :: .int x :: r) st n z h n' z' Q) : AX G l M d pc (a0 :: a1 :: a2 :: a3 :: a4 :: a5 :: a6 :: a7 :: a8 :: a9 :: a10 :: r) (.int x :: st) n z h n' z' Q := ax_istore hd hp hn hs k
theorem ax_ast10 {a0 a1 a2 a3 a4 a5 a6 a7 a8 a9 a10 : Value} {r : List Value} {x : Nat} (hd : decode M.2.1 pc = .ok (.astore 10, 2)) (hp : pc + 2 = pc') (hn : 10 < M.2.2.1) (hs : (a0 :: a1 :: a2 :: a3 :: a4 :: a5 :: a6 :: a7 :: a8 :: a9 :: a10 :: r).all ax_sm = true) (k : AX G l M d pc' (a0 :: a1 :: a2 :: a3 :: a4 :: a5 :: a6 :: a7 :: a8 :: a9 :: .ref x :: r) st n z h n' z' Q) : AX G l M d pc (a0 :: a1 :: a2 :: a3 :: a4 :: a5 :: a6 :: a7 :: a8 :: a9 :: a10 :: r) (.ref x :: st) n z h n' z' Q := ax_astore hd hp hn hs k
theorem ax_iinc10 {i : Int} {a0 a1 a2 a3 a4 a5 a6 a7 a8 a9 : Value} {r : List Value} {x v : Int32} (hd : decode M.2.1 pc = .ok (.iinc 10 i, 3)) (hp : pc + 3 = pc') (hv : x + Int32.ofInt i = v) (hn : 10 < M.2.2.1) (hs : (a0 :: a1 :: a2 :: a3 :: a4 :: a5 :: a6 :: a7 :: a8 :: a9 :: .int x :: r).all ax_sm = true) (k : AX G l M d pc' (a0 :: a1 :: a2 :: a3 :: a4 :: a5 :: a6 :: a7 :: a8 :: a9 :: .int v :: r) st n z h n' z' Q) : AX G l M d pc (a0 :: a1 :: a2 :: a3 :: a4 :: a5 :: a6 :: a7 :: a8 :: a9 :: .int x :: r) st n z h n' z' Q := ax_iinc_g hd hp rfl hv hn hs k
theorem ax_ist11 {a0 a1 a2 a3 a4 a5 a6 a7 a8 a9 a10 a11 : Value} {r : List Value} {x : Int32} (hd : decode M.2.1 pc = .ok (.istore 11, 2)) (hp : pc + 2 = pc') (hn : 11 < M.2.2.1) (hs : (a0 :: a1 :: a2 :: a3 :: a4 :: a5 :: a6 :: a7 :: a8 :: a9 :: a10 :: a11 :: r).all ax_sm = true) (k : AX G l M d pc' (a0 :: a1 :: a2 :: a3 :: a4 :: a5 :: a6 :: a7 :: a8 :: a9 :: a10 :: .int x :: r) st n z h n' z' Q) : AX G l M d pc (a0 :: a1 :: a2 :: a3 :: a4 :: a5 :: a6 :: a7 :: a8 :: a9 :: a10 :: a11 :: r) (.int x :: st) n z h n' z' Q := ax_istore hd hp hn hs k
theorem ax_ast11 {a0 a1 a2 a3 a4 a5 a6 a7 a8 a9 a10 a11 : Value} {r : List Value} {x : Nat} (hd : decode M.2.1 pc = .ok (.astore 11, 2)) (hp : pc + 2 = pc') (hn : 11 < M.2.2.1) (hs : (a0 :: a1 :: a2 :: a3 :: a4 :: a5 :: a6 :: a7 :: a8 :: a9 :: a10 :: a11 :: r).all ax_sm = true) (k : AX G l M d pc' (a0 :: a1 :: a2 :: a3 :: a4 :: a5 :: a6 :: a7 :: a8 :: a9 :: a10 :: .ref x :: r) st n z h n' z' Q) : AX G l M d pc (a0 :: a1 :: a2 :: a3 :: a4 :: a5 :: a6 :: a7 :: a8 :: a9 :: a10 :: a11 :: r) (.ref x :: st) n z h n' z' Q := ax_astore hd hp hn hs k
theorem ax_iinc11 {i : Int} {a0 a1 a2 a3 a4 a5 a6 a7 a8 a9 a10 : Value} {r : List Value} {x v : Int32} (hd : decode M.2.1 pc = .ok (.iinc 11 i, 3)) (hp : pc + 3 = pc') (hv : x + Int32.ofInt i = v) (hn : 11 < M.2.2.1) (hs : (a0 :: a1 :: a2 :: a3 :: a4 :: a5 :: a6 :: a7 :: a8 :: a9 :: a10 :: .int x :: r).all ax_sm = true) (k : AX G l M d pc' (a0 :: a1 :: a2 :: a3 :: a4 :: a5 :: a6 :: a7 :: a8 :: a9 :: a10 :: .int v :: r) st n z h n' z' Q) : AX G l M d pc (a0 :: a1 :: a2 :: a3 :: a4 :: a5 :: a6 :: a7 :: a8 :: a9 :: a10 :: .int x :: r) st n z h n' z' Q := ax_iinc_g hd hp rfl hv hn hs k
theorem ax_ist12 {a0 a1 a2 a3 a4 a5 a6 a7 a8 a9 a10 a11 a12 : Value} {r : List Value} {x : Int32} (hd : decode M.2.1 pc = .ok (.istore 12, 2)) (hp : pc + 2 = pc') (hn : 12 < M.2.2.1) (hs : (a0 :: a1 :: a2 :: a3 :: a4 :: a5 :: a6 :: a7 :: a8 :: a9 :: a10 :: a11 :: a12 :: r).all ax_sm = true) (k : AX G l M d pc' (a0 :: a1 :: a2 :: a3 :: a4 :: a5 :: a6 :: a7 :: a8 :: a9 :: a10 :: a11 :: .int x :: r) st n z h n' z' Q) : AX G l M d pc (a0 :: a1 :: a2 :: a3 :: a4 :: a5 :: a6 :: a7 :: a8 :: a9 :: a10 :: a11 :: a12 :: r) (.int x :: st) n z h n' z' Q := ax_istore hd hp hn hs k
theorem ax_ast12 {a0 a1 a2 a3 a4 a5 a6 a7 a8 a9 a10 a11 a12 : Value} {r : List Value} {x : Nat} (hd : decode M.2.1 pc = .ok (.astore 12, 2)) (hp : pc + 2 = pc') (hn : 12 < M.2.2.1) (hs : (a0 :: a1 :: a2 :: a3 :: a4 :: a5 :: a6 :: a7 :: a8 :: a9 :: a10 :: a11 :: a12 :: r).all ax_sm = true) (k : AX G l M d pc' (a0 :: a1 :: a2 :: a3 :: a4 :: a5 :: a6 :: a7 :: a8 :: a9 :: a10 :: a11 :: .ref x :: r) st n z h n' z' Q) : AX G l M d pc (a0 :: a1 :: a2 :: a3 :: a4 :: a5 :: a6 :: a7 :: a8 :: a9 :: a10 :: a11 :: a12 :: r) (.ref x :: st) n z h n' z' Q := ax_astore hd hp hn hs k
theorem ax_iinc12 {i : Int} {a0 a1 a2 a3 a4 a5 a6 a7 a8 a9 a10 a11 : Value} {r : List Value} {x v : Int32} (hd : decode M.2.1 pc = .ok (.iinc 12 i, 3)) (hp : pc + 3 = pc') (hv : x + Int32.ofInt i = v) (hn : 12 < M.2.2.1) (hs : (a0 :: a1 :: a2 :: a3 :: a4 :: a5 :: a6 :: a7 :: a8 :: a9 :: a10 :: a11 :: .int x :: r).all ax_sm = true) (k : AX G l M d pc' (a0 :: a1 :: a2 :: a3 :: a4 :: a5 :: a6 :: a7 :: a8 :: a9 :: a10 :: a11 :: .int v :: r) st n z h n' z' Q) : AX G l M d pc (a0 :: a1 :: a2 :: a3 :: a4 :: a5 :: a6 :: a7 :: a8 :: a9 :: a10 :: a11 :: .int x :: r) st n z h n' z' Q := ax_iinc_g hd hp rfl hv hn hs k
theorem ax_ist13 {a0 a1 a2 a3 a4 a5 a6 a7 a8 a9 a10 a11 a12 a13 : Value} {r : List Value} {x : Int32} (hd : decode M.2.1 pc = .ok (.istore 13, 2)) (hp : pc + 2 = pc') (hn : 13 < M.2.2.1) (hs : (a0 :: a1 :: a2 :: a3 :: a4 :: a5 :: a6 :: a7 :: a8 :: a9 :: a10 :: a11 :: a12 :: a13 :: r).all ax_sm = true) (k : AX G l M d pc' (a0 :: a1 :: a2 :: a3 :: a4 :: a5 :: a6 :: a7 :: a8 :: a9 :: a10 :: a11 :: a12 :: .int x :: r) st n z h n' z' Q) : AX G l M d pc (a0 :: a1 :: a2 :: a3 :: a4 :: a5 :: a6 :: a7 :: a8 :: a9 :: a10 :: a11 :: a12 :: a13 :: r) (.int x :: st) n z h n' z' Q := ax_istore hd hp hn hs k
theorem ax_ast13 {a0 a1 a2 a3 a4 a5 a6 a7 a8 a9 a10 a11 a12 a13 : Value} {r : List Value} {x : Nat} (hd : decode M.2.1 pc = .ok (.astore 13, 2)) (hp : pc + 2 = pc') (hn : 13 < M.2.2.1) (hs : (a0 :: a1 :: a2 :: a3 :: a4 :: a5 :: a6 :: a7 :: a8 :: a9 :: a10 :: a11 :: a12 :: a13 :: r).all ax_sm = true) (k : AX G l M d pc' (a0 :: a1 :: a2 :: a3 :: a4 :: a5 :: a6 :: a7 :: a8 :: a9 :: a10 :: a11 :: a12 :: .ref x :: r) st n z h n' z' Q) : AX G l M d pc (a0 :: a1 :: a2 :: a3 :: a4 :: a5 :: a6 :: a7 :: a8 :: a9 :: a10 :: a11 :: a12 :: a13 :: r) (.ref x :: st) n z h n' z' Q := ax_astore hd hp hn hs k
theorem ax_iinc13 {i : Int} {a0 a1 a2 a3 a4 a5 a6 a7 a8 a9 a10 a11 a12 : Value} {r : List Value} {x v : Int32} (hd : decode M.2.1 pc = .ok (.iinc 13 i, 3)) (hp : pc + 3 = pc') (hv : x + Int32.ofInt i = v) (hn : 13 < M.2.2.1) (hs : (a0 :: a1 :: a2 :: a3 :: a4 :: a5 :: a6 :: a7 :: a8 :: a9 :: a10 :: a11 :: a12 :: .int x :: r).all ax_sm = true) (k : AX G l M d pc' (a0 :: a1 :: a2 :: a3 :: a4 :: a5 :: a6 :: a7 :: a8 :: a9 :: a10 :: a11 :: a12 :: .int v :: r) st n z h n' z' Q) : AX G l M d pc (a0 :: a1 :: a2 :: a3 :: a4 :: a5 :: a6 :: a7 :: a8 :: a9 :: a10 :: a11 :: a12 :: .int x :: r) st n z h n' z' Q := ax_iinc_g hd hp rfl hv hn hs k
end AXS
