/-! ===== new cells, arrays of references, arraycopy, Object.<init> ===== -/
theorem ax_ac {ty : FieldType} {a a' : Array Value} {U : State} (h : (Cond.arrayClass ty).before a U = true) : (Cond.arrayClass ty).before a' U = true := h
theorem ax_R.push {G : ax_G} {n : Nat} {h h1 : ax_H} {H H1 : Heap} (hR : ax_R G n h H) (hh : ∀ k, k < n → h1 k = h k) (hat : va_at (ax_gD G) vwCl (ax_gB G + n, ax_e G (h1 n)) H1) (z1 : H1.size = H.size + 1) (o1 : ∀ q : Nat, q < H.size → H1[q]? = H[q]?) : ax_R G (n + 1) h1 H1 := by
  refine ⟨fun k q hk => ?_, by rw [z1, hR.2]; omega⟩
  have hl : k < n + 1 := by
    have := (List.getElem?_eq_some_iff.mp hk).1
    rwa [ax_w_len] at this
  rw [ax_w_get hl] at hk
  cases hk
  by_cases hkn : k < n
  · rw [hh k hkn]
    exact (hR.1 k _ (ax_w_get hkn)).kept (o1 _ (by rw [hR.2]; exact Nat.add_lt_add_left hkn _))
  · have : k = n := by omega
    subst this
    exact hat
theorem ax_S_push {G : ax_G} {H0 H H1 : Heap} {locs : List Loc} (hS : va_S (ax_A G) H0 H locs) (z1 : H1.size = H.size + 1) (o1 : ∀ q : Nat, q < H.size → H1[q]? = H[q]?) : va_S (ax_A G) H0 H1 locs :=
  ⟨Nat.le_trans hS.1 (by omega), fun x h1 h2 => (o1 x (Nat.lt_of_lt_of_le h1 hS.1)).trans (hS.2.1 x h1 h2), hS.2.2⟩
def ax_N (own : String) (idx ci N : Nat) (fs : List Value) : Prop :=
  ∃ (C : String) (T : u_T) (ty0 : Nat → FieldType), vwCl[ci]? = some (C, T, N) ∧ (∀ w ∈ u_ws C T N, w ∈ lw_tbl) ∧ (∀ k, k < N → parseFieldDescriptor (T k).2.2.1 = some (ty0 k)) ∧ Cond.classLink own idx C ∈ lw_tbl ∧ Cond.instantiable C N ∈ lw_tbl ∧ Cond.initialized C ∈ lw_tbl ∧ ∀ j, j < N → defaultValue (ty0 j) = vp_V fs j
section AXN
variable {G : ax_G} {l : Launch} {M : ax_M} {d pc pc' : Nat} {ls st : List Value} {n z : Nat} {h : ax_H} {n' z' : Nat} {Q : Option Value → ax_H → Prop}
theorem ax_new {idx ci N : Nat} {fs : List Value} {h1 : ax_H} (hN : ax_N M.1.cls idx ci N fs) (hd : decode M.2.1 pc = .ok (.new idx, 3)) (hp : pc + 3 = pc') (hfm : fs.map (ax_v G) = fs) (hn1 : n + 1 ≤ n') (hz1 : z + N ≤ z') (hh : ∀ k, k < n → h1 k = h k) (hc : h1 n = ax_obj ci fs)
    (kk : AX G l M d pc' ls (.ref n :: st) (n + 1) (z + N) h1 n' z' Q) : AX G l M d pc ls st n z h n' z' Q := by
  subst hp
  obtain ⟨C, T, ty0, g1, g2, g3, g4, g5, g6, g7⟩ := hN
  intro p e s m args below meth c R H locs cells slots la C0 hd' hlo hn' hz hcl hsl hR hS hL
  obtain ⟨hx, hb, -, -, hown, -, -, hK⟩ := id C0
  have hKn := hK.2.1.1 ci _ g1
  refine W.newcK hx hb hown (hK.1.use g4 rfl) (hK.1.use g5 rfl) (hK.1.use g6 rfl) rfl hd (by omega) (by omega) hKn.2.1 rfl fun H1 kC hkC e1 z1 o1 => ?_
  have hat : va_at (ax_gD G) vwCl (ax_gB G + n, ax_e G (h1 n)) H1 := by
    rw [hc]
    show va_at (ax_gD G) vwCl (ax_gB G + n, .inr (ci, fs.map (ax_v G))) H1
    rw [hfm, ← hR.2]
    exact ⟨_, g1, (u_born ty0 (ax_lays (args := args) hK.1 g2) (fun _ q => q) hKn hkC e1 g3).to g7⟩
  have w := kk p e s m args below meth c R H1 locs (cells + 1) (slots + N) la C0 hd' hlo hn1 hz1 (by omega) (by omega) (hR.push hh hat z1 o1) (ax_S_push hS z1 o1) hL
  rw [show cells + 1 + (n' - (n + 1)) = cells + (n' - n) by omega, show slots + N + (z' - (z + N)) = slots + (z' - z) by omega] at w
  rw [hR.2]
  exact w
theorem ax_newi {N : Nat} {x : Int32} {h1 : ax_H} (hd : decode M.2.1 pc = .ok (.newarray .int, 2)) (hp : pc + 2 = pc') (hx0 : ¬ x < 0) (hxN : x.toNatClampNeg = N) (hN : N ≤ 65536) (hn1 : n + 1 ≤ n') (hz1 : z + N ≤ z') (hh : ∀ k, k < n → h1 k = h k) (hc : h1 n = ax_arr 0 N (fun _ => 0))
    (kk : AX G l M d pc' ls (.ref n :: st) (n + 1) (z + N) h1 n' z' Q) : AX G l M d pc ls (.int x :: st) n z h n' z' Q := by
  subst hp
  intro p e s m args below meth c R H locs cells slots la C0 hd' hlo hn' hz hcl hsl hR hS hL
  obtain ⟨hx, hb, -, -, hown, -, -, hK⟩ := id C0
  have hbs : N * componentBytes .int ≤ 536870912 := Nat.le_trans (Nat.mul_le_mul_right _ hN) (by decide)
  refine va_newaK (atype := .int) hx hb (ax_ac (ty := .int) hK.2.2.1.1) rfl hd rfl hx0 hxN hbs (by omega) (by omega) rfl fun H1 cA e1 z1 o1 hAr hNm => ?_
  have hcA : cA = ax_gA G 0 := Option.some.inj (hNm.symm.trans (hK.2.1.2 0 _ rfl).2)
  have hat : va_at (ax_gD G) vwCl (ax_gB G + n, ax_e G (h1 n)) H1 := by
    rw [hc, ← hR.2]
    show H1[H.size]? = some (vp_cell (ax_gA G 0) (N, .inl (fun _ => 0)))
    rw [e1, hcA]
    rfl
  have w := kk p e s m args below meth c R H1 locs (cells + 1) (slots + N) la C0 hd' hlo hn1 hz1 (by omega) (by omega) (hR.push hh hat z1 o1) (ax_S_push hS z1 o1) hL
  rw [show cells + 1 + (n' - (n + 1)) = cells + (n' - n) by omega, show slots + N + (z' - (z + N)) = slots + (z' - z) by omega] at w
  rw [hR.2]
  exact w
theorem ax_newz {N : Nat} {x : Int32} {h1 : ax_H} (hd : decode M.2.1 pc = .ok (.newarray .boolean, 2)) (hp : pc + 2 = pc') (hx0 : ¬ x < 0) (hxN : x.toNatClampNeg = N) (hN : N ≤ 65536) (hn1 : n + 1 ≤ n') (hz1 : z + N ≤ z') (hh : ∀ k, k < n → h1 k = h k) (hc : h1 n = ax_arr 1 N (fun _ => 0))
    (kk : AX G l M d pc' ls (.ref n :: st) (n + 1) (z + N) h1 n' z' Q) : AX G l M d pc ls (.int x :: st) n z h n' z' Q := by
  subst hp
  intro p e s m args below meth c R H locs cells slots la C0 hd' hlo hn' hz hcl hsl hR hS hL
  obtain ⟨hx, hb, -, -, hown, -, -, hK⟩ := id C0
  have hbs : N * componentBytes .boolean ≤ 536870912 := Nat.le_trans (Nat.mul_le_mul_right _ hN) (by decide)
  refine va_newaK (atype := .boolean) hx hb (ax_ac (ty := .boolean) hK.2.2.1.2.1) rfl hd rfl hx0 hxN hbs (by omega) (by omega) rfl fun H1 cA e1 z1 o1 hAr hNm => ?_
  have hcA : cA = ax_gA G 1 := Option.some.inj (hNm.symm.trans (hK.2.1.2 1 _ rfl).2)
  have hat : va_at (ax_gD G) vwCl (ax_gB G + n, ax_e G (h1 n)) H1 := by
    rw [hc, ← hR.2]
    show H1[H.size]? = some (vp_cell (ax_gA G 1) (N, .inl (fun _ => 0)))
    rw [e1, hcA]
    rfl
  have w := kk p e s m args below meth c R H1 locs (cells + 1) (slots + N) la C0 hd' hlo hn1 hz1 (by omega) (by omega) (hR.push hh hat z1 o1) (ax_S_push hS z1 o1) hL
  rw [show cells + 1 + (n' - (n + 1)) = cells + (n' - n) by omega, show slots + N + (z' - (z + N)) = slots + (z' - z) by omega] at w
  rw [hR.2]
  exact w
theorem ax_newq {N idx : Nat} {x : Int32} {h1 : ax_H} (hl : Cond.classLink M.1.cls idx RX5 ∈ lw_tbl) (hd : decode M.2.1 pc = .ok (.anewarray idx, 3)) (hp : pc + 3 = pc') (hx0 : ¬ x < 0) (hxN : x.toNatClampNeg = N) (hN : N ≤ 65536) (hn1 : n + 1 ≤ n') (hz1 : z + N ≤ z') (hh : ∀ k, k < n → h1 k = h k) (hc : h1 n = ax_arq N (fun _ => none))
    (kk : AX G l M d pc' ls (.ref n :: st) (n + 1) (z + N) h1 n' z' Q) : AX G l M d pc ls (.int x :: st) n z h n' z' Q := by
  subst hp
  subst hxN
  intro p e s m args below meth c R H locs cells slots la C0 hd' hlo hn' hz hcl hsl hR hS hL
  obtain ⟨hx, hb, -, -, hown, -, -, hK⟩ := id C0
  refine W.anew hx hb hown (hK.1.use hl rfl) (va_AO.use hK.2.2.1.2.2) rfl hd rfl hx0 (by omega) (by omega) (by omega) fun cA kA comp f1 f2 f3 f4 => ?_
  generalize hH1 : H.push ({ cls := cA, slots := Array.replicate x.toNatClampNeg .null, vm := .none } : Cell) = H1
  have z1 : H1.size = H.size + 1 := by rw [← hH1, Array.size_push]
  have e1 : H1[H.size]? = some (arrV cA x.toNatClampNeg (fun _ => .null)) := by rw [← hH1, Array.getElem?_push_size, ← arrV_new]
  have o1 : ∀ q : Nat, q < H.size → H1[q]? = H[q]? := fun q hq => by rw [← hH1, Array.getElem?_push, if_neg (Nat.ne_of_lt hq)]
  have hcA : cA = ax_gA G 2 := by
    obtain ⟨_, _, -, -, -, q⟩ := (hK.2.1.2 2 _ rfl).2
    exact Option.some.inj (f1.symm.trans q)
  have hat : va_at (ax_gD G) vwCl (ax_gB G + n, ax_e G (h1 n)) H1 := by
    rw [hc, ← hR.2]
    show H1[H.size]? = some (vp_cell (ax_gA G 2) (x.toNatClampNeg, .inr (.inr (.inr (.inr (fun _ => none))))))
    rw [e1, hcA]
    rfl
  have w := kk p e s m args below meth c R H1 locs (cells + 1) (slots + x.toNatClampNeg) la C0 hd' hlo hn1 hz1 (by omega) (by omega) (hR.push hh hat z1 o1) (ax_S_push hS z1 o1) hL
  rw [show cells + 1 + (n' - (n + 1)) = cells + (n' - n) by omega, show slots + x.toNatClampNeg + (z' - (z + x.toNatClampNeg)) = slots + (z' - z) by omega] at w
  rw [hR.2]
  exact w
theorem ax_aast {a N b : Nat} {f : Nat → Option Nat} {i : Int32} {fs : List Value} (hd : decode M.2.1 pc = .ok (.aastore, 1)) (hp : pc + 1 = pc') (ha : a < n) (hc : h a = ax_arq N f) (hb' : b < n) (hcb : h b = ax_obj 4 fs) (hin : vp_in i N)
    (kk : AX G l M d pc' ls st n z (va_up h a (ax_arq N (va_up f i.toNatClampNeg (some b)))) n' z' Q) : AX G l M d pc ls (.ref b :: .int i :: .ref a :: st) n z h n' z' Q := by
  subst hp
  intro p e s m args below meth c R H locs cells slots la C0 hd' hlo hn' hz hcl hsl hR hS hL
  obtain ⟨hx, hb, -, -, hown, -, -, hK⟩ := id C0
  have he : (ax_w G n h)[a]? = some (ax_gB G + a, .inl (ax_gA G 2, N, .inr (.inr (.inr (.inr (fun j => (f j).map (fun a => ax_gB G + a))))))) := by rw [ax_w_get ha, hc]; rfl
  have hv : (ax_w G n h)[b]? = some (ax_gB G + b, .inr (4, fs.map (ax_v G))) := by rw [ax_w_get hb', hcb]; rfl
  have hlt : i.toNatClampNeg < N := Nat.not_le.mp fun q => hin (Or.inr q)
  have h0 : ¬ i < 0 := fun q => hin (Or.inl q)
  obtain ⟨r', hr', cellV, g1, g2, g3, -⟩ := hR.1 b _ hv
  have hcls := (hK.2.1.1 4 _ rfl).2
  obtain ⟨kA, comp, k1, k2, k3, -⟩ := (hK.2.1.2 2 _ rfl).2
  have hcomp : comp = (ax_gD G).1 4 := Option.some.inj (k3.symm.trans hcls.1)
  subst hcomp
  obtain ⟨kC, hkC, -⟩ := hcls.2
  refine W.aast hx hb (hR.1 a _ he) (fun q h => by cases h) (fun h => by cases h) k1 k2 rfl hkC ⟨h0, by show _ < (arrV _ _ _).slots.size; rw [arrV_size]; exact hlt⟩ g1 (fun q h => by rw [g3] at h; cases h) (by rw [g2]; exact hkC) (by rw [g2]; exact va_assign hcls) rfl rfl hd fun H1 e1 z1 oq => ?_
  refine kk p e s m args below meth c R H1 _ cells slots la C0 hd' hlo hn' hz hcl hsl (hR.put ha ?_ z1 oq) (hS.put z1 oq (Nat.le_add_right _ _)) hL
  show H1[ax_gB G + a]? = some (vp_cell _ _)
  rw [e1]
  show some ((arrV _ _ _).setSlot _ _) = some (vp_cell _ (_, .inr (.inr (.inr (.inr _)))))
  rw [vp_cell_q, arrV_store]
  congr 2
  funext q
  by_cases hq : q = i.toNatClampNeg
  · subst hq
    simp [updV, va_up, va_rf]
  · simp [updV, va_up, hq]
theorem ax_copy {idx a0 a1 n0 n1 : Nat} {f g : Nat → Int32} {sp dp k : Int32} (hl : Cond.methodLink M.1.cls idx arraycopyName ∈ lw_tbl) (hd : decode M.2.1 pc = .ok (.invokestatic idx, 3)) (hp : pc + 3 = pc') (hst : 2 * st.length ≤ 8) (hdd : 1 ≤ d) (ha0 : a0 < n) (hc0 : h a0 = ax_arr 0 n0 f) (ha1 : a1 < n) (hc1 : h a1 = ax_arr 0 n1 g)
    (h1 : ¬ sp < 0) (h2 : ¬ dp < 0) (h3 : ¬ k < 0) (h4 : sp.toNatClampNeg + k.toNatClampNeg ≤ n0) (h5 : dp.toNatClampNeg + k.toNatClampNeg ≤ n1)
    (hw : Cond.native arraycopyName ∈ lw_tbl ∧ Cond.static arraycopyName ∈ lw_tbl ∧ Cond.initialized "java/lang/System" ∈ lw_tbl)
    (kk : AX G l M d pc' ls st n z (va_up h a1 (ax_arr 0 n1 (va_cpy f g sp.toNatClampNeg dp.toNatClampNeg k.toNatClampNeg))) n' z' Q) : AX G l M d pc ls (.int k :: .int dp :: .ref a1 :: .int sp :: .ref a0 :: st) n z h n' z' Q := by
  subst hp
  intro p e s m args below meth c R H locs cells slots la C0 hd' hlo hn' hz hcl hsl hR hS hL
  obtain ⟨hx, hb, hml, -, hown, -, -, hK⟩ := id C0
  have nn : ∀ z : Int32, ¬ z < 0 → z.toInt = (z.toNatClampNeg : Int) := by
    intro z hz
    have hz0 : (0 : Int) ≤ z.toInt := by
      have := Int32.not_lt.mp hz
      simpa using Int32.le_iff_toInt_le.mp this
    show z.toInt = ((z.toInt.toNat : Nat) : Int)
    omega
  intro T hT X
  have hc0' : H[ax_gB G + a0]? = some (vp_cell (ax_gA G 0) (n0, .inl f)) := hR.1 a0 (ax_gB G + a0, .inl (ax_gA G 0, n0, .inl f)) (by rw [ax_w_get ha0, hc0]; rfl)
  have hc1' : H[ax_gB G + a1]? = some (vp_cell (ax_gA G 0) (n1, .inl g)) := hR.1 a1 (ax_gB G + a1, .inl (ax_gA G 0, n1, .inl g)) (by rw [ax_w_get ha1, hc1]; rfl)
  obtain ⟨-, k0, hk0, cm0, hkk0⟩ := (hK.2.1.2 0 _ rfl).1 n0 (fun j => .int (f j))
  obtain ⟨-, k1, hk1, cm1, hkk1⟩ := (hK.2.1.2 0 _ rfl).1 n1 (fun j => .int (g j))
  have hsum := ax_sum (G := G) st
  obtain ⟨vm', X', step⟩ := X.arraycopy hx hown (hK.1.use hl rfl) (hK.1.use hw.1 rfl) (hK.1.use hw.2.1 rfl) (hK.1.use hw.2.2 rfl) (src := ax_gB G + a0) (dst := ax_gB G + a1) (cs := vp_cell (ax_gA G 0) (n0, .inl f)) (cd := vp_cell (ax_gA G 0) (n1, .inl g)) (srcPos := sp) (destPos := dp) (n := k) (by rw [hT]; exact hc0') (by rw [hT]; exact hc1')
    (fun _ h => by cases h) (fun _ h => by cases h) (fun h => by cases h) (fun h => by cases h) hk0 hk1 hkk0 hkk1 (by simp [refKind]) h1 h2 h3
    (by rw [nn sp h1, nn k h3]; show ¬ _ > ((arrV (ax_gA G 0) n0 (fun j => .int (f j))).slots.size : Int); rw [arrV_size]; omega)
    (by rw [nn dp h2, nn k h3]; show ¬ _ > ((arrV (ax_gA G 0) n1 (fun j => .int (g j))).slots.size : Int); rw [arrV_size]; omega)
    (fun vm₁ _ i hi => by
      have e : (vp_cell (ax_gA G 0) (n0, .inl f)).slots.getD (sp.toNatClampNeg + i) .null = .int (f (sp.toNatClampNeg + i)) := by
        show (arrV (ax_gA G 0) n0 (fun j => .int (f j))).slots.getD _ _ = _
        rw [Array.getD_eq_getD_getElem?, arrV_read _ _ (by omega)]
        rfl
      refine ⟨?_, ?_⟩
      · rw [e]
        rfl
      · rw [e]
        exact trivial)
    (g := F0 m pc la (.int k :: .int dp :: .ref (ax_gB G + a1) :: .int sp :: .ref (ax_gB G + a0) :: st.map (ax_v G))) rfl (by show la.size = c.maxLocals; rw [hml]; exact hL.1) (rest := st.map (ax_v G)) rfl (by rw [hb]; exact hd) (by omega) (by
      have e9 : nativeFrameWords "java/lang/System" "arraycopy" 5 + 11 ≤ 27 := by decide +kernel
      show 2 * 0 + _ + _ ≤ _
      omega)
  have e1 : copied (vp_cell (ax_gA G 0) (n0, .inl f)) (vp_cell (ax_gA G 0) (n1, .inl g)) sp dp k = vp_cell (ax_gA G 0) (n1, .inl (va_cpy f g sp.toNatClampNeg dp.toNatClampNeg k.toNatClampNeg)) := va_copied (fun z => .int z) (ax_gA G 0) (ax_gA G 0) f g h4
  rw [e1] at X' step
  have hl' : ax_gB G + a1 < H.size := (Array.getElem?_eq_some_iff.mp hc1').1
  have hheap : ((T.setVm vm').setCell (ax_gB G + a1) (vp_cell (ax_gA G 0) (n1, .inl (va_cpy f g sp.toNatClampNeg dp.toNatClampNeg k.toNatClampNeg)))).heap = H.setIfInBounds (ax_gB G + a1) (vp_cell (ax_gA G 0) (n1, .inl (va_cpy f g sp.toNatClampNeg dp.toNatClampNeg k.toNatClampNeg))) := by rw [← hT]; rfl
  have oq : ∀ q : Nat, q ≠ ax_gB G + a1 → (H.setIfInBounds (ax_gB G + a1) (vp_cell (ax_gA G 0) (n1, .inl (va_cpy f g sp.toNatClampNeg dp.toNatClampNeg k.toNatClampNeg))))[q]? = H[q]? := fun q hq => by simp [Array.getElem?_setIfInBounds, Ne.symm hq]
  obtain ⟨t, q1, q2⟩ := kk p e s m args below meth c R _ _ cells slots la C0 hd' hlo hn' hz hcl hsl (hR.put (c := ax_arr 0 n1 (va_cpy f g sp.toNatClampNeg dp.toNatClampNeg k.toNatClampNeg)) ha1 (show (H.setIfInBounds (ax_gB G + a1) _)[ax_gB G + a1]? = some _ by simp [Array.getElem?_setIfInBounds, hl']) (by simp) oq) ⟨by simp; exact hS.1, fun q g1 g2 => by
      rw [oq q (fun e => g2 (by rw [e]; exact Nat.le_add_right _ _))]
      exact hS.2.1 q g1 g2, fun q hq => by
      rcases List.mem_append.mp hq with h | h
      · exact hS.2.2 q h
      · obtain ⟨z, -, hz⟩ := List.mem_map.mp h
        rw [← hz]
        exact Nat.le_add_right _ _⟩ hL _ hheap X'
  exact ⟨t, step t q1, q2⟩
theorem ax_objInit {a idx : Nat} (hl : Cond.methodLink M.1.cls idx objectInit ∈ lw_tbl) (hw : Cond.instanceMethod objectInit ∈ lw_tbl ∧ Cond.code objectInit ⟨#[0xb1]⟩ 1 none ∈ lw_tbl) (hd : decode M.2.1 pc = .ok (.invokespecial idx, 3)) (hp : pc + 3 = pc') (hst : 2 * st.length ≤ 8) (hdd : 1 ≤ d)
    (kk : AX G l M d pc' ls st n z h n' z' Q) : AX G l M d pc ls (.ref a :: st) n z h n' z' Q := by
  subst hp
  intro p e s m args below meth c R H locs cells slots la C0 hd' hlo hn' hz hcl hsl hR hS hL
  obtain ⟨hx, hb, hml, -, hown, -, -, hK⟩ := id C0
  refine W.objInit hx hb hown (hK.1.use hl rfl) (hK.1.use hw.1 rfl) (hK.1.use hw.2 rfl) rfl (by show la.size = c.maxLocals; rw [hml]; exact hL.1) rfl hd (by omega) ?_ ?_
  · have h1 := lv_room (m := m) (pc := pc) (ls := la) (rest := (Value.ref a :: st).map (ax_v G)) (st := st.map (ax_v G)) (Nat.le_trans (ax_sum (G := G) st) hst)
    omega
  · exact kk p e s m args below meth c R H locs cells slots la C0 hd' hlo hn' hz hcl hsl hR hS hL
end AXN
