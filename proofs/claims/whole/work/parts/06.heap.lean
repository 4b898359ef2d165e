/-! ===== rows of AX that touch the heap; calls; entry and return ===== -/
abbrev ax_obj (ci : Nat) (fs : List Value) : ax_C := .inr (.inr (ci, fs))
abbrev ax_arr (t n : Nat) (f : Nat → Int32) : ax_C := .inl (t, n, f)
abbrev ax_arq (n : Nat) (f : Nat → Option Nat) : ax_C := .inr (.inl (n, f))
theorem ax_R.put {G : ax_G} {n a : Nat} {h : ax_H} {c : ax_C} {H H1 : Heap} (hR : ax_R G n h H) (ha : a < n) (hat : va_at (ax_gD G) vwCl (ax_gB G + a, ax_e G c) H1) (z : H1.size = H.size) (oq : ∀ q : Nat, q ≠ ax_gB G + a → H1[q]? = H[q]?) : ax_R G n (va_up h a c) H1 := by
  refine ⟨?_, z.trans hR.2⟩
  rw [← ax_w_set ha]
  exact hR.1.set ax_w_D (ax_w_get ha) hat oq
theorem ax_up_self (h : ax_H) (a : Nat) : va_up h a (h a) = h := by
  funext j
  unfold va_up
  split
  · next e => rw [e]
  · rfl
/-- a field, by its class's number and its own -/
def ax_F (own : String) (idx ci k : Nat) (ty : FieldType) (fin : Bool) : Prop :=
  ∃ (C : String) (T : u_T) (N : Nat) (ty0 : Nat → FieldType), vwCl[ci]? = some (C, T, N) ∧ (∀ w ∈ u_ws C T N, w ∈ lw_tbl) ∧ (∀ k, k < N → parseFieldDescriptor (T k).2.2.1 = some (ty0 k)) ∧ (∀ a, a < N → ∀ b, b < N → a ≠ b → (T a).2.1 ≠ (T b).2.1) ∧ k < N ∧ ty0 k = ty ∧ (T k).2.2.2 = fin ∧ (T k).1 = C ∧
    (Cond.fieldLink own idx (T k).1 (T k).2.1 (T k).2.2.1 ∈ lw_tbl ∨ ∃ host, Cond.fieldLinkNest own idx (T k).1 (T k).2.1 (T k).2.2.1 host ∈ lw_tbl)
theorem ax_lays_ok {C : String} {T : u_T} {N : Nat} : ∀ w ∈ u_ws C T N, ax_ok w = true := by
  intro w hw
  obtain ⟨k, -, rfl⟩ := List.mem_map.mp hw
  unfold u_lay
  split <;> rfl
theorem ax_lays {C : String} {T : u_T} {N : Nat} {s : State} {args : Array Value} (hT : ax_T s) (hin : ∀ w ∈ u_ws C T N, w ∈ lw_tbl) : ∀ w ∈ u_ws C T N, w.before args s = true := fun w hw => hT.use (hin w hw) (ax_lays_ok w hw)
section AXH
variable {G : ax_G} {l : Launch} {M : ax_M} {d pc pc' : Nat} {ls st : List Value} {n z : Nat} {h : ax_H} {n' z' : Nat} {Q : Option Value → ax_H → Prop}
theorem ax_get {a idx ci k : Nat} {ty : FieldType} {fin : Bool} {fs : List Value} {v : Value} (hF : ax_F M.1.cls idx ci k ty fin) (hd : decode M.2.1 pc = .ok (.getfield idx, 3)) (hp : pc + 3 = pc') (ha : a < n) (hc : h a = ax_obj ci fs) (hv : fs[k]? = some v)
    (kk : AX G l M d pc' ls (v :: st) n z h n' z' Q) : AX G l M d pc ls (.ref a :: st) n z h n' z' Q := by
  subst hp
  obtain ⟨C, T, N, ty0, h1, h2, h3, h4, h5, h6, h7, h8, h9⟩ := hF
  refine ax_go (fun p e s m args below meth c R H locs cells slots la Q' hx hb hL hown hK hS hR w => ?_) kk
  have he : (ax_w G n h)[a]? = some (ax_gB G + a, .inr (ci, fs.map (ax_v G))) := by rw [ax_w_get ha, hc]; rfl
  have hv' : (fs.map (ax_v G))[k]? = some (ax_v G v) := by rw [List.getElem?_map, hv]; rfl
  rcases h9 with h9 | ⟨host, h9⟩
  · exact va_get hx hb (ax_lays hK.1 h2) (fun _ q => q) hown hK.2.1 hR.1 a he h1 k h5 (hK.1.use h9 rfl) (fun _ q => q) hv' hd w
  · exact va_getN hx hb (ax_lays hK.1 h2) (fun _ q => q) hown hK.2.1 hR.1 a he h1 k h5 (hK.1.use h9 rfl) (fun _ q => q) hv' hd w
theorem ax_put {a idx ci k : Nat} {ty : FieldType} {fs : List Value} {v : Value} (hF : ax_F M.1.cls idx ci k ty false) (hd : decode M.2.1 pc = .ok (.putfield idx, 3)) (hp : pc + 3 = pc') (ha : a < n) (hc : h a = ax_obj ci fs) (hl : k < fs.length) (hn : narrow ty (ax_v G v) = ax_v G v) (hfit : fits ty (ax_v G v) = true)
    (kk : AX G l M d pc' ls st n z (va_up h a (ax_obj ci (fs.set k v))) n' z' Q) : AX G l M d pc ls (v :: .ref a :: st) n z h n' z' Q := by
  subst hp
  obtain ⟨C, T, N, ty0, h1, h2, h3, h4, h5, h6, h7, h8, h9⟩ := hF
  intro p e s m args below meth c R H locs cells slots la C0 hd' hlo hn' hz hcl hsl hR hS hL
  obtain ⟨hx, hb, -, -, hown, -, -, hK⟩ := id C0
  have hts := ax_lays (args := args) hK.1 h2
  have hap := va_apart (own := M.1.cls) hts (fun _ q => q) ty0 h3 h4 hK.2.1 h1
  have he : (ax_w G n h)[a]? = some (ax_gB G + a, .inr (ci, fs.map (ax_v G))) := by rw [ax_w_get ha, hc]; rfl
  obtain ⟨r, g1, cell, q1, q2, q3, q4⟩ := hR.1 a _ he
  have hr : r = (C, T, N) := Option.some.inj (g1.symm.trans h1)
  subst hr
  obtain ⟨hSl, hfc, kC, hkC, hkind⟩ := hK.2.1.1 ci _ h1
  obtain ⟨cf, kf, fi, f, hi, hsl'⟩ := hSl k h5
  have hlay := hts _ (u_in_lay h5)
  unfold u_lay at hlay
  rw [if_neg (by rw [h7]; decide)] at hlay
  have hst := (u_facts hfc hkC (u_lays hts (fun _ q => q) h5) hi).1
  have h6' := u_store hfc hkC hkind hlay hi (h3 k h5) (by rw [h6]; exact hn) (by rw [h6]; exact hfit)
  have fin : ∀ H' : Heap, H'[ax_gB G + a]? = some (cell.setSlot f.slot (ax_v G v)) → H'.size = H.size → (∀ q, q ≠ ax_gB G + a → H'[q]? = H[q]?) → W p l e R s m args below meth c H' (locs ++ [⟨ax_gB G + a, f.slot⟩]) cells slots (MQ below (ax_Qc G n' Q) args s (cells + (n' - n)) (slots + (z' - z)) (ax_A G)) (F0 m (pc + 3) la (st.map (ax_v G))) := by
    intro H' e1 e2 e3
    rw [hsl'] at e1
    refine kk p e s m args below meth c R H' _ cells slots la C0 hd' hlo hn' hz hcl hsl (hR.put ha ?_ e2 e3) (hS.put e2 e3 (Nat.le_add_right _ _)) hL
    show va_at (ax_gD G) vwCl (ax_gB G + a, .inr (ci, (fs.set k v).map (ax_v G))) H'
    rw [List.map_set]
    exact ⟨_, h1, t_OB.to (V := updV (vp_V (fs.map (ax_v G))) k (ax_v G v)) ⟨_, e1, q2, q3, t_set q4 hap h5 (ax_v G v)⟩ (fun j _ => vp_updV_set (by rw [List.length_map]; exact hl) (ax_v G v) j)⟩
  rcases h9 with h9 | ⟨host, h9⟩
  · exact W.putK hx hb (f := f) ⟨hown, hK.1.use h9 rfl, ⟨_, _, _, hi⟩, hst⟩ (by rw [q2]; exact h6') q1 q3 (by rw [hsl']; exact k2_hasslot (q4 k h5)) rfl rfl hd fin
  · exact va_WputK hx hb (f := f) hown (hK.1.use h9 rfl) hi hst (by rw [q2]; exact h6') q1 q3 (by rw [hsl']; exact k2_hasslot (q4 k h5)) rfl rfl hd fin
/-- a final field, in its own constructor -/
theorem ax_putF {a idx ci k : Nat} {ty : FieldType} {fs : List Value} {v : Value} (hF : ax_F M.1.cls idx ci k ty true) (hnest : ∃ (C : String) (T : u_T) (N : Nat), vwCl[ci]? = some (C, T, N) ∧ C = M.1.cls ∧ Cond.fieldLink M.1.cls idx (T k).1 (T k).2.1 (T k).2.2.1 ∈ lw_tbl) (hin : M.1.name = "<init>") (hd : decode M.2.1 pc = .ok (.putfield idx, 3)) (hp : pc + 3 = pc') (ha : a < n) (hc : h a = ax_obj ci fs) (hl : k < fs.length) (hn : narrow ty (ax_v G v) = ax_v G v) (hfit : fits ty (ax_v G v) = true)
    (kk : AX G l M d pc' ls st n z (va_up h a (ax_obj ci (fs.set k v))) n' z' Q) : AX G l M d pc ls (v :: .ref a :: st) n z h n' z' Q := by
  subst hp
  obtain ⟨C, T, N, ty0, h1, h2, h3, h4, h5, h6, h7, h8, -⟩ := hF
  obtain ⟨C', T', N', k1, k2, h9⟩ := hnest
  have heq : (C', T', N') = (C, T, N) := Option.some.inj (k1.symm.trans h1)
  cases heq
  intro p e s m args below meth c R H locs cells slots la C0 hd' hlo hn' hz hcl hsl hR hS hL
  obtain ⟨hx, hb, -, -, hown, -, hname, hK⟩ := id C0
  have hts := ax_lays (args := args) hK.1 h2
  have hap := va_apart (own := M.1.cls) hts (fun _ q => q) ty0 h3 h4 hK.2.1 h1
  have he : (ax_w G n h)[a]? = some (ax_gB G + a, .inr (ci, fs.map (ax_v G))) := by rw [ax_w_get ha, hc]; rfl
  obtain ⟨r, g1, cell, q1, q2, q3, q4⟩ := hR.1 a _ he
  have hr : r = (C, T, N) := Option.some.inj (g1.symm.trans h1)
  subst hr
  obtain ⟨hSl, hfc, kC, hkC, hkind⟩ := hK.2.1.1 ci _ h1
  obtain ⟨cf, kf, fi, f, hi, hsl'⟩ := hSl k h5
  have hlay := hts _ (u_in_lay h5)
  unfold u_lay at hlay
  rw [if_pos h7] at hlay
  have hst := (u_facts hfc hkC (u_lays hts (fun _ q => q) h5) hi).1
  have hcf : m.cls = cf := by
    obtain ⟨_, _, c', _, _, _, -, -, hf', -, -, -, hown2, -⟩ := Cond.laysFinal_spec hlay
    have e1 : c' = cf := by have := hi.symm.trans hf'; simp at this; exact this.1.symm
    rw [h8, k2] at hown2
    rw [← e1]; exact Option.some.inj (hown.symm.trans hown2)
  have h6' := u_fits hfc hkC hkind (Or.inr hlay) hi (h3 k h5) (by rw [h6]; exact hn) (by rw [h6]; exact hfit)
  refine W.putFinK hx hb hown (hK.1.use h9 rfl) hi hst hcf (hname.trans hin) (by rw [q2]; exact h6') q1 q3 (by rw [hsl']; exact k2_hasslot (q4 k h5)) rfl rfl hd (fun H' e1 e2 e3 => ?_)
  rw [hsl'] at e1
  refine kk p e s m args below meth c R H' _ cells slots la C0 hd' hlo hn' hz hcl hsl (hR.put ha ?_ e2 e3) (hS.put e2 e3 (Nat.le_add_right _ _)) hL
  show va_at (ax_gD G) vwCl (ax_gB G + a, .inr (ci, (fs.set k v).map (ax_v G))) H'
  rw [List.map_set]
  exact ⟨_, h1, t_OB.to (V := updV (vp_V (fs.map (ax_v G))) k (ax_v G v)) ⟨_, e1, q2, q3, t_set q4 hap h5 (ax_v G v)⟩ (fun j _ => vp_updV_set (by rw [List.length_map]; exact hl) (ax_v G v) j)⟩
/-- arrays -/
theorem ax_iald {a N : Nat} {f : Nat → Int32} {i : Int32} (hd : decode M.2.1 pc = .ok (.iaload, 1)) (hp : pc + 1 = pc') (ha : a < n) (hc : h a = ax_arr 0 N f) (hin : vp_in i N)
    (kk : AX G l M d pc' ls (.int (f i.toNatClampNeg) :: st) n z h n' z' Q) : AX G l M d pc ls (.int i :: .ref a :: st) n z h n' z' Q := by
  subst hp
  refine ax_go (fun p e s m args below meth c R H locs cells slots la Q' hx hb hL hown hK hS hR w => ?_) kk
  exact va_iald hx hb hK.2.1 hR.1 a 0 (by rw [ax_w_get ha, hc]; rfl) rfl hin hd w
theorem ax_zald {a N : Nat} {f : Nat → Int32} {i : Int32} (hd : decode M.2.1 pc = .ok (.baload, 1)) (hp : pc + 1 = pc') (ha : a < n) (hc : h a = ax_arr 1 N f) (hin : vp_in i N)
    (kk : AX G l M d pc' ls (.int (f i.toNatClampNeg) :: st) n z h n' z' Q) : AX G l M d pc ls (.int i :: .ref a :: st) n z h n' z' Q := by
  subst hp
  refine ax_go (fun p e s m args below meth c R H locs cells slots la Q' hx hb hL hown hK hS hR w => ?_) kk
  exact va_zald hx hb hK.2.1 hR.1 a 1 (by rw [ax_w_get ha, hc]; rfl) rfl hin hd w
theorem ax_aald {a N b : Nat} {f : Nat → Option Nat} {i : Int32} (hd : decode M.2.1 pc = .ok (.aaload, 1)) (hp : pc + 1 = pc') (ha : a < n) (hc : h a = ax_arq N f) (hin : vp_in i N) (hf : f i.toNatClampNeg = some b)
    (kk : AX G l M d pc' ls (.ref b :: st) n z h n' z' Q) : AX G l M d pc ls (.int i :: .ref a :: st) n z h n' z' Q := by
  subst hp
  refine ax_go (fun p e s m args below meth c R H locs cells slots la Q' hx hb hL hown hK hS hR w => ?_) kk
  refine va_aldq hx hb hK.2.1 hR.1 a 2 (C := RX5) (by rw [ax_w_get ha, hc]; rfl) rfl hin hd ?_
  dsimp only
  rw [hf]
  exact w
theorem ax_alen {a N : Nat} {t : Nat} {f : Nat → Int32} (hd : decode M.2.1 pc = .ok (.arraylength, 1)) (hp : pc + 1 = pc') (ht : t < 2) (ha : a < n) (hc : h a = ax_arr t N f)
    (kk : AX G l M d pc' ls (.int (Int32.ofNat N) :: st) n z h n' z' Q) : AX G l M d pc ls (.ref a :: st) n z h n' z' Q := by
  subst hp
  refine ax_go (fun p e s m args below meth c R H locs cells slots la Q' hx hb hL hown hK hS hR w => ?_) kk
  have h2 : t = 0 ∨ t = 1 := by omega
  rcases h2 with rfl | rfl
  · exact va_alen hx hb hK.2.1 hR.1 a 0 (cA := ax_gA G 0) (x := (N, .inl f)) (ty := .int) (by rw [ax_w_get ha, hc]; rfl) rfl rfl hd w
  · exact va_alen hx hb hK.2.1 hR.1 a 1 (cA := ax_gA G 1) (x := (N, .inl f)) (ty := .boolean) (by rw [ax_w_get ha, hc]; rfl) rfl rfl hd w
theorem ax_sld {x : UInt64} {i : Int32} (hd : decode M.2.1 pc = .ok (.iaload, 1)) (hp : pc + 1 = pc') (hin : vp_in i (ax_gL G))
    (kk : AX G l M d pc' ls (.int (ax_gX G i.toNatClampNeg) :: st) n z h n' z' Q) : AX G l M d pc ls (.int i :: .double x :: st) n z h n' z' Q := by
  subst hp
  refine ax_go (fun p e s m args below meth c R H locs cells slots la Q' hx hb hL hown hK hS hR w => ?_) kk
  obtain ⟨-, -, -, hX, hbB, hB⟩ := hK
  exact va_sld hx hb hX (Nat.lt_of_lt_of_le hbB hB) (Nat.not_le.mpr hbB) hS hin hd w
theorem ax_slen {x : UInt64} (hd : decode M.2.1 pc = .ok (.arraylength, 1)) (hp : pc + 1 = pc')
    (kk : AX G l M d pc' ls (.int (Int32.ofNat (ax_gL G)) :: st) n z h n' z' Q) : AX G l M d pc ls (.double x :: st) n z h n' z' Q := by
  subst hp
  refine ax_go (fun p e s m args below meth c R H locs cells slots la Q' hx hb hL hown hK hS hR w => ?_) kk
  obtain ⟨-, -, -, hX, hbB, hB⟩ := hK
  exact va_slen hx hb hX (Nat.lt_of_lt_of_le hbB hB) (Nat.not_le.mpr hbB) hS hd w
theorem ax_iast {a N : Nat} {f : Nat → Int32} {i x : Int32} (hd : decode M.2.1 pc = .ok (.iastore, 1)) (hp : pc + 1 = pc') (ha : a < n) (hc : h a = ax_arr 0 N f) (hin : vp_in i N)
    (kk : AX G l M d pc' ls st n z (va_up h a (ax_arr 0 N (upd f i.toNatClampNeg x))) n' z' Q) : AX G l M d pc ls (.int x :: .int i :: .ref a :: st) n z h n' z' Q := by
  subst hp
  intro p e s m args below meth c R H locs cells slots la C0 hd' hlo hn' hz hcl hsl hR hS hL
  obtain ⟨hx, hb, -, -, hown, -, -, hK⟩ := id C0
  have he : (ax_w G n h)[a]? = some (ax_gB G + a, .inl (ax_gA G 0, N, .inl f)) := by rw [ax_w_get ha, hc]; rfl
  refine W.iast hx hb (hR.1 a _ he) ((hK.2.1.2 0 _ rfl).1 N (fun j => .int (f j))) (fun q => by cases q) (by show ¬ (i < 0 ∨ (arrV _ _ _).slots.size ≤ _); rw [arrV_size]; exact hin) rfl rfl hd fun H1 e1 z1 oq => ?_
  refine kk p e s m args below meth c R H1 _ cells slots la C0 hd' hlo hn' hz hcl hsl (hR.put ha ?_ z1 oq) (hS.put z1 oq (Nat.le_add_right _ _)) hL
  show H1[ax_gB G + a]? = some (vp_cell _ _)
  rw [e1]
  show some ((arrV _ _ _).setSlot _ _) = some (vp_cell _ (_, .inl _))
  rw [vp_cell_i, arrV_store]
  congr 2
  funext q
  by_cases hq : q = i.toNatClampNeg
  · subst hq
    simp [updV, upd]
  · simp [updV, upd, hq]
theorem ax_zast {a N : Nat} {f : Nat → Int32} {i x : Int32} (hd : decode M.2.1 pc = .ok (.bastore, 1)) (hp : pc + 1 = pc') (ha : a < n) (hc : h a = ax_arr 1 N f) (hin : vp_in i N) (hn : narrow .boolean (.int x) = .int x)
    (kk : AX G l M d pc' ls st n z (va_up h a (ax_arr 1 N (upd f i.toNatClampNeg x))) n' z' Q) : AX G l M d pc ls (.int x :: .int i :: .ref a :: st) n z h n' z' Q := by
  subst hp
  intro p e s m args below meth c R H locs cells slots la C0 hd' hlo hn' hz hcl hsl hR hS hL
  obtain ⟨hx, hb, -, -, hown, -, -, hK⟩ := id C0
  have he : (ax_w G n h)[a]? = some (ax_gB G + a, .inl (ax_gA G 1, N, .inl f)) := by rw [ax_w_get ha, hc]; rfl
  refine W.zast hx hb (hR.1 a _ he) ((hK.2.1.2 1 _ rfl).1 N (fun j => .int (f j))) (fun q => by cases q) (by show ¬ (i < 0 ∨ (arrV _ _ _).slots.size ≤ _); rw [arrV_size]; exact hin) rfl rfl hd fun H1 e1 z1 oq => ?_
  refine kk p e s m args below meth c R H1 _ cells slots la C0 hd' hlo hn' hz hcl hsl (hR.put ha ?_ z1 oq) (hS.put z1 oq (Nat.le_add_right _ _)) hL
  rw [hn] at e1
  show H1[ax_gB G + a]? = some (vp_cell _ _)
  rw [e1]
  show some ((arrV _ _ _).setSlot _ _) = some (vp_cell _ (_, .inl _))
  rw [vp_cell_i, arrV_store]
  congr 2
  funext q
  by_cases hq : q = i.toNatClampNeg
  · subst hq
    simp [updV, upd]
  · simp [updV, upd, hq]
end AXH
