/-! ===== AX: one judgement for all methods. A heap is a function from numbers to cells (number k stands at the address B + k), locals and stack are lists of values with such numbers; the machine's own words are hidden. ===== -/
abbrev ax_M : Type := MethodName × ByteArray × Nat × Option FieldType
/-- classes and slots, base, the script's address, its length, its ints, array classes -/
abbrev ax_G : Type := va_G × Nat × Nat × Nat × (Nat → Int32) × (Nat → ClassId)
abbrev ax_gD (G : ax_G) : va_G := G.1
abbrev ax_gB (G : ax_G) : Nat := G.2.1
abbrev ax_gb (G : ax_G) : Nat := G.2.2.1
abbrev ax_gL (G : ax_G) : Nat := G.2.2.2.1
abbrev ax_gX (G : ax_G) : Nat → Int32 := G.2.2.2.2.1
abbrev ax_gA (G : ax_G) : Nat → ClassId := G.2.2.2.2.2
/-- a cell: an array of ints (0) or booleans (1); an array of People; an object -/
abbrev ax_C : Type := (Nat × Nat × (Nat → Int32)) ⊕ ((Nat × (Nat → Option Nat)) ⊕ (Nat × List Value))
abbrev ax_H : Type := Nat → ax_C
/-- a value of the machine; a double stands for the script -/
def ax_v (G : ax_G) : Value → Value
  | .ref k => .ref (ax_gB G + k)
  | .double _ => .ref (ax_gb G)
  | .int x => .int x
  | .long x => .long x
  | .null => .null
  | .float x => .float x
  | .retAddr x => .retAddr x
def ax_e (G : ax_G) : ax_C → va_E
  | .inl q => .inl (ax_gA G q.1, q.2.1, .inl q.2.2)
  | .inr (.inl q) => .inl (ax_gA G 2, q.1, .inr (.inr (.inr (.inr (fun j => (q.2 j).map (fun a => ax_gB G + a))))))
  | .inr (.inr q) => .inr (q.1, q.2.map (ax_v G))
def ax_w (G : ax_G) (n : Nat) (h : ax_H) : va_W := (List.range n).map (fun k => (ax_gB G + k, ax_e G (h k)))
def ax_R (G : ax_G) (n : Nat) (h : ax_H) (H : Heap) : Prop := va_P (ax_gD G) vwCl (ax_w G n h) H ∧ H.size = ax_gB G + n
abbrev ax_A (G : ax_G) : Nat → Prop := fun q => ax_gB G ≤ q
theorem ax_w_get {G : ax_G} {n : Nat} {h : ax_H} {k : Nat} (hk : k < n) : (ax_w G n h)[k]? = some (ax_gB G + k, ax_e G (h k)) := by
  simp [ax_w, hk]
theorem ax_w_len {G : ax_G} {n : Nat} {h : ax_H} : (ax_w G n h).length = n := by simp [ax_w]
theorem ax_w_D {G : ax_G} {n : Nat} {h : ax_H} : va_D (ax_A G) (ax_w G n h) := by
  have key : ∀ (k : Nat) (q : Nat × va_E), (ax_w G n h)[k]? = some q → q.1 = ax_gB G + k := by
    intro k q hk
    have hl : k < n := by
      have := (List.getElem?_eq_some_iff.mp hk).1
      rwa [ax_w_len] at this
    rw [ax_w_get hl] at hk
    cases hk
    rfl
  refine ⟨fun i j p q hi hj hpq => ?_, fun k q hk => ?_⟩
  · have h1 := key i p hi
    have h2 := key j q hj
    omega
  · show ax_gB G ≤ q.1
    have h1 := key k q hk
    omega
/-- one cell is another -/
theorem ax_w_set {G : ax_G} {n : Nat} {h : ax_H} {k : Nat} {c : ax_C} (hk : k < n) : (ax_w G n h).set k (ax_gB G + k, ax_e G c) = ax_w G n (va_up h k c) := by
  apply List.ext_getElem?
  intro j
  by_cases hj : j < n
  · by_cases hjk : j = k
    · subst hjk
      rw [List.getElem?_set_self (by rw [ax_w_len]; exact hk), ax_w_get hj]
      simp [va_up]
    · rw [List.getElem?_set_ne (fun e => hjk e.symm), ax_w_get hj, ax_w_get hj]
      simp [va_up, hjk]
  · rw [List.getElem?_eq_none (by rw [List.length_set, ax_w_len]; omega), List.getElem?_eq_none (by rw [ax_w_len]; omega)]
theorem ax_R.set {G : ax_G} {n : Nat} {h : ax_H} {k : Nat} {c : ax_C} {H H1 : Heap} (hk : k < n) (hz : H1.size = H.size) (hR : ax_R G n h H) (h1 : va_P (ax_gD G) vwCl ((ax_w G n h).set k (ax_gB G + k, ax_e G c)) H1) : ax_R G n (va_up h k c) H1 := by
  rw [ax_w_set hk] at h1
  exact ⟨h1, hz.trans hR.2⟩
/-- the words of the tables -/
def ax_ok : Cond → Bool
  | .fieldLinkNest _ _ _ _ _ _ => true
  | .methodLinkNest _ _ _ _ => true
  | w => w.onTables && w.keeps
theorem ax_ok_tab {w : Cond} (h : ax_ok w = true) : w.onTables = true := by
  unfold ax_ok at h
  split at h
  · rfl
  · rfl
  · simp only [Bool.and_eq_true] at h
    exact h.1
def ax_T (U : State) : Prop := ∀ w ∈ lw_tbl, ax_ok w = true → w.before #[] U = true
theorem ax_T.use {U : State} (h : ax_T U) {w : Cond} (hm : w ∈ lw_tbl) (ho : ax_ok w = true) {args : Array Value} : w.before args U = true := va_tabs (ax_ok_tab ho) rfl (h w hm ho)
theorem ax_T.warm {s U : State} (hW : s.WarmedH U.vm) (h : ax_T s) : ax_T U := by
  intro w hm ho
  have h1 := h w hm ho
  unfold ax_ok at ho
  split at ho
  · exact va_Nw.warmF hW h1
  · exact va_Nw.warmM hW h1
  · exact word_at hW (Or.inl ho) h1
theorem ax_T.same {u U : State} (hv : u.vm = U.vm) (h : ax_T u) : ax_T U := fun w hm ho => va_tabs (ax_ok_tab ho) hv (h w hm ho)
abbrev ax_tys (G : ax_G) : List (ClassId × FieldType) := [(ax_gA G 0, .int), (ax_gA G 1, .boolean), (ax_gA G 2, .object RX5)]
def ax_K (G : ax_G) (U : State) : Prop := ax_T U ∧ va_K (ax_gD G) vwCl (ax_tys G) U ∧ ((Cond.arrayClass .int).before #[] U = true ∧ (Cond.arrayClass .boolean).before #[] U = true ∧ va_AO RX5 U) ∧ va_X (ax_gb G) (ax_gL G) (ax_gX G) U U.heap ∧ ax_gb G < ax_gB G ∧ ax_gB G ≤ U.heap.size
/-- the same of a later state with another heap, where what stands below the base is as it was -/
theorem ax_K.to {G : ax_G} {s U : State} {locs : List Loc} (h : ax_K G s) (hW : s.WarmedH U.vm) (hS : va_S (ax_A G) s.heap U.heap locs) : ax_K G U := by
  obtain ⟨h1, h2, ⟨h3, h4, h5⟩, h6, h7, h8⟩ := h
  refine ⟨h1.warm hW, va_K.moved hW.alike h2, ⟨word_at hW (Or.inr ⟨_, rfl⟩) h3, word_at hW (Or.inr ⟨_, rfl⟩) h4, va_AO.moved hW.alike h5⟩, ?_, h7, Nat.le_trans h8 hS.1⟩
  exact va_X.moved hW.alike (h6.kept (hS.2.1 _ (Nat.lt_of_lt_of_le h7 h8) (Nat.not_le.mpr h7)))
theorem ax_K.blind {G : ax_G} {U : State} (g : JFrame) (mk : MethodId) (a : Array Value) (h : ax_K G U) : ax_K G (U.calling g mk a) := by
  obtain ⟨h1, h2, ⟨h3, h4, h5⟩, h6, h7, h8⟩ := h
  exact ⟨ax_T.same (u := U) (U := U.calling g mk a) rfl h1, va_K.moved (u := U) (U := U.calling g mk a) (Vm.Alike.refl U.vm) h2, ⟨h3, h4, va_AO.moved (u := U) (U := U.calling g mk a) (Vm.Alike.refl U.vm) h5⟩, va_X.moved (u := U) (U := U.calling g mk a) (Vm.Alike.refl U.vm) h6, h7, h8⟩
/-- the locals -/
def ax_nf : Value → Bool
  | .float _ => false
  | _ => true
def ax_sm : Value → Bool
  | .long _ => false
  | _ => true
def ax_L (G : ax_G) (la : Array Slot) (nL : Nat) (ls : List Value) : Prop := la.size = nL ∧ lv_wf la ∧ ∀ (k : Nat) (v : Value), ls[k]? = some v → ax_nf v = true → la[k]? = some (.val (ax_v G v))
/-- the machine and the method's own facts -/
def ax_Ct (G : ax_G) (M : ax_M) (p : Program) (s : State) (m : MethodId) (meth : Method) (c : Code) : Prop :=
  p.tables.exec = Jvm.exec ∧ c.code = M.2.1 ∧ c.maxLocals = M.2.2.1 ∧ meth.sig.returnType = M.2.2.2 ∧ s.vm.findClass M.1.cls = some m.cls ∧ meth.locks = false ∧ meth.name = M.1.name ∧ ax_K G s
def ax_Qc (G : ax_G) (n' : Nat) (Q : Option Value → ax_H → Prop) : Array Value → State → Outcome → State → Prop := fun _ st o t =>
  (∃ (r : Option Value) (h' : ax_H), o = .returned (r.map (ax_v G)) ∧ Q r h' ∧ ax_R G n' h' t.heap) ∧ va_F (ax_A G) st t
def AX (G : ax_G) (l : Launch) (M : ax_M) (d pc : Nat) (ls st : List Value) (n z : Nat) (h : ax_H) (n' z' : Nat) (Q : Option Value → ax_H → Prop) : Prop :=
  ∀ (p : Program) (e : Env) (s : State) (m : MethodId) (args : Array Value) (below : List Frame) (meth : Method) (c : Code) (R : Room) (H : Heap) (locs : List Loc) (cells slots : Nat) (la : Array Slot),
    ax_Ct G M p s m meth c → d ≤ R.frames → 35 * d ≤ R.locals → n ≤ n' → z ≤ z' → cells + (n' - n) ≤ R.cells → slots + (z' - z) ≤ R.slots → ax_R G n h H → va_S (ax_A G) s.heap H locs → ax_L G la M.2.2.1 ls →
    W p l e R s m args below meth c H locs cells slots (MQ below (ax_Qc G n' Q) args s (cells + (n' - n)) (slots + (z' - z)) (ax_A G)) (F0 m pc la (st.map (ax_v G)))
/-- a method's contract: with these arguments and this heap it comes back, and Q of answer and heap -/
def AC (G : ax_G) (l : Launch) (d : Nat) (M : ax_M) (as : List Value) (n z : Nat) (h : ax_H) (n' z' : Nat) (Q : Option Value → ax_H → Prop) : Prop :=
  (n ≤ n' ∧ z ≤ z') ∧ Met l M.1 [Cond.code M.1 M.2.1 M.2.2.1 M.2.2.2] { frames := d, cells := n' - n, slots := z' - z, locals := 35 * d }
    (fun a U => a = (as.map (ax_v G)).toArray ∧ ax_R G n h U.heap ∧ ax_K G U) (ax_Qc G n' Q) (n' - n) (z' - z) (ax_A G)
section AXR
variable {G : ax_G} {l : Launch} {M : ax_M} {d pc : Nat} {ls st : List Value} {n z : Nat} {h : ax_H} {n' z' : Nat} {Q : Option Value → ax_H → Prop}
theorem ax_go {pc' : Nat} {st' : List Value}
    (hstep : ∀ (p : Program) (e : Env) (s : State) (m : MethodId) (args : Array Value) (below : List Frame) (meth : Method) (c : Code) (R : Room) (H : Heap) (locs : List Loc) (cells slots : Nat) (la : Array Slot) (Q' : State → Prop),
      p.tables.exec = Jvm.exec → c.code = M.2.1 → ax_L G la M.2.2.1 ls → s.vm.findClass M.1.cls = some m.cls → ax_K G s → va_S (ax_A G) s.heap H locs → ax_R G n h H →
      W p l e R s m args below meth c H locs cells slots Q' (F0 m pc' la (st'.map (ax_v G))) → W p l e R s m args below meth c H locs cells slots Q' (F0 m pc la (st.map (ax_v G))))
    (k : AX G l M d pc' ls st' n z h n' z' Q) : AX G l M d pc ls st n z h n' z' Q := by
  intro p e s m args below meth c R H locs cells slots la C hd hlo hn hz hc hs hR hS hL
  exact hstep p e s m args below meth c R H locs cells slots la _ C.1 C.2.1 hL C.2.2.2.2.1 C.2.2.2.2.2.2.2 hS hR (k p e s m args below meth c R H locs cells slots la C hd hlo hn hz hc hs hR hS hL)
/-- a branch -/
theorem ax_br {pc1 pc2 : Nat} {st' : List Value} {c1 c2 : Prop}
    (hstep : ∀ (p : Program) (e : Env) (s : State) (m : MethodId) (args : Array Value) (below : List Frame) (meth : Method) (c : Code) (R : Room) (H : Heap) (locs : List Loc) (cells slots : Nat) (la : Array Slot) (Q' : State → Prop),
      p.tables.exec = Jvm.exec → c.code = M.2.1 →
      (c1 → W p l e R s m args below meth c H locs cells slots Q' (F0 m pc1 la (st'.map (ax_v G)))) → (c2 → W p l e R s m args below meth c H locs cells slots Q' (F0 m pc2 la (st'.map (ax_v G)))) → W p l e R s m args below meth c H locs cells slots Q' (F0 m pc la (st.map (ax_v G))))
    (k1 : c1 → AX G l M d pc1 ls st' n z h n' z' Q) (k2 : c2 → AX G l M d pc2 ls st' n z h n' z' Q) : AX G l M d pc ls st n z h n' z' Q := by
  intro p e s m args below meth c R H locs cells slots la C hd hlo hn hz hc hs hR hS hL
  exact hstep p e s m args below meth c R H locs cells slots la _ C.1 C.2.1 (fun q => k1 q p e s m args below meth c R H locs cells slots la C hd hlo hn hz hc hs hR hS hL) (fun q => k2 q p e s m args below meth c R H locs cells slots la C hd hlo hn hz hc hs hR hS hL)
end AXR
