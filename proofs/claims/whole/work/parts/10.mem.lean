/-! ===== the heap once all is made: a fixed shape, and a memory of ints: mem a k is the k-th int of cell a ===== -/
abbrev ax_S : Type := (Nat × Nat) ⊕ ((Nat × (Nat → Option Nat)) ⊕ (Nat × List (Option Nat)))
abbrev ax_Me : Type := Nat → Nat → Int32
def ax_lf : List (Option Nat) → Nat → (Nat → Int32) → List Value
  | [], _, _ => []
  | none :: q, j, r => .int (r j) :: ax_lf q (j + 1) r
  | some a :: q, j, r => .ref a :: ax_lf q (j + 1) r
theorem ax_lf_len : ∀ (q : List (Option Nat)) (j : Nat) (r : Nat → Int32), (ax_lf q j r).length = q.length
  | [], _, _ => rfl
  | none :: q, j, r => by simp [ax_lf, ax_lf_len q]
  | some a :: q, j, r => by simp [ax_lf, ax_lf_len q]
theorem ax_lf_int : ∀ (q : List (Option Nat)) (j k : Nat) (r : Nat → Int32), q[k]? = some none → (ax_lf q j r)[k]? = some (.int (r (j + k)))
  | [], _, k, _, h => by simp at h
  | none :: q, j, 0, r, h => by simp [ax_lf]
  | some a :: q, j, 0, r, h => by simp at h
  | none :: q, j, k + 1, r, h => by
    rw [List.getElem?_cons_succ] at h
    rw [ax_lf, List.getElem?_cons_succ, ax_lf_int q (j + 1) k r h, show j + 1 + k = j + (k + 1) by omega]
  | some a :: q, j, k + 1, r, h => by
    rw [List.getElem?_cons_succ] at h
    rw [ax_lf, List.getElem?_cons_succ, ax_lf_int q (j + 1) k r h, show j + 1 + k = j + (k + 1) by omega]
theorem ax_lf_ref : ∀ (q : List (Option Nat)) (j k b : Nat) (r : Nat → Int32), q[k]? = some (some b) → (ax_lf q j r)[k]? = some (.ref b)
  | [], _, k, _, _, h => by simp at h
  | none :: q, j, 0, b, r, h => by simp at h
  | some a :: q, j, 0, b, r, h => by
    rw [List.getElem?_cons_zero] at h
    cases h
    simp [ax_lf]
  | none :: q, j, k + 1, b, r, h => by
    rw [List.getElem?_cons_succ] at h
    rw [ax_lf, List.getElem?_cons_succ, ax_lf_ref q (j + 1) k b r h]
  | some a :: q, j, k + 1, b, r, h => by
    rw [List.getElem?_cons_succ] at h
    rw [ax_lf, List.getElem?_cons_succ, ax_lf_ref q (j + 1) k b r h]
theorem ax_lf_congr : ∀ (q : List (Option Nat)) (j : Nat) (r r' : Nat → Int32), (∀ i, j ≤ i → r i = r' i) → ax_lf q j r = ax_lf q j r'
  | [], _, _, _, _ => rfl
  | none :: q, j, r, r', h => by rw [ax_lf, ax_lf, h j (Nat.le_refl _), ax_lf_congr q (j + 1) r r' (fun i hi => h i (by omega))]
  | some a :: q, j, r, r', h => by rw [ax_lf, ax_lf, ax_lf_congr q (j + 1) r r' (fun i hi => h i (by omega))]
theorem ax_lf_set : ∀ (q : List (Option Nat)) (j k : Nat) (r r' : Nat → Int32) (v : Int32), q[k]? = some none → r' (j + k) = v → (∀ i, i ≠ j + k → r' i = r i) → (ax_lf q j r).set k (.int v) = ax_lf q j r'
  | [], _, k, _, _, _, h, _, _ => by simp at h
  | none :: q, j, 0, r, r', v, _, h1, h2 => by
    have e : ax_lf q (j + 1) r = ax_lf q (j + 1) r' := ax_lf_congr q (j + 1) r r' (fun i hi => (h2 i (by omega)).symm)
    simp only [ax_lf, List.set_cons_zero]
    rw [e, ← h1, Nat.add_zero]
  | some a :: q, j, 0, r, r', v, h, _, _ => by simp at h
  | none :: q, j, k + 1, r, r', v, h, h1, h2 => by
    rw [List.getElem?_cons_succ] at h
    rw [ax_lf, List.set_cons_succ, ax_lf, ax_lf_set q (j + 1) k r r' v h (by rw [show j + 1 + k = j + (k + 1) by omega]; exact h1) (fun i hi => h2 i (by omega)), h2 j (by omega)]
  | some a :: q, j, k + 1, r, r', v, h, h1, h2 => by
    rw [List.getElem?_cons_succ] at h
    rw [ax_lf, List.set_cons_succ, ax_lf, ax_lf_set q (j + 1) k r r' v h (by rw [show j + 1 + k = j + (k + 1) by omega]; exact h1) (fun i hi => h2 i (by omega))]
def ax_ce : ax_S → (Nat → Int32) → ax_C
  | .inl q, r => ax_arr q.1 q.2 r
  | .inr (.inl q), _ => ax_arq q.1 q.2
  | .inr (.inr q), r => ax_obj q.1 (ax_lf q.2 0 r)
/-- People at a: its own cell, then marks, changes, identities, memories -/
abbrev ax_sO (ci : Nat) (q : List (Option Nat)) : ax_S := .inr (.inr (ci, q))
abbrev ax_sA (n : Nat) : ax_S := .inl (0, n)
abbrev ax_sZ (n : Nat) : ax_S := .inl (1, n)
abbrev ax_sP (a : Nat) : ax_S := ax_sO 4 [some (a + 1), some (a + 2), some (a + 3), some (a + 4), none, none]
def ax_pp (j a : Nat) : ax_S := match j with
  | 0 => ax_sP a
  | 4 => ax_sA 64
  | _ => ax_sA 8
def ax_sM (k : Nat) : ax_S := match k with
  | 136 => ax_sO 8 [none, some 137, some 138, none, some 139, none, none, none, none, none, none, some 140, some 141, some 142, none, some 143, some 144, none, some 145, some 146, some 147, some 148, none, some 149, some 150, some 151, some 152]
  | 137 => ax_sA 8
  | 138 => ax_sA 81
  | 139 => ax_sA 240
  | 140 => ax_sA 8
  | 141 => ax_sA 8
  | 142 => ax_sZ 64
  | 143 => ax_sA 1620
  | 144 => ax_sA 8
  | 145 => ax_sA 8
  | 146 => ax_sA 8
  | 147 => ax_sA 8
  | 148 => ax_sA 8
  | 149 => ax_sA 15
  | 150 => ax_sA 15
  | 151 => ax_sA 164
  | _ => ax_sZ 2
def ax_sT (k : Nat) : ax_S := match k with
  | 115 => ax_sO 5 [some 116, some 117, some 118, some 119, none]
  | 120 => ax_sO 0 [some 121, some 122, none]
  | 121 => ax_sA 15
  | 122 => ax_sA 15
  | 123 => ax_sO 1 [none]
  | 124 => ax_sO 2 [some 125, none, none]
  | 130 => ax_sO 2 [some 131, none, none]
  | _ => ax_sA 8
def ax_sg (k : Nat) : ax_S :=
  if k = 0 then ax_sO 7 [some 1, some 3, some 8, some 13, some 115, some 120, some 123, some 124, some 130]
  else if k = 1 then ax_sO 6 [some 2, none, none, none, none, none]
  else if k = 2 then ax_sA 240
  else if k < 13 then ax_pp ((k - 3) % 5) k
  else if k = 13 then ax_sO 3 [some 14, none, none]
  else if k = 14 then .inr (.inl (20, fun i => some (15 + 5 * i)))
  else if k < 115 then ax_pp ((k - 15) % 5) k
  else if k < 125 then ax_sT k
  else if k < 130 then ax_pp ((k - 125) % 5) k
  else if k = 130 then ax_sT k
  else if k < 136 then ax_pp ((k - 131) % 5) k
  else ax_sM k
def ax_hm (mem : ax_Me) : ax_H := fun k => ax_ce (ax_sg k) (mem k)
def ax_is (a : Nat) (s : ax_S) : Prop := a < 153 ∧ ax_sg a = s
def ax_isP (a : Nat) : Prop := a = 3 ∨ a = 8 ∨ a = 125 ∨ a = 131 ∨ (15 ≤ a ∧ a < 115 ∧ (a - 15) % 5 = 0)
theorem ax_pp_at {a : Nat} (h : ax_isP a) : ax_is a (ax_sP a) ∧ ax_is (a + 1) (ax_sA 8) ∧ ax_is (a + 2) (ax_sA 8) ∧ ax_is (a + 3) (ax_sA 8) ∧ ax_is (a + 4) (ax_sA 64) := by
  rcases h with rfl | rfl | rfl | rfl | ⟨h1, h2, h3⟩
  · exact ⟨⟨by decide, rfl⟩, ⟨by decide, rfl⟩, ⟨by decide, rfl⟩, ⟨by decide, rfl⟩, ⟨by decide, rfl⟩⟩
  · exact ⟨⟨by decide, rfl⟩, ⟨by decide, rfl⟩, ⟨by decide, rfl⟩, ⟨by decide, rfl⟩, ⟨by decide, rfl⟩⟩
  · exact ⟨⟨by decide, rfl⟩, ⟨by decide, rfl⟩, ⟨by decide, rfl⟩, ⟨by decide, rfl⟩, ⟨by decide, rfl⟩⟩
  · exact ⟨⟨by decide, rfl⟩, ⟨by decide, rfl⟩, ⟨by decide, rfl⟩, ⟨by decide, rfl⟩, ⟨by decide, rfl⟩⟩
  · have key : ∀ j, j < 5 → ax_is (a + j) (ax_pp j (a + j)) := by
      intro j hj
      refine ⟨by omega, ?_⟩
      unfold ax_sg
      rw [if_neg (by omega), if_neg (by omega), if_neg (by omega), if_neg (by omega), if_neg (by omega), if_neg (by omega), if_pos (by omega), show (a + j - 15) % 5 = j by omega]
    exact ⟨key 0 (by decide), key 1 (by decide), key 2 (by decide), key 3 (by decide), key 4 (by decide)⟩
theorem ax_isP.o {a : Nat} (h : ax_isP a) : ax_is a (ax_sP a) := (ax_pp_at h).1
theorem ax_isP.m1 {a : Nat} (h : ax_isP a) : ax_is (a + 1) (ax_sA 8) := (ax_pp_at h).2.1
theorem ax_isP.m2 {a : Nat} (h : ax_isP a) : ax_is (a + 2) (ax_sA 8) := (ax_pp_at h).2.2.1
theorem ax_isP.m3 {a : Nat} (h : ax_isP a) : ax_is (a + 3) (ax_sA 8) := (ax_pp_at h).2.2.2.1
theorem ax_isP.m4 {a : Nat} (h : ax_isP a) : ax_is (a + 4) (ax_sA 64) := (ax_pp_at h).2.2.2.2
theorem isP3 : ax_isP 3 := Or.inl rfl
theorem isP8 : ax_isP 8 := Or.inr (Or.inl rfl)
theorem isP125 : ax_isP 125 := Or.inr (Or.inr (Or.inl rfl))
theorem isP131 : ax_isP 131 := Or.inr (Or.inr (Or.inr (Or.inl rfl)))
theorem isPi {i : Nat} (h : i < 20) : ax_isP (15 + 5 * i) := Or.inr (Or.inr (Or.inr (Or.inr ⟨by omega, by omega, by omega⟩)))
theorem is0 : ax_is 0 (ax_sO 7 [some 1, some 3, some 8, some 13, some 115, some 120, some 123, some 124, some 130]) := ⟨by decide, rfl⟩
theorem is1 : ax_is 1 (ax_sO 6 [some 2, none, none, none, none, none]) := ⟨by decide, rfl⟩
theorem is2 : ax_is 2 (ax_sA 240) := ⟨by decide, rfl⟩
theorem is13 : ax_is 13 (ax_sO 3 [some 14, none, none]) := ⟨by decide, rfl⟩
theorem is14 : ax_is 14 (.inr (.inl (20, fun i => some (15 + 5 * i)))) := ⟨by decide, rfl⟩
theorem is115 : ax_is 115 (ax_sO 5 [some 116, some 117, some 118, some 119, none]) := ⟨by decide, rfl⟩
theorem is116 : ax_is 116 (ax_sA 8) := ⟨by decide, rfl⟩
theorem is117 : ax_is 117 (ax_sA 8) := ⟨by decide, rfl⟩
theorem is118 : ax_is 118 (ax_sA 8) := ⟨by decide, rfl⟩
theorem is119 : ax_is 119 (ax_sA 8) := ⟨by decide, rfl⟩
theorem is120 : ax_is 120 (ax_sO 0 [some 121, some 122, none]) := ⟨by decide, rfl⟩
theorem is121 : ax_is 121 (ax_sA 15) := ⟨by decide, rfl⟩
theorem is122 : ax_is 122 (ax_sA 15) := ⟨by decide, rfl⟩
theorem is123 : ax_is 123 (ax_sO 1 [none]) := ⟨by decide, rfl⟩
theorem is124 : ax_is 124 (ax_sO 2 [some 125, none, none]) := ⟨by decide, rfl⟩
theorem is130 : ax_is 130 (ax_sO 2 [some 131, none, none]) := ⟨by decide, rfl⟩
theorem is136 : ax_is 136 (ax_sO 8 [none, some 137, some 138, none, some 139, none, none, none, none, none, none, some 140, some 141, some 142, none, some 143, some 144, none, some 145, some 146, some 147, some 148, none, some 149, some 150, some 151, some 152]) := ⟨by decide, rfl⟩
theorem is137 : ax_is 137 (ax_sA 8) := ⟨by decide, rfl⟩
theorem is138 : ax_is 138 (ax_sA 81) := ⟨by decide, rfl⟩
theorem is139 : ax_is 139 (ax_sA 240) := ⟨by decide, rfl⟩
theorem is140 : ax_is 140 (ax_sA 8) := ⟨by decide, rfl⟩
theorem is141 : ax_is 141 (ax_sA 8) := ⟨by decide, rfl⟩
theorem is142 : ax_is 142 (ax_sZ 64) := ⟨by decide, rfl⟩
theorem is143 : ax_is 143 (ax_sA 1620) := ⟨by decide, rfl⟩
theorem is144 : ax_is 144 (ax_sA 8) := ⟨by decide, rfl⟩
theorem is145 : ax_is 145 (ax_sA 8) := ⟨by decide, rfl⟩
theorem is146 : ax_is 146 (ax_sA 8) := ⟨by decide, rfl⟩
theorem is147 : ax_is 147 (ax_sA 8) := ⟨by decide, rfl⟩
theorem is148 : ax_is 148 (ax_sA 8) := ⟨by decide, rfl⟩
theorem is149 : ax_is 149 (ax_sA 15) := ⟨by decide, rfl⟩
theorem is150 : ax_is 150 (ax_sA 15) := ⟨by decide, rfl⟩
theorem is151 : ax_is 151 (ax_sA 164) := ⟨by decide, rfl⟩
theorem is152 : ax_is 152 (ax_sZ 2) := ⟨by decide, rfl⟩
/-- one int is another -/
def ax_u (mem : ax_Me) (a k : Nat) (v : Int32) : ax_Me := fun b j => if b = a ∧ j = k then v else mem b j
theorem ax_u_self {mem : ax_Me} {a k : Nat} {v : Int32} : ax_u mem a k v a k = v := by simp [ax_u]
theorem ax_u_ne {mem : ax_Me} {a k b j : Nat} {v : Int32} (h : ¬ (b = a ∧ j = k)) : ax_u mem a k v b j = mem b j := by simp [ax_u, h]
theorem ax_u_row {mem : ax_Me} {a k : Nat} {v : Int32} : ax_u mem a k v a = upd (mem a) k v := by
  funext j
  simp [ax_u, upd]
theorem ax_u_off {mem : ax_Me} {a k b : Nat} {v : Int32} (h : b ≠ a) : ax_u mem a k v b = mem b := by
  funext j
  simp [ax_u, h]
theorem ax_hm_arr {mem : ax_Me} {a t N : Nat} (h : ax_is a (.inl (t, N))) : ax_hm mem a = ax_arr t N (mem a) := by
  unfold ax_hm
  rw [h.2]
  rfl
theorem ax_hm_obj {mem : ax_Me} {a ci : Nat} {q : List (Option Nat)} (h : ax_is a (ax_sO ci q)) : ax_hm mem a = ax_obj ci (ax_lf q 0 (mem a)) := by
  unfold ax_hm
  rw [h.2]
  rfl
theorem ax_hm_arq {mem : ax_Me} {a N : Nat} {f : Nat → Option Nat} (h : ax_is a (.inr (.inl (N, f)))) : ax_hm mem a = ax_arq N f := by
  unfold ax_hm
  rw [h.2]
  rfl
theorem ax_hm_up {mem mem' : ax_Me} {a : Nat} {c : ax_C} (hc : c = ax_ce (ax_sg a) (mem' a)) (ho : ∀ b, b ≠ a → mem' b = mem b) : va_up (ax_hm mem) a c = ax_hm mem' := by
  funext b
  unfold va_up ax_hm
  by_cases hb : b = a
  · subst hb
    rw [if_pos rfl, hc]
  · rw [if_neg hb, ho b hb]
/-- n ints are another row's -/
def ax_cp (mem : ax_Me) (a0 a1 N : Nat) : ax_Me := fun b j => if b = a1 ∧ j < N then mem a0 j else mem b j
section AXM
variable {G : ax_G} {l : Launch} {M : ax_M} {d pc pc' : Nat} {ls st : List Value} {z : Nat} {mem : ax_Me} {n' z' : Nat} {Q : Option Value → ax_H → Prop}
theorem am_getI {a idx ci k : Nat} {ty : FieldType} {fin : Bool} {q : List (Option Nat)} (hF : ax_F M.1.cls idx ci k ty fin) (hd : decode M.2.1 pc = .ok (.getfield idx, 3)) (hp : pc + 3 = pc') (hs : ax_is a (ax_sO ci q)) (hk : q[k]? = some none)
    (kk : AX G l M d pc' ls (.int (mem a k) :: st) 153 z (ax_hm mem) n' z' Q) : AX G l M d pc ls (.ref a :: st) 153 z (ax_hm mem) n' z' Q :=
  ax_get hF hd hp hs.1 (ax_hm_obj hs) (by rw [ax_lf_int q 0 k _ hk, Nat.zero_add]) kk
theorem am_getR {a idx ci k b : Nat} {ty : FieldType} {fin : Bool} {q : List (Option Nat)} (hF : ax_F M.1.cls idx ci k ty fin) (hd : decode M.2.1 pc = .ok (.getfield idx, 3)) (hp : pc + 3 = pc') (hs : ax_is a (ax_sO ci q)) (hk : q[k]? = some (some b))
    (kk : AX G l M d pc' ls (.ref b :: st) 153 z (ax_hm mem) n' z' Q) : AX G l M d pc ls (.ref a :: st) 153 z (ax_hm mem) n' z' Q :=
  ax_get hF hd hp hs.1 (ax_hm_obj hs) (ax_lf_ref q 0 k b _ hk) kk
theorem am_putI {a idx ci k : Nat} {ty : FieldType} {q : List (Option Nat)} {v : Int32} (hF : ax_F M.1.cls idx ci k ty false) (hd : decode M.2.1 pc = .ok (.putfield idx, 3)) (hp : pc + 3 = pc') (hs : ax_is a (ax_sO ci q)) (hk : q[k]? = some none) (hn : narrow ty (.int v) = .int v) (hfit : fits ty (.int v) = true)
    (kk : AX G l M d pc' ls st 153 z (ax_hm (ax_u mem a k v)) n' z' Q) : AX G l M d pc ls (.int v :: .ref a :: st) 153 z (ax_hm mem) n' z' Q := by
  refine ax_put hF hd hp hs.1 (ax_hm_obj hs) (by rw [ax_lf_len]; exact (List.getElem?_eq_some_iff.mp hk).1) hn hfit ?_
  rw [ax_lf_set q 0 k (mem a) (upd (mem a) k v) v hk (by simp [upd]) (fun i hi => by simp [upd, show i ≠ k by omega])]
  rw [ax_hm_up (mem' := ax_u mem a k v) (by rw [hs.2, ax_u_row]; rfl) (fun b hb => ax_u_off hb)]
  exact kk
theorem am_iald {a N : Nat} {i : Int32} (hd : decode M.2.1 pc = .ok (.iaload, 1)) (hp : pc + 1 = pc') (hs : ax_is a (ax_sA N)) (hin : vp_in i N)
    (kk : AX G l M d pc' ls (.int (mem a i.toNatClampNeg) :: st) 153 z (ax_hm mem) n' z' Q) : AX G l M d pc ls (.int i :: .ref a :: st) 153 z (ax_hm mem) n' z' Q :=
  ax_iald hd hp hs.1 (ax_hm_arr hs) hin kk
theorem am_zald {a N : Nat} {i : Int32} (hd : decode M.2.1 pc = .ok (.baload, 1)) (hp : pc + 1 = pc') (hs : ax_is a (ax_sZ N)) (hin : vp_in i N)
    (kk : AX G l M d pc' ls (.int (mem a i.toNatClampNeg) :: st) 153 z (ax_hm mem) n' z' Q) : AX G l M d pc ls (.int i :: .ref a :: st) 153 z (ax_hm mem) n' z' Q :=
  ax_zald hd hp hs.1 (ax_hm_arr hs) hin kk
theorem am_iast {a N : Nat} {i x : Int32} (hd : decode M.2.1 pc = .ok (.iastore, 1)) (hp : pc + 1 = pc') (hs : ax_is a (ax_sA N)) (hin : vp_in i N)
    (kk : AX G l M d pc' ls st 153 z (ax_hm (ax_u mem a i.toNatClampNeg x)) n' z' Q) : AX G l M d pc ls (.int x :: .int i :: .ref a :: st) 153 z (ax_hm mem) n' z' Q := by
  refine ax_iast hd hp hs.1 (ax_hm_arr hs) hin ?_
  rw [ax_hm_up (mem' := ax_u mem a i.toNatClampNeg x) (by rw [hs.2, ax_u_row]; rfl) (fun b hb => ax_u_off hb)]
  exact kk
theorem am_zast {a N : Nat} {i x : Int32} (hd : decode M.2.1 pc = .ok (.bastore, 1)) (hp : pc + 1 = pc') (hs : ax_is a (ax_sZ N)) (hin : vp_in i N) (hn : narrow .boolean (.int x) = .int x)
    (kk : AX G l M d pc' ls st 153 z (ax_hm (ax_u mem a i.toNatClampNeg x)) n' z' Q) : AX G l M d pc ls (.int x :: .int i :: .ref a :: st) 153 z (ax_hm mem) n' z' Q := by
  refine ax_zast hd hp hs.1 (ax_hm_arr hs) hin hn ?_
  rw [ax_hm_up (mem' := ax_u mem a i.toNatClampNeg x) (by rw [hs.2, ax_u_row]; rfl) (fun b hb => ax_u_off hb)]
  exact kk
theorem am_aald {i : Int32} (hd : decode M.2.1 pc = .ok (.aaload, 1)) (hp : pc + 1 = pc') (hin : vp_in i 20)
    (kk : AX G l M d pc' ls (.ref (15 + 5 * i.toNatClampNeg) :: st) 153 z (ax_hm mem) n' z' Q) : AX G l M d pc ls (.int i :: .ref 14 :: st) 153 z (ax_hm mem) n' z' Q :=
  ax_aald hd hp is14.1 (ax_hm_arq is14) hin rfl kk
theorem am_copy {idx a0 a1 N : Nat} {k : Int32} (hl : Cond.methodLink M.1.cls idx arraycopyName ∈ lw_tbl) (hd : decode M.2.1 pc = .ok (.invokestatic idx, 3)) (hp : pc + 3 = pc') (hst : 2 * st.length ≤ 8) (hdd : 1 ≤ d) (h0 : ax_is a0 (ax_sA N)) (h1 : ax_is a1 (ax_sA N)) (hk0 : ¬ k < 0) (hk : k.toNatClampNeg = N)
    (kk : AX G l M d pc' ls st 153 z (ax_hm (ax_cp mem a0 a1 N)) n' z' Q) : AX G l M d pc ls (.int k :: .int 0 :: .ref a1 :: .int 0 :: .ref a0 :: st) 153 z (ax_hm mem) n' z' Q := by
  have z0 : (0 : Int32).toNatClampNeg = 0 := rfl
  refine ax_copy hl hd hp hst hdd h0.1 (ax_hm_arr h0) h1.1 (ax_hm_arr h1) (by decide) (by decide) hk0 (by rw [z0, hk, Nat.zero_add]; exact Nat.le_refl _) (by rw [z0, hk, Nat.zero_add]; exact Nat.le_refl _) wd_copy ?_
  rw [ax_hm_up (mem' := ax_cp mem a0 a1 N) ?_ (fun b hb => by funext j; simp [ax_cp, hb])]
  · exact kk
  · rw [h1.2, z0, hk]
    show ax_arr 0 N _ = ax_arr 0 N _
    congr 1
    funext j
    simp [va_cpy, ax_cp]
end AXM
/-- a contract over the memory: the answer, and the memory behind it -/
abbrev AD (G : ax_G) (l : Launch) (d : Nat) (M : ax_M) (as : List Value) (mem : ax_Me) (r : Option Value) (mem' : ax_Me) : Prop :=
  AC G l d M as 153 0 (ax_hm mem) 153 0 (fun r1 h1 => r1 = r ∧ h1 = ax_hm mem')
