/-! ===== the law's own code: two rows made, a loop over calls; every step by ST ===== -/
/-- one call of both: they answer alike, and the invariant is kept -/
def ST (G : ax_G) (l : Launch) (I : ax_Me → Prop) (M9 M10 : ax_M) (as : List Value) : Prop := ∀ mem : ax_Me, I mem → ∃ (r : Int32) (d9 d10 : Nat) (m1 m2 : ax_Me), d9 ≤ 7 ∧ d10 ≤ 7 ∧ AD G l d9 M9 (.ref 0 :: as) mem (some (.int r)) m1 ∧ AD G l d10 M10 (.ref 136 :: as) m1 (some (.int r)) m2 ∧ I m2
abbrev lwQ : Option Value → ax_H → Prop := fun r _ => r = some (.int 1)
theorem ax_zsh {G : ax_G} {l : Launch} {M : ax_M} {d pc : Nat} {ls st : List Value} {n z : Nat} {h : ax_H} {Q : Option Value → ax_H → Prop} (kk : AX G l M d pc ls st n 0 h n 0 Q) : AX G l M d pc ls st n z h n z Q := by
  intro p e s m args below meth c R H locs cells slots la C0 hd' hlo hn' hz hcl hsl hR hS hL
  have w := kk p e s m args below meth c R H locs cells slots la C0 hd' hlo hn' (Nat.le_refl _) hcl (by rw [Nat.sub_self] at hsl ⊢; exact hsl) hR hS hL
  rw [Nat.sub_self 0] at w
  rw [Nat.sub_self z]
  exact w
/-- the law's method; its name is left open (nothing in its own code asks for it) -/
abbrev mLw (nm : String) : ax_M := (⟨RL, nm, "([I)Z"⟩, cL_law, 4, some .boolean)
section LAW
variable {G : ax_G} {l : Launch} {I : ax_Me → Prop} {mem : ax_Me} {i : Nat} {nm : String}
abbrev lwL (i : Nat) : List Value := [.double 0, .ref 0, .ref 136, .int (nI i)]
theorem lw_0 (hs : ST G l I mX9_feed mX10_feed [.int (ax_gX G (i + 1))]) (hL : ax_gL G < 2 ^ 31) (hi : i + 5 < ax_gL G) (hI : I mem) (kk : ∀ m2 : ax_Me, I m2 → AX G l (mLw nm) 8 1206 (lwL i) [] 153 0 (ax_hm m2) 153 0 lwQ) : AX G l (mLw nm) 8 184 (lwL i) [] 153 0 (ax_hm mem) 153 0 lwQ := by
  obtain ⟨r, d9, d10, m1, m2, e9, e10, h1, h2, h3⟩ := hs mem hI
  refine ax_aload_n (j := 1) dL_law_184 rfl rfl rfl ?_
  refine ax_aload_nX (j := 0) dL_law_185 rfl rfl rfl ?_
  refine ax_iload_n (j := 3) dL_law_186 rfl rfl rfl ?_
  refine ax_iconst (v := 1) dL_law_187 (by decide) rfl ?_
  refine ax_iadd dL_law_188 rfl ?_
  rw [show nI i + 1 = nI (i + 1) from nI_add i 1]
  refine ax_sld dL_law_189 rfl (vp_in_nI (by omega) hL) ?_
  rw [nI_clamp (show i + 1 < 2 ^ 31 by omega)]
  refine ad_V1 ksX9_feed lkL_13 dL_law_190 rfl is0 rfl (Nat.le_of_ble_eq_true rfl) (by omega) h1 ?_
  refine ax_aload_n (j := 2) dL_law_193 rfl rfl rfl ?_
  refine ax_aload_nX (j := 0) dL_law_194 rfl rfl rfl ?_
  refine ax_iload_n (j := 3) dL_law_195 rfl rfl rfl ?_
  refine ax_iconst (v := 1) dL_law_196 (by decide) rfl ?_
  refine ax_iadd dL_law_197 rfl ?_
  rw [show nI i + 1 = nI (i + 1) from nI_add i 1]
  refine ax_sld dL_law_198 rfl (vp_in_nI (by omega) hL) ?_
  rw [nI_clamp (show i + 1 < 2 ^ 31 by omega)]
  refine ad_V1 ksX10_feed lkL_17 dL_law_199 rfl is136 rfl (Nat.le_of_ble_eq_true rfl) (by omega) h2 ?_
  refine ax_icmp_eq (tgt := 1206) dL_law_202 (by decide) rfl (fun _ => kk _ h3) (fun c => absurd rfl c)
theorem lw_1 (hs : ST G l I mX9_place mX10_place []) (hL : ax_gL G < 2 ^ 31) (hi : i + 5 < ax_gL G) (hI : I mem) (kk : ∀ m2 : ax_Me, I m2 → AX G l (mLw nm) 8 1206 (lwL i) [] 153 0 (ax_hm m2) 153 0 lwQ) : AX G l (mLw nm) 8 207 (lwL i) [] 153 0 (ax_hm mem) 153 0 lwQ := by
  obtain ⟨r, d9, d10, m1, m2, e9, e10, h1, h2, h3⟩ := hs mem hI
  refine ax_aload_n (j := 1) dL_law_207 rfl rfl rfl ?_
  refine ad_V0 ksX9_place lkL_18 dL_law_208 rfl is0 rfl (Nat.le_of_ble_eq_true rfl) (by omega) h1 ?_
  refine ax_aload_n (j := 2) dL_law_211 rfl rfl rfl ?_
  refine ad_V0 ksX10_place lkL_22 dL_law_212 rfl is136 rfl (Nat.le_of_ble_eq_true rfl) (by omega) h2 ?_
  refine ax_icmp_eq (tgt := 1206) dL_law_215 (by decide) rfl (fun _ => kk _ h3) (fun c => absurd rfl c)
theorem lw_2 (hs : ST G l I mX9_fault mX10_fault []) (hL : ax_gL G < 2 ^ 31) (hi : i + 5 < ax_gL G) (hI : I mem) (kk : ∀ m2 : ax_Me, I m2 → AX G l (mLw nm) 8 1206 (lwL i) [] 153 0 (ax_hm m2) 153 0 lwQ) : AX G l (mLw nm) 8 220 (lwL i) [] 153 0 (ax_hm mem) 153 0 lwQ := by
  obtain ⟨r, d9, d10, m1, m2, e9, e10, h1, h2, h3⟩ := hs mem hI
  refine ax_aload_n (j := 1) dL_law_220 rfl rfl rfl ?_
  refine ad_V0 ksX9_fault lkL_23 dL_law_221 rfl is0 rfl (Nat.le_of_ble_eq_true rfl) (by omega) h1 ?_
  refine ax_aload_n (j := 2) dL_law_224 rfl rfl rfl ?_
  refine ad_V0 ksX10_fault lkL_26 dL_law_225 rfl is136 rfl (Nat.le_of_ble_eq_true rfl) (by omega) h2 ?_
  refine ax_icmp_eq (tgt := 1206) dL_law_228 (by decide) rfl (fun _ => kk _ h3) (fun c => absurd rfl c)
theorem lw_3 (hs : ST G l I mX9_told mX10_told [.int (ax_gX G (i + 1))]) (hL : ax_gL G < 2 ^ 31) (hi : i + 5 < ax_gL G) (hI : I mem) (kk : ∀ m2 : ax_Me, I m2 → AX G l (mLw nm) 8 1206 (lwL i) [] 153 0 (ax_hm m2) 153 0 lwQ) : AX G l (mLw nm) 8 233 (lwL i) [] 153 0 (ax_hm mem) 153 0 lwQ := by
  obtain ⟨r, d9, d10, m1, m2, e9, e10, h1, h2, h3⟩ := hs mem hI
  refine ax_aload_n (j := 1) dL_law_233 rfl rfl rfl ?_
  refine ax_aload_nX (j := 0) dL_law_234 rfl rfl rfl ?_
  refine ax_iload_n (j := 3) dL_law_235 rfl rfl rfl ?_
  refine ax_iconst (v := 1) dL_law_236 (by decide) rfl ?_
  refine ax_iadd dL_law_237 rfl ?_
  rw [show nI i + 1 = nI (i + 1) from nI_add i 1]
  refine ax_sld dL_law_238 rfl (vp_in_nI (by omega) hL) ?_
  rw [nI_clamp (show i + 1 < 2 ^ 31 by omega)]
  refine ad_V1 ksX9_told lkL_27 dL_law_239 rfl is0 rfl (Nat.le_of_ble_eq_true rfl) (by omega) h1 ?_
  refine ax_aload_n (j := 2) dL_law_242 rfl rfl rfl ?_
  refine ax_aload_nX (j := 0) dL_law_243 rfl rfl rfl ?_
  refine ax_iload_n (j := 3) dL_law_244 rfl rfl rfl ?_
  refine ax_iconst (v := 1) dL_law_245 (by decide) rfl ?_
  refine ax_iadd dL_law_246 rfl ?_
  rw [show nI i + 1 = nI (i + 1) from nI_add i 1]
  refine ax_sld dL_law_247 rfl (vp_in_nI (by omega) hL) ?_
  rw [nI_clamp (show i + 1 < 2 ^ 31 by omega)]
  refine ad_V1 ksX10_told lkL_30 dL_law_248 rfl is136 rfl (Nat.le_of_ble_eq_true rfl) (by omega) h2 ?_
  refine ax_icmp_eq (tgt := 1206) dL_law_251 (by decide) rfl (fun _ => kk _ h3) (fun c => absurd rfl c)
theorem lw_4 (hs : ST G l I mX9_person mX10_person [.int (ax_gX G (i + 1)), .int (ax_gX G (i + 2))]) (hL : ax_gL G < 2 ^ 31) (hi : i + 5 < ax_gL G) (hI : I mem) (kk : ∀ m2 : ax_Me, I m2 → AX G l (mLw nm) 8 1206 (lwL i) [] 153 0 (ax_hm m2) 153 0 lwQ) : AX G l (mLw nm) 8 256 (lwL i) [] 153 0 (ax_hm mem) 153 0 lwQ := by
  obtain ⟨r, d9, d10, m1, m2, e9, e10, h1, h2, h3⟩ := hs mem hI
  refine ax_aload_n (j := 1) dL_law_256 rfl rfl rfl ?_
  refine ax_aload_nX (j := 0) dL_law_257 rfl rfl rfl ?_
  refine ax_iload_n (j := 3) dL_law_258 rfl rfl rfl ?_
  refine ax_iconst (v := 1) dL_law_259 (by decide) rfl ?_
  refine ax_iadd dL_law_260 rfl ?_
  rw [show nI i + 1 = nI (i + 1) from nI_add i 1]
  refine ax_sld dL_law_261 rfl (vp_in_nI (by omega) hL) ?_
  rw [nI_clamp (show i + 1 < 2 ^ 31 by omega)]
  refine ax_aload_nX (j := 0) dL_law_262 rfl rfl rfl ?_
  refine ax_iload_n (j := 3) dL_law_263 rfl rfl rfl ?_
  refine ax_iconst (v := 2) dL_law_264 (by decide) rfl ?_
  refine ax_iadd dL_law_265 rfl ?_
  rw [show nI i + 2 = nI (i + 2) from nI_add i 2]
  refine ax_sld dL_law_266 rfl (vp_in_nI (by omega) hL) ?_
  rw [nI_clamp (show i + 2 < 2 ^ 31 by omega)]
  refine ad_V2 ksX9_person lkL_31 dL_law_267 rfl is0 rfl (Nat.le_of_ble_eq_true rfl) (by omega) h1 ?_
  refine ax_aload_n (j := 2) dL_law_270 rfl rfl rfl ?_
  refine ax_aload_nX (j := 0) dL_law_271 rfl rfl rfl ?_
  refine ax_iload_n (j := 3) dL_law_272 rfl rfl rfl ?_
  refine ax_iconst (v := 1) dL_law_273 (by decide) rfl ?_
  refine ax_iadd dL_law_274 rfl ?_
  rw [show nI i + 1 = nI (i + 1) from nI_add i 1]
  refine ax_sld dL_law_275 rfl (vp_in_nI (by omega) hL) ?_
  rw [nI_clamp (show i + 1 < 2 ^ 31 by omega)]
  refine ax_aload_nX (j := 0) dL_law_276 rfl rfl rfl ?_
  refine ax_iload_n (j := 3) dL_law_277 rfl rfl rfl ?_
  refine ax_iconst (v := 2) dL_law_278 (by decide) rfl ?_
  refine ax_iadd dL_law_279 rfl ?_
  rw [show nI i + 2 = nI (i + 2) from nI_add i 2]
  refine ax_sld dL_law_280 rfl (vp_in_nI (by omega) hL) ?_
  rw [nI_clamp (show i + 2 < 2 ^ 31 by omega)]
  refine ad_V2 ksX10_person lkL_35 dL_law_281 rfl is136 rfl (Nat.le_of_ble_eq_true rfl) (by omega) h2 ?_
  refine ax_icmp_eq (tgt := 1206) dL_law_284 (by decide) rfl (fun _ => kk _ h3) (fun c => absurd rfl c)
theorem lw_5 (hs : ST G l I mX9_remembers mX10_remembers [.int (ax_gX G (i + 1)), .int (ax_gX G (i + 2))]) (hL : ax_gL G < 2 ^ 31) (hi : i + 5 < ax_gL G) (hI : I mem) (kk : ∀ m2 : ax_Me, I m2 → AX G l (mLw nm) 8 1206 (lwL i) [] 153 0 (ax_hm m2) 153 0 lwQ) : AX G l (mLw nm) 8 289 (lwL i) [] 153 0 (ax_hm mem) 153 0 lwQ := by
  obtain ⟨r, d9, d10, m1, m2, e9, e10, h1, h2, h3⟩ := hs mem hI
  refine ax_aload_n (j := 1) dL_law_289 rfl rfl rfl ?_
  refine ax_aload_nX (j := 0) dL_law_290 rfl rfl rfl ?_
  refine ax_iload_n (j := 3) dL_law_291 rfl rfl rfl ?_
  refine ax_iconst (v := 1) dL_law_292 (by decide) rfl ?_
  refine ax_iadd dL_law_293 rfl ?_
  rw [show nI i + 1 = nI (i + 1) from nI_add i 1]
  refine ax_sld dL_law_294 rfl (vp_in_nI (by omega) hL) ?_
  rw [nI_clamp (show i + 1 < 2 ^ 31 by omega)]
  refine ax_aload_nX (j := 0) dL_law_295 rfl rfl rfl ?_
  refine ax_iload_n (j := 3) dL_law_296 rfl rfl rfl ?_
  refine ax_iconst (v := 2) dL_law_297 (by decide) rfl ?_
  refine ax_iadd dL_law_298 rfl ?_
  rw [show nI i + 2 = nI (i + 2) from nI_add i 2]
  refine ax_sld dL_law_299 rfl (vp_in_nI (by omega) hL) ?_
  rw [nI_clamp (show i + 2 < 2 ^ 31 by omega)]
  refine ad_V2 ksX9_remembers lkL_36 dL_law_300 rfl is0 rfl (Nat.le_of_ble_eq_true rfl) (by omega) h1 ?_
  refine ax_aload_n (j := 2) dL_law_303 rfl rfl rfl ?_
  refine ax_aload_nX (j := 0) dL_law_304 rfl rfl rfl ?_
  refine ax_iload_n (j := 3) dL_law_305 rfl rfl rfl ?_
  refine ax_iconst (v := 1) dL_law_306 (by decide) rfl ?_
  refine ax_iadd dL_law_307 rfl ?_
  rw [show nI i + 1 = nI (i + 1) from nI_add i 1]
  refine ax_sld dL_law_308 rfl (vp_in_nI (by omega) hL) ?_
  rw [nI_clamp (show i + 1 < 2 ^ 31 by omega)]
  refine ax_aload_nX (j := 0) dL_law_309 rfl rfl rfl ?_
  refine ax_iload_n (j := 3) dL_law_310 rfl rfl rfl ?_
  refine ax_iconst (v := 2) dL_law_311 (by decide) rfl ?_
  refine ax_iadd dL_law_312 rfl ?_
  rw [show nI i + 2 = nI (i + 2) from nI_add i 2]
  refine ax_sld dL_law_313 rfl (vp_in_nI (by omega) hL) ?_
  rw [nI_clamp (show i + 2 < 2 ^ 31 by omega)]
  refine ad_V2 ksX10_remembers lkL_39 dL_law_314 rfl is136 rfl (Nat.le_of_ble_eq_true rfl) (by omega) h2 ?_
  refine ax_icmp_eq (tgt := 1206) dL_law_317 (by decide) rfl (fun _ => kk _ h3) (fun c => absurd rfl c)
theorem lw_6 (hs : ST G l I mX9_year mX10_year [.int (ax_gX G (i + 1))]) (hL : ax_gL G < 2 ^ 31) (hi : i + 5 < ax_gL G) (hI : I mem) (kk : ∀ m2 : ax_Me, I m2 → AX G l (mLw nm) 8 1206 (lwL i) [] 153 0 (ax_hm m2) 153 0 lwQ) : AX G l (mLw nm) 8 322 (lwL i) [] 153 0 (ax_hm mem) 153 0 lwQ := by
  obtain ⟨r, d9, d10, m1, m2, e9, e10, h1, h2, h3⟩ := hs mem hI
  refine ax_aload_n (j := 1) dL_law_322 rfl rfl rfl ?_
  refine ax_aload_nX (j := 0) dL_law_323 rfl rfl rfl ?_
  refine ax_iload_n (j := 3) dL_law_324 rfl rfl rfl ?_
  refine ax_iconst (v := 1) dL_law_325 (by decide) rfl ?_
  refine ax_iadd dL_law_326 rfl ?_
  rw [show nI i + 1 = nI (i + 1) from nI_add i 1]
  refine ax_sld dL_law_327 rfl (vp_in_nI (by omega) hL) ?_
  rw [nI_clamp (show i + 1 < 2 ^ 31 by omega)]
  refine ad_V1 ksX9_year lkL_40 dL_law_328 rfl is0 rfl (Nat.le_of_ble_eq_true rfl) (by omega) h1 ?_
  refine ax_aload_n (j := 2) dL_law_331 rfl rfl rfl ?_
  refine ax_aload_nX (j := 0) dL_law_332 rfl rfl rfl ?_
  refine ax_iload_n (j := 3) dL_law_333 rfl rfl rfl ?_
  refine ax_iconst (v := 1) dL_law_334 (by decide) rfl ?_
  refine ax_iadd dL_law_335 rfl ?_
  rw [show nI i + 1 = nI (i + 1) from nI_add i 1]
  refine ax_sld dL_law_336 rfl (vp_in_nI (by omega) hL) ?_
  rw [nI_clamp (show i + 1 < 2 ^ 31 by omega)]
  refine ad_V1 ksX10_year lkL_43 dL_law_337 rfl is136 rfl (Nat.le_of_ble_eq_true rfl) (by omega) h2 ?_
  refine ax_icmp_eq (tgt := 1206) dL_law_340 (by decide) rfl (fun _ => kk _ h3) (fun c => absurd rfl c)
theorem lw_7 (hs : ST G l I mX9_meet mX10_meet [.int (ax_gX G (i + 1)), .int (ax_gX G (i + 2))]) (hL : ax_gL G < 2 ^ 31) (hi : i + 5 < ax_gL G) (hI : I mem) (kk : ∀ m2 : ax_Me, I m2 → AX G l (mLw nm) 8 1206 (lwL i) [] 153 0 (ax_hm m2) 153 0 lwQ) : AX G l (mLw nm) 8 345 (lwL i) [] 153 0 (ax_hm mem) 153 0 lwQ := by
  obtain ⟨r, d9, d10, m1, m2, e9, e10, h1, h2, h3⟩ := hs mem hI
  refine ax_aload_n (j := 1) dL_law_345 rfl rfl rfl ?_
  refine ax_aload_nX (j := 0) dL_law_346 rfl rfl rfl ?_
  refine ax_iload_n (j := 3) dL_law_347 rfl rfl rfl ?_
  refine ax_iconst (v := 1) dL_law_348 (by decide) rfl ?_
  refine ax_iadd dL_law_349 rfl ?_
  rw [show nI i + 1 = nI (i + 1) from nI_add i 1]
  refine ax_sld dL_law_350 rfl (vp_in_nI (by omega) hL) ?_
  rw [nI_clamp (show i + 1 < 2 ^ 31 by omega)]
  refine ax_aload_nX (j := 0) dL_law_351 rfl rfl rfl ?_
  refine ax_iload_n (j := 3) dL_law_352 rfl rfl rfl ?_
  refine ax_iconst (v := 2) dL_law_353 (by decide) rfl ?_
  refine ax_iadd dL_law_354 rfl ?_
  rw [show nI i + 2 = nI (i + 2) from nI_add i 2]
  refine ax_sld dL_law_355 rfl (vp_in_nI (by omega) hL) ?_
  rw [nI_clamp (show i + 2 < 2 ^ 31 by omega)]
  refine ad_V2 ksX9_meet lkL_44 dL_law_356 rfl is0 rfl (Nat.le_of_ble_eq_true rfl) (by omega) h1 ?_
  refine ax_aload_n (j := 2) dL_law_359 rfl rfl rfl ?_
  refine ax_aload_nX (j := 0) dL_law_360 rfl rfl rfl ?_
  refine ax_iload_n (j := 3) dL_law_361 rfl rfl rfl ?_
  refine ax_iconst (v := 1) dL_law_362 (by decide) rfl ?_
  refine ax_iadd dL_law_363 rfl ?_
  rw [show nI i + 1 = nI (i + 1) from nI_add i 1]
  refine ax_sld dL_law_364 rfl (vp_in_nI (by omega) hL) ?_
  rw [nI_clamp (show i + 1 < 2 ^ 31 by omega)]
  refine ax_aload_nX (j := 0) dL_law_365 rfl rfl rfl ?_
  refine ax_iload_n (j := 3) dL_law_366 rfl rfl rfl ?_
  refine ax_iconst (v := 2) dL_law_367 (by decide) rfl ?_
  refine ax_iadd dL_law_368 rfl ?_
  rw [show nI i + 2 = nI (i + 2) from nI_add i 2]
  refine ax_sld dL_law_369 rfl (vp_in_nI (by omega) hL) ?_
  rw [nI_clamp (show i + 2 < 2 ^ 31 by omega)]
  refine ad_V2 ksX10_meet lkL_47 dL_law_370 rfl is136 rfl (Nat.le_of_ble_eq_true rfl) (by omega) h2 ?_
  refine ax_icmp_eq (tgt := 1206) dL_law_373 (by decide) rfl (fun _ => kk _ h3) (fun c => absurd rfl c)
theorem lw_8 (hs : ST G l I mX9_forget mX10_forget [.int (ax_gX G (i + 1)), .int (ax_gX G (i + 2))]) (hL : ax_gL G < 2 ^ 31) (hi : i + 5 < ax_gL G) (hI : I mem) (kk : ∀ m2 : ax_Me, I m2 → AX G l (mLw nm) 8 1206 (lwL i) [] 153 0 (ax_hm m2) 153 0 lwQ) : AX G l (mLw nm) 8 378 (lwL i) [] 153 0 (ax_hm mem) 153 0 lwQ := by
  obtain ⟨r, d9, d10, m1, m2, e9, e10, h1, h2, h3⟩ := hs mem hI
  refine ax_aload_n (j := 1) dL_law_378 rfl rfl rfl ?_
  refine ax_aload_nX (j := 0) dL_law_379 rfl rfl rfl ?_
  refine ax_iload_n (j := 3) dL_law_380 rfl rfl rfl ?_
  refine ax_iconst (v := 1) dL_law_381 (by decide) rfl ?_
  refine ax_iadd dL_law_382 rfl ?_
  rw [show nI i + 1 = nI (i + 1) from nI_add i 1]
  refine ax_sld dL_law_383 rfl (vp_in_nI (by omega) hL) ?_
  rw [nI_clamp (show i + 1 < 2 ^ 31 by omega)]
  refine ax_aload_nX (j := 0) dL_law_384 rfl rfl rfl ?_
  refine ax_iload_n (j := 3) dL_law_385 rfl rfl rfl ?_
  refine ax_iconst (v := 2) dL_law_386 (by decide) rfl ?_
  refine ax_iadd dL_law_387 rfl ?_
  rw [show nI i + 2 = nI (i + 2) from nI_add i 2]
  refine ax_sld dL_law_388 rfl (vp_in_nI (by omega) hL) ?_
  rw [nI_clamp (show i + 2 < 2 ^ 31 by omega)]
  refine ad_V2 ksX9_forget lkL_48 dL_law_389 rfl is0 rfl (Nat.le_of_ble_eq_true rfl) (by omega) h1 ?_
  refine ax_aload_n (j := 2) dL_law_392 rfl rfl rfl ?_
  refine ax_aload_nX (j := 0) dL_law_393 rfl rfl rfl ?_
  refine ax_iload_n (j := 3) dL_law_394 rfl rfl rfl ?_
  refine ax_iconst (v := 1) dL_law_395 (by decide) rfl ?_
  refine ax_iadd dL_law_396 rfl ?_
  rw [show nI i + 1 = nI (i + 1) from nI_add i 1]
  refine ax_sld dL_law_397 rfl (vp_in_nI (by omega) hL) ?_
  rw [nI_clamp (show i + 1 < 2 ^ 31 by omega)]
  refine ax_aload_nX (j := 0) dL_law_398 rfl rfl rfl ?_
  refine ax_iload_n (j := 3) dL_law_399 rfl rfl rfl ?_
  refine ax_iconst (v := 2) dL_law_400 (by decide) rfl ?_
  refine ax_iadd dL_law_401 rfl ?_
  rw [show nI i + 2 = nI (i + 2) from nI_add i 2]
  refine ax_sld dL_law_402 rfl (vp_in_nI (by omega) hL) ?_
  rw [nI_clamp (show i + 2 < 2 ^ 31 by omega)]
  refine ad_V2 ksX10_forget lkL_51 dL_law_403 rfl is136 rfl (Nat.le_of_ble_eq_true rfl) (by omega) h2 ?_
  refine ax_icmp_eq (tgt := 1206) dL_law_406 (by decide) rfl (fun _ => kk _ h3) (fun c => absurd rfl c)
theorem lw_9 (hs : ST G l I mX9_parade mX10_parade [.int (ax_gX G (i + 1)), .int (ax_gX G (i + 2)), .int (ax_gX G (i + 3))]) (hL : ax_gL G < 2 ^ 31) (hi : i + 5 < ax_gL G) (hI : I mem) (kk : ∀ m2 : ax_Me, I m2 → AX G l (mLw nm) 8 1206 (lwL i) [] 153 0 (ax_hm m2) 153 0 lwQ) : AX G l (mLw nm) 8 411 (lwL i) [] 153 0 (ax_hm mem) 153 0 lwQ := by
  obtain ⟨r, d9, d10, m1, m2, e9, e10, h1, h2, h3⟩ := hs mem hI
  refine ax_aload_n (j := 1) dL_law_411 rfl rfl rfl ?_
  refine ax_aload_nX (j := 0) dL_law_412 rfl rfl rfl ?_
  refine ax_iload_n (j := 3) dL_law_413 rfl rfl rfl ?_
  refine ax_iconst (v := 1) dL_law_414 (by decide) rfl ?_
  refine ax_iadd dL_law_415 rfl ?_
  rw [show nI i + 1 = nI (i + 1) from nI_add i 1]
  refine ax_sld dL_law_416 rfl (vp_in_nI (by omega) hL) ?_
  rw [nI_clamp (show i + 1 < 2 ^ 31 by omega)]
  refine ax_aload_nX (j := 0) dL_law_417 rfl rfl rfl ?_
  refine ax_iload_n (j := 3) dL_law_418 rfl rfl rfl ?_
  refine ax_iconst (v := 2) dL_law_419 (by decide) rfl ?_
  refine ax_iadd dL_law_420 rfl ?_
  rw [show nI i + 2 = nI (i + 2) from nI_add i 2]
  refine ax_sld dL_law_421 rfl (vp_in_nI (by omega) hL) ?_
  rw [nI_clamp (show i + 2 < 2 ^ 31 by omega)]
  refine ax_aload_nX (j := 0) dL_law_422 rfl rfl rfl ?_
  refine ax_iload_n (j := 3) dL_law_423 rfl rfl rfl ?_
  refine ax_iconst (v := 3) dL_law_424 (by decide) rfl ?_
  refine ax_iadd dL_law_425 rfl ?_
  rw [show nI i + 3 = nI (i + 3) from nI_add i 3]
  refine ax_sld dL_law_426 rfl (vp_in_nI (by omega) hL) ?_
  rw [nI_clamp (show i + 3 < 2 ^ 31 by omega)]
  refine ad_V3 ksX9_parade lkL_52 dL_law_427 rfl is0 rfl (Nat.le_of_ble_eq_true rfl) (by omega) h1 ?_
  refine ax_aload_n (j := 2) dL_law_430 rfl rfl rfl ?_
  refine ax_aload_nX (j := 0) dL_law_431 rfl rfl rfl ?_
  refine ax_iload_n (j := 3) dL_law_432 rfl rfl rfl ?_
  refine ax_iconst (v := 1) dL_law_433 (by decide) rfl ?_
  refine ax_iadd dL_law_434 rfl ?_
  rw [show nI i + 1 = nI (i + 1) from nI_add i 1]
  refine ax_sld dL_law_435 rfl (vp_in_nI (by omega) hL) ?_
  rw [nI_clamp (show i + 1 < 2 ^ 31 by omega)]
  refine ax_aload_nX (j := 0) dL_law_436 rfl rfl rfl ?_
  refine ax_iload_n (j := 3) dL_law_437 rfl rfl rfl ?_
  refine ax_iconst (v := 2) dL_law_438 (by decide) rfl ?_
  refine ax_iadd dL_law_439 rfl ?_
  rw [show nI i + 2 = nI (i + 2) from nI_add i 2]
  refine ax_sld dL_law_440 rfl (vp_in_nI (by omega) hL) ?_
  rw [nI_clamp (show i + 2 < 2 ^ 31 by omega)]
  refine ax_aload_nX (j := 0) dL_law_441 rfl rfl rfl ?_
  refine ax_iload_n (j := 3) dL_law_442 rfl rfl rfl ?_
  refine ax_iconst (v := 3) dL_law_443 (by decide) rfl ?_
  refine ax_iadd dL_law_444 rfl ?_
  rw [show nI i + 3 = nI (i + 3) from nI_add i 3]
  refine ax_sld dL_law_445 rfl (vp_in_nI (by omega) hL) ?_
  rw [nI_clamp (show i + 3 < 2 ^ 31 by omega)]
  refine ad_V3 ksX10_parade lkL_56 dL_law_446 rfl is136 rfl (Nat.le_of_ble_eq_true rfl) (by omega) h2 ?_
  refine ax_icmp_eq (tgt := 1206) dL_law_449 (by decide) rfl (fun _ => kk _ h3) (fun c => absurd rfl c)
theorem lw_10 (hs : ST G l I mX9_mark mX10_mark [.int (ax_gX G (i + 1)), .int (ax_gX G (i + 2))]) (hL : ax_gL G < 2 ^ 31) (hi : i + 5 < ax_gL G) (hI : I mem) (kk : ∀ m2 : ax_Me, I m2 → AX G l (mLw nm) 8 1206 (lwL i) [] 153 0 (ax_hm m2) 153 0 lwQ) : AX G l (mLw nm) 8 454 (lwL i) [] 153 0 (ax_hm mem) 153 0 lwQ := by
  obtain ⟨r, d9, d10, m1, m2, e9, e10, h1, h2, h3⟩ := hs mem hI
  refine ax_aload_n (j := 1) dL_law_454 rfl rfl rfl ?_
  refine ax_aload_nX (j := 0) dL_law_455 rfl rfl rfl ?_
  refine ax_iload_n (j := 3) dL_law_456 rfl rfl rfl ?_
  refine ax_iconst (v := 1) dL_law_457 (by decide) rfl ?_
  refine ax_iadd dL_law_458 rfl ?_
  rw [show nI i + 1 = nI (i + 1) from nI_add i 1]
  refine ax_sld dL_law_459 rfl (vp_in_nI (by omega) hL) ?_
  rw [nI_clamp (show i + 1 < 2 ^ 31 by omega)]
  refine ax_aload_nX (j := 0) dL_law_460 rfl rfl rfl ?_
  refine ax_iload_n (j := 3) dL_law_461 rfl rfl rfl ?_
  refine ax_iconst (v := 2) dL_law_462 (by decide) rfl ?_
  refine ax_iadd dL_law_463 rfl ?_
  rw [show nI i + 2 = nI (i + 2) from nI_add i 2]
  refine ax_sld dL_law_464 rfl (vp_in_nI (by omega) hL) ?_
  rw [nI_clamp (show i + 2 < 2 ^ 31 by omega)]
  refine ad_V2 ksX9_mark lkL_57 dL_law_465 rfl is0 rfl (Nat.le_of_ble_eq_true rfl) (by omega) h1 ?_
  refine ax_aload_n (j := 2) dL_law_468 rfl rfl rfl ?_
  refine ax_aload_nX (j := 0) dL_law_469 rfl rfl rfl ?_
  refine ax_iload_n (j := 3) dL_law_470 rfl rfl rfl ?_
  refine ax_iconst (v := 1) dL_law_471 (by decide) rfl ?_
  refine ax_iadd dL_law_472 rfl ?_
  rw [show nI i + 1 = nI (i + 1) from nI_add i 1]
  refine ax_sld dL_law_473 rfl (vp_in_nI (by omega) hL) ?_
  rw [nI_clamp (show i + 1 < 2 ^ 31 by omega)]
  refine ax_aload_nX (j := 0) dL_law_474 rfl rfl rfl ?_
  refine ax_iload_n (j := 3) dL_law_475 rfl rfl rfl ?_
  refine ax_iconst (v := 2) dL_law_476 (by decide) rfl ?_
  refine ax_iadd dL_law_477 rfl ?_
  rw [show nI i + 2 = nI (i + 2) from nI_add i 2]
  refine ax_sld dL_law_478 rfl (vp_in_nI (by omega) hL) ?_
  rw [nI_clamp (show i + 2 < 2 ^ 31 by omega)]
  refine ad_V2 ksX10_mark lkL_60 dL_law_479 rfl is136 rfl (Nat.le_of_ble_eq_true rfl) (by omega) h2 ?_
  refine ax_icmp_eq (tgt := 1206) dL_law_482 (by decide) rfl (fun _ => kk _ h3) (fun c => absurd rfl c)
theorem lw_11 (hs : ST G l I mX9_drift mX10_drift [.int (ax_gX G (i + 1))]) (hL : ax_gL G < 2 ^ 31) (hi : i + 5 < ax_gL G) (hI : I mem) (kk : ∀ m2 : ax_Me, I m2 → AX G l (mLw nm) 8 1206 (lwL i) [] 153 0 (ax_hm m2) 153 0 lwQ) : AX G l (mLw nm) 8 487 (lwL i) [] 153 0 (ax_hm mem) 153 0 lwQ := by
  obtain ⟨r, d9, d10, m1, m2, e9, e10, h1, h2, h3⟩ := hs mem hI
  refine ax_aload_n (j := 1) dL_law_487 rfl rfl rfl ?_
  refine ax_aload_nX (j := 0) dL_law_488 rfl rfl rfl ?_
  refine ax_iload_n (j := 3) dL_law_489 rfl rfl rfl ?_
  refine ax_iconst (v := 1) dL_law_490 (by decide) rfl ?_
  refine ax_iadd dL_law_491 rfl ?_
  rw [show nI i + 1 = nI (i + 1) from nI_add i 1]
  refine ax_sld dL_law_492 rfl (vp_in_nI (by omega) hL) ?_
  rw [nI_clamp (show i + 1 < 2 ^ 31 by omega)]
  refine ad_V1 ksX9_drift lkL_61 dL_law_493 rfl is0 rfl (Nat.le_of_ble_eq_true rfl) (by omega) h1 ?_
  refine ax_aload_n (j := 2) dL_law_496 rfl rfl rfl ?_
  refine ax_aload_nX (j := 0) dL_law_497 rfl rfl rfl ?_
  refine ax_iload_n (j := 3) dL_law_498 rfl rfl rfl ?_
  refine ax_iconst (v := 1) dL_law_499 (by decide) rfl ?_
  refine ax_iadd dL_law_500 rfl ?_
  rw [show nI i + 1 = nI (i + 1) from nI_add i 1]
  refine ax_sld dL_law_501 rfl (vp_in_nI (by omega) hL) ?_
  rw [nI_clamp (show i + 1 < 2 ^ 31 by omega)]
  refine ad_V1 ksX10_drift lkL_64 dL_law_502 rfl is136 rfl (Nat.le_of_ble_eq_true rfl) (by omega) h2 ?_
  refine ax_icmp_eq (tgt := 1206) dL_law_505 (by decide) rfl (fun _ => kk _ h3) (fun c => absurd rfl c)
theorem lw_12 (hs : ST G l I mX9_undo mX10_undo []) (hL : ax_gL G < 2 ^ 31) (hi : i + 5 < ax_gL G) (hI : I mem) (kk : ∀ m2 : ax_Me, I m2 → AX G l (mLw nm) 8 1206 (lwL i) [] 153 0 (ax_hm m2) 153 0 lwQ) : AX G l (mLw nm) 8 510 (lwL i) [] 153 0 (ax_hm mem) 153 0 lwQ := by
  obtain ⟨r, d9, d10, m1, m2, e9, e10, h1, h2, h3⟩ := hs mem hI
  refine ax_aload_n (j := 1) dL_law_510 rfl rfl rfl ?_
  refine ad_V0 ksX9_undo lkL_65 dL_law_511 rfl is0 rfl (Nat.le_of_ble_eq_true rfl) (by omega) h1 ?_
  refine ax_aload_n (j := 2) dL_law_514 rfl rfl rfl ?_
  refine ad_V0 ksX10_undo lkL_68 dL_law_515 rfl is136 rfl (Nat.le_of_ble_eq_true rfl) (by omega) h2 ?_
  refine ax_icmp_eq (tgt := 1206) dL_law_518 (by decide) rfl (fun _ => kk _ h3) (fun c => absurd rfl c)
theorem lw_13 (hs : ST G l I mX9_sure mX10_sure [.int (ax_gX G (i + 1)), .int (ax_gX G (i + 2)), .int (ax_gX G (i + 3))]) (hL : ax_gL G < 2 ^ 31) (hi : i + 5 < ax_gL G) (hI : I mem) (kk : ∀ m2 : ax_Me, I m2 → AX G l (mLw nm) 8 1206 (lwL i) [] 153 0 (ax_hm m2) 153 0 lwQ) : AX G l (mLw nm) 8 523 (lwL i) [] 153 0 (ax_hm mem) 153 0 lwQ := by
  obtain ⟨r, d9, d10, m1, m2, e9, e10, h1, h2, h3⟩ := hs mem hI
  refine ax_aload_n (j := 1) dL_law_523 rfl rfl rfl ?_
  refine ax_aload_nX (j := 0) dL_law_524 rfl rfl rfl ?_
  refine ax_iload_n (j := 3) dL_law_525 rfl rfl rfl ?_
  refine ax_iconst (v := 1) dL_law_526 (by decide) rfl ?_
  refine ax_iadd dL_law_527 rfl ?_
  rw [show nI i + 1 = nI (i + 1) from nI_add i 1]
  refine ax_sld dL_law_528 rfl (vp_in_nI (by omega) hL) ?_
  rw [nI_clamp (show i + 1 < 2 ^ 31 by omega)]
  refine ax_aload_nX (j := 0) dL_law_529 rfl rfl rfl ?_
  refine ax_iload_n (j := 3) dL_law_530 rfl rfl rfl ?_
  refine ax_iconst (v := 2) dL_law_531 (by decide) rfl ?_
  refine ax_iadd dL_law_532 rfl ?_
  rw [show nI i + 2 = nI (i + 2) from nI_add i 2]
  refine ax_sld dL_law_533 rfl (vp_in_nI (by omega) hL) ?_
  rw [nI_clamp (show i + 2 < 2 ^ 31 by omega)]
  refine ax_aload_nX (j := 0) dL_law_534 rfl rfl rfl ?_
  refine ax_iload_n (j := 3) dL_law_535 rfl rfl rfl ?_
  refine ax_iconst (v := 3) dL_law_536 (by decide) rfl ?_
  refine ax_iadd dL_law_537 rfl ?_
  rw [show nI i + 3 = nI (i + 3) from nI_add i 3]
  refine ax_sld dL_law_538 rfl (vp_in_nI (by omega) hL) ?_
  rw [nI_clamp (show i + 3 < 2 ^ 31 by omega)]
  refine ad_V3 ksX9_sure lkL_69 dL_law_539 rfl is0 rfl (Nat.le_of_ble_eq_true rfl) (by omega) h1 ?_
  refine ax_aload_n (j := 2) dL_law_542 rfl rfl rfl ?_
  refine ax_aload_nX (j := 0) dL_law_543 rfl rfl rfl ?_
  refine ax_iload_n (j := 3) dL_law_544 rfl rfl rfl ?_
  refine ax_iconst (v := 1) dL_law_545 (by decide) rfl ?_
  refine ax_iadd dL_law_546 rfl ?_
  rw [show nI i + 1 = nI (i + 1) from nI_add i 1]
  refine ax_sld dL_law_547 rfl (vp_in_nI (by omega) hL) ?_
  rw [nI_clamp (show i + 1 < 2 ^ 31 by omega)]
  refine ax_aload_nX (j := 0) dL_law_548 rfl rfl rfl ?_
  refine ax_iload_n (j := 3) dL_law_549 rfl rfl rfl ?_
  refine ax_iconst (v := 2) dL_law_550 (by decide) rfl ?_
  refine ax_iadd dL_law_551 rfl ?_
  rw [show nI i + 2 = nI (i + 2) from nI_add i 2]
  refine ax_sld dL_law_552 rfl (vp_in_nI (by omega) hL) ?_
  rw [nI_clamp (show i + 2 < 2 ^ 31 by omega)]
  refine ax_aload_nX (j := 0) dL_law_553 rfl rfl rfl ?_
  refine ax_iload_n (j := 3) dL_law_554 rfl rfl rfl ?_
  refine ax_iconst (v := 3) dL_law_555 (by decide) rfl ?_
  refine ax_iadd dL_law_556 rfl ?_
  rw [show nI i + 3 = nI (i + 3) from nI_add i 3]
  refine ax_sld dL_law_557 rfl (vp_in_nI (by omega) hL) ?_
  rw [nI_clamp (show i + 3 < 2 ^ 31 by omega)]
  refine ad_V3 ksX10_sure lkL_72 dL_law_558 rfl is136 rfl (Nat.le_of_ble_eq_true rfl) (by omega) h2 ?_
  refine ax_icmp_eq (tgt := 1206) dL_law_561 (by decide) rfl (fun _ => kk _ h3) (fun c => absurd rfl c)
theorem lw_14 (hs : ST G l I mX9_bestRow mX10_bestRow [.int (ax_gX G (i + 1)), .int (ax_gX G (i + 2)), .int (ax_gX G (i + 3))]) (hL : ax_gL G < 2 ^ 31) (hi : i + 5 < ax_gL G) (hI : I mem) (kk : ∀ m2 : ax_Me, I m2 → AX G l (mLw nm) 8 1206 (lwL i) [] 153 0 (ax_hm m2) 153 0 lwQ) : AX G l (mLw nm) 8 566 (lwL i) [] 153 0 (ax_hm mem) 153 0 lwQ := by
  obtain ⟨r, d9, d10, m1, m2, e9, e10, h1, h2, h3⟩ := hs mem hI
  refine ax_aload_n (j := 1) dL_law_566 rfl rfl rfl ?_
  refine ax_aload_nX (j := 0) dL_law_567 rfl rfl rfl ?_
  refine ax_iload_n (j := 3) dL_law_568 rfl rfl rfl ?_
  refine ax_iconst (v := 1) dL_law_569 (by decide) rfl ?_
  refine ax_iadd dL_law_570 rfl ?_
  rw [show nI i + 1 = nI (i + 1) from nI_add i 1]
  refine ax_sld dL_law_571 rfl (vp_in_nI (by omega) hL) ?_
  rw [nI_clamp (show i + 1 < 2 ^ 31 by omega)]
  refine ax_aload_nX (j := 0) dL_law_572 rfl rfl rfl ?_
  refine ax_iload_n (j := 3) dL_law_573 rfl rfl rfl ?_
  refine ax_iconst (v := 2) dL_law_574 (by decide) rfl ?_
  refine ax_iadd dL_law_575 rfl ?_
  rw [show nI i + 2 = nI (i + 2) from nI_add i 2]
  refine ax_sld dL_law_576 rfl (vp_in_nI (by omega) hL) ?_
  rw [nI_clamp (show i + 2 < 2 ^ 31 by omega)]
  refine ax_aload_nX (j := 0) dL_law_577 rfl rfl rfl ?_
  refine ax_iload_n (j := 3) dL_law_578 rfl rfl rfl ?_
  refine ax_iconst (v := 3) dL_law_579 (by decide) rfl ?_
  refine ax_iadd dL_law_580 rfl ?_
  rw [show nI i + 3 = nI (i + 3) from nI_add i 3]
  refine ax_sld dL_law_581 rfl (vp_in_nI (by omega) hL) ?_
  rw [nI_clamp (show i + 3 < 2 ^ 31 by omega)]
  refine ad_V3 ksX9_bestRow lkL_73 dL_law_582 rfl is0 rfl (Nat.le_of_ble_eq_true rfl) (by omega) h1 ?_
  refine ax_aload_n (j := 2) dL_law_585 rfl rfl rfl ?_
  refine ax_aload_nX (j := 0) dL_law_586 rfl rfl rfl ?_
  refine ax_iload_n (j := 3) dL_law_587 rfl rfl rfl ?_
  refine ax_iconst (v := 1) dL_law_588 (by decide) rfl ?_
  refine ax_iadd dL_law_589 rfl ?_
  rw [show nI i + 1 = nI (i + 1) from nI_add i 1]
  refine ax_sld dL_law_590 rfl (vp_in_nI (by omega) hL) ?_
  rw [nI_clamp (show i + 1 < 2 ^ 31 by omega)]
  refine ax_aload_nX (j := 0) dL_law_591 rfl rfl rfl ?_
  refine ax_iload_n (j := 3) dL_law_592 rfl rfl rfl ?_
  refine ax_iconst (v := 2) dL_law_593 (by decide) rfl ?_
  refine ax_iadd dL_law_594 rfl ?_
  rw [show nI i + 2 = nI (i + 2) from nI_add i 2]
  refine ax_sld dL_law_595 rfl (vp_in_nI (by omega) hL) ?_
  rw [nI_clamp (show i + 2 < 2 ^ 31 by omega)]
  refine ax_aload_nX (j := 0) dL_law_596 rfl rfl rfl ?_
  refine ax_iload_n (j := 3) dL_law_597 rfl rfl rfl ?_
  refine ax_iconst (v := 3) dL_law_598 (by decide) rfl ?_
  refine ax_iadd dL_law_599 rfl ?_
  rw [show nI i + 3 = nI (i + 3) from nI_add i 3]
  refine ax_sld dL_law_600 rfl (vp_in_nI (by omega) hL) ?_
  rw [nI_clamp (show i + 3 < 2 ^ 31 by omega)]
  refine ad_V3 ksX10_bestRow lkL_76 dL_law_601 rfl is136 rfl (Nat.le_of_ble_eq_true rfl) (by omega) h2 ?_
  refine ax_icmp_eq (tgt := 1206) dL_law_604 (by decide) rfl (fun _ => kk _ h3) (fun c => absurd rfl c)
theorem lw_15 (hs : ST G l I mX9_odds mX10_odds [.int (ax_gX G (i + 1)), .int (ax_gX G (i + 2)), .int (ax_gX G (i + 3)), .int (ax_gX G (i + 4))]) (hL : ax_gL G < 2 ^ 31) (hi : i + 5 < ax_gL G) (hI : I mem) (kk : ∀ m2 : ax_Me, I m2 → AX G l (mLw nm) 8 1206 (lwL i) [] 153 0 (ax_hm m2) 153 0 lwQ) : AX G l (mLw nm) 8 609 (lwL i) [] 153 0 (ax_hm mem) 153 0 lwQ := by
  obtain ⟨r, d9, d10, m1, m2, e9, e10, h1, h2, h3⟩ := hs mem hI
  refine ax_aload_n (j := 1) dL_law_609 rfl rfl rfl ?_
  refine ax_aload_nX (j := 0) dL_law_610 rfl rfl rfl ?_
  refine ax_iload_n (j := 3) dL_law_611 rfl rfl rfl ?_
  refine ax_iconst (v := 1) dL_law_612 (by decide) rfl ?_
  refine ax_iadd dL_law_613 rfl ?_
  rw [show nI i + 1 = nI (i + 1) from nI_add i 1]
  refine ax_sld dL_law_614 rfl (vp_in_nI (by omega) hL) ?_
  rw [nI_clamp (show i + 1 < 2 ^ 31 by omega)]
  refine ax_aload_nX (j := 0) dL_law_615 rfl rfl rfl ?_
  refine ax_iload_n (j := 3) dL_law_616 rfl rfl rfl ?_
  refine ax_iconst (v := 2) dL_law_617 (by decide) rfl ?_
  refine ax_iadd dL_law_618 rfl ?_
  rw [show nI i + 2 = nI (i + 2) from nI_add i 2]
  refine ax_sld dL_law_619 rfl (vp_in_nI (by omega) hL) ?_
  rw [nI_clamp (show i + 2 < 2 ^ 31 by omega)]
  refine ax_aload_nX (j := 0) dL_law_620 rfl rfl rfl ?_
  refine ax_iload_n (j := 3) dL_law_621 rfl rfl rfl ?_
  refine ax_iconst (v := 3) dL_law_622 (by decide) rfl ?_
  refine ax_iadd dL_law_623 rfl ?_
  rw [show nI i + 3 = nI (i + 3) from nI_add i 3]
  refine ax_sld dL_law_624 rfl (vp_in_nI (by omega) hL) ?_
  rw [nI_clamp (show i + 3 < 2 ^ 31 by omega)]
  refine ax_aload_nX (j := 0) dL_law_625 rfl rfl rfl ?_
  refine ax_iload_n (j := 3) dL_law_626 rfl rfl rfl ?_
  refine ax_iconst (v := 4) dL_law_627 (by decide) rfl ?_
  refine ax_iadd dL_law_628 rfl ?_
  rw [show nI i + 4 = nI (i + 4) from nI_add i 4]
  refine ax_sld dL_law_629 rfl (vp_in_nI (by omega) hL) ?_
  rw [nI_clamp (show i + 4 < 2 ^ 31 by omega)]
  refine ad_V4 ksX9_odds lkL_77 dL_law_630 rfl is0 rfl (Nat.le_of_ble_eq_true rfl) (by omega) h1 ?_
  refine ax_aload_n (j := 2) dL_law_633 rfl rfl rfl ?_
  refine ax_aload_nX (j := 0) dL_law_634 rfl rfl rfl ?_
  refine ax_iload_n (j := 3) dL_law_635 rfl rfl rfl ?_
  refine ax_iconst (v := 1) dL_law_636 (by decide) rfl ?_
  refine ax_iadd dL_law_637 rfl ?_
  rw [show nI i + 1 = nI (i + 1) from nI_add i 1]
  refine ax_sld dL_law_638 rfl (vp_in_nI (by omega) hL) ?_
  rw [nI_clamp (show i + 1 < 2 ^ 31 by omega)]
  refine ax_aload_nX (j := 0) dL_law_639 rfl rfl rfl ?_
  refine ax_iload_n (j := 3) dL_law_640 rfl rfl rfl ?_
  refine ax_iconst (v := 2) dL_law_641 (by decide) rfl ?_
  refine ax_iadd dL_law_642 rfl ?_
  rw [show nI i + 2 = nI (i + 2) from nI_add i 2]
  refine ax_sld dL_law_643 rfl (vp_in_nI (by omega) hL) ?_
  rw [nI_clamp (show i + 2 < 2 ^ 31 by omega)]
  refine ax_aload_nX (j := 0) dL_law_644 rfl rfl rfl ?_
  refine ax_iload_n (j := 3) dL_law_645 rfl rfl rfl ?_
  refine ax_iconst (v := 3) dL_law_646 (by decide) rfl ?_
  refine ax_iadd dL_law_647 rfl ?_
  rw [show nI i + 3 = nI (i + 3) from nI_add i 3]
  refine ax_sld dL_law_648 rfl (vp_in_nI (by omega) hL) ?_
  rw [nI_clamp (show i + 3 < 2 ^ 31 by omega)]
  refine ax_aload_nX (j := 0) dL_law_649 rfl rfl rfl ?_
  refine ax_iload_n (j := 3) dL_law_650 rfl rfl rfl ?_
  refine ax_iconst (v := 4) dL_law_651 (by decide) rfl ?_
  refine ax_iadd dL_law_652 rfl ?_
  rw [show nI i + 4 = nI (i + 4) from nI_add i 4]
  refine ax_sld dL_law_653 rfl (vp_in_nI (by omega) hL) ?_
  rw [nI_clamp (show i + 4 < 2 ^ 31 by omega)]
  refine ad_V4 ksX10_odds lkL_81 dL_law_654 rfl is136 rfl (Nat.le_of_ble_eq_true rfl) (by omega) h2 ?_
  refine ax_icmp_eq (tgt := 1206) dL_law_657 (by decide) rfl (fun _ => kk _ h3) (fun c => absurd rfl c)
theorem lw_16 (hs : ST G l I mX9_ask mX10_ask [.int (ax_gX G (i + 1)), .int (ax_gX G (i + 2))]) (hL : ax_gL G < 2 ^ 31) (hi : i + 5 < ax_gL G) (hI : I mem) (kk : ∀ m2 : ax_Me, I m2 → AX G l (mLw nm) 8 1206 (lwL i) [] 153 0 (ax_hm m2) 153 0 lwQ) : AX G l (mLw nm) 8 662 (lwL i) [] 153 0 (ax_hm mem) 153 0 lwQ := by
  obtain ⟨r, d9, d10, m1, m2, e9, e10, h1, h2, h3⟩ := hs mem hI
  refine ax_aload_n (j := 1) dL_law_662 rfl rfl rfl ?_
  refine ax_aload_nX (j := 0) dL_law_663 rfl rfl rfl ?_
  refine ax_iload_n (j := 3) dL_law_664 rfl rfl rfl ?_
  refine ax_iconst (v := 1) dL_law_665 (by decide) rfl ?_
  refine ax_iadd dL_law_666 rfl ?_
  rw [show nI i + 1 = nI (i + 1) from nI_add i 1]
  refine ax_sld dL_law_667 rfl (vp_in_nI (by omega) hL) ?_
  rw [nI_clamp (show i + 1 < 2 ^ 31 by omega)]
  refine ax_aload_nX (j := 0) dL_law_668 rfl rfl rfl ?_
  refine ax_iload_n (j := 3) dL_law_669 rfl rfl rfl ?_
  refine ax_iconst (v := 2) dL_law_670 (by decide) rfl ?_
  refine ax_iadd dL_law_671 rfl ?_
  rw [show nI i + 2 = nI (i + 2) from nI_add i 2]
  refine ax_sld dL_law_672 rfl (vp_in_nI (by omega) hL) ?_
  rw [nI_clamp (show i + 2 < 2 ^ 31 by omega)]
  refine ad_V2 ksX9_ask lkL_82 dL_law_673 rfl is0 rfl (Nat.le_of_ble_eq_true rfl) (by omega) h1 ?_
  refine ax_aload_n (j := 2) dL_law_676 rfl rfl rfl ?_
  refine ax_aload_nX (j := 0) dL_law_677 rfl rfl rfl ?_
  refine ax_iload_n (j := 3) dL_law_678 rfl rfl rfl ?_
  refine ax_iconst (v := 1) dL_law_679 (by decide) rfl ?_
  refine ax_iadd dL_law_680 rfl ?_
  rw [show nI i + 1 = nI (i + 1) from nI_add i 1]
  refine ax_sld dL_law_681 rfl (vp_in_nI (by omega) hL) ?_
  rw [nI_clamp (show i + 1 < 2 ^ 31 by omega)]
  refine ax_aload_nX (j := 0) dL_law_682 rfl rfl rfl ?_
  refine ax_iload_n (j := 3) dL_law_683 rfl rfl rfl ?_
  refine ax_iconst (v := 2) dL_law_684 (by decide) rfl ?_
  refine ax_iadd dL_law_685 rfl ?_
  rw [show nI i + 2 = nI (i + 2) from nI_add i 2]
  refine ax_sld dL_law_686 rfl (vp_in_nI (by omega) hL) ?_
  rw [nI_clamp (show i + 2 < 2 ^ 31 by omega)]
  refine ad_V2 ksX10_ask lkL_85 dL_law_687 rfl is136 rfl (Nat.le_of_ble_eq_true rfl) (by omega) h2 ?_
  refine ax_icmp_eq (tgt := 1206) dL_law_690 (by decide) rfl (fun _ => kk _ h3) (fun c => absurd rfl c)
theorem lw_17 (hs : ST G l I mX9_ring mX10_ring [.int (ax_gX G (i + 1))]) (hL : ax_gL G < 2 ^ 31) (hi : i + 5 < ax_gL G) (hI : I mem) (kk : ∀ m2 : ax_Me, I m2 → AX G l (mLw nm) 8 1206 (lwL i) [] 153 0 (ax_hm m2) 153 0 lwQ) : AX G l (mLw nm) 8 695 (lwL i) [] 153 0 (ax_hm mem) 153 0 lwQ := by
  obtain ⟨r, d9, d10, m1, m2, e9, e10, h1, h2, h3⟩ := hs mem hI
  refine ax_aload_n (j := 1) dL_law_695 rfl rfl rfl ?_
  refine ax_aload_nX (j := 0) dL_law_696 rfl rfl rfl ?_
  refine ax_iload_n (j := 3) dL_law_697 rfl rfl rfl ?_
  refine ax_iconst (v := 1) dL_law_698 (by decide) rfl ?_
  refine ax_iadd dL_law_699 rfl ?_
  rw [show nI i + 1 = nI (i + 1) from nI_add i 1]
  refine ax_sld dL_law_700 rfl (vp_in_nI (by omega) hL) ?_
  rw [nI_clamp (show i + 1 < 2 ^ 31 by omega)]
  refine ad_V1 ksX9_ring lkL_86 dL_law_701 rfl is0 rfl (Nat.le_of_ble_eq_true rfl) (by omega) h1 ?_
  refine ax_aload_n (j := 2) dL_law_704 rfl rfl rfl ?_
  refine ax_aload_nX (j := 0) dL_law_705 rfl rfl rfl ?_
  refine ax_iload_n (j := 3) dL_law_706 rfl rfl rfl ?_
  refine ax_iconst (v := 1) dL_law_707 (by decide) rfl ?_
  refine ax_iadd dL_law_708 rfl ?_
  rw [show nI i + 1 = nI (i + 1) from nI_add i 1]
  refine ax_sld dL_law_709 rfl (vp_in_nI (by omega) hL) ?_
  rw [nI_clamp (show i + 1 < 2 ^ 31 by omega)]
  refine ad_V1 ksX10_ring lkL_89 dL_law_710 rfl is136 rfl (Nat.le_of_ble_eq_true rfl) (by omega) h2 ?_
  refine ax_icmp_eq (tgt := 1206) dL_law_713 (by decide) rfl (fun _ => kk _ h3) (fun c => absurd rfl c)
theorem lw_18 (hs : ST G l I mX9_rings mX10_rings [.int (ax_gX G (i + 1))]) (hL : ax_gL G < 2 ^ 31) (hi : i + 5 < ax_gL G) (hI : I mem) (kk : ∀ m2 : ax_Me, I m2 → AX G l (mLw nm) 8 1206 (lwL i) [] 153 0 (ax_hm m2) 153 0 lwQ) : AX G l (mLw nm) 8 718 (lwL i) [] 153 0 (ax_hm mem) 153 0 lwQ := by
  obtain ⟨r, d9, d10, m1, m2, e9, e10, h1, h2, h3⟩ := hs mem hI
  refine ax_aload_n (j := 1) dL_law_718 rfl rfl rfl ?_
  refine ax_aload_nX (j := 0) dL_law_719 rfl rfl rfl ?_
  refine ax_iload_n (j := 3) dL_law_720 rfl rfl rfl ?_
  refine ax_iconst (v := 1) dL_law_721 (by decide) rfl ?_
  refine ax_iadd dL_law_722 rfl ?_
  rw [show nI i + 1 = nI (i + 1) from nI_add i 1]
  refine ax_sld dL_law_723 rfl (vp_in_nI (by omega) hL) ?_
  rw [nI_clamp (show i + 1 < 2 ^ 31 by omega)]
  refine ad_V1 ksX9_rings lkL_90 dL_law_724 rfl is0 rfl (Nat.le_of_ble_eq_true rfl) (by omega) h1 ?_
  refine ax_aload_n (j := 2) dL_law_727 rfl rfl rfl ?_
  refine ax_aload_nX (j := 0) dL_law_728 rfl rfl rfl ?_
  refine ax_iload_n (j := 3) dL_law_729 rfl rfl rfl ?_
  refine ax_iconst (v := 1) dL_law_730 (by decide) rfl ?_
  refine ax_iadd dL_law_731 rfl ?_
  rw [show nI i + 1 = nI (i + 1) from nI_add i 1]
  refine ax_sld dL_law_732 rfl (vp_in_nI (by omega) hL) ?_
  rw [nI_clamp (show i + 1 < 2 ^ 31 by omega)]
  refine ad_V1 ksX10_rings lkL_93 dL_law_733 rfl is136 rfl (Nat.le_of_ble_eq_true rfl) (by omega) h2 ?_
  refine ax_icmp_eq (tgt := 1206) dL_law_736 (by decide) rfl (fun _ => kk _ h3) (fun c => absurd rfl c)
theorem lw_19 (hs : ST G l I mX9_mask mX10_mask [.int (ax_gX G (i + 1)), .int (ax_gX G (i + 2)), .int (ax_gX G (i + 3)), .int (ax_gX G (i + 4))]) (hL : ax_gL G < 2 ^ 31) (hi : i + 5 < ax_gL G) (hI : I mem) (kk : ∀ m2 : ax_Me, I m2 → AX G l (mLw nm) 8 1206 (lwL i) [] 153 0 (ax_hm m2) 153 0 lwQ) : AX G l (mLw nm) 8 741 (lwL i) [] 153 0 (ax_hm mem) 153 0 lwQ := by
  obtain ⟨r, d9, d10, m1, m2, e9, e10, h1, h2, h3⟩ := hs mem hI
  refine ax_aload_n (j := 1) dL_law_741 rfl rfl rfl ?_
  refine ax_aload_nX (j := 0) dL_law_742 rfl rfl rfl ?_
  refine ax_iload_n (j := 3) dL_law_743 rfl rfl rfl ?_
  refine ax_iconst (v := 1) dL_law_744 (by decide) rfl ?_
  refine ax_iadd dL_law_745 rfl ?_
  rw [show nI i + 1 = nI (i + 1) from nI_add i 1]
  refine ax_sld dL_law_746 rfl (vp_in_nI (by omega) hL) ?_
  rw [nI_clamp (show i + 1 < 2 ^ 31 by omega)]
  refine ax_aload_nX (j := 0) dL_law_747 rfl rfl rfl ?_
  refine ax_iload_n (j := 3) dL_law_748 rfl rfl rfl ?_
  refine ax_iconst (v := 2) dL_law_749 (by decide) rfl ?_
  refine ax_iadd dL_law_750 rfl ?_
  rw [show nI i + 2 = nI (i + 2) from nI_add i 2]
  refine ax_sld dL_law_751 rfl (vp_in_nI (by omega) hL) ?_
  rw [nI_clamp (show i + 2 < 2 ^ 31 by omega)]
  refine ax_aload_nX (j := 0) dL_law_752 rfl rfl rfl ?_
  refine ax_iload_n (j := 3) dL_law_753 rfl rfl rfl ?_
  refine ax_iconst (v := 3) dL_law_754 (by decide) rfl ?_
  refine ax_iadd dL_law_755 rfl ?_
  rw [show nI i + 3 = nI (i + 3) from nI_add i 3]
  refine ax_sld dL_law_756 rfl (vp_in_nI (by omega) hL) ?_
  rw [nI_clamp (show i + 3 < 2 ^ 31 by omega)]
  refine ax_aload_nX (j := 0) dL_law_757 rfl rfl rfl ?_
  refine ax_iload_n (j := 3) dL_law_758 rfl rfl rfl ?_
  refine ax_iconst (v := 4) dL_law_759 (by decide) rfl ?_
  refine ax_iadd dL_law_760 rfl ?_
  rw [show nI i + 4 = nI (i + 4) from nI_add i 4]
  refine ax_sld dL_law_761 rfl (vp_in_nI (by omega) hL) ?_
  rw [nI_clamp (show i + 4 < 2 ^ 31 by omega)]
  refine ad_V4 ksX9_mask lkL_94 dL_law_762 rfl is0 rfl (Nat.le_of_ble_eq_true rfl) (by omega) h1 ?_
  refine ax_aload_n (j := 2) dL_law_765 rfl rfl rfl ?_
  refine ax_aload_nX (j := 0) dL_law_766 rfl rfl rfl ?_
  refine ax_iload_n (j := 3) dL_law_767 rfl rfl rfl ?_
  refine ax_iconst (v := 1) dL_law_768 (by decide) rfl ?_
  refine ax_iadd dL_law_769 rfl ?_
  rw [show nI i + 1 = nI (i + 1) from nI_add i 1]
  refine ax_sld dL_law_770 rfl (vp_in_nI (by omega) hL) ?_
  rw [nI_clamp (show i + 1 < 2 ^ 31 by omega)]
  refine ax_aload_nX (j := 0) dL_law_771 rfl rfl rfl ?_
  refine ax_iload_n (j := 3) dL_law_772 rfl rfl rfl ?_
  refine ax_iconst (v := 2) dL_law_773 (by decide) rfl ?_
  refine ax_iadd dL_law_774 rfl ?_
  rw [show nI i + 2 = nI (i + 2) from nI_add i 2]
  refine ax_sld dL_law_775 rfl (vp_in_nI (by omega) hL) ?_
  rw [nI_clamp (show i + 2 < 2 ^ 31 by omega)]
  refine ax_aload_nX (j := 0) dL_law_776 rfl rfl rfl ?_
  refine ax_iload_n (j := 3) dL_law_777 rfl rfl rfl ?_
  refine ax_iconst (v := 3) dL_law_778 (by decide) rfl ?_
  refine ax_iadd dL_law_779 rfl ?_
  rw [show nI i + 3 = nI (i + 3) from nI_add i 3]
  refine ax_sld dL_law_780 rfl (vp_in_nI (by omega) hL) ?_
  rw [nI_clamp (show i + 3 < 2 ^ 31 by omega)]
  refine ax_aload_nX (j := 0) dL_law_781 rfl rfl rfl ?_
  refine ax_iload_n (j := 3) dL_law_782 rfl rfl rfl ?_
  refine ax_iconst (v := 4) dL_law_783 (by decide) rfl ?_
  refine ax_iadd dL_law_784 rfl ?_
  rw [show nI i + 4 = nI (i + 4) from nI_add i 4]
  refine ax_sld dL_law_785 rfl (vp_in_nI (by omega) hL) ?_
  rw [nI_clamp (show i + 4 < 2 ^ 31 by omega)]
  refine ad_V4 ksX10_mask lkL_97 dL_law_786 rfl is136 rfl (Nat.le_of_ble_eq_true rfl) (by omega) h2 ?_
  refine ax_icmp_eq (tgt := 1206) dL_law_789 (by decide) rfl (fun _ => kk _ h3) (fun c => absurd rfl c)
theorem lw_20 (hs : ST G l I mX9_spoil mX10_spoil [.int (ax_gX G (i + 1)), .int (ax_gX G (i + 2)), .int (ax_gX G (i + 3)), .int (ax_gX G (i + 4))]) (hL : ax_gL G < 2 ^ 31) (hi : i + 5 < ax_gL G) (hI : I mem) (kk : ∀ m2 : ax_Me, I m2 → AX G l (mLw nm) 8 1206 (lwL i) [] 153 0 (ax_hm m2) 153 0 lwQ) : AX G l (mLw nm) 8 794 (lwL i) [] 153 0 (ax_hm mem) 153 0 lwQ := by
  obtain ⟨r, d9, d10, m1, m2, e9, e10, h1, h2, h3⟩ := hs mem hI
  refine ax_aload_n (j := 1) dL_law_794 rfl rfl rfl ?_
  refine ax_aload_nX (j := 0) dL_law_795 rfl rfl rfl ?_
  refine ax_iload_n (j := 3) dL_law_796 rfl rfl rfl ?_
  refine ax_iconst (v := 1) dL_law_797 (by decide) rfl ?_
  refine ax_iadd dL_law_798 rfl ?_
  rw [show nI i + 1 = nI (i + 1) from nI_add i 1]
  refine ax_sld dL_law_799 rfl (vp_in_nI (by omega) hL) ?_
  rw [nI_clamp (show i + 1 < 2 ^ 31 by omega)]
  refine ax_aload_nX (j := 0) dL_law_800 rfl rfl rfl ?_
  refine ax_iload_n (j := 3) dL_law_801 rfl rfl rfl ?_
  refine ax_iconst (v := 2) dL_law_802 (by decide) rfl ?_
  refine ax_iadd dL_law_803 rfl ?_
  rw [show nI i + 2 = nI (i + 2) from nI_add i 2]
  refine ax_sld dL_law_804 rfl (vp_in_nI (by omega) hL) ?_
  rw [nI_clamp (show i + 2 < 2 ^ 31 by omega)]
  refine ax_aload_nX (j := 0) dL_law_805 rfl rfl rfl ?_
  refine ax_iload_n (j := 3) dL_law_806 rfl rfl rfl ?_
  refine ax_iconst (v := 3) dL_law_807 (by decide) rfl ?_
  refine ax_iadd dL_law_808 rfl ?_
  rw [show nI i + 3 = nI (i + 3) from nI_add i 3]
  refine ax_sld dL_law_809 rfl (vp_in_nI (by omega) hL) ?_
  rw [nI_clamp (show i + 3 < 2 ^ 31 by omega)]
  refine ax_aload_nX (j := 0) dL_law_810 rfl rfl rfl ?_
  refine ax_iload_n (j := 3) dL_law_811 rfl rfl rfl ?_
  refine ax_iconst (v := 4) dL_law_812 (by decide) rfl ?_
  refine ax_iadd dL_law_813 rfl ?_
  rw [show nI i + 4 = nI (i + 4) from nI_add i 4]
  refine ax_sld dL_law_814 rfl (vp_in_nI (by omega) hL) ?_
  rw [nI_clamp (show i + 4 < 2 ^ 31 by omega)]
  refine ad_V4 ksX9_spoil lkL_98 dL_law_815 rfl is0 rfl (Nat.le_of_ble_eq_true rfl) (by omega) h1 ?_
  refine ax_aload_n (j := 2) dL_law_818 rfl rfl rfl ?_
  refine ax_aload_nX (j := 0) dL_law_819 rfl rfl rfl ?_
  refine ax_iload_n (j := 3) dL_law_820 rfl rfl rfl ?_
  refine ax_iconst (v := 1) dL_law_821 (by decide) rfl ?_
  refine ax_iadd dL_law_822 rfl ?_
  rw [show nI i + 1 = nI (i + 1) from nI_add i 1]
  refine ax_sld dL_law_823 rfl (vp_in_nI (by omega) hL) ?_
  rw [nI_clamp (show i + 1 < 2 ^ 31 by omega)]
  refine ax_aload_nX (j := 0) dL_law_824 rfl rfl rfl ?_
  refine ax_iload_n (j := 3) dL_law_825 rfl rfl rfl ?_
  refine ax_iconst (v := 2) dL_law_826 (by decide) rfl ?_
  refine ax_iadd dL_law_827 rfl ?_
  rw [show nI i + 2 = nI (i + 2) from nI_add i 2]
  refine ax_sld dL_law_828 rfl (vp_in_nI (by omega) hL) ?_
  rw [nI_clamp (show i + 2 < 2 ^ 31 by omega)]
  refine ax_aload_nX (j := 0) dL_law_829 rfl rfl rfl ?_
  refine ax_iload_n (j := 3) dL_law_830 rfl rfl rfl ?_
  refine ax_iconst (v := 3) dL_law_831 (by decide) rfl ?_
  refine ax_iadd dL_law_832 rfl ?_
  rw [show nI i + 3 = nI (i + 3) from nI_add i 3]
  refine ax_sld dL_law_833 rfl (vp_in_nI (by omega) hL) ?_
  rw [nI_clamp (show i + 3 < 2 ^ 31 by omega)]
  refine ax_aload_nX (j := 0) dL_law_834 rfl rfl rfl ?_
  refine ax_iload_n (j := 3) dL_law_835 rfl rfl rfl ?_
  refine ax_iconst (v := 4) dL_law_836 (by decide) rfl ?_
  refine ax_iadd dL_law_837 rfl ?_
  rw [show nI i + 4 = nI (i + 4) from nI_add i 4]
  refine ax_sld dL_law_838 rfl (vp_in_nI (by omega) hL) ?_
  rw [nI_clamp (show i + 4 < 2 ^ 31 by omega)]
  refine ad_V4 ksX10_spoil lkL_101 dL_law_839 rfl is136 rfl (Nat.le_of_ble_eq_true rfl) (by omega) h2 ?_
  refine ax_icmp_eq (tgt := 1206) dL_law_842 (by decide) rfl (fun _ => kk _ h3) (fun c => absurd rfl c)
theorem lw_21 (hs : ST G l I mX9_impostor mX10_impostor [.int (ax_gX G (i + 1)), .int (ax_gX G (i + 2)), .int (ax_gX G (i + 3)), .int (ax_gX G (i + 4)), .int (ax_gX G (i + 5))]) (hL : ax_gL G < 2 ^ 31) (hi : i + 5 < ax_gL G) (hI : I mem) (kk : ∀ m2 : ax_Me, I m2 → AX G l (mLw nm) 8 1206 (lwL i) [] 153 0 (ax_hm m2) 153 0 lwQ) : AX G l (mLw nm) 8 847 (lwL i) [] 153 0 (ax_hm mem) 153 0 lwQ := by
  obtain ⟨r, d9, d10, m1, m2, e9, e10, h1, h2, h3⟩ := hs mem hI
  refine ax_aload_n (j := 1) dL_law_847 rfl rfl rfl ?_
  refine ax_aload_nX (j := 0) dL_law_848 rfl rfl rfl ?_
  refine ax_iload_n (j := 3) dL_law_849 rfl rfl rfl ?_
  refine ax_iconst (v := 1) dL_law_850 (by decide) rfl ?_
  refine ax_iadd dL_law_851 rfl ?_
  rw [show nI i + 1 = nI (i + 1) from nI_add i 1]
  refine ax_sld dL_law_852 rfl (vp_in_nI (by omega) hL) ?_
  rw [nI_clamp (show i + 1 < 2 ^ 31 by omega)]
  refine ax_aload_nX (j := 0) dL_law_853 rfl rfl rfl ?_
  refine ax_iload_n (j := 3) dL_law_854 rfl rfl rfl ?_
  refine ax_iconst (v := 2) dL_law_855 (by decide) rfl ?_
  refine ax_iadd dL_law_856 rfl ?_
  rw [show nI i + 2 = nI (i + 2) from nI_add i 2]
  refine ax_sld dL_law_857 rfl (vp_in_nI (by omega) hL) ?_
  rw [nI_clamp (show i + 2 < 2 ^ 31 by omega)]
  refine ax_aload_nX (j := 0) dL_law_858 rfl rfl rfl ?_
  refine ax_iload_n (j := 3) dL_law_859 rfl rfl rfl ?_
  refine ax_iconst (v := 3) dL_law_860 (by decide) rfl ?_
  refine ax_iadd dL_law_861 rfl ?_
  rw [show nI i + 3 = nI (i + 3) from nI_add i 3]
  refine ax_sld dL_law_862 rfl (vp_in_nI (by omega) hL) ?_
  rw [nI_clamp (show i + 3 < 2 ^ 31 by omega)]
  refine ax_aload_nX (j := 0) dL_law_863 rfl rfl rfl ?_
  refine ax_iload_n (j := 3) dL_law_864 rfl rfl rfl ?_
  refine ax_iconst (v := 4) dL_law_865 (by decide) rfl ?_
  refine ax_iadd dL_law_866 rfl ?_
  rw [show nI i + 4 = nI (i + 4) from nI_add i 4]
  refine ax_sld dL_law_867 rfl (vp_in_nI (by omega) hL) ?_
  rw [nI_clamp (show i + 4 < 2 ^ 31 by omega)]
  refine ax_aload_nX (j := 0) dL_law_868 rfl rfl rfl ?_
  refine ax_iload_n (j := 3) dL_law_869 rfl rfl rfl ?_
  refine ax_iconst (v := 5) dL_law_870 (by decide) rfl ?_
  refine ax_iadd dL_law_871 rfl ?_
  rw [show nI i + 5 = nI (i + 5) from nI_add i 5]
  refine ax_sld dL_law_872 rfl (vp_in_nI (by omega) hL) ?_
  rw [nI_clamp (show i + 5 < 2 ^ 31 by omega)]
  refine ad_V5 ksX9_impostor lkL_102 dL_law_873 rfl is0 rfl (Nat.le_of_ble_eq_true rfl) (by omega) h1 ?_
  refine ax_aload_n (j := 2) dL_law_876 rfl rfl rfl ?_
  refine ax_aload_nX (j := 0) dL_law_877 rfl rfl rfl ?_
  refine ax_iload_n (j := 3) dL_law_878 rfl rfl rfl ?_
  refine ax_iconst (v := 1) dL_law_879 (by decide) rfl ?_
  refine ax_iadd dL_law_880 rfl ?_
  rw [show nI i + 1 = nI (i + 1) from nI_add i 1]
  refine ax_sld dL_law_881 rfl (vp_in_nI (by omega) hL) ?_
  rw [nI_clamp (show i + 1 < 2 ^ 31 by omega)]
  refine ax_aload_nX (j := 0) dL_law_882 rfl rfl rfl ?_
  refine ax_iload_n (j := 3) dL_law_883 rfl rfl rfl ?_
  refine ax_iconst (v := 2) dL_law_884 (by decide) rfl ?_
  refine ax_iadd dL_law_885 rfl ?_
  rw [show nI i + 2 = nI (i + 2) from nI_add i 2]
  refine ax_sld dL_law_886 rfl (vp_in_nI (by omega) hL) ?_
  rw [nI_clamp (show i + 2 < 2 ^ 31 by omega)]
  refine ax_aload_nX (j := 0) dL_law_887 rfl rfl rfl ?_
  refine ax_iload_n (j := 3) dL_law_888 rfl rfl rfl ?_
  refine ax_iconst (v := 3) dL_law_889 (by decide) rfl ?_
  refine ax_iadd dL_law_890 rfl ?_
  rw [show nI i + 3 = nI (i + 3) from nI_add i 3]
  refine ax_sld dL_law_891 rfl (vp_in_nI (by omega) hL) ?_
  rw [nI_clamp (show i + 3 < 2 ^ 31 by omega)]
  refine ax_aload_nX (j := 0) dL_law_892 rfl rfl rfl ?_
  refine ax_iload_n (j := 3) dL_law_893 rfl rfl rfl ?_
  refine ax_iconst (v := 4) dL_law_894 (by decide) rfl ?_
  refine ax_iadd dL_law_895 rfl ?_
  rw [show nI i + 4 = nI (i + 4) from nI_add i 4]
  refine ax_sld dL_law_896 rfl (vp_in_nI (by omega) hL) ?_
  rw [nI_clamp (show i + 4 < 2 ^ 31 by omega)]
  refine ax_aload_nX (j := 0) dL_law_897 rfl rfl rfl ?_
  refine ax_iload_n (j := 3) dL_law_898 rfl rfl rfl ?_
  refine ax_iconst (v := 5) dL_law_899 (by decide) rfl ?_
  refine ax_iadd dL_law_900 rfl ?_
  rw [show nI i + 5 = nI (i + 5) from nI_add i 5]
  refine ax_sld dL_law_901 rfl (vp_in_nI (by omega) hL) ?_
  rw [nI_clamp (show i + 5 < 2 ^ 31 by omega)]
  refine ad_V5 ksX10_impostor lkL_106 dL_law_902 rfl is136 rfl (Nat.le_of_ble_eq_true rfl) (by omega) h2 ?_
  refine ax_icmp_eq (tgt := 1206) dL_law_905 (by decide) rfl (fun _ => kk _ h3) (fun c => absurd rfl c)
theorem lw_22 (hs : ST G l I mX9_lost mX10_lost [.int (ax_gX G (i + 1))]) (hL : ax_gL G < 2 ^ 31) (hi : i + 5 < ax_gL G) (hI : I mem) (kk : ∀ m2 : ax_Me, I m2 → AX G l (mLw nm) 8 1206 (lwL i) [] 153 0 (ax_hm m2) 153 0 lwQ) : AX G l (mLw nm) 8 910 (lwL i) [] 153 0 (ax_hm mem) 153 0 lwQ := by
  obtain ⟨r, d9, d10, m1, m2, e9, e10, h1, h2, h3⟩ := hs mem hI
  refine ax_aload_n (j := 1) dL_law_910 rfl rfl rfl ?_
  refine ax_aload_nX (j := 0) dL_law_911 rfl rfl rfl ?_
  refine ax_iload_n (j := 3) dL_law_912 rfl rfl rfl ?_
  refine ax_iconst (v := 1) dL_law_913 (by decide) rfl ?_
  refine ax_iadd dL_law_914 rfl ?_
  rw [show nI i + 1 = nI (i + 1) from nI_add i 1]
  refine ax_sld dL_law_915 rfl (vp_in_nI (by omega) hL) ?_
  rw [nI_clamp (show i + 1 < 2 ^ 31 by omega)]
  refine ad_V1 ksX9_lost lkL_107 dL_law_916 rfl is0 rfl (Nat.le_of_ble_eq_true rfl) (by omega) h1 ?_
  refine ax_aload_n (j := 2) dL_law_919 rfl rfl rfl ?_
  refine ax_aload_nX (j := 0) dL_law_920 rfl rfl rfl ?_
  refine ax_iload_n (j := 3) dL_law_921 rfl rfl rfl ?_
  refine ax_iconst (v := 1) dL_law_922 (by decide) rfl ?_
  refine ax_iadd dL_law_923 rfl ?_
  rw [show nI i + 1 = nI (i + 1) from nI_add i 1]
  refine ax_sld dL_law_924 rfl (vp_in_nI (by omega) hL) ?_
  rw [nI_clamp (show i + 1 < 2 ^ 31 by omega)]
  refine ad_V1 ksX10_lost lkL_110 dL_law_925 rfl is136 rfl (Nat.le_of_ble_eq_true rfl) (by omega) h2 ?_
  refine ax_icmp_eq (tgt := 1206) dL_law_928 (by decide) rfl (fun _ => kk _ h3) (fun c => absurd rfl c)
theorem lw_23 (hs : ST G l I mX9_alike mX10_alike [.int (ax_gX G (i + 1))]) (hL : ax_gL G < 2 ^ 31) (hi : i + 5 < ax_gL G) (hI : I mem) (kk : ∀ m2 : ax_Me, I m2 → AX G l (mLw nm) 8 1206 (lwL i) [] 153 0 (ax_hm m2) 153 0 lwQ) : AX G l (mLw nm) 8 933 (lwL i) [] 153 0 (ax_hm mem) 153 0 lwQ := by
  obtain ⟨r, d9, d10, m1, m2, e9, e10, h1, h2, h3⟩ := hs mem hI
  refine ax_aload_n (j := 1) dL_law_933 rfl rfl rfl ?_
  refine ax_aload_nX (j := 0) dL_law_934 rfl rfl rfl ?_
  refine ax_iload_n (j := 3) dL_law_935 rfl rfl rfl ?_
  refine ax_iconst (v := 1) dL_law_936 (by decide) rfl ?_
  refine ax_iadd dL_law_937 rfl ?_
  rw [show nI i + 1 = nI (i + 1) from nI_add i 1]
  refine ax_sld dL_law_938 rfl (vp_in_nI (by omega) hL) ?_
  rw [nI_clamp (show i + 1 < 2 ^ 31 by omega)]
  refine ad_V1 ksX9_alike lkL_111 dL_law_939 rfl is0 rfl (Nat.le_of_ble_eq_true rfl) (by omega) h1 ?_
  refine ax_aload_n (j := 2) dL_law_942 rfl rfl rfl ?_
  refine ax_aload_nX (j := 0) dL_law_943 rfl rfl rfl ?_
  refine ax_iload_n (j := 3) dL_law_944 rfl rfl rfl ?_
  refine ax_iconst (v := 1) dL_law_945 (by decide) rfl ?_
  refine ax_iadd dL_law_946 rfl ?_
  rw [show nI i + 1 = nI (i + 1) from nI_add i 1]
  refine ax_sld dL_law_947 rfl (vp_in_nI (by omega) hL) ?_
  rw [nI_clamp (show i + 1 < 2 ^ 31 by omega)]
  refine ad_V1 ksX10_alike lkL_114 dL_law_948 rfl is136 rfl (Nat.le_of_ble_eq_true rfl) (by omega) h2 ?_
  refine ax_icmp_eq (tgt := 1206) dL_law_951 (by decide) rfl (fun _ => kk _ h3) (fun c => absurd rfl c)
theorem lw_24 (hs : ST G l I mX9_see mX10_see [.int (ax_gX G (i + 1)), .int (ax_gX G (i + 2)), .int (ax_gX G (i + 3)), .int (ax_gX G (i + 4))]) (hL : ax_gL G < 2 ^ 31) (hi : i + 5 < ax_gL G) (hI : I mem) (kk : ∀ m2 : ax_Me, I m2 → AX G l (mLw nm) 8 1206 (lwL i) [] 153 0 (ax_hm m2) 153 0 lwQ) : AX G l (mLw nm) 8 956 (lwL i) [] 153 0 (ax_hm mem) 153 0 lwQ := by
  obtain ⟨r, d9, d10, m1, m2, e9, e10, h1, h2, h3⟩ := hs mem hI
  refine ax_aload_n (j := 1) dL_law_956 rfl rfl rfl ?_
  refine ax_aload_nX (j := 0) dL_law_957 rfl rfl rfl ?_
  refine ax_iload_n (j := 3) dL_law_958 rfl rfl rfl ?_
  refine ax_iconst (v := 1) dL_law_959 (by decide) rfl ?_
  refine ax_iadd dL_law_960 rfl ?_
  rw [show nI i + 1 = nI (i + 1) from nI_add i 1]
  refine ax_sld dL_law_961 rfl (vp_in_nI (by omega) hL) ?_
  rw [nI_clamp (show i + 1 < 2 ^ 31 by omega)]
  refine ax_aload_nX (j := 0) dL_law_962 rfl rfl rfl ?_
  refine ax_iload_n (j := 3) dL_law_963 rfl rfl rfl ?_
  refine ax_iconst (v := 2) dL_law_964 (by decide) rfl ?_
  refine ax_iadd dL_law_965 rfl ?_
  rw [show nI i + 2 = nI (i + 2) from nI_add i 2]
  refine ax_sld dL_law_966 rfl (vp_in_nI (by omega) hL) ?_
  rw [nI_clamp (show i + 2 < 2 ^ 31 by omega)]
  refine ax_aload_nX (j := 0) dL_law_967 rfl rfl rfl ?_
  refine ax_iload_n (j := 3) dL_law_968 rfl rfl rfl ?_
  refine ax_iconst (v := 3) dL_law_969 (by decide) rfl ?_
  refine ax_iadd dL_law_970 rfl ?_
  rw [show nI i + 3 = nI (i + 3) from nI_add i 3]
  refine ax_sld dL_law_971 rfl (vp_in_nI (by omega) hL) ?_
  rw [nI_clamp (show i + 3 < 2 ^ 31 by omega)]
  refine ax_aload_nX (j := 0) dL_law_972 rfl rfl rfl ?_
  refine ax_iload_n (j := 3) dL_law_973 rfl rfl rfl ?_
  refine ax_iconst (v := 4) dL_law_974 (by decide) rfl ?_
  refine ax_iadd dL_law_975 rfl ?_
  rw [show nI i + 4 = nI (i + 4) from nI_add i 4]
  refine ax_sld dL_law_976 rfl (vp_in_nI (by omega) hL) ?_
  rw [nI_clamp (show i + 4 < 2 ^ 31 by omega)]
  refine ad_V4 ksX9_see lkL_115 dL_law_977 rfl is0 rfl (Nat.le_of_ble_eq_true rfl) (by omega) h1 ?_
  refine ax_aload_n (j := 2) dL_law_980 rfl rfl rfl ?_
  refine ax_aload_nX (j := 0) dL_law_981 rfl rfl rfl ?_
  refine ax_iload_n (j := 3) dL_law_982 rfl rfl rfl ?_
  refine ax_iconst (v := 1) dL_law_983 (by decide) rfl ?_
  refine ax_iadd dL_law_984 rfl ?_
  rw [show nI i + 1 = nI (i + 1) from nI_add i 1]
  refine ax_sld dL_law_985 rfl (vp_in_nI (by omega) hL) ?_
  rw [nI_clamp (show i + 1 < 2 ^ 31 by omega)]
  refine ax_aload_nX (j := 0) dL_law_986 rfl rfl rfl ?_
  refine ax_iload_n (j := 3) dL_law_987 rfl rfl rfl ?_
  refine ax_iconst (v := 2) dL_law_988 (by decide) rfl ?_
  refine ax_iadd dL_law_989 rfl ?_
  rw [show nI i + 2 = nI (i + 2) from nI_add i 2]
  refine ax_sld dL_law_990 rfl (vp_in_nI (by omega) hL) ?_
  rw [nI_clamp (show i + 2 < 2 ^ 31 by omega)]
  refine ax_aload_nX (j := 0) dL_law_991 rfl rfl rfl ?_
  refine ax_iload_n (j := 3) dL_law_992 rfl rfl rfl ?_
  refine ax_iconst (v := 3) dL_law_993 (by decide) rfl ?_
  refine ax_iadd dL_law_994 rfl ?_
  rw [show nI i + 3 = nI (i + 3) from nI_add i 3]
  refine ax_sld dL_law_995 rfl (vp_in_nI (by omega) hL) ?_
  rw [nI_clamp (show i + 3 < 2 ^ 31 by omega)]
  refine ax_aload_nX (j := 0) dL_law_996 rfl rfl rfl ?_
  refine ax_iload_n (j := 3) dL_law_997 rfl rfl rfl ?_
  refine ax_iconst (v := 4) dL_law_998 (by decide) rfl ?_
  refine ax_iadd dL_law_999 rfl ?_
  rw [show nI i + 4 = nI (i + 4) from nI_add i 4]
  refine ax_sld dL_law_1000 rfl (vp_in_nI (by omega) hL) ?_
  rw [nI_clamp (show i + 4 < 2 ^ 31 by omega)]
  refine ad_V4 ksX10_see lkL_118 dL_law_1001 rfl is136 rfl (Nat.le_of_ble_eq_true rfl) (by omega) h2 ?_
  refine ax_icmp_eq (tgt := 1206) dL_law_1004 (by decide) rfl (fun _ => kk _ h3) (fun c => absurd rfl c)
theorem lw_25 (hs : ST G l I mX9_honest mX10_honest []) (hL : ax_gL G < 2 ^ 31) (hi : i + 5 < ax_gL G) (hI : I mem) (kk : ∀ m2 : ax_Me, I m2 → AX G l (mLw nm) 8 1206 (lwL i) [] 153 0 (ax_hm m2) 153 0 lwQ) : AX G l (mLw nm) 8 1009 (lwL i) [] 153 0 (ax_hm mem) 153 0 lwQ := by
  obtain ⟨r, d9, d10, m1, m2, e9, e10, h1, h2, h3⟩ := hs mem hI
  refine ax_aload_n (j := 1) dL_law_1009 rfl rfl rfl ?_
  refine ad_V0 ksX9_honest lkL_119 dL_law_1010 rfl is0 rfl (Nat.le_of_ble_eq_true rfl) (by omega) h1 ?_
  refine ax_aload_n (j := 2) dL_law_1013 rfl rfl rfl ?_
  refine ad_V0 ksX10_honest lkL_122 dL_law_1014 rfl is136 rfl (Nat.le_of_ble_eq_true rfl) (by omega) h2 ?_
  refine ax_icmp_eq (tgt := 1206) dL_law_1017 (by decide) rfl (fun _ => kk _ h3) (fun c => absurd rfl c)
theorem lw_26 (hs : ST G l I mX9_nods mX10_nods [.int (ax_gX G (i + 1))]) (hL : ax_gL G < 2 ^ 31) (hi : i + 5 < ax_gL G) (hI : I mem) (kk : ∀ m2 : ax_Me, I m2 → AX G l (mLw nm) 8 1206 (lwL i) [] 153 0 (ax_hm m2) 153 0 lwQ) : AX G l (mLw nm) 8 1022 (lwL i) [] 153 0 (ax_hm mem) 153 0 lwQ := by
  obtain ⟨r, d9, d10, m1, m2, e9, e10, h1, h2, h3⟩ := hs mem hI
  refine ax_aload_n (j := 1) dL_law_1022 rfl rfl rfl ?_
  refine ax_aload_nX (j := 0) dL_law_1023 rfl rfl rfl ?_
  refine ax_iload_n (j := 3) dL_law_1024 rfl rfl rfl ?_
  refine ax_iconst (v := 1) dL_law_1025 (by decide) rfl ?_
  refine ax_iadd dL_law_1026 rfl ?_
  rw [show nI i + 1 = nI (i + 1) from nI_add i 1]
  refine ax_sld dL_law_1027 rfl (vp_in_nI (by omega) hL) ?_
  rw [nI_clamp (show i + 1 < 2 ^ 31 by omega)]
  refine ad_V1 ksX9_nods lkL_123 dL_law_1028 rfl is0 rfl (Nat.le_of_ble_eq_true rfl) (by omega) h1 ?_
  refine ax_aload_n (j := 2) dL_law_1031 rfl rfl rfl ?_
  refine ax_aload_nX (j := 0) dL_law_1032 rfl rfl rfl ?_
  refine ax_iload_n (j := 3) dL_law_1033 rfl rfl rfl ?_
  refine ax_iconst (v := 1) dL_law_1034 (by decide) rfl ?_
  refine ax_iadd dL_law_1035 rfl ?_
  rw [show nI i + 1 = nI (i + 1) from nI_add i 1]
  refine ax_sld dL_law_1036 rfl (vp_in_nI (by omega) hL) ?_
  rw [nI_clamp (show i + 1 < 2 ^ 31 by omega)]
  refine ad_V1 ksX10_nods lkL_126 dL_law_1037 rfl is136 rfl (Nat.le_of_ble_eq_true rfl) (by omega) h2 ?_
  refine ax_icmp_eq (tgt := 1206) dL_law_1040 (by decide) rfl (fun _ => kk _ h3) (fun c => absurd rfl c)
theorem lw_27 (hs : ST G l I mX9_showNext mX10_showNext [.int (ax_gX G (i + 1)), .int (ax_gX G (i + 2))]) (hL : ax_gL G < 2 ^ 31) (hi : i + 5 < ax_gL G) (hI : I mem) (kk : ∀ m2 : ax_Me, I m2 → AX G l (mLw nm) 8 1206 (lwL i) [] 153 0 (ax_hm m2) 153 0 lwQ) : AX G l (mLw nm) 8 1045 (lwL i) [] 153 0 (ax_hm mem) 153 0 lwQ := by
  obtain ⟨r, d9, d10, m1, m2, e9, e10, h1, h2, h3⟩ := hs mem hI
  refine ax_aload_n (j := 1) dL_law_1045 rfl rfl rfl ?_
  refine ax_aload_nX (j := 0) dL_law_1046 rfl rfl rfl ?_
  refine ax_iload_n (j := 3) dL_law_1047 rfl rfl rfl ?_
  refine ax_iconst (v := 1) dL_law_1048 (by decide) rfl ?_
  refine ax_iadd dL_law_1049 rfl ?_
  rw [show nI i + 1 = nI (i + 1) from nI_add i 1]
  refine ax_sld dL_law_1050 rfl (vp_in_nI (by omega) hL) ?_
  rw [nI_clamp (show i + 1 < 2 ^ 31 by omega)]
  refine ax_aload_nX (j := 0) dL_law_1051 rfl rfl rfl ?_
  refine ax_iload_n (j := 3) dL_law_1052 rfl rfl rfl ?_
  refine ax_iconst (v := 2) dL_law_1053 (by decide) rfl ?_
  refine ax_iadd dL_law_1054 rfl ?_
  rw [show nI i + 2 = nI (i + 2) from nI_add i 2]
  refine ax_sld dL_law_1055 rfl (vp_in_nI (by omega) hL) ?_
  rw [nI_clamp (show i + 2 < 2 ^ 31 by omega)]
  refine ad_V2 ksX9_showNext lkL_127 dL_law_1056 rfl is0 rfl (Nat.le_of_ble_eq_true rfl) (by omega) h1 ?_
  refine ax_aload_n (j := 2) dL_law_1059 rfl rfl rfl ?_
  refine ax_aload_nX (j := 0) dL_law_1060 rfl rfl rfl ?_
  refine ax_iload_n (j := 3) dL_law_1061 rfl rfl rfl ?_
  refine ax_iconst (v := 1) dL_law_1062 (by decide) rfl ?_
  refine ax_iadd dL_law_1063 rfl ?_
  rw [show nI i + 1 = nI (i + 1) from nI_add i 1]
  refine ax_sld dL_law_1064 rfl (vp_in_nI (by omega) hL) ?_
  rw [nI_clamp (show i + 1 < 2 ^ 31 by omega)]
  refine ax_aload_nX (j := 0) dL_law_1065 rfl rfl rfl ?_
  refine ax_iload_n (j := 3) dL_law_1066 rfl rfl rfl ?_
  refine ax_iconst (v := 2) dL_law_1067 (by decide) rfl ?_
  refine ax_iadd dL_law_1068 rfl ?_
  rw [show nI i + 2 = nI (i + 2) from nI_add i 2]
  refine ax_sld dL_law_1069 rfl (vp_in_nI (by omega) hL) ?_
  rw [nI_clamp (show i + 2 < 2 ^ 31 by omega)]
  refine ad_V2 ksX10_showNext lkL_130 dL_law_1070 rfl is136 rfl (Nat.le_of_ble_eq_true rfl) (by omega) h2 ?_
  refine ax_icmp_eq (tgt := 1206) dL_law_1073 (by decide) rfl (fun _ => kk _ h3) (fun c => absurd rfl c)
theorem lw_28 (hs : ST G l I mX9_write mX10_write [.int (ax_gX G (i + 1)), .int (ax_gX G (i + 2))]) (hL : ax_gL G < 2 ^ 31) (hi : i + 5 < ax_gL G) (hI : I mem) (kk : ∀ m2 : ax_Me, I m2 → AX G l (mLw nm) 8 1206 (lwL i) [] 153 0 (ax_hm m2) 153 0 lwQ) : AX G l (mLw nm) 8 1078 (lwL i) [] 153 0 (ax_hm mem) 153 0 lwQ := by
  obtain ⟨r, d9, d10, m1, m2, e9, e10, h1, h2, h3⟩ := hs mem hI
  refine ax_aload_n (j := 1) dL_law_1078 rfl rfl rfl ?_
  refine ax_aload_nX (j := 0) dL_law_1079 rfl rfl rfl ?_
  refine ax_iload_n (j := 3) dL_law_1080 rfl rfl rfl ?_
  refine ax_iconst (v := 1) dL_law_1081 (by decide) rfl ?_
  refine ax_iadd dL_law_1082 rfl ?_
  rw [show nI i + 1 = nI (i + 1) from nI_add i 1]
  refine ax_sld dL_law_1083 rfl (vp_in_nI (by omega) hL) ?_
  rw [nI_clamp (show i + 1 < 2 ^ 31 by omega)]
  refine ax_aload_nX (j := 0) dL_law_1084 rfl rfl rfl ?_
  refine ax_iload_n (j := 3) dL_law_1085 rfl rfl rfl ?_
  refine ax_iconst (v := 2) dL_law_1086 (by decide) rfl ?_
  refine ax_iadd dL_law_1087 rfl ?_
  rw [show nI i + 2 = nI (i + 2) from nI_add i 2]
  refine ax_sld dL_law_1088 rfl (vp_in_nI (by omega) hL) ?_
  rw [nI_clamp (show i + 2 < 2 ^ 31 by omega)]
  refine ad_V2 ksX9_write lkL_131 dL_law_1089 rfl is0 rfl (Nat.le_of_ble_eq_true rfl) (by omega) h1 ?_
  refine ax_aload_n (j := 2) dL_law_1092 rfl rfl rfl ?_
  refine ax_aload_nX (j := 0) dL_law_1093 rfl rfl rfl ?_
  refine ax_iload_n (j := 3) dL_law_1094 rfl rfl rfl ?_
  refine ax_iconst (v := 1) dL_law_1095 (by decide) rfl ?_
  refine ax_iadd dL_law_1096 rfl ?_
  rw [show nI i + 1 = nI (i + 1) from nI_add i 1]
  refine ax_sld dL_law_1097 rfl (vp_in_nI (by omega) hL) ?_
  rw [nI_clamp (show i + 1 < 2 ^ 31 by omega)]
  refine ax_aload_nX (j := 0) dL_law_1098 rfl rfl rfl ?_
  refine ax_iload_n (j := 3) dL_law_1099 rfl rfl rfl ?_
  refine ax_iconst (v := 2) dL_law_1100 (by decide) rfl ?_
  refine ax_iadd dL_law_1101 rfl ?_
  rw [show nI i + 2 = nI (i + 2) from nI_add i 2]
  refine ax_sld dL_law_1102 rfl (vp_in_nI (by omega) hL) ?_
  rw [nI_clamp (show i + 2 < 2 ^ 31 by omega)]
  refine ad_V2 ksX10_write lkL_134 dL_law_1103 rfl is136 rfl (Nat.le_of_ble_eq_true rfl) (by omega) h2 ?_
  refine ax_icmp_eq (tgt := 1206) dL_law_1106 (by decide) rfl (fun _ => kk _ h3) (fun c => absurd rfl c)
theorem lw_29 (hs : ST G l I mX9_tear mX10_tear []) (hL : ax_gL G < 2 ^ 31) (hi : i + 5 < ax_gL G) (hI : I mem) (kk : ∀ m2 : ax_Me, I m2 → AX G l (mLw nm) 8 1206 (lwL i) [] 153 0 (ax_hm m2) 153 0 lwQ) : AX G l (mLw nm) 8 1111 (lwL i) [] 153 0 (ax_hm mem) 153 0 lwQ := by
  obtain ⟨r, d9, d10, m1, m2, e9, e10, h1, h2, h3⟩ := hs mem hI
  refine ax_aload_n (j := 1) dL_law_1111 rfl rfl rfl ?_
  refine ad_V0 ksX9_tear lkL_135 dL_law_1112 rfl is0 rfl (Nat.le_of_ble_eq_true rfl) (by omega) h1 ?_
  refine ax_aload_n (j := 2) dL_law_1115 rfl rfl rfl ?_
  refine ad_V0 ksX10_tear lkL_138 dL_law_1116 rfl is136 rfl (Nat.le_of_ble_eq_true rfl) (by omega) h2 ?_
  refine ax_icmp_eq (tgt := 1206) dL_law_1119 (by decide) rfl (fun _ => kk _ h3) (fun c => absurd rfl c)
theorem lw_30 (hs : ST G l I mX9_judge mX10_judge []) (hL : ax_gL G < 2 ^ 31) (hi : i + 5 < ax_gL G) (hI : I mem) (kk : ∀ m2 : ax_Me, I m2 → AX G l (mLw nm) 8 1206 (lwL i) [] 153 0 (ax_hm m2) 153 0 lwQ) : AX G l (mLw nm) 8 1124 (lwL i) [] 153 0 (ax_hm mem) 153 0 lwQ := by
  obtain ⟨r, d9, d10, m1, m2, e9, e10, h1, h2, h3⟩ := hs mem hI
  refine ax_aload_n (j := 1) dL_law_1124 rfl rfl rfl ?_
  refine ad_V0 ksX9_judge lkL_139 dL_law_1125 rfl is0 rfl (Nat.le_of_ble_eq_true rfl) (by omega) h1 ?_
  refine ax_aload_n (j := 2) dL_law_1128 rfl rfl rfl ?_
  refine ad_V0 ksX10_judge lkL_142 dL_law_1129 rfl is136 rfl (Nat.le_of_ble_eq_true rfl) (by omega) h2 ?_
  refine ax_icmp_eq (tgt := 1206) dL_law_1132 (by decide) rfl (fun _ => kk _ h3) (fun c => absurd rfl c)
theorem lw_31 (hs : ST G l I mX9_seed mX10_seed [.int (ax_gX G (i + 1))]) (hL : ax_gL G < 2 ^ 31) (hi : i + 5 < ax_gL G) (hI : I mem) (kk : ∀ m2 : ax_Me, I m2 → AX G l (mLw nm) 8 1206 (lwL i) [] 153 0 (ax_hm m2) 153 0 lwQ) : AX G l (mLw nm) 8 1137 (lwL i) [] 153 0 (ax_hm mem) 153 0 lwQ := by
  obtain ⟨r, d9, d10, m1, m2, e9, e10, h1, h2, h3⟩ := hs mem hI
  refine ax_aload_n (j := 1) dL_law_1137 rfl rfl rfl ?_
  refine ax_aload_nX (j := 0) dL_law_1138 rfl rfl rfl ?_
  refine ax_iload_n (j := 3) dL_law_1139 rfl rfl rfl ?_
  refine ax_iconst (v := 1) dL_law_1140 (by decide) rfl ?_
  refine ax_iadd dL_law_1141 rfl ?_
  rw [show nI i + 1 = nI (i + 1) from nI_add i 1]
  refine ax_sld dL_law_1142 rfl (vp_in_nI (by omega) hL) ?_
  rw [nI_clamp (show i + 1 < 2 ^ 31 by omega)]
  refine ad_V1 ksX9_seed lkL_143 dL_law_1143 rfl is0 rfl (Nat.le_of_ble_eq_true rfl) (by omega) h1 ?_
  refine ax_aload_n (j := 2) dL_law_1146 rfl rfl rfl ?_
  refine ax_aload_nX (j := 0) dL_law_1147 rfl rfl rfl ?_
  refine ax_iload_n (j := 3) dL_law_1148 rfl rfl rfl ?_
  refine ax_iconst (v := 1) dL_law_1149 (by decide) rfl ?_
  refine ax_iadd dL_law_1150 rfl ?_
  rw [show nI i + 1 = nI (i + 1) from nI_add i 1]
  refine ax_sld dL_law_1151 rfl (vp_in_nI (by omega) hL) ?_
  rw [nI_clamp (show i + 1 < 2 ^ 31 by omega)]
  refine ad_V1 ksX10_seed lkL_146 dL_law_1152 rfl is136 rfl (Nat.le_of_ble_eq_true rfl) (by omega) h2 ?_
  refine ax_icmp_eq (tgt := 1206) dL_law_1155 (by decide) rfl (fun _ => kk _ h3) (fun c => absurd rfl c)
theorem lw_32 (hs : ST G l I mX9_keep mX10_keep [.int (ax_gX G (i + 1))]) (hL : ax_gL G < 2 ^ 31) (hi : i + 5 < ax_gL G) (hI : I mem) (kk : ∀ m2 : ax_Me, I m2 → AX G l (mLw nm) 8 1206 (lwL i) [] 153 0 (ax_hm m2) 153 0 lwQ) : AX G l (mLw nm) 8 1160 (lwL i) [] 153 0 (ax_hm mem) 153 0 lwQ := by
  obtain ⟨r, d9, d10, m1, m2, e9, e10, h1, h2, h3⟩ := hs mem hI
  refine ax_aload_n (j := 1) dL_law_1160 rfl rfl rfl ?_
  refine ax_aload_nX (j := 0) dL_law_1161 rfl rfl rfl ?_
  refine ax_iload_n (j := 3) dL_law_1162 rfl rfl rfl ?_
  refine ax_iconst (v := 1) dL_law_1163 (by decide) rfl ?_
  refine ax_iadd dL_law_1164 rfl ?_
  rw [show nI i + 1 = nI (i + 1) from nI_add i 1]
  refine ax_sld dL_law_1165 rfl (vp_in_nI (by omega) hL) ?_
  rw [nI_clamp (show i + 1 < 2 ^ 31 by omega)]
  refine ad_V1 ksX9_keep lkL_147 dL_law_1166 rfl is0 rfl (Nat.le_of_ble_eq_true rfl) (by omega) h1 ?_
  refine ax_aload_n (j := 2) dL_law_1169 rfl rfl rfl ?_
  refine ax_aload_nX (j := 0) dL_law_1170 rfl rfl rfl ?_
  refine ax_iload_n (j := 3) dL_law_1171 rfl rfl rfl ?_
  refine ax_iconst (v := 1) dL_law_1172 (by decide) rfl ?_
  refine ax_iadd dL_law_1173 rfl ?_
  rw [show nI i + 1 = nI (i + 1) from nI_add i 1]
  refine ax_sld dL_law_1174 rfl (vp_in_nI (by omega) hL) ?_
  rw [nI_clamp (show i + 1 < 2 ^ 31 by omega)]
  refine ad_V1 ksX10_keep lkL_150 dL_law_1175 rfl is136 rfl (Nat.le_of_ble_eq_true rfl) (by omega) h2 ?_
  refine ax_icmp_eq (tgt := 1206) dL_law_1178 (by decide) rfl (fun _ => kk _ h3) (fun c => absurd rfl c)
theorem lw_33 (hs : ST G l I mX9_goBack mX10_goBack [.int (ax_gX G (i + 1))]) (hL : ax_gL G < 2 ^ 31) (hi : i + 5 < ax_gL G) (hI : I mem) (kk : ∀ m2 : ax_Me, I m2 → AX G l (mLw nm) 8 1206 (lwL i) [] 153 0 (ax_hm m2) 153 0 lwQ) : AX G l (mLw nm) 8 1183 (lwL i) [] 153 0 (ax_hm mem) 153 0 lwQ := by
  obtain ⟨r, d9, d10, m1, m2, e9, e10, h1, h2, h3⟩ := hs mem hI
  refine ax_aload_n (j := 1) dL_law_1183 rfl rfl rfl ?_
  refine ax_aload_nX (j := 0) dL_law_1184 rfl rfl rfl ?_
  refine ax_iload_n (j := 3) dL_law_1185 rfl rfl rfl ?_
  refine ax_iconst (v := 1) dL_law_1186 (by decide) rfl ?_
  refine ax_iadd dL_law_1187 rfl ?_
  rw [show nI i + 1 = nI (i + 1) from nI_add i 1]
  refine ax_sld dL_law_1188 rfl (vp_in_nI (by omega) hL) ?_
  rw [nI_clamp (show i + 1 < 2 ^ 31 by omega)]
  refine ad_V1 ksX9_goBack lkL_151 dL_law_1189 rfl is0 rfl (Nat.le_of_ble_eq_true rfl) (by omega) h1 ?_
  refine ax_aload_n (j := 2) dL_law_1192 rfl rfl rfl ?_
  refine ax_aload_nX (j := 0) dL_law_1193 rfl rfl rfl ?_
  refine ax_iload_n (j := 3) dL_law_1194 rfl rfl rfl ?_
  refine ax_iconst (v := 1) dL_law_1195 (by decide) rfl ?_
  refine ax_iadd dL_law_1196 rfl ?_
  rw [show nI i + 1 = nI (i + 1) from nI_add i 1]
  refine ax_sld dL_law_1197 rfl (vp_in_nI (by omega) hL) ?_
  rw [nI_clamp (show i + 1 < 2 ^ 31 by omega)]
  refine ad_V1 ksX10_goBack lkL_154 dL_law_1198 rfl is136 rfl (Nat.le_of_ble_eq_true rfl) (by omega) h2 ?_
  refine ax_icmp_eq (tgt := 1206) dL_law_1201 (by decide) rfl (fun _ => kk _ h3) (fun c => absurd rfl c)
/-- every call of the law keeps the invariant -/
def STS (G : ax_G) (l : Launch) (I : ax_Me → Prop) : Prop := (∀ p0 : Int32, ST G l I mX9_feed mX10_feed [.int p0]) ∧ ST G l I mX9_place mX10_place [] ∧ ST G l I mX9_fault mX10_fault [] ∧ (∀ p0 : Int32, ST G l I mX9_told mX10_told [.int p0]) ∧ (∀ p0 p1 : Int32, ST G l I mX9_person mX10_person [.int p0, .int p1]) ∧ (∀ p0 p1 : Int32, ST G l I mX9_remembers mX10_remembers [.int p0, .int p1]) ∧ (∀ p0 : Int32, ST G l I mX9_year mX10_year [.int p0]) ∧ (∀ p0 p1 : Int32, ST G l I mX9_meet mX10_meet [.int p0, .int p1]) ∧ (∀ p0 p1 : Int32, ST G l I mX9_forget mX10_forget [.int p0, .int p1]) ∧ (∀ p0 p1 p2 : Int32, ST G l I mX9_parade mX10_parade [.int p0, .int p1, .int p2]) ∧ (∀ p0 p1 : Int32, ST G l I mX9_mark mX10_mark [.int p0, .int p1]) ∧ (∀ p0 : Int32, ST G l I mX9_drift mX10_drift [.int p0]) ∧ ST G l I mX9_undo mX10_undo [] ∧ (∀ p0 p1 p2 : Int32, ST G l I mX9_sure mX10_sure [.int p0, .int p1, .int p2]) ∧ (∀ p0 p1 p2 : Int32, ST G l I mX9_bestRow mX10_bestRow [.int p0, .int p1, .int p2]) ∧ (∀ p0 p1 p2 p3 : Int32, ST G l I mX9_odds mX10_odds [.int p0, .int p1, .int p2, .int p3]) ∧ (∀ p0 p1 : Int32, ST G l I mX9_ask mX10_ask [.int p0, .int p1]) ∧ (∀ p0 : Int32, ST G l I mX9_ring mX10_ring [.int p0]) ∧ (∀ p0 : Int32, ST G l I mX9_rings mX10_rings [.int p0]) ∧ (∀ p0 p1 p2 p3 : Int32, ST G l I mX9_mask mX10_mask [.int p0, .int p1, .int p2, .int p3]) ∧ (∀ p0 p1 p2 p3 : Int32, ST G l I mX9_spoil mX10_spoil [.int p0, .int p1, .int p2, .int p3]) ∧ (∀ p0 p1 p2 p3 p4 : Int32, ST G l I mX9_impostor mX10_impostor [.int p0, .int p1, .int p2, .int p3, .int p4]) ∧ (∀ p0 : Int32, ST G l I mX9_lost mX10_lost [.int p0]) ∧ (∀ p0 : Int32, ST G l I mX9_alike mX10_alike [.int p0]) ∧ (∀ p0 p1 p2 p3 : Int32, ST G l I mX9_see mX10_see [.int p0, .int p1, .int p2, .int p3]) ∧ ST G l I mX9_honest mX10_honest [] ∧ (∀ p0 : Int32, ST G l I mX9_nods mX10_nods [.int p0]) ∧ (∀ p0 p1 : Int32, ST G l I mX9_showNext mX10_showNext [.int p0, .int p1]) ∧ (∀ p0 p1 : Int32, ST G l I mX9_write mX10_write [.int p0, .int p1]) ∧ ST G l I mX9_tear mX10_tear [] ∧ ST G l I mX9_judge mX10_judge [] ∧ (∀ p0 : Int32, ST G l I mX9_seed mX10_seed [.int p0]) ∧ (∀ p0 : Int32, ST G l I mX9_keep mX10_keep [.int p0]) ∧ (∀ p0 : Int32, ST G l I mX9_goBack mX10_goBack [.int p0])
theorem lw_cond {L i : Nat} (hL : L < 2 ^ 31) (hi : i < 2 ^ 31) (c : ¬ Int32.ofNat L - 6 < nI i) : i + 5 < L := by
  have h1 := Int32.not_lt.mp c
  have h2 := Int32.le_iff_toInt_le.mp h1
  rw [nI_toInt hi] at h2
  have h3 : (Int32.ofNat L).toInt = (L : Int) := nI_toInt hL
  have h4 : (Int32.ofNat L - 6).toInt = (L : Int) - 6 := by
    rw [Int32.toInt_sub, h3]
    show Int.bmod ((L : Int) - 6) (2 ^ 32) = _
    rw [Int.bmod_eq_of_le (by omega) (by omega)]
  omega
theorem lw_loop (hS : STS G l I) (hL : ax_gL G < 2 ^ 31) : ∀ (m i : Nat) (mem : ax_Me), I mem → i < 2147483648 → ax_gL G < i + 6 * m → AX G l (mLw nm) 8 18 (lwL i) [] 153 0 (ax_hm mem) 153 0 lwQ := by
  intro m
  induction m with
  | zero =>
    intro i mem hI hi hm
    refine ax_iload_n (j := 3) dL_law_18 rfl rfl rfl ?_
    refine ax_aload_nX (j := 0) dL_law_19 rfl rfl rfl ?_
    refine ax_slen dL_law_20 rfl ?_
    refine ax_bipush (v := 6) dL_law_21 (by decide) rfl ?_
    refine ax_isub dL_law_23 rfl ?_
    refine ax_icmp_gt (tgt := 1212) dL_law_24 (by decide) rfl (fun c => ?_) (fun c => ?_)
    · refine ax_iconst (v := 1) dL_law_1212 (by decide) rfl ?_
      exact ax_zreturn rfl dL_law_1213 (by decide) rfl
    · exact absurd (lw_cond hL (by omega) c) (by omega)
  | succ m ih =>
    intro i mem hI hi hm
    refine ax_iload_n (j := 3) dL_law_18 rfl rfl rfl ?_
    refine ax_aload_nX (j := 0) dL_law_19 rfl rfl rfl ?_
    refine ax_slen dL_law_20 rfl ?_
    refine ax_bipush (v := 6) dL_law_21 (by decide) rfl ?_
    refine ax_isub dL_law_23 rfl ?_
    refine ax_icmp_gt (tgt := 1212) dL_law_24 (by decide) rfl (fun c => ?_) (fun c => ?_)
    · refine ax_iconst (v := 1) dL_law_1212 (by decide) rfl ?_
      exact ax_zreturn rfl dL_law_1213 (by decide) rfl
    · have hi5 : i + 5 < ax_gL G := lw_cond hL (by omega) c
      have kk : ∀ m2 : ax_Me, I m2 → AX G l (mLw nm) 8 1206 (lwL i) [] 153 0 (ax_hm m2) 153 0 lwQ := by
        intro m2 h2
        by_cases hb : i + 6 < 2147483648
        · refine ax_iinc3 (v := nI (i + 6)) dL_law_1206 rfl (nI_add i 6) (Nat.le_of_ble_eq_true rfl) rfl ?_
          refine ax_goto (tgt := 18) dL_law_1209 (by decide) ?_
          exact ih (i + 6) m2 h2 hb (by omega)
        · omega
      refine ax_aload_nX (j := 0) dL_law_27 rfl rfl rfl ?_
      refine ax_iload_n (j := 3) dL_law_28 rfl rfl rfl ?_
      refine ax_sld dL_law_29 rfl (vp_in_nI (by omega) hL) ?_
      refine ax_bipush (v := 63) dL_law_30 (by decide) rfl ?_
      refine ax_iand dL_law_32 rfl ?_
      generalize (ax_gX G (nI i).toNatClampNeg &&& 63) = x
      by_cases hx : x.toInt < 0 ∨ 33 < x.toInt
      · exact ax_tableOut (tgt := 1206) dL_law_33 hx (by decide) (kk mem hI)
      · have hc : x.toInt = 0 ∨ x.toInt = 1 ∨ x.toInt = 2 ∨ x.toInt = 3 ∨ x.toInt = 4 ∨ x.toInt = 5 ∨ x.toInt = 6 ∨ x.toInt = 7 ∨ x.toInt = 8 ∨ x.toInt = 9 ∨ x.toInt = 10 ∨ x.toInt = 11 ∨ x.toInt = 12 ∨ x.toInt = 13 ∨ x.toInt = 14 ∨ x.toInt = 15 ∨ x.toInt = 16 ∨ x.toInt = 17 ∨ x.toInt = 18 ∨ x.toInt = 19 ∨ x.toInt = 20 ∨ x.toInt = 21 ∨ x.toInt = 22 ∨ x.toInt = 23 ∨ x.toInt = 24 ∨ x.toInt = 25 ∨ x.toInt = 26 ∨ x.toInt = 27 ∨ x.toInt = 28 ∨ x.toInt = 29 ∨ x.toInt = 30 ∨ x.toInt = 31 ∨ x.toInt = 32 ∨ x.toInt = 33 := by omega
        have h0 : ¬ x.toInt < 0 := fun q => hx (Or.inl q)
        have h9 : ¬ 33 < x.toInt := fun q => hx (Or.inr q)
        rcases hc with hc | hc | hc | hc | hc | hc | hc | hc | hc | hc | hc | hc | hc | hc | hc | hc | hc | hc | hc | hc | hc | hc | hc | hc | hc | hc | hc | hc | hc | hc | hc | hc | hc | hc

        · exact ax_tableIn (off := 151) (tgt := 184) dL_law_33 h0 h9 (by rw [hc]; rfl) (by decide) (lw_0 (hS.1 _) hL hi5 hI kk)
        · exact ax_tableIn (off := 174) (tgt := 207) dL_law_33 h0 h9 (by rw [hc]; rfl) (by decide) (lw_1 (hS.2.1) hL hi5 hI kk)
        · exact ax_tableIn (off := 187) (tgt := 220) dL_law_33 h0 h9 (by rw [hc]; rfl) (by decide) (lw_2 (hS.2.2.1) hL hi5 hI kk)
        · exact ax_tableIn (off := 200) (tgt := 233) dL_law_33 h0 h9 (by rw [hc]; rfl) (by decide) (lw_3 (hS.2.2.2.1 _) hL hi5 hI kk)
        · exact ax_tableIn (off := 223) (tgt := 256) dL_law_33 h0 h9 (by rw [hc]; rfl) (by decide) (lw_4 (hS.2.2.2.2.1 _ _) hL hi5 hI kk)
        · exact ax_tableIn (off := 256) (tgt := 289) dL_law_33 h0 h9 (by rw [hc]; rfl) (by decide) (lw_5 (hS.2.2.2.2.2.1 _ _) hL hi5 hI kk)
        · exact ax_tableIn (off := 289) (tgt := 322) dL_law_33 h0 h9 (by rw [hc]; rfl) (by decide) (lw_6 (hS.2.2.2.2.2.2.1 _) hL hi5 hI kk)
        · exact ax_tableIn (off := 312) (tgt := 345) dL_law_33 h0 h9 (by rw [hc]; rfl) (by decide) (lw_7 (hS.2.2.2.2.2.2.2.1 _ _) hL hi5 hI kk)
        · exact ax_tableIn (off := 345) (tgt := 378) dL_law_33 h0 h9 (by rw [hc]; rfl) (by decide) (lw_8 (hS.2.2.2.2.2.2.2.2.1 _ _) hL hi5 hI kk)
        · exact ax_tableIn (off := 378) (tgt := 411) dL_law_33 h0 h9 (by rw [hc]; rfl) (by decide) (lw_9 (hS.2.2.2.2.2.2.2.2.2.1 _ _ _) hL hi5 hI kk)
        · exact ax_tableIn (off := 421) (tgt := 454) dL_law_33 h0 h9 (by rw [hc]; rfl) (by decide) (lw_10 (hS.2.2.2.2.2.2.2.2.2.2.1 _ _) hL hi5 hI kk)
        · exact ax_tableIn (off := 454) (tgt := 487) dL_law_33 h0 h9 (by rw [hc]; rfl) (by decide) (lw_11 (hS.2.2.2.2.2.2.2.2.2.2.2.1 _) hL hi5 hI kk)
        · exact ax_tableIn (off := 477) (tgt := 510) dL_law_33 h0 h9 (by rw [hc]; rfl) (by decide) (lw_12 (hS.2.2.2.2.2.2.2.2.2.2.2.2.1) hL hi5 hI kk)
        · exact ax_tableIn (off := 490) (tgt := 523) dL_law_33 h0 h9 (by rw [hc]; rfl) (by decide) (lw_13 (hS.2.2.2.2.2.2.2.2.2.2.2.2.2.1 _ _ _) hL hi5 hI kk)
        · exact ax_tableIn (off := 533) (tgt := 566) dL_law_33 h0 h9 (by rw [hc]; rfl) (by decide) (lw_14 (hS.2.2.2.2.2.2.2.2.2.2.2.2.2.2.1 _ _ _) hL hi5 hI kk)
        · exact ax_tableIn (off := 576) (tgt := 609) dL_law_33 h0 h9 (by rw [hc]; rfl) (by decide) (lw_15 (hS.2.2.2.2.2.2.2.2.2.2.2.2.2.2.2.1 _ _ _ _) hL hi5 hI kk)
        · exact ax_tableIn (off := 629) (tgt := 662) dL_law_33 h0 h9 (by rw [hc]; rfl) (by decide) (lw_16 (hS.2.2.2.2.2.2.2.2.2.2.2.2.2.2.2.2.1 _ _) hL hi5 hI kk)
        · exact ax_tableIn (off := 662) (tgt := 695) dL_law_33 h0 h9 (by rw [hc]; rfl) (by decide) (lw_17 (hS.2.2.2.2.2.2.2.2.2.2.2.2.2.2.2.2.2.1 _) hL hi5 hI kk)
        · exact ax_tableIn (off := 685) (tgt := 718) dL_law_33 h0 h9 (by rw [hc]; rfl) (by decide) (lw_18 (hS.2.2.2.2.2.2.2.2.2.2.2.2.2.2.2.2.2.2.1 _) hL hi5 hI kk)
        · exact ax_tableIn (off := 708) (tgt := 741) dL_law_33 h0 h9 (by rw [hc]; rfl) (by decide) (lw_19 (hS.2.2.2.2.2.2.2.2.2.2.2.2.2.2.2.2.2.2.2.1 _ _ _ _) hL hi5 hI kk)
        · exact ax_tableIn (off := 761) (tgt := 794) dL_law_33 h0 h9 (by rw [hc]; rfl) (by decide) (lw_20 (hS.2.2.2.2.2.2.2.2.2.2.2.2.2.2.2.2.2.2.2.2.1 _ _ _ _) hL hi5 hI kk)
        · exact ax_tableIn (off := 814) (tgt := 847) dL_law_33 h0 h9 (by rw [hc]; rfl) (by decide) (lw_21 (hS.2.2.2.2.2.2.2.2.2.2.2.2.2.2.2.2.2.2.2.2.2.1 _ _ _ _ _) hL hi5 hI kk)
        · exact ax_tableIn (off := 877) (tgt := 910) dL_law_33 h0 h9 (by rw [hc]; rfl) (by decide) (lw_22 (hS.2.2.2.2.2.2.2.2.2.2.2.2.2.2.2.2.2.2.2.2.2.2.1 _) hL hi5 hI kk)
        · exact ax_tableIn (off := 900) (tgt := 933) dL_law_33 h0 h9 (by rw [hc]; rfl) (by decide) (lw_23 (hS.2.2.2.2.2.2.2.2.2.2.2.2.2.2.2.2.2.2.2.2.2.2.2.1 _) hL hi5 hI kk)
        · exact ax_tableIn (off := 923) (tgt := 956) dL_law_33 h0 h9 (by rw [hc]; rfl) (by decide) (lw_24 (hS.2.2.2.2.2.2.2.2.2.2.2.2.2.2.2.2.2.2.2.2.2.2.2.2.1 _ _ _ _) hL hi5 hI kk)
        · exact ax_tableIn (off := 976) (tgt := 1009) dL_law_33 h0 h9 (by rw [hc]; rfl) (by decide) (lw_25 (hS.2.2.2.2.2.2.2.2.2.2.2.2.2.2.2.2.2.2.2.2.2.2.2.2.2.1) hL hi5 hI kk)
        · exact ax_tableIn (off := 989) (tgt := 1022) dL_law_33 h0 h9 (by rw [hc]; rfl) (by decide) (lw_26 (hS.2.2.2.2.2.2.2.2.2.2.2.2.2.2.2.2.2.2.2.2.2.2.2.2.2.2.1 _) hL hi5 hI kk)
        · exact ax_tableIn (off := 1012) (tgt := 1045) dL_law_33 h0 h9 (by rw [hc]; rfl) (by decide) (lw_27 (hS.2.2.2.2.2.2.2.2.2.2.2.2.2.2.2.2.2.2.2.2.2.2.2.2.2.2.2.1 _ _) hL hi5 hI kk)
        · exact ax_tableIn (off := 1045) (tgt := 1078) dL_law_33 h0 h9 (by rw [hc]; rfl) (by decide) (lw_28 (hS.2.2.2.2.2.2.2.2.2.2.2.2.2.2.2.2.2.2.2.2.2.2.2.2.2.2.2.2.1 _ _) hL hi5 hI kk)
        · exact ax_tableIn (off := 1078) (tgt := 1111) dL_law_33 h0 h9 (by rw [hc]; rfl) (by decide) (lw_29 (hS.2.2.2.2.2.2.2.2.2.2.2.2.2.2.2.2.2.2.2.2.2.2.2.2.2.2.2.2.2.1) hL hi5 hI kk)
        · exact ax_tableIn (off := 1091) (tgt := 1124) dL_law_33 h0 h9 (by rw [hc]; rfl) (by decide) (lw_30 (hS.2.2.2.2.2.2.2.2.2.2.2.2.2.2.2.2.2.2.2.2.2.2.2.2.2.2.2.2.2.2.1) hL hi5 hI kk)
        · exact ax_tableIn (off := 1104) (tgt := 1137) dL_law_33 h0 h9 (by rw [hc]; rfl) (by decide) (lw_31 (hS.2.2.2.2.2.2.2.2.2.2.2.2.2.2.2.2.2.2.2.2.2.2.2.2.2.2.2.2.2.2.2.1 _) hL hi5 hI kk)
        · exact ax_tableIn (off := 1127) (tgt := 1160) dL_law_33 h0 h9 (by rw [hc]; rfl) (by decide) (lw_32 (hS.2.2.2.2.2.2.2.2.2.2.2.2.2.2.2.2.2.2.2.2.2.2.2.2.2.2.2.2.2.2.2.2.1 _) hL hi5 hI kk)
        · exact ax_tableIn (off := 1150) (tgt := 1183) dL_law_33 h0 h9 (by rw [hc]; rfl) (by decide) (lw_33 (hS.2.2.2.2.2.2.2.2.2.2.2.2.2.2.2.2.2.2.2.2.2.2.2.2.2.2.2.2.2.2.2.2.2 _) hL hi5 hI kk)
theorem law_go (hS : STS G l I) (h0 : I mem0) (hL : ax_gL G < 2 ^ 31) {h : ax_H} : AX G l (mLw nm) 8 0 [.double 0, .float 0, .float 0, .float 0] [] 0 0 h 153 4903 lwQ := by
  refine ax_new (h1 := va_up (ax_hm mem0) 0 (ax_obj 7 [.null, .null, .null, .null, .null, .null, .null, .null, .null])) nwL_7 dL_law_0 rfl rfl (by omega) (by omega) (fun k hk => absurd hk (Nat.not_lt_zero k)) ct_up_eq ?_
  refine ax_dup dL_law_3 rfl rfl ?_
  refine ct_call (g := ax_hm mem0) (n1 := 136) (z1 := 9 + 2602) ksX9_init lkL_9 dL_law_4 rfl (Nat.le_of_ble_eq_true rfl) (Nat.le_of_ble_eq_true rfl) (by omega) (by omega) (s_X9_init (z := 9) (fun _ _ _ => rfl)) ?_
  refine ax_ast1 dL_law_7 rfl rfl (Nat.le_of_ble_eq_true rfl) rfl ?_
  refine ct_obj nwL_10 dL_law_8 rfl rfl (by omega) (by omega) ?_
  refine ax_dup dL_law_11 rfl rfl ?_
  refine ct_call (g := ax_hm mem0) (n1 := 153) (z1 := 4903) ksX10_init lkL_12 dL_law_12 rfl (Nat.le_of_ble_eq_true rfl) (Nat.le_of_ble_eq_true rfl) (by omega) (by omega) (s_X10_init (z := 2638)) ?_
  refine ax_ast2 dL_law_15 rfl rfl (Nat.le_of_ble_eq_true rfl) rfl ?_
  refine ax_iconst (v := 0) dL_law_16 (by decide) rfl ?_
  refine ax_ist3 dL_law_17 rfl rfl (Nat.le_of_ble_eq_true rfl) rfl ?_
  exact ax_zsh (lw_loop hS hL (ax_gL G + 1) 0 mem0 h0 (by decide) (by omega))
end LAW
