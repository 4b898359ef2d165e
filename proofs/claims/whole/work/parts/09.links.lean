/-! ===== the words of the tables, by their places ===== -/
theorem tb_at {w : Cond} {i : Nat} (h : tables_1[i]? = some w) : w ∈ lw_tbl := List.mem_append_right _ (List.mem_of_getElem? h)
theorem inX0 : ∀ w ∈ u_ws RX0 TX0 3, w ∈ lw_tbl := by decide +kernel
theorem inX1 : ∀ w ∈ u_ws RX1 TX1 1, w ∈ lw_tbl := by decide +kernel
theorem inX3 : ∀ w ∈ u_ws RX3 TX3 3, w ∈ lw_tbl := by decide +kernel
theorem inX4 : ∀ w ∈ u_ws RX4 TX4 3, w ∈ lw_tbl := by decide +kernel
theorem inX5 : ∀ w ∈ u_ws RX5 TX5 6, w ∈ lw_tbl := by decide +kernel
theorem inX7 : ∀ w ∈ u_ws RX7 TX7 5, w ∈ lw_tbl := by decide +kernel
theorem inX8 : ∀ w ∈ u_ws RX8 TX8 6, w ∈ lw_tbl := by decide +kernel
theorem inX9 : ∀ w ∈ u_ws RX9 TX9 9, w ∈ lw_tbl := by decide +kernel
theorem inX10 : ∀ w ∈ u_ws RX10 TX10 27, w ∈ lw_tbl := by decide +kernel
theorem kmX0_init : ax_MK mX0_init 0 := ⟨(tb_at (i := 132) (by decide +kernel)), (tb_at (i := 7) (by decide +kernel)), ⟨by decide +kernel, by decide +kernel, by decide +kernel⟩, by decide⟩
theorem ksX0_init : ax_MI mX0_init 0 := ⟨kmX0_init, (tb_at (i := 131) (by decide +kernel)), rfl, rfl⟩
theorem kmX0_empty : ax_MK mX0_empty 0 := ⟨(tb_at (i := 326) (by decide +kernel)), (tb_at (i := 7) (by decide +kernel)), ⟨by decide +kernel, by decide +kernel, by decide +kernel⟩, by decide⟩
theorem ksX0_empty : ax_MV mX0_empty 0 := ⟨kmX0_empty, (tb_at (i := 324) (by decide +kernel)), (tb_at (i := 325) (by decide +kernel))⟩
theorem kmX0_hasRoom : ax_MK mX0_hasRoom 0 := ⟨(tb_at (i := 678) (by decide +kernel)), (tb_at (i := 7) (by decide +kernel)), ⟨by decide +kernel, by decide +kernel, by decide +kernel⟩, by decide⟩
theorem ksX0_hasRoom : ax_MV mX0_hasRoom 0 := ⟨kmX0_hasRoom, (tb_at (i := 676) (by decide +kernel)), (tb_at (i := 677) (by decide +kernel))⟩
theorem kmX0_add : ax_MK mX0_add 2 := ⟨(tb_at (i := 682) (by decide +kernel)), (tb_at (i := 7) (by decide +kernel)), ⟨by decide +kernel, by decide +kernel, by decide +kernel⟩, by decide⟩
theorem ksX0_add : ax_MV mX0_add 2 := ⟨kmX0_add, (tb_at (i := 680) (by decide +kernel)), (tb_at (i := 681) (by decide +kernel))⟩
theorem kmX0_firstWrong : ax_MK mX0_firstWrong 1 := ⟨(tb_at (i := 695) (by decide +kernel)), (tb_at (i := 7) (by decide +kernel)), ⟨by decide +kernel, by decide +kernel, by decide +kernel⟩, by decide⟩
theorem ksX0_firstWrong : ax_MV mX0_firstWrong 1 := ⟨kmX0_firstWrong, (tb_at (i := 693) (by decide +kernel)), (tb_at (i := 694) (by decide +kernel))⟩
theorem kmX1_init : ax_MK mX1_init 0 := ⟨(tb_at (i := 149) (by decide +kernel)), (tb_at (i := 8) (by decide +kernel)), ⟨by decide +kernel, by decide +kernel, by decide +kernel⟩, by decide⟩
theorem ksX1_init : ax_MI mX1_init 0 := ⟨kmX1_init, (tb_at (i := 148) (by decide +kernel)), rfl, rfl⟩
theorem kmX1_drawOf : ax_MK mX1_drawOf 1 := ⟨(tb_at (i := 492) (by decide +kernel)), (tb_at (i := 8) (by decide +kernel)), ⟨by decide +kernel, by decide +kernel, by decide +kernel⟩, by decide⟩
theorem ksX1_drawOf : ax_MV mX1_drawOf 1 := ⟨kmX1_drawOf, (tb_at (i := 490) (by decide +kernel)), (tb_at (i := 491) (by decide +kernel))⟩
theorem kmX2_apart : ax_MK mX2_apart 2 := ⟨(tb_at (i := 429) (by decide +kernel)), (tb_at (i := 14) (by decide +kernel)), ⟨by decide +kernel, by decide +kernel, by decide +kernel⟩, by decide⟩
theorem ksX2_apart : ax_MS mX2_apart 2 := ⟨kmX2_apart, (tb_at (i := 428) (by decide +kernel))⟩
theorem kmX2_apartOf : ax_MK mX2_apartOf 3 := ⟨(tb_at (i := 469) (by decide +kernel)), (tb_at (i := 14) (by decide +kernel)), ⟨by decide +kernel, by decide +kernel, by decide +kernel⟩, by decide⟩
theorem ksX2_apartOf : ax_MS mX2_apartOf 3 := ⟨kmX2_apartOf, (tb_at (i := 468) (by decide +kernel))⟩
theorem kmX2_pick : ax_MK mX2_pick 3 := ⟨(tb_at (i := 465) (by decide +kernel)), (tb_at (i := 14) (by decide +kernel)), ⟨by decide +kernel, by decide +kernel, by decide +kernel⟩, by decide⟩
theorem ksX2_pick : ax_MS mX2_pick 3 := ⟨kmX2_pick, (tb_at (i := 464) (by decide +kernel))⟩
theorem kmX2_sureness : ax_MK mX2_sureness 4 := ⟨(tb_at (i := 510) (by decide +kernel)), (tb_at (i := 14) (by decide +kernel)), ⟨by decide +kernel, by decide +kernel, by decide +kernel⟩, by decide⟩
theorem ksX2_sureness : ax_MS mX2_sureness 4 := ⟨kmX2_sureness, (tb_at (i := 509) (by decide +kernel))⟩
theorem kmX2_lead : ax_MK mX2_lead 5 := ⟨(tb_at (i := 514) (by decide +kernel)), (tb_at (i := 14) (by decide +kernel)), ⟨by decide +kernel, by decide +kernel, by decide +kernel⟩, by decide⟩
theorem ksX2_lead : ax_MS mX2_lead 5 := ⟨kmX2_lead, (tb_at (i := 513) (by decide +kernel))⟩
theorem kmX2_oddsOf : ax_MK mX2_oddsOf 4 := ⟨(tb_at (i := 542) (by decide +kernel)), (tb_at (i := 14) (by decide +kernel)), ⟨by decide +kernel, by decide +kernel, by decide +kernel⟩, by decide⟩
theorem ksX2_oddsOf : ax_MS mX2_oddsOf 4 := ⟨kmX2_oddsOf, (tb_at (i := 541) (by decide +kernel))⟩
theorem kmX2_weightIn : ax_MK mX2_weightIn 4 := ⟨(tb_at (i := 545) (by decide +kernel)), (tb_at (i := 14) (by decide +kernel)), ⟨by decide +kernel, by decide +kernel, by decide +kernel⟩, by decide⟩
theorem ksX2_weightIn : ax_MS mX2_weightIn 4 := ⟨kmX2_weightIn, (tb_at (i := 544) (by decide +kernel))⟩
theorem kmX2_spread : ax_MK mX2_spread 3 := ⟨(tb_at (i := 666) (by decide +kernel)), (tb_at (i := 14) (by decide +kernel)), ⟨by decide +kernel, by decide +kernel, by decide +kernel⟩, by decide⟩
theorem ksX2_spread : ax_MS mX2_spread 3 := ⟨kmX2_spread, (tb_at (i := 665) (by decide +kernel))⟩
theorem kmX3_init : ax_MK mX3_init 0 := ⟨(tb_at (i := 160) (by decide +kernel)), (tb_at (i := 9) (by decide +kernel)), ⟨by decide +kernel, by decide +kernel, by decide +kernel⟩, by decide⟩
theorem ksX3_init : ax_MI mX3_init 0 := ⟨kmX3_init, (tb_at (i := 159) (by decide +kernel)), rfl, rfl⟩
theorem kmX3_take : ax_MK mX3_take 2 := ⟨(tb_at (i := 712) (by decide +kernel)), (tb_at (i := 9) (by decide +kernel)), ⟨by decide +kernel, by decide +kernel, by decide +kernel⟩, by decide⟩
theorem ksX3_take : ax_MV mX3_take 2 := ⟨kmX3_take, (tb_at (i := 710) (by decide +kernel)), (tb_at (i := 711) (by decide +kernel))⟩
theorem kmX3_drop : ax_MK mX3_drop 0 := ⟨(tb_at (i := 330) (by decide +kernel)), (tb_at (i := 9) (by decide +kernel)), ⟨by decide +kernel, by decide +kernel, by decide +kernel⟩, by decide⟩
theorem ksX3_drop : ax_MV mX3_drop 0 := ⟨kmX3_drop, (tb_at (i := 328) (by decide +kernel)), (tb_at (i := 329) (by decide +kernel))⟩
theorem kmX4_init : ax_MK mX4_init 0 := ⟨(tb_at (i := 89) (by decide +kernel)), (tb_at (i := 5) (by decide +kernel)), ⟨by decide +kernel, by decide +kernel, by decide +kernel⟩, by decide⟩
theorem ksX4_init : ax_MI mX4_init 0 := ⟨kmX4_init, (tb_at (i := 88) (by decide +kernel)), rfl, rfl⟩
theorem kmX4_empty : ax_MK mX4_empty 0 := ⟨(tb_at (i := 318) (by decide +kernel)), (tb_at (i := 5) (by decide +kernel)), ⟨by decide +kernel, by decide +kernel, by decide +kernel⟩, by decide⟩
theorem ksX4_empty : ax_MV mX4_empty 0 := ⟨kmX4_empty, (tb_at (i := 316) (by decide +kernel)), (tb_at (i := 317) (by decide +kernel))⟩
theorem kmX4_push : ax_MK mX4_push 1 := ⟨(tb_at (i := 403) (by decide +kernel)), (tb_at (i := 5) (by decide +kernel)), ⟨by decide +kernel, by decide +kernel, by decide +kernel⟩, by decide⟩
theorem ksX4_push : ax_MV mX4_push 1 := ⟨kmX4_push, (tb_at (i := 401) (by decide +kernel)), (tb_at (i := 402) (by decide +kernel))⟩
theorem kmX4_popInto : ax_MK mX4_popInto 1 := ⟨(tb_at (i := 503) (by decide +kernel)), (tb_at (i := 5) (by decide +kernel)), ⟨by decide +kernel, by decide +kernel, by decide +kernel⟩, by decide⟩
theorem ksX4_popInto : ax_MV mX4_popInto 1 := ⟨kmX4_popInto, (tb_at (i := 501) (by decide +kernel)), (tb_at (i := 502) (by decide +kernel))⟩
theorem kmX4_stateAt : ax_MK mX4_stateAt 1 := ⟨(tb_at (i := 407) (by decide +kernel)), (tb_at (i := 5) (by decide +kernel)), ⟨by decide +kernel, by decide +kernel, by decide +kernel⟩, by decide⟩
theorem ksX4_stateAt : ax_MV mX4_stateAt 1 := ⟨kmX4_stateAt, (tb_at (i := 406) (by decide +kernel)), (List.mem_append_left _ (List.mem_of_getElem? (i := 9) (by decide +kernel)))⟩
theorem kmX5_init : ax_MK mX5_init 0 := ⟨(tb_at (i := 56) (by decide +kernel)), (tb_at (i := 3) (by decide +kernel)), ⟨by decide +kernel, by decide +kernel, by decide +kernel⟩, by decide⟩
theorem ksX5_init : ax_MI mX5_init 0 := ⟨kmX5_init, (tb_at (i := 55) (by decide +kernel)), rfl, rfl⟩
theorem kmX5_empty : ax_MK mX5_empty 0 := ⟨(tb_at (i := 239) (by decide +kernel)), (tb_at (i := 3) (by decide +kernel)), ⟨by decide +kernel, by decide +kernel, by decide +kernel⟩, by decide⟩
theorem ksX5_empty : ax_MV mX5_empty 0 := ⟨kmX5_empty, (tb_at (i := 237) (by decide +kernel)), (tb_at (i := 238) (by decide +kernel))⟩
theorem kmX5_become : ax_MK mX5_become 1 := ⟨(tb_at (i := 311) (by decide +kernel)), (tb_at (i := 3) (by decide +kernel)), ⟨by decide +kernel, by decide +kernel, by decide +kernel⟩, by decide⟩
theorem ksX5_become : ax_MV mX5_become 1 := ⟨kmX5_become, (tb_at (i := 309) (by decide +kernel)), (tb_at (i := 310) (by decide +kernel))⟩
theorem kmX5_add : ax_MK mX5_add 2 := ⟨(tb_at (i := 274) (by decide +kernel)), (tb_at (i := 3) (by decide +kernel)), ⟨by decide +kernel, by decide +kernel, by decide +kernel⟩, by decide⟩
theorem ksX5_add : ax_MV mX5_add 2 := ⟨kmX5_add, (tb_at (i := 272) (by decide +kernel)), (tb_at (i := 273) (by decide +kernel))⟩
theorem kmX5_has : ax_MK mX5_has 1 := ⟨(tb_at (i := 295) (by decide +kernel)), (tb_at (i := 3) (by decide +kernel)), ⟨by decide +kernel, by decide +kernel, by decide +kernel⟩, by decide⟩
theorem ksX5_has : ax_MV mX5_has 1 := ⟨kmX5_has, (tb_at (i := 293) (by decide +kernel)), (tb_at (i := 294) (by decide +kernel))⟩
theorem kmX5_isPair : ax_MK mX5_isPair 2 := ⟨(tb_at (i := 291) (by decide +kernel)), (tb_at (i := 3) (by decide +kernel)), ⟨by decide +kernel, by decide +kernel, by decide +kernel⟩, by decide⟩
theorem ksX5_isPair : ax_MV mX5_isPair 2 := ⟨kmX5_isPair, (tb_at (i := 289) (by decide +kernel)), (tb_at (i := 290) (by decide +kernel))⟩
theorem kmX5_everybody : ax_MK mX5_everybody 0 := ⟨(tb_at (i := 455) (by decide +kernel)), (tb_at (i := 3) (by decide +kernel)), ⟨by decide +kernel, by decide +kernel, by decide +kernel⟩, by decide⟩
theorem ksX5_everybody : ax_MV mX5_everybody 0 := ⟨kmX5_everybody, (tb_at (i := 453) (by decide +kernel)), (tb_at (i := 454) (by decide +kernel))⟩
theorem kmX5_holdsAll : ax_MK mX5_holdsAll 1 := ⟨(tb_at (i := 451) (by decide +kernel)), (tb_at (i := 3) (by decide +kernel)), ⟨by decide +kernel, by decide +kernel, by decide +kernel⟩, by decide⟩
theorem ksX5_holdsAll : ax_MV mX5_holdsAll 1 := ⟨kmX5_holdsAll, (tb_at (i := 449) (by decide +kernel)), (tb_at (i := 450) (by decide +kernel))⟩
theorem kmX5_marksOf : ax_MK mX5_marksOf 1 := ⟨(tb_at (i := 303) (by decide +kernel)), (tb_at (i := 3) (by decide +kernel)), ⟨by decide +kernel, by decide +kernel, by decide +kernel⟩, by decide⟩
theorem ksX5_marksOf : ax_MV mX5_marksOf 1 := ⟨kmX5_marksOf, (tb_at (i := 301) (by decide +kernel)), (tb_at (i := 302) (by decide +kernel))⟩
theorem kmX5_changesOf : ax_MK mX5_changesOf 1 := ⟨(tb_at (i := 379) (by decide +kernel)), (tb_at (i := 3) (by decide +kernel)), ⟨by decide +kernel, by decide +kernel, by decide +kernel⟩, by decide⟩
theorem ksX5_changesOf : ax_MV mX5_changesOf 1 := ⟨kmX5_changesOf, (tb_at (i := 377) (by decide +kernel)), (tb_at (i := 378) (by decide +kernel))⟩
theorem kmX5_identityOf : ax_MK mX5_identityOf 1 := ⟨(tb_at (i := 350) (by decide +kernel)), (tb_at (i := 3) (by decide +kernel)), ⟨by decide +kernel, by decide +kernel, by decide +kernel⟩, by decide⟩
theorem ksX5_identityOf : ax_MV mX5_identityOf 1 := ⟨kmX5_identityOf, (tb_at (i := 348) (by decide +kernel)), (tb_at (i := 349) (by decide +kernel))⟩
theorem kmX5_memoryOf : ax_MK mX5_memoryOf 2 := ⟨(tb_at (i := 287) (by decide +kernel)), (tb_at (i := 3) (by decide +kernel)), ⟨by decide +kernel, by decide +kernel, by decide +kernel⟩, by decide⟩
theorem ksX5_memoryOf : ax_MV mX5_memoryOf 2 := ⟨kmX5_memoryOf, (tb_at (i := 285) (by decide +kernel)), (tb_at (i := 286) (by decide +kernel))⟩
theorem kmX5_knows : ax_MK mX5_knows 2 := ⟨(tb_at (i := 283) (by decide +kernel)), (tb_at (i := 3) (by decide +kernel)), ⟨by decide +kernel, by decide +kernel, by decide +kernel⟩, by decide⟩
theorem ksX5_knows : ax_MV mX5_knows 2 := ⟨kmX5_knows, (tb_at (i := 281) (by decide +kernel)), (tb_at (i := 282) (by decide +kernel))⟩
theorem kmX5_flip : ax_MK mX5_flip 2 := ⟨(tb_at (i := 421) (by decide +kernel)), (tb_at (i := 3) (by decide +kernel)), ⟨by decide +kernel, by decide +kernel, by decide +kernel⟩, by decide⟩
theorem ksX5_flip : ax_MV mX5_flip 2 := ⟨kmX5_flip, (tb_at (i := 419) (by decide +kernel)), (tb_at (i := 420) (by decide +kernel))⟩
theorem kmX5_learn : ax_MK mX5_learn 2 := ⟨(tb_at (i := 299) (by decide +kernel)), (tb_at (i := 3) (by decide +kernel)), ⟨by decide +kernel, by decide +kernel, by decide +kernel⟩, by decide⟩
theorem ksX5_learn : ax_MV mX5_learn 2 := ⟨kmX5_learn, (tb_at (i := 297) (by decide +kernel)), (tb_at (i := 298) (by decide +kernel))⟩
theorem kmX5_unlearn : ax_MK mX5_unlearn 2 := ⟨(tb_at (i := 439) (by decide +kernel)), (tb_at (i := 3) (by decide +kernel)), ⟨by decide +kernel, by decide +kernel, by decide +kernel⟩, by decide⟩
theorem ksX5_unlearn : ax_MV mX5_unlearn 2 := ⟨kmX5_unlearn, (tb_at (i := 437) (by decide +kernel)), (tb_at (i := 438) (by decide +kernel))⟩
theorem kmX5_identify : ax_MK mX5_identify 2 := ⟨(tb_at (i := 475) (by decide +kernel)), (tb_at (i := 3) (by decide +kernel)), ⟨by decide +kernel, by decide +kernel, by decide +kernel⟩, by decide⟩
theorem ksX5_identify : ax_MV mX5_identify 2 := ⟨kmX5_identify, (tb_at (i := 473) (by decide +kernel)), (tb_at (i := 474) (by decide +kernel))⟩
theorem kmX5_passYears : ax_MK mX5_passYears 1 := ⟨(tb_at (i := 416) (by decide +kernel)), (tb_at (i := 3) (by decide +kernel)), ⟨by decide +kernel, by decide +kernel, by decide +kernel⟩, by decide⟩
theorem ksX5_passYears : ax_MV mX5_passYears 1 := ⟨kmX5_passYears, (tb_at (i := 414) (by decide +kernel)), (tb_at (i := 415) (by decide +kernel))⟩
theorem kmX5_knownBy : ax_MK mX5_knownBy 1 := ⟨(tb_at (i := 368) (by decide +kernel)), (tb_at (i := 3) (by decide +kernel)), ⟨by decide +kernel, by decide +kernel, by decide +kernel⟩, by decide⟩
theorem ksX5_knownBy : ax_MV mX5_knownBy 1 := ⟨kmX5_knownBy, (tb_at (i := 366) (by decide +kernel)), (tb_at (i := 367) (by decide +kernel))⟩
theorem kmX5_knowersOf : ax_MK mX5_knowersOf 1 := ⟨(tb_at (i := 385) (by decide +kernel)), (tb_at (i := 3) (by decide +kernel)), ⟨by decide +kernel, by decide +kernel, by decide +kernel⟩, by decide⟩
theorem ksX5_knowersOf : ax_MV mX5_knowersOf 1 := ⟨kmX5_knowersOf, (tb_at (i := 383) (by decide +kernel)), (tb_at (i := 384) (by decide +kernel))⟩
theorem kmX5_countAcquaintances : ax_MK mX5_countAcquaintances 0 := ⟨(tb_at (i := 364) (by decide +kernel)), (tb_at (i := 3) (by decide +kernel)), ⟨by decide +kernel, by decide +kernel, by decide +kernel⟩, by decide⟩
theorem ksX5_countAcquaintances : ax_MV mX5_countAcquaintances 0 := ⟨kmX5_countAcquaintances, (tb_at (i := 362) (by decide +kernel)), (tb_at (i := 363) (by decide +kernel))⟩
theorem kmX5_whoAre : ax_MK mX5_whoAre 1 := ⟨(tb_at (i := 346) (by decide +kernel)), (tb_at (i := 3) (by decide +kernel)), ⟨by decide +kernel, by decide +kernel, by decide +kernel⟩, by decide⟩
theorem ksX5_whoAre : ax_MV mX5_whoAre 1 := ⟨kmX5_whoAre, (tb_at (i := 344) (by decide +kernel)), (tb_at (i := 345) (by decide +kernel))⟩
theorem kmX5_twoOfOne : ax_MK mX5_twoOfOne 0 := ⟨(tb_at (i := 342) (by decide +kernel)), (tb_at (i := 3) (by decide +kernel)), ⟨by decide +kernel, by decide +kernel, by decide +kernel⟩, by decide⟩
theorem ksX5_twoOfOne : ax_MV mX5_twoOfOne 0 := ⟨kmX5_twoOfOne, (tb_at (i := 340) (by decide +kernel)), (tb_at (i := 341) (by decide +kernel))⟩
theorem kmX5_nobodies : ax_MK mX5_nobodies 0 := ⟨(tb_at (i := 360) (by decide +kernel)), (tb_at (i := 3) (by decide +kernel)), ⟨by decide +kernel, by decide +kernel, by decide +kernel⟩, by decide⟩
theorem ksX5_nobodies : ax_MV mX5_nobodies 0 := ⟨kmX5_nobodies, (tb_at (i := 358) (by decide +kernel)), (tb_at (i := 359) (by decide +kernel))⟩
theorem kmX5_stepsBackTo : ax_MK mX5_stepsBackTo 1 := ⟨(tb_at (i := 562) (by decide +kernel)), (tb_at (i := 3) (by decide +kernel)), ⟨by decide +kernel, by decide +kernel, by decide +kernel⟩, by decide⟩
theorem ksX5_stepsBackTo : ax_MV mX5_stepsBackTo 1 := ⟨kmX5_stepsBackTo, (tb_at (i := 560) (by decide +kernel)), (tb_at (i := 561) (by decide +kernel))⟩
theorem kmX5_countInRings : ax_MK mX5_countInRings 0 := ⟨(tb_at (i := 570) (by decide +kernel)), (tb_at (i := 3) (by decide +kernel)), ⟨by decide +kernel, by decide +kernel, by decide +kernel⟩, by decide⟩
theorem ksX5_countInRings : ax_MV mX5_countInRings 0 := ⟨kmX5_countInRings, (tb_at (i := 568) (by decide +kernel)), (tb_at (i := 569) (by decide +kernel))⟩
theorem kmX5_countAstray : ax_MK mX5_countAstray 0 := ⟨(tb_at (i := 575) (by decide +kernel)), (tb_at (i := 3) (by decide +kernel)), ⟨by decide +kernel, by decide +kernel, by decide +kernel⟩, by decide⟩
theorem ksX5_countAstray : ax_MV mX5_countAstray 0 := ⟨kmX5_countAstray, (tb_at (i := 573) (by decide +kernel)), (tb_at (i := 574) (by decide +kernel))⟩
theorem kmX5_countAstrayAndKnown : ax_MK mX5_countAstrayAndKnown 0 := ⟨(tb_at (i := 579) (by decide +kernel)), (tb_at (i := 3) (by decide +kernel)), ⟨by decide +kernel, by decide +kernel, by decide +kernel⟩, by decide⟩
theorem ksX5_countAstrayAndKnown : ax_MV mX5_countAstrayAndKnown 0 := ⟨kmX5_countAstrayAndKnown, (tb_at (i := 577) (by decide +kernel)), (tb_at (i := 578) (by decide +kernel))⟩
theorem kmX5_isFaded : ax_MK mX5_isFaded 2 := ⟨(tb_at (i := 616) (by decide +kernel)), (tb_at (i := 3) (by decide +kernel)), ⟨by decide +kernel, by decide +kernel, by decide +kernel⟩, by decide⟩
theorem ksX5_isFaded : ax_MV mX5_isFaded 2 := ⟨kmX5_isFaded, (tb_at (i := 614) (by decide +kernel)), (tb_at (i := 615) (by decide +kernel))⟩
theorem kmX5_fadedPair : ax_MK mX5_fadedPair 1 := ⟨(tb_at (i := 612) (by decide +kernel)), (tb_at (i := 3) (by decide +kernel)), ⟨by decide +kernel, by decide +kernel, by decide +kernel⟩, by decide⟩
theorem ksX5_fadedPair : ax_MV mX5_fadedPair 1 := ⟨kmX5_fadedPair, (tb_at (i := 610) (by decide +kernel)), (tb_at (i := 611) (by decide +kernel))⟩
theorem kmX5_firstTwins : ax_MK mX5_firstTwins 0 := ⟨(tb_at (i := 625) (by decide +kernel)), (tb_at (i := 3) (by decide +kernel)), ⟨by decide +kernel, by decide +kernel, by decide +kernel⟩, by decide⟩
theorem ksX5_firstTwins : ax_MV mX5_firstTwins 0 := ⟨kmX5_firstTwins, (tb_at (i := 623) (by decide +kernel)), (tb_at (i := 624) (by decide +kernel))⟩
theorem kmX6_surest : ax_MK mX6_surest 4 := ⟨(tb_at (i := 524) (by decide +kernel)), (tb_at (i := 15) (by decide +kernel)), ⟨by decide +kernel, by decide +kernel, by decide +kernel⟩, by decide⟩
theorem ksX6_surest : ax_MS mX6_surest 4 := ⟨kmX6_surest, (tb_at (i := 523) (by decide +kernel))⟩
theorem kmX6_surestWitness : ax_MK mX6_surestWitness 3 := ⟨(tb_at (i := 553) (by decide +kernel)), (tb_at (i := 15) (by decide +kernel)), ⟨by decide +kernel, by decide +kernel, by decide +kernel⟩, by decide⟩
theorem ksX6_surestWitness : ax_MS mX6_surestWitness 3 := ⟨kmX6_surestWitness, (tb_at (i := 552) (by decide +kernel))⟩
theorem kmX6_fewestMarks : ax_MK mX6_fewestMarks 5 := ⟨(tb_at (i := 587) (by decide +kernel)), (tb_at (i := 15) (by decide +kernel)), ⟨by decide +kernel, by decide +kernel, by decide +kernel⟩, by decide⟩
theorem ksX6_fewestMarks : ax_MS mX6_fewestMarks 5 := ⟨kmX6_fewestMarks, (tb_at (i := 586) (by decide +kernel))⟩
theorem kmX6_countPicking : ax_MK mX6_countPicking 5 := ⟨(tb_at (i := 601) (by decide +kernel)), (tb_at (i := 15) (by decide +kernel)), ⟨by decide +kernel, by decide +kernel, by decide +kernel⟩, by decide⟩
theorem ksX6_countPicking : ax_MS mX6_countPicking 5 := ⟨kmX6_countPicking, (tb_at (i := 600) (by decide +kernel))⟩
theorem kmX6_leastPicking : ax_MK mX6_leastPicking 5 := ⟨(tb_at (i := 604) (by decide +kernel)), (tb_at (i := 15) (by decide +kernel)), ⟨by decide +kernel, by decide +kernel, by decide +kernel⟩, by decide⟩
theorem ksX6_leastPicking : ax_MS mX6_leastPicking 5 := ⟨kmX6_leastPicking, (tb_at (i := 603) (by decide +kernel))⟩
theorem kmX6_widest : ax_MK mX6_widest 3 := ⟨(tb_at (i := 663) (by decide +kernel)), (tb_at (i := 15) (by decide +kernel)), ⟨by decide +kernel, by decide +kernel, by decide +kernel⟩, by decide⟩
theorem ksX6_widest : ax_MS mX6_widest 3 := ⟨kmX6_widest, (tb_at (i := 662) (by decide +kernel))⟩
theorem kmX6_isRowOf : ax_MK mX6_isRowOf 3 := ⟨(tb_at (i := 532) (by decide +kernel)), (tb_at (i := 15) (by decide +kernel)), ⟨by decide +kernel, by decide +kernel, by decide +kernel⟩, by decide⟩
theorem ksX6_isRowOf : ax_MS mX6_isRowOf 3 := ⟨kmX6_isRowOf, (tb_at (i := 531) (by decide +kernel))⟩
theorem kmX6_isRowWith : ax_MK mX6_isRowWith 4 := ⟨(tb_at (i := 529) (by decide +kernel)), (tb_at (i := 15) (by decide +kernel)), ⟨by decide +kernel, by decide +kernel, by decide +kernel⟩, by decide⟩
theorem ksX6_isRowWith : ax_MS mX6_isRowWith 4 := ⟨kmX6_isRowWith, (tb_at (i := 528) (by decide +kernel))⟩
theorem kmX7_init : ax_MK mX7_init 0 := ⟨(tb_at (i := 109) (by decide +kernel)), (tb_at (i := 6) (by decide +kernel)), ⟨by decide +kernel, by decide +kernel, by decide +kernel⟩, by decide⟩
theorem ksX7_init : ax_MI mX7_init 0 := ⟨kmX7_init, (tb_at (i := 108) (by decide +kernel)), rfl, rfl⟩
theorem kmX7_empty : ax_MK mX7_empty 0 := ⟨(tb_at (i := 322) (by decide +kernel)), (tb_at (i := 6) (by decide +kernel)), ⟨by decide +kernel, by decide +kernel, by decide +kernel⟩, by decide⟩
theorem ksX7_empty : ax_MV mX7_empty 0 := ⟨kmX7_empty, (tb_at (i := 320) (by decide +kernel)), (tb_at (i := 321) (by decide +kernel))⟩
theorem kmX7_hasRoom : ax_MK mX7_hasRoom 0 := ⟨(tb_at (i := 633) (by decide +kernel)), (tb_at (i := 6) (by decide +kernel)), ⟨by decide +kernel, by decide +kernel, by decide +kernel⟩, by decide⟩
theorem ksX7_hasRoom : ax_MV mX7_hasRoom 0 := ⟨kmX7_hasRoom, (tb_at (i := 631) (by decide +kernel)), (tb_at (i := 632) (by decide +kernel))⟩
theorem kmX7_add : ax_MK mX7_add 4 := ⟨(tb_at (i := 637) (by decide +kernel)), (tb_at (i := 6) (by decide +kernel)), ⟨by decide +kernel, by decide +kernel, by decide +kernel⟩, by decide⟩
theorem ksX7_add : ax_MV mX7_add 4 := ⟨kmX7_add, (tb_at (i := 635) (by decide +kernel)), (tb_at (i := 636) (by decide +kernel))⟩
theorem kmX7_countOtherwise : ax_MK mX7_countOtherwise 2 := ⟨(tb_at (i := 646) (by decide +kernel)), (tb_at (i := 6) (by decide +kernel)), ⟨by decide +kernel, by decide +kernel, by decide +kernel⟩, by decide⟩
theorem ksX7_countOtherwise : ax_MV mX7_countOtherwise 2 := ⟨kmX7_countOtherwise, (tb_at (i := 644) (by decide +kernel)), (tb_at (i := 645) (by decide +kernel))⟩
theorem kmX7_pickNow : ax_MK mX7_pickNow 4 := ⟨(tb_at (i := 649) (by decide +kernel)), (tb_at (i := 6) (by decide +kernel)), ⟨by decide +kernel, by decide +kernel, by decide +kernel⟩, by decide⟩
theorem ksX7_pickNow : ax_MS mX7_pickNow 4 := ⟨kmX7_pickNow, (tb_at (i := 648) (by decide +kernel))⟩
theorem kmX8_init : ax_MK mX8_init 0 := ⟨(tb_at (i := 28) (by decide +kernel)), (tb_at (i := 2) (by decide +kernel)), ⟨by decide +kernel, by decide +kernel, by decide +kernel⟩, by decide⟩
theorem ksX8_init : ax_MI mX8_init 0 := ⟨kmX8_init, (tb_at (i := 27) (by decide +kernel)), rfl, rfl⟩
theorem kmX8_hasRoom : ax_MK mX8_hasRoom 0 := ⟨(tb_at (i := 215) (by decide +kernel)), (tb_at (i := 2) (by decide +kernel)), ⟨by decide +kernel, by decide +kernel, by decide +kernel⟩, by decide⟩
theorem ksX8_hasRoom : ax_MV mX8_hasRoom 0 := ⟨kmX8_hasRoom, (tb_at (i := 213) (by decide +kernel)), (tb_at (i := 214) (by decide +kernel))⟩
theorem kmX8_append : ax_MK mX8_append 1 := ⟨(tb_at (i := 226) (by decide +kernel)), (tb_at (i := 2) (by decide +kernel)), ⟨by decide +kernel, by decide +kernel, by decide +kernel⟩, by decide⟩
theorem ksX8_append : ax_MV mX8_append 1 := ⟨kmX8_append, (tb_at (i := 224) (by decide +kernel)), (tb_at (i := 225) (by decide +kernel))⟩
theorem kmX8_empty : ax_MK mX8_empty 0 := ⟨(tb_at (i := 307) (by decide +kernel)), (tb_at (i := 2) (by decide +kernel)), ⟨by decide +kernel, by decide +kernel, by decide +kernel⟩, by decide⟩
theorem ksX8_empty : ax_MV mX8_empty 0 := ⟨kmX8_empty, (tb_at (i := 305) (by decide +kernel)), (tb_at (i := 306) (by decide +kernel))⟩
theorem kmX8_tellInto : ax_MK mX8_tellInto 1 := ⟨(tb_at (i := 235) (by decide +kernel)), (tb_at (i := 2) (by decide +kernel)), ⟨by decide +kernel, by decide +kernel, by decide +kernel⟩, by decide⟩
theorem ksX8_tellInto : ax_MV mX8_tellInto 1 := ⟨kmX8_tellInto, (tb_at (i := 233) (by decide +kernel)), (tb_at (i := 234) (by decide +kernel))⟩
theorem kmX8_readClause : ax_MK mX8_readClause 1 := ⟨(tb_at (i := 251) (by decide +kernel)), (tb_at (i := 2) (by decide +kernel)), ⟨by decide +kernel, by decide +kernel, by decide +kernel⟩, by decide⟩
theorem ksX8_readClause : ax_MV mX8_readClause 1 := ⟨kmX8_readClause, (tb_at (i := 250) (by decide +kernel)), (List.mem_append_left _ (List.mem_of_getElem? (i := 2) (by decide +kernel)))⟩
theorem kmX8_readPerson : ax_MK mX8_readPerson 1 := ⟨(tb_at (i := 255) (by decide +kernel)), (tb_at (i := 2) (by decide +kernel)), ⟨by decide +kernel, by decide +kernel, by decide +kernel⟩, by decide⟩
theorem ksX8_readPerson : ax_MV mX8_readPerson 1 := ⟨kmX8_readPerson, (tb_at (i := 254) (by decide +kernel)), (List.mem_append_left _ (List.mem_of_getElem? (i := 3) (by decide +kernel)))⟩
theorem kmX8_readAcquaintance : ax_MK mX8_readAcquaintance 1 := ⟨(tb_at (i := 279) (by decide +kernel)), (tb_at (i := 2) (by decide +kernel)), ⟨by decide +kernel, by decide +kernel, by decide +kernel⟩, by decide⟩
theorem ksX8_readAcquaintance : ax_MV mX8_readAcquaintance 1 := ⟨kmX8_readAcquaintance, (tb_at (i := 278) (by decide +kernel)), (List.mem_append_left _ (List.mem_of_getElem? (i := 7) (by decide +kernel)))⟩
theorem kmX8_readNumber : ax_MK mX8_readNumber 1 := ⟨(tb_at (i := 263) (by decide +kernel)), (tb_at (i := 2) (by decide +kernel)), ⟨by decide +kernel, by decide +kernel, by decide +kernel⟩, by decide⟩
theorem ksX8_readNumber : ax_MV mX8_readNumber 1 := ⟨kmX8_readNumber, (tb_at (i := 262) (by decide +kernel)), (List.mem_append_left _ (List.mem_of_getElem? (i := 5) (by decide +kernel)))⟩
theorem kmX8_readEndOfClause : ax_MK mX8_readEndOfClause 0 := ⟨(tb_at (i := 270) (by decide +kernel)), (tb_at (i := 2) (by decide +kernel)), ⟨by decide +kernel, by decide +kernel, by decide +kernel⟩, by decide⟩
theorem ksX8_readEndOfClause : ax_MV mX8_readEndOfClause 0 := ⟨kmX8_readEndOfClause, (tb_at (i := 269) (by decide +kernel)), (List.mem_append_left _ (List.mem_of_getElem? (i := 6) (by decide +kernel)))⟩
theorem kmX8_skipBlanks : ax_MK mX8_skipBlanks 0 := ⟨(tb_at (i := 243) (by decide +kernel)), (tb_at (i := 2) (by decide +kernel)), ⟨by decide +kernel, by decide +kernel, by decide +kernel⟩, by decide⟩
theorem ksX8_skipBlanks : ax_MV mX8_skipBlanks 0 := ⟨kmX8_skipBlanks, (tb_at (i := 242) (by decide +kernel)), (List.mem_append_left _ (List.mem_of_getElem? (i := 0) (by decide +kernel)))⟩
theorem kmX8_letterHere : ax_MK mX8_letterHere 0 := ⟨(tb_at (i := 247) (by decide +kernel)), (tb_at (i := 2) (by decide +kernel)), ⟨by decide +kernel, by decide +kernel, by decide +kernel⟩, by decide⟩
theorem ksX8_letterHere : ax_MV mX8_letterHere 0 := ⟨kmX8_letterHere, (tb_at (i := 246) (by decide +kernel)), (List.mem_append_left _ (List.mem_of_getElem? (i := 1) (by decide +kernel)))⟩
theorem kmX8_isFigure : ax_MK mX8_isFigure 1 := ⟨(tb_at (i := 266) (by decide +kernel)), (tb_at (i := 2) (by decide +kernel)), ⟨by decide +kernel, by decide +kernel, by decide +kernel⟩, by decide⟩
theorem ksX8_isFigure : ax_MS mX8_isFigure 1 := ⟨kmX8_isFigure, (tb_at (i := 265) (by decide +kernel))⟩
theorem kmX8_blame : ax_MK mX8_blame 2 := ⟨(tb_at (i := 259) (by decide +kernel)), (tb_at (i := 2) (by decide +kernel)), ⟨by decide +kernel, by decide +kernel, by decide +kernel⟩, by decide⟩
theorem ksX8_blame : ax_MV mX8_blame 2 := ⟨kmX8_blame, (tb_at (i := 258) (by decide +kernel)), (List.mem_append_left _ (List.mem_of_getElem? (i := 4) (by decide +kernel)))⟩
theorem kmX9_init : ax_MK mX9_init 0 := ⟨(tb_at (i := 20) (by decide +kernel)), (tb_at (i := 1) (by decide +kernel)), ⟨by decide +kernel, by decide +kernel, by decide +kernel⟩, by decide⟩
theorem ksX9_init : ax_MI mX9_init 0 := ⟨kmX9_init, (tb_at (i := 19) (by decide +kernel)), rfl, rfl⟩
theorem kmX9_feed : ax_MK mX9_feed 1 := ⟨(tb_at (i := 208) (by decide +kernel)), (tb_at (i := 1) (by decide +kernel)), ⟨by decide +kernel, by decide +kernel, by decide +kernel⟩, by decide⟩
theorem ksX9_feed : ax_MV mX9_feed 1 := ⟨kmX9_feed, (tb_at (i := 206) (by decide +kernel)), (tb_at (i := 207) (by decide +kernel))⟩
theorem kmX9_place : ax_MK mX9_place 0 := ⟨(tb_at (i := 231) (by decide +kernel)), (tb_at (i := 1) (by decide +kernel)), ⟨by decide +kernel, by decide +kernel, by decide +kernel⟩, by decide⟩
theorem ksX9_place : ax_MV mX9_place 0 := ⟨kmX9_place, (tb_at (i := 229) (by decide +kernel)), (tb_at (i := 230) (by decide +kernel))⟩
theorem kmX9_fault : ax_MK mX9_fault 0 := ⟨(tb_at (i := 334) (by decide +kernel)), (tb_at (i := 1) (by decide +kernel)), ⟨by decide +kernel, by decide +kernel, by decide +kernel⟩, by decide⟩
theorem ksX9_fault : ax_MV mX9_fault 0 := ⟨kmX9_fault, (tb_at (i := 332) (by decide +kernel)), (tb_at (i := 333) (by decide +kernel))⟩
theorem kmX9_told : ax_MK mX9_told 1 := ⟨(tb_at (i := 338) (by decide +kernel)), (tb_at (i := 1) (by decide +kernel)), ⟨by decide +kernel, by decide +kernel, by decide +kernel⟩, by decide⟩
theorem ksX9_told : ax_MV mX9_told 1 := ⟨kmX9_told, (tb_at (i := 336) (by decide +kernel)), (tb_at (i := 337) (by decide +kernel))⟩
theorem kmX9_person : ax_MK mX9_person 2 := ⟨(tb_at (i := 373) (by decide +kernel)), (tb_at (i := 1) (by decide +kernel)), ⟨by decide +kernel, by decide +kernel, by decide +kernel⟩, by decide⟩
theorem ksX9_person : ax_MV mX9_person 2 := ⟨kmX9_person, (tb_at (i := 371) (by decide +kernel)), (tb_at (i := 372) (by decide +kernel))⟩
theorem kmX9_remembers : ax_MK mX9_remembers 2 := ⟨(tb_at (i := 389) (by decide +kernel)), (tb_at (i := 1) (by decide +kernel)), ⟨by decide +kernel, by decide +kernel, by decide +kernel⟩, by decide⟩
theorem ksX9_remembers : ax_MV mX9_remembers 2 := ⟨kmX9_remembers, (tb_at (i := 387) (by decide +kernel)), (tb_at (i := 388) (by decide +kernel))⟩
theorem kmX9_year : ax_MK mX9_year 1 := ⟨(tb_at (i := 395) (by decide +kernel)), (tb_at (i := 1) (by decide +kernel)), ⟨by decide +kernel, by decide +kernel, by decide +kernel⟩, by decide⟩
theorem ksX9_year : ax_MV mX9_year 1 := ⟨kmX9_year, (tb_at (i := 393) (by decide +kernel)), (tb_at (i := 394) (by decide +kernel))⟩
theorem kmX9_meet : ax_MK mX9_meet 2 := ⟨(tb_at (i := 425) (by decide +kernel)), (tb_at (i := 1) (by decide +kernel)), ⟨by decide +kernel, by decide +kernel, by decide +kernel⟩, by decide⟩
theorem ksX9_meet : ax_MV mX9_meet 2 := ⟨kmX9_meet, (tb_at (i := 423) (by decide +kernel)), (tb_at (i := 424) (by decide +kernel))⟩
theorem kmX9_forget : ax_MK mX9_forget 2 := ⟨(tb_at (i := 434) (by decide +kernel)), (tb_at (i := 1) (by decide +kernel)), ⟨by decide +kernel, by decide +kernel, by decide +kernel⟩, by decide⟩
theorem ksX9_forget : ax_MV mX9_forget 2 := ⟨kmX9_forget, (tb_at (i := 432) (by decide +kernel)), (tb_at (i := 433) (by decide +kernel))⟩
theorem kmX9_parade : ax_MK mX9_parade 3 := ⟨(tb_at (i := 443) (by decide +kernel)), (tb_at (i := 1) (by decide +kernel)), ⟨by decide +kernel, by decide +kernel, by decide +kernel⟩, by decide⟩
theorem ksX9_parade : ax_MV mX9_parade 3 := ⟨kmX9_parade, (tb_at (i := 441) (by decide +kernel)), (tb_at (i := 442) (by decide +kernel))⟩
theorem kmX9_mark : ax_MK mX9_mark 2 := ⟨(tb_at (i := 479) (by decide +kernel)), (tb_at (i := 1) (by decide +kernel)), ⟨by decide +kernel, by decide +kernel, by decide +kernel⟩, by decide⟩
theorem ksX9_mark : ax_MV mX9_mark 2 := ⟨kmX9_mark, (tb_at (i := 477) (by decide +kernel)), (tb_at (i := 478) (by decide +kernel))⟩
theorem kmX9_drift : ax_MK mX9_drift 1 := ⟨(tb_at (i := 484) (by decide +kernel)), (tb_at (i := 1) (by decide +kernel)), ⟨by decide +kernel, by decide +kernel, by decide +kernel⟩, by decide⟩
theorem ksX9_drift : ax_MV mX9_drift 1 := ⟨kmX9_drift, (tb_at (i := 482) (by decide +kernel)), (tb_at (i := 483) (by decide +kernel))⟩
theorem kmX9_undo : ax_MK mX9_undo 0 := ⟨(tb_at (i := 499) (by decide +kernel)), (tb_at (i := 1) (by decide +kernel)), ⟨by decide +kernel, by decide +kernel, by decide +kernel⟩, by decide⟩
theorem ksX9_undo : ax_MV mX9_undo 0 := ⟨kmX9_undo, (tb_at (i := 497) (by decide +kernel)), (tb_at (i := 498) (by decide +kernel))⟩
theorem kmX9_sure : ax_MK mX9_sure 3 := ⟨(tb_at (i := 507) (by decide +kernel)), (tb_at (i := 1) (by decide +kernel)), ⟨by decide +kernel, by decide +kernel, by decide +kernel⟩, by decide⟩
theorem ksX9_sure : ax_MV mX9_sure 3 := ⟨kmX9_sure, (tb_at (i := 505) (by decide +kernel)), (tb_at (i := 506) (by decide +kernel))⟩
theorem kmX9_bestRow : ax_MK mX9_bestRow 3 := ⟨(tb_at (i := 518) (by decide +kernel)), (tb_at (i := 1) (by decide +kernel)), ⟨by decide +kernel, by decide +kernel, by decide +kernel⟩, by decide⟩
theorem ksX9_bestRow : ax_MV mX9_bestRow 3 := ⟨kmX9_bestRow, (tb_at (i := 516) (by decide +kernel)), (tb_at (i := 517) (by decide +kernel))⟩
theorem kmX9_odds : ax_MK mX9_odds 4 := ⟨(tb_at (i := 539) (by decide +kernel)), (tb_at (i := 1) (by decide +kernel)), ⟨by decide +kernel, by decide +kernel, by decide +kernel⟩, by decide⟩
theorem ksX9_odds : ax_MV mX9_odds 4 := ⟨kmX9_odds, (tb_at (i := 537) (by decide +kernel)), (tb_at (i := 538) (by decide +kernel))⟩
theorem kmX9_ask : ax_MK mX9_ask 2 := ⟨(tb_at (i := 550) (by decide +kernel)), (tb_at (i := 1) (by decide +kernel)), ⟨by decide +kernel, by decide +kernel, by decide +kernel⟩, by decide⟩
theorem ksX9_ask : ax_MV mX9_ask 2 := ⟨kmX9_ask, (tb_at (i := 548) (by decide +kernel)), (tb_at (i := 549) (by decide +kernel))⟩
theorem kmX9_ring : ax_MK mX9_ring 1 := ⟨(tb_at (i := 558) (by decide +kernel)), (tb_at (i := 1) (by decide +kernel)), ⟨by decide +kernel, by decide +kernel, by decide +kernel⟩, by decide⟩
theorem ksX9_ring : ax_MV mX9_ring 1 := ⟨kmX9_ring, (tb_at (i := 556) (by decide +kernel)), (tb_at (i := 557) (by decide +kernel))⟩
theorem kmX9_rings : ax_MK mX9_rings 1 := ⟨(tb_at (i := 566) (by decide +kernel)), (tb_at (i := 1) (by decide +kernel)), ⟨by decide +kernel, by decide +kernel, by decide +kernel⟩, by decide⟩
theorem ksX9_rings : ax_MV mX9_rings 1 := ⟨kmX9_rings, (tb_at (i := 564) (by decide +kernel)), (tb_at (i := 565) (by decide +kernel))⟩
theorem kmX9_mask : ax_MK mX9_mask 4 := ⟨(tb_at (i := 584) (by decide +kernel)), (tb_at (i := 1) (by decide +kernel)), ⟨by decide +kernel, by decide +kernel, by decide +kernel⟩, by decide⟩
theorem ksX9_mask : ax_MV mX9_mask 4 := ⟨kmX9_mask, (tb_at (i := 582) (by decide +kernel)), (tb_at (i := 583) (by decide +kernel))⟩
theorem kmX9_spoil : ax_MK mX9_spoil 4 := ⟨(tb_at (i := 594) (by decide +kernel)), (tb_at (i := 1) (by decide +kernel)), ⟨by decide +kernel, by decide +kernel, by decide +kernel⟩, by decide⟩
theorem ksX9_spoil : ax_MV mX9_spoil 4 := ⟨kmX9_spoil, (tb_at (i := 592) (by decide +kernel)), (tb_at (i := 593) (by decide +kernel))⟩
theorem kmX9_impostor : ax_MK mX9_impostor 5 := ⟨(tb_at (i := 598) (by decide +kernel)), (tb_at (i := 1) (by decide +kernel)), ⟨by decide +kernel, by decide +kernel, by decide +kernel⟩, by decide⟩
theorem ksX9_impostor : ax_MV mX9_impostor 5 := ⟨kmX9_impostor, (tb_at (i := 596) (by decide +kernel)), (tb_at (i := 597) (by decide +kernel))⟩
theorem kmX9_lost : ax_MK mX9_lost 1 := ⟨(tb_at (i := 608) (by decide +kernel)), (tb_at (i := 1) (by decide +kernel)), ⟨by decide +kernel, by decide +kernel, by decide +kernel⟩, by decide⟩
theorem ksX9_lost : ax_MV mX9_lost 1 := ⟨kmX9_lost, (tb_at (i := 606) (by decide +kernel)), (tb_at (i := 607) (by decide +kernel))⟩
theorem kmX9_alike : ax_MK mX9_alike 1 := ⟨(tb_at (i := 621) (by decide +kernel)), (tb_at (i := 1) (by decide +kernel)), ⟨by decide +kernel, by decide +kernel, by decide +kernel⟩, by decide⟩
theorem ksX9_alike : ax_MV mX9_alike 1 := ⟨kmX9_alike, (tb_at (i := 619) (by decide +kernel)), (tb_at (i := 620) (by decide +kernel))⟩
theorem kmX9_see : ax_MK mX9_see 4 := ⟨(tb_at (i := 629) (by decide +kernel)), (tb_at (i := 1) (by decide +kernel)), ⟨by decide +kernel, by decide +kernel, by decide +kernel⟩, by decide⟩
theorem ksX9_see : ax_MV mX9_see 4 := ⟨kmX9_see, (tb_at (i := 627) (by decide +kernel)), (tb_at (i := 628) (by decide +kernel))⟩
theorem kmX9_honest : ax_MK mX9_honest 0 := ⟨(tb_at (i := 642) (by decide +kernel)), (tb_at (i := 1) (by decide +kernel)), ⟨by decide +kernel, by decide +kernel, by decide +kernel⟩, by decide⟩
theorem ksX9_honest : ax_MV mX9_honest 0 := ⟨kmX9_honest, (tb_at (i := 640) (by decide +kernel)), (tb_at (i := 641) (by decide +kernel))⟩
theorem kmX9_nods : ax_MK mX9_nods 1 := ⟨(tb_at (i := 656) (by decide +kernel)), (tb_at (i := 1) (by decide +kernel)), ⟨by decide +kernel, by decide +kernel, by decide +kernel⟩, by decide⟩
theorem ksX9_nods : ax_MV mX9_nods 1 := ⟨kmX9_nods, (tb_at (i := 654) (by decide +kernel)), (tb_at (i := 655) (by decide +kernel))⟩
theorem kmX9_showNext : ax_MK mX9_showNext 2 := ⟨(tb_at (i := 660) (by decide +kernel)), (tb_at (i := 1) (by decide +kernel)), ⟨by decide +kernel, by decide +kernel, by decide +kernel⟩, by decide⟩
theorem ksX9_showNext : ax_MV mX9_showNext 2 := ⟨kmX9_showNext, (tb_at (i := 658) (by decide +kernel)), (tb_at (i := 659) (by decide +kernel))⟩
theorem kmX9_write : ax_MK mX9_write 2 := ⟨(tb_at (i := 674) (by decide +kernel)), (tb_at (i := 1) (by decide +kernel)), ⟨by decide +kernel, by decide +kernel, by decide +kernel⟩, by decide⟩
theorem ksX9_write : ax_MV mX9_write 2 := ⟨kmX9_write, (tb_at (i := 672) (by decide +kernel)), (tb_at (i := 673) (by decide +kernel))⟩
theorem kmX9_tear : ax_MK mX9_tear 0 := ⟨(tb_at (i := 687) (by decide +kernel)), (tb_at (i := 1) (by decide +kernel)), ⟨by decide +kernel, by decide +kernel, by decide +kernel⟩, by decide⟩
theorem ksX9_tear : ax_MV mX9_tear 0 := ⟨kmX9_tear, (tb_at (i := 685) (by decide +kernel)), (tb_at (i := 686) (by decide +kernel))⟩
theorem kmX9_judge : ax_MK mX9_judge 0 := ⟨(tb_at (i := 691) (by decide +kernel)), (tb_at (i := 1) (by decide +kernel)), ⟨by decide +kernel, by decide +kernel, by decide +kernel⟩, by decide⟩
theorem ksX9_judge : ax_MV mX9_judge 0 := ⟨kmX9_judge, (tb_at (i := 689) (by decide +kernel)), (tb_at (i := 690) (by decide +kernel))⟩
theorem kmX9_seed : ax_MK mX9_seed 1 := ⟨(tb_at (i := 700) (by decide +kernel)), (tb_at (i := 1) (by decide +kernel)), ⟨by decide +kernel, by decide +kernel, by decide +kernel⟩, by decide⟩
theorem ksX9_seed : ax_MV mX9_seed 1 := ⟨kmX9_seed, (tb_at (i := 698) (by decide +kernel)), (tb_at (i := 699) (by decide +kernel))⟩
theorem kmX9_keep : ax_MK mX9_keep 1 := ⟨(tb_at (i := 704) (by decide +kernel)), (tb_at (i := 1) (by decide +kernel)), ⟨by decide +kernel, by decide +kernel, by decide +kernel⟩, by decide⟩
theorem ksX9_keep : ax_MV mX9_keep 1 := ⟨kmX9_keep, (tb_at (i := 702) (by decide +kernel)), (tb_at (i := 703) (by decide +kernel))⟩
theorem kmX9_goBack : ax_MK mX9_goBack 1 := ⟨(tb_at (i := 717) (by decide +kernel)), (tb_at (i := 1) (by decide +kernel)), ⟨by decide +kernel, by decide +kernel, by decide +kernel⟩, by decide⟩
theorem ksX9_goBack : ax_MV mX9_goBack 1 := ⟨kmX9_goBack, (tb_at (i := 715) (by decide +kernel)), (tb_at (i := 716) (by decide +kernel))⟩
theorem kmX9_refusal : ax_MK mX9_refusal 4 := ⟨(tb_at (i := 218) (by decide +kernel)), (tb_at (i := 1) (by decide +kernel)), ⟨by decide +kernel, by decide +kernel, by decide +kernel⟩, by decide⟩
theorem ksX9_refusal : ax_MS mX9_refusal 4 := ⟨kmX9_refusal, (tb_at (i := 217) (by decide +kernel))⟩
theorem kmX9_refusalOfYears : ax_MK mX9_refusalOfYears 1 := ⟨(tb_at (i := 399) (by decide +kernel)), (tb_at (i := 1) (by decide +kernel)), ⟨by decide +kernel, by decide +kernel, by decide +kernel⟩, by decide⟩
theorem ksX9_refusalOfYears : ax_MV mX9_refusalOfYears 1 := ⟨kmX9_refusalOfYears, (tb_at (i := 398) (by decide +kernel)), (List.mem_append_left _ (List.mem_of_getElem? (i := 8) (by decide +kernel)))⟩
theorem kmX9_isAsked : ax_MK mX9_isAsked 3 := ⟨(tb_at (i := 447) (by decide +kernel)), (tb_at (i := 1) (by decide +kernel)), ⟨by decide +kernel, by decide +kernel, by decide +kernel⟩, by decide⟩
theorem ksX9_isAsked : ax_MV mX9_isAsked 3 := ⟨kmX9_isAsked, (tb_at (i := 446) (by decide +kernel)), (List.mem_append_left _ (List.mem_of_getElem? (i := 10) (by decide +kernel)))⟩
theorem kmX9_isLongEnough : ax_MK mX9_isLongEnough 1 := ⟨(tb_at (i := 461) (by decide +kernel)), (tb_at (i := 1) (by decide +kernel)), ⟨by decide +kernel, by decide +kernel, by decide +kernel⟩, by decide⟩
theorem ksX9_isLongEnough : ax_MS mX9_isLongEnough 1 := ⟨kmX9_isLongEnough, (tb_at (i := 460) (by decide +kernel))⟩
theorem kmX9_isRowLength : ax_MK mX9_isRowLength 1 := ⟨(tb_at (i := 521) (by decide +kernel)), (tb_at (i := 1) (by decide +kernel)), ⟨by decide +kernel, by decide +kernel, by decide +kernel⟩, by decide⟩
theorem ksX9_isRowLength : ax_MS mX9_isRowLength 1 := ⟨kmX9_isRowLength, (tb_at (i := 520) (by decide +kernel))⟩
theorem kmX9_isWithin : ax_MK mX9_isWithin 3 := ⟨(tb_at (i := 211) (by decide +kernel)), (tb_at (i := 1) (by decide +kernel)), ⟨by decide +kernel, by decide +kernel, by decide +kernel⟩, by decide⟩
theorem ksX9_isWithin : ax_MS mX9_isWithin 3 := ⟨kmX9_isWithin, (tb_at (i := 210) (by decide +kernel))⟩
theorem kmX9_hasBit : ax_MK mX9_hasBit 2 := ⟨(tb_at (i := 458) (by decide +kernel)), (tb_at (i := 1) (by decide +kernel)), ⟨by decide +kernel, by decide +kernel, by decide +kernel⟩, by decide⟩
theorem ksX9_hasBit : ax_MS mX9_hasBit 2 := ⟨kmX9_hasBit, (tb_at (i := 457) (by decide +kernel))⟩
theorem kmX9_meetByDraws : ax_MK mX9_meetByDraws 0 := ⟨(tb_at (i := 488) (by decide +kernel)), (tb_at (i := 1) (by decide +kernel)), ⟨by decide +kernel, by decide +kernel, by decide +kernel⟩, by decide⟩
theorem ksX9_meetByDraws : ax_MV mX9_meetByDraws 0 := ⟨kmX9_meetByDraws, (tb_at (i := 487) (by decide +kernel)), (List.mem_append_left _ (List.mem_of_getElem? (i := 11) (by decide +kernel)))⟩
theorem kmX9_imageOf : ax_MK mX9_imageOf 1 := ⟨(tb_at (i := 708) (by decide +kernel)), (tb_at (i := 1) (by decide +kernel)), ⟨by decide +kernel, by decide +kernel, by decide +kernel⟩, by decide⟩
theorem ksX9_imageOf : ax_MV mX9_imageOf 1 := ⟨kmX9_imageOf, (tb_at (i := 707) (by decide +kernel)), (List.mem_append_left _ (List.mem_of_getElem? (i := 12) (by decide +kernel)))⟩
theorem kmX10_init : ax_MK mX10_init 0 := ⟨(tb_at (i := 722) (by decide +kernel)), (tb_at (i := 10) (by decide +kernel)), ⟨by decide +kernel, by decide +kernel, by decide +kernel⟩, by decide⟩
theorem ksX10_init : ax_MI mX10_init 0 := ⟨kmX10_init, (tb_at (i := 721) (by decide +kernel)), rfl, rfl⟩
theorem kmX10_in : ax_MK mX10_in 3 := ⟨(tb_at (i := 814) (by decide +kernel)), (tb_at (i := 10) (by decide +kernel)), ⟨by decide +kernel, by decide +kernel, by decide +kernel⟩, by decide⟩
theorem ksX10_in : ax_MS mX10_in 3 := ⟨kmX10_in, (tb_at (i := 813) (by decide +kernel))⟩
theorem kmX10_has : ax_MK mX10_has 2 := ⟨(tb_at (i := 950) (by decide +kernel)), (tb_at (i := 10) (by decide +kernel)), ⟨by decide +kernel, by decide +kernel, by decide +kernel⟩, by decide⟩
theorem ksX10_has : ax_MS mX10_has 2 := ⟨kmX10_has, (tb_at (i := 949) (by decide +kernel))⟩
theorem kmX10_bits : ax_MK mX10_bits 1 := ⟨(tb_at (i := 885) (by decide +kernel)), (tb_at (i := 10) (by decide +kernel)), ⟨by decide +kernel, by decide +kernel, by decide +kernel⟩, by decide⟩
theorem ksX10_bits : ax_MS mX10_bits 1 := ⟨kmX10_bits, (tb_at (i := 884) (by decide +kernel))⟩
theorem kmX10_isPerson : ax_MK mX10_isPerson 1 := ⟨(tb_at (i := 893) (by decide +kernel)), (tb_at (i := 10) (by decide +kernel)), ⟨by decide +kernel, by decide +kernel, by decide +kernel⟩, by decide⟩
theorem ksX10_isPerson : ax_MV mX10_isPerson 1 := ⟨kmX10_isPerson, (tb_at (i := 892) (by decide +kernel)), (List.mem_append_left _ (List.mem_of_getElem? (i := 26) (by decide +kernel)))⟩
theorem kmX10_areTwo : ax_MK mX10_areTwo 2 := ⟨(tb_at (i := 906) (by decide +kernel)), (tb_at (i := 10) (by decide +kernel)), ⟨by decide +kernel, by decide +kernel, by decide +kernel⟩, by decide⟩
theorem ksX10_areTwo : ax_MV mX10_areTwo 2 := ⟨kmX10_areTwo, (tb_at (i := 905) (by decide +kernel)), (List.mem_append_left _ (List.mem_of_getElem? (i := 28) (by decide +kernel)))⟩
theorem kmX10_isRow : ax_MK mX10_isRow 1 := ⟨(tb_at (i := 947) (by decide +kernel)), (tb_at (i := 10) (by decide +kernel)), ⟨by decide +kernel, by decide +kernel, by decide +kernel⟩, by decide⟩
theorem ksX10_isRow : ax_MV mX10_isRow 1 := ⟨kmX10_isRow, (tb_at (i := 946) (by decide +kernel)), (List.mem_append_left _ (List.mem_of_getElem? (i := 33) (by decide +kernel)))⟩
theorem kmX10_feed : ax_MK mX10_feed 1 := ⟨(tb_at (i := 810) (by decide +kernel)), (tb_at (i := 10) (by decide +kernel)), ⟨by decide +kernel, by decide +kernel, by decide +kernel⟩, by decide⟩
theorem ksX10_feed : ax_MV mX10_feed 1 := ⟨kmX10_feed, (tb_at (i := 808) (by decide +kernel)), (tb_at (i := 809) (by decide +kernel))⟩
theorem kmX10_here : ax_MK mX10_here 0 := ⟨(tb_at (i := 824) (by decide +kernel)), (tb_at (i := 10) (by decide +kernel)), ⟨by decide +kernel, by decide +kernel, by decide +kernel⟩, by decide⟩
theorem ksX10_here : ax_MV mX10_here 0 := ⟨kmX10_here, (tb_at (i := 823) (by decide +kernel)), (List.mem_append_left _ (List.mem_of_getElem? (i := 13) (by decide +kernel)))⟩
theorem kmX10_fails : ax_MK mX10_fails 2 := ⟨(tb_at (i := 832) (by decide +kernel)), (tb_at (i := 10) (by decide +kernel)), ⟨by decide +kernel, by decide +kernel, by decide +kernel⟩, by decide⟩
theorem ksX10_fails : ax_MV mX10_fails 2 := ⟨kmX10_fails, (tb_at (i := 831) (by decide +kernel)), (List.mem_append_left _ (List.mem_of_getElem? (i := 15) (by decide +kernel)))⟩
theorem kmX10_takeNumber : ax_MK mX10_takeNumber 2 := ⟨(tb_at (i := 844) (by decide +kernel)), (tb_at (i := 10) (by decide +kernel)), ⟨by decide +kernel, by decide +kernel, by decide +kernel⟩, by decide⟩
theorem ksX10_takeNumber : ax_MV mX10_takeNumber 2 := ⟨kmX10_takeNumber, (tb_at (i := 843) (by decide +kernel)), (List.mem_append_left _ (List.mem_of_getElem? (i := 18) (by decide +kernel)))⟩
theorem kmX10_into : ax_MK mX10_into 4 := ⟨(tb_at (i := 840) (by decide +kernel)), (tb_at (i := 10) (by decide +kernel)), ⟨by decide +kernel, by decide +kernel, by decide +kernel⟩, by decide⟩
theorem ksX10_into : ax_MV mX10_into 4 := ⟨kmX10_into, (tb_at (i := 839) (by decide +kernel)), (List.mem_append_left _ (List.mem_of_getElem? (i := 17) (by decide +kernel)))⟩
theorem kmX10_takePerson : ax_MK mX10_takePerson 0 := ⟨(tb_at (i := 836) (by decide +kernel)), (tb_at (i := 10) (by decide +kernel)), ⟨by decide +kernel, by decide +kernel, by decide +kernel⟩, by decide⟩
theorem ksX10_takePerson : ax_MV mX10_takePerson 0 := ⟨kmX10_takePerson, (tb_at (i := 835) (by decide +kernel)), (List.mem_append_left _ (List.mem_of_getElem? (i := 16) (by decide +kernel)))⟩
theorem kmX10_takeKnows : ax_MK mX10_takeKnows 0 := ⟨(tb_at (i := 850) (by decide +kernel)), (tb_at (i := 10) (by decide +kernel)), ⟨by decide +kernel, by decide +kernel, by decide +kernel⟩, by decide⟩
theorem ksX10_takeKnows : ax_MV mX10_takeKnows 0 := ⟨kmX10_takeKnows, (tb_at (i := 849) (by decide +kernel)), (List.mem_append_left _ (List.mem_of_getElem? (i := 19) (by decide +kernel)))⟩
theorem kmX10_takeClause : ax_MK mX10_takeClause 0 := ⟨(tb_at (i := 828) (by decide +kernel)), (tb_at (i := 10) (by decide +kernel)), ⟨by decide +kernel, by decide +kernel, by decide +kernel⟩, by decide⟩
theorem ksX10_takeClause : ax_MV mX10_takeClause 0 := ⟨kmX10_takeClause, (tb_at (i := 827) (by decide +kernel)), (List.mem_append_left _ (List.mem_of_getElem? (i := 14) (by decide +kernel)))⟩
theorem kmX10_takeRead : ax_MK mX10_takeRead 0 := ⟨(tb_at (i := 854) (by decide +kernel)), (tb_at (i := 10) (by decide +kernel)), ⟨by decide +kernel, by decide +kernel, by decide +kernel⟩, by decide⟩
theorem ksX10_takeRead : ax_MV mX10_takeRead 0 := ⟨kmX10_takeRead, (tb_at (i := 853) (by decide +kernel)), (List.mem_append_left _ (List.mem_of_getElem? (i := 20) (by decide +kernel)))⟩
theorem kmX10_place : ax_MK mX10_place 0 := ⟨(tb_at (i := 820) (by decide +kernel)), (tb_at (i := 10) (by decide +kernel)), ⟨by decide +kernel, by decide +kernel, by decide +kernel⟩, by decide⟩
theorem ksX10_place : ax_MV mX10_place 0 := ⟨kmX10_place, (tb_at (i := 818) (by decide +kernel)), (tb_at (i := 819) (by decide +kernel))⟩
theorem kmX10_fault : ax_MK mX10_fault 0 := ⟨(tb_at (i := 858) (by decide +kernel)), (tb_at (i := 10) (by decide +kernel)), ⟨by decide +kernel, by decide +kernel, by decide +kernel⟩, by decide⟩
theorem ksX10_fault : ax_MV mX10_fault 0 := ⟨kmX10_fault, (tb_at (i := 856) (by decide +kernel)), (tb_at (i := 857) (by decide +kernel))⟩
theorem kmX10_twoOfOne : ax_MK mX10_twoOfOne 0 := ⟨(tb_at (i := 866) (by decide +kernel)), (tb_at (i := 10) (by decide +kernel)), ⟨by decide +kernel, by decide +kernel, by decide +kernel⟩, by decide⟩
theorem ksX10_twoOfOne : ax_MV mX10_twoOfOne 0 := ⟨kmX10_twoOfOne, (tb_at (i := 865) (by decide +kernel)), (List.mem_append_left _ (List.mem_of_getElem? (i := 21) (by decide +kernel)))⟩
theorem kmX10_nobody : ax_MK mX10_nobody 0 := ⟨(tb_at (i := 870) (by decide +kernel)), (tb_at (i := 10) (by decide +kernel)), ⟨by decide +kernel, by decide +kernel, by decide +kernel⟩, by decide⟩
theorem ksX10_nobody : ax_MV mX10_nobody 0 := ⟨kmX10_nobody, (tb_at (i := 869) (by decide +kernel)), (List.mem_append_left _ (List.mem_of_getElem? (i := 22) (by decide +kernel)))⟩
theorem kmX10_remembered : ax_MK mX10_remembered 2 := ⟨(tb_at (i := 882) (by decide +kernel)), (tb_at (i := 10) (by decide +kernel)), ⟨by decide +kernel, by decide +kernel, by decide +kernel⟩, by decide⟩
theorem ksX10_remembered : ax_MV mX10_remembered 2 := ⟨kmX10_remembered, (tb_at (i := 881) (by decide +kernel)), (List.mem_append_left _ (List.mem_of_getElem? (i := 25) (by decide +kernel)))⟩
theorem kmX10_knownBy : ax_MK mX10_knownBy 1 := ⟨(tb_at (i := 878) (by decide +kernel)), (tb_at (i := 10) (by decide +kernel)), ⟨by decide +kernel, by decide +kernel, by decide +kernel⟩, by decide⟩
theorem ksX10_knownBy : ax_MV mX10_knownBy 1 := ⟨kmX10_knownBy, (tb_at (i := 877) (by decide +kernel)), (List.mem_append_left _ (List.mem_of_getElem? (i := 24) (by decide +kernel)))⟩
theorem kmX10_whoKnow : ax_MK mX10_whoKnow 1 := ⟨(tb_at (i := 898) (by decide +kernel)), (tb_at (i := 10) (by decide +kernel)), ⟨by decide +kernel, by decide +kernel, by decide +kernel⟩, by decide⟩
theorem ksX10_whoKnow : ax_MV mX10_whoKnow 1 := ⟨kmX10_whoKnow, (tb_at (i := 897) (by decide +kernel)), (List.mem_append_left _ (List.mem_of_getElem? (i := 27) (by decide +kernel)))⟩
theorem kmX10_pairs : ax_MK mX10_pairs 0 := ⟨(tb_at (i := 874) (by decide +kernel)), (tb_at (i := 10) (by decide +kernel)), ⟨by decide +kernel, by decide +kernel, by decide +kernel⟩, by decide⟩
theorem ksX10_pairs : ax_MV mX10_pairs 0 := ⟨kmX10_pairs, (tb_at (i := 873) (by decide +kernel)), (List.mem_append_left _ (List.mem_of_getElem? (i := 23) (by decide +kernel)))⟩
theorem kmX10_told : ax_MK mX10_told 1 := ⟨(tb_at (i := 862) (by decide +kernel)), (tb_at (i := 10) (by decide +kernel)), ⟨by decide +kernel, by decide +kernel, by decide +kernel⟩, by decide⟩
theorem ksX10_told : ax_MV mX10_told 1 := ⟨kmX10_told, (tb_at (i := 860) (by decide +kernel)), (tb_at (i := 861) (by decide +kernel))⟩
theorem kmX10_person : ax_MK mX10_person 2 := ⟨(tb_at (i := 889) (by decide +kernel)), (tb_at (i := 10) (by decide +kernel)), ⟨by decide +kernel, by decide +kernel, by decide +kernel⟩, by decide⟩
theorem ksX10_person : ax_MV mX10_person 2 := ⟨kmX10_person, (tb_at (i := 887) (by decide +kernel)), (tb_at (i := 888) (by decide +kernel))⟩
theorem kmX10_remembers : ax_MK mX10_remembers 2 := ⟨(tb_at (i := 902) (by decide +kernel)), (tb_at (i := 10) (by decide +kernel)), ⟨by decide +kernel, by decide +kernel, by decide +kernel⟩, by decide⟩
theorem ksX10_remembers : ax_MV mX10_remembers 2 := ⟨kmX10_remembers, (tb_at (i := 900) (by decide +kernel)), (tb_at (i := 901) (by decide +kernel))⟩
theorem kmX10_apart : ax_MK mX10_apart 2 := ⟨(tb_at (i := 931) (by decide +kernel)), (tb_at (i := 10) (by decide +kernel)), ⟨by decide +kernel, by decide +kernel, by decide +kernel⟩, by decide⟩
theorem ksX10_apart : ax_MS mX10_apart 2 := ⟨kmX10_apart, (tb_at (i := 930) (by decide +kernel))⟩
theorem kmX10_pickBy : ax_MK mX10_pickBy 2 := ⟨(tb_at (i := 958) (by decide +kernel)), (tb_at (i := 10) (by decide +kernel)), ⟨by decide +kernel, by decide +kernel, by decide +kernel⟩, by decide⟩
theorem ksX10_pickBy : ax_MV mX10_pickBy 2 := ⟨kmX10_pickBy, (tb_at (i := 957) (by decide +kernel)), (List.mem_append_left _ (List.mem_of_getElem? (i := 35) (by decide +kernel)))⟩
theorem kmX10_sureBy : ax_MK mX10_sureBy 3 := ⟨(tb_at (i := 987) (by decide +kernel)), (tb_at (i := 10) (by decide +kernel)), ⟨by decide +kernel, by decide +kernel, by decide +kernel⟩, by decide⟩
theorem ksX10_sureBy : ax_MV mX10_sureBy 3 := ⟨kmX10_sureBy, (tb_at (i := 986) (by decide +kernel)), (List.mem_append_left _ (List.mem_of_getElem? (i := 37) (by decide +kernel)))⟩
theorem kmX10_remember : ax_MK mX10_remember 0 := ⟨(tb_at (i := 920) (by decide +kernel)), (tb_at (i := 10) (by decide +kernel)), ⟨by decide +kernel, by decide +kernel, by decide +kernel⟩, by decide⟩
theorem ksX10_remember : ax_MV mX10_remember 0 := ⟨kmX10_remember, (tb_at (i := 919) (by decide +kernel)), (List.mem_append_left _ (List.mem_of_getElem? (i := 30) (by decide +kernel)))⟩
theorem kmX10_pass : ax_MK mX10_pass 0 := ⟨(tb_at (i := 924) (by decide +kernel)), (tb_at (i := 10) (by decide +kernel)), ⟨by decide +kernel, by decide +kernel, by decide +kernel⟩, by decide⟩
theorem ksX10_pass : ax_MV mX10_pass 0 := ⟨kmX10_pass, (tb_at (i := 923) (by decide +kernel)), (List.mem_append_left _ (List.mem_of_getElem? (i := 31) (by decide +kernel)))⟩
theorem kmX10_yearsRefused : ax_MK mX10_yearsRefused 1 := ⟨(tb_at (i := 914) (by decide +kernel)), (tb_at (i := 10) (by decide +kernel)), ⟨by decide +kernel, by decide +kernel, by decide +kernel⟩, by decide⟩
theorem ksX10_yearsRefused : ax_MV mX10_yearsRefused 1 := ⟨kmX10_yearsRefused, (tb_at (i := 913) (by decide +kernel)), (List.mem_append_left _ (List.mem_of_getElem? (i := 29) (by decide +kernel)))⟩
theorem kmX10_year : ax_MK mX10_year 1 := ⟨(tb_at (i := 910) (by decide +kernel)), (tb_at (i := 10) (by decide +kernel)), ⟨by decide +kernel, by decide +kernel, by decide +kernel⟩, by decide⟩
theorem ksX10_year : ax_MV mX10_year 1 := ⟨kmX10_year, (tb_at (i := 908) (by decide +kernel)), (tb_at (i := 909) (by decide +kernel))⟩
theorem kmX10_meet : ax_MK mX10_meet 2 := ⟨(tb_at (i := 928) (by decide +kernel)), (tb_at (i := 10) (by decide +kernel)), ⟨by decide +kernel, by decide +kernel, by decide +kernel⟩, by decide⟩
theorem ksX10_meet : ax_MV mX10_meet 2 := ⟨kmX10_meet, (tb_at (i := 926) (by decide +kernel)), (tb_at (i := 927) (by decide +kernel))⟩
theorem kmX10_forget : ax_MK mX10_forget 2 := ⟨(tb_at (i := 935) (by decide +kernel)), (tb_at (i := 10) (by decide +kernel)), ⟨by decide +kernel, by decide +kernel, by decide +kernel⟩, by decide⟩
theorem ksX10_forget : ax_MV mX10_forget 2 := ⟨kmX10_forget, (tb_at (i := 933) (by decide +kernel)), (tb_at (i := 934) (by decide +kernel))⟩
theorem kmX10_rowRefused : ax_MK mX10_rowRefused 3 := ⟨(tb_at (i := 943) (by decide +kernel)), (tb_at (i := 10) (by decide +kernel)), ⟨by decide +kernel, by decide +kernel, by decide +kernel⟩, by decide⟩
theorem ksX10_rowRefused : ax_MV mX10_rowRefused 3 := ⟨kmX10_rowRefused, (tb_at (i := 942) (by decide +kernel)), (List.mem_append_left _ (List.mem_of_getElem? (i := 32) (by decide +kernel)))⟩
theorem kmX10_unknownTo : ax_MK mX10_unknownTo 2 := ⟨(tb_at (i := 954) (by decide +kernel)), (tb_at (i := 10) (by decide +kernel)), ⟨by decide +kernel, by decide +kernel, by decide +kernel⟩, by decide⟩
theorem ksX10_unknownTo : ax_MV mX10_unknownTo 2 := ⟨kmX10_unknownTo, (tb_at (i := 953) (by decide +kernel)), (List.mem_append_left _ (List.mem_of_getElem? (i := 34) (by decide +kernel)))⟩
theorem kmX10_parade : ax_MK mX10_parade 3 := ⟨(tb_at (i := 939) (by decide +kernel)), (tb_at (i := 10) (by decide +kernel)), ⟨by decide +kernel, by decide +kernel, by decide +kernel⟩, by decide⟩
theorem ksX10_parade : ax_MV mX10_parade 3 := ⟨kmX10_parade, (tb_at (i := 937) (by decide +kernel)), (tb_at (i := 938) (by decide +kernel))⟩
theorem kmX10_mark : ax_MK mX10_mark 2 := ⟨(tb_at (i := 962) (by decide +kernel)), (tb_at (i := 10) (by decide +kernel)), ⟨by decide +kernel, by decide +kernel, by decide +kernel⟩, by decide⟩
theorem ksX10_mark : ax_MV mX10_mark 2 := ⟨kmX10_mark, (tb_at (i := 960) (by decide +kernel)), (tb_at (i := 961) (by decide +kernel))⟩
theorem kmX10_draw : ax_MK mX10_draw 1 := ⟨(tb_at (i := 971) (by decide +kernel)), (tb_at (i := 10) (by decide +kernel)), ⟨by decide +kernel, by decide +kernel, by decide +kernel⟩, by decide⟩
theorem ksX10_draw : ax_MV mX10_draw 1 := ⟨kmX10_draw, (tb_at (i := 970) (by decide +kernel)), (List.mem_append_left _ (List.mem_of_getElem? (i := 36) (by decide +kernel)))⟩
theorem kmX10_drift : ax_MK mX10_drift 1 := ⟨(tb_at (i := 967) (by decide +kernel)), (tb_at (i := 10) (by decide +kernel)), ⟨by decide +kernel, by decide +kernel, by decide +kernel⟩, by decide⟩
theorem ksX10_drift : ax_MV mX10_drift 1 := ⟨kmX10_drift, (tb_at (i := 965) (by decide +kernel)), (tb_at (i := 966) (by decide +kernel))⟩
theorem kmX10_undo : ax_MK mX10_undo 0 := ⟨(tb_at (i := 979) (by decide +kernel)), (tb_at (i := 10) (by decide +kernel)), ⟨by decide +kernel, by decide +kernel, by decide +kernel⟩, by decide⟩
theorem ksX10_undo : ax_MV mX10_undo 0 := ⟨kmX10_undo, (tb_at (i := 977) (by decide +kernel)), (tb_at (i := 978) (by decide +kernel))⟩
theorem kmX10_sure : ax_MK mX10_sure 3 := ⟨(tb_at (i := 983) (by decide +kernel)), (tb_at (i := 10) (by decide +kernel)), ⟨by decide +kernel, by decide +kernel, by decide +kernel⟩, by decide⟩
theorem ksX10_sure : ax_MV mX10_sure 3 := ⟨kmX10_sure, (tb_at (i := 981) (by decide +kernel)), (tb_at (i := 982) (by decide +kernel))⟩
theorem kmX10_bestRow : ax_MK mX10_bestRow 3 := ⟨(tb_at (i := 991) (by decide +kernel)), (tb_at (i := 10) (by decide +kernel)), ⟨by decide +kernel, by decide +kernel, by decide +kernel⟩, by decide⟩
theorem ksX10_bestRow : ax_MV mX10_bestRow 3 := ⟨kmX10_bestRow, (tb_at (i := 989) (by decide +kernel)), (tb_at (i := 990) (by decide +kernel))⟩
theorem kmX10_odds : ax_MK mX10_odds 4 := ⟨(tb_at (i := 997) (by decide +kernel)), (tb_at (i := 10) (by decide +kernel)), ⟨by decide +kernel, by decide +kernel, by decide +kernel⟩, by decide⟩
theorem ksX10_odds : ax_MV mX10_odds 4 := ⟨kmX10_odds, (tb_at (i := 995) (by decide +kernel)), (tb_at (i := 996) (by decide +kernel))⟩
theorem kmX10_ask : ax_MK mX10_ask 2 := ⟨(tb_at (i := 1002) (by decide +kernel)), (tb_at (i := 10) (by decide +kernel)), ⟨by decide +kernel, by decide +kernel, by decide +kernel⟩, by decide⟩
theorem ksX10_ask : ax_MV mX10_ask 2 := ⟨kmX10_ask, (tb_at (i := 1000) (by decide +kernel)), (tb_at (i := 1001) (by decide +kernel))⟩
theorem kmX10_ringOf : ax_MK mX10_ringOf 1 := ⟨(tb_at (i := 1010) (by decide +kernel)), (tb_at (i := 10) (by decide +kernel)), ⟨by decide +kernel, by decide +kernel, by decide +kernel⟩, by decide⟩
theorem ksX10_ringOf : ax_MV mX10_ringOf 1 := ⟨kmX10_ringOf, (tb_at (i := 1009) (by decide +kernel)), (List.mem_append_left _ (List.mem_of_getElem? (i := 38) (by decide +kernel)))⟩
theorem kmX10_ring : ax_MK mX10_ring 1 := ⟨(tb_at (i := 1006) (by decide +kernel)), (tb_at (i := 10) (by decide +kernel)), ⟨by decide +kernel, by decide +kernel, by decide +kernel⟩, by decide⟩
theorem ksX10_ring : ax_MV mX10_ring 1 := ⟨kmX10_ring, (tb_at (i := 1004) (by decide +kernel)), (tb_at (i := 1005) (by decide +kernel))⟩
theorem kmX10_rings : ax_MK mX10_rings 1 := ⟨(tb_at (i := 1014) (by decide +kernel)), (tb_at (i := 10) (by decide +kernel)), ⟨by decide +kernel, by decide +kernel, by decide +kernel⟩, by decide⟩
theorem ksX10_rings : ax_MV mX10_rings 1 := ⟨kmX10_rings, (tb_at (i := 1012) (by decide +kernel)), (tb_at (i := 1013) (by decide +kernel))⟩
theorem kmX10_mask : ax_MK mX10_mask 4 := ⟨(tb_at (i := 1018) (by decide +kernel)), (tb_at (i := 10) (by decide +kernel)), ⟨by decide +kernel, by decide +kernel, by decide +kernel⟩, by decide⟩
theorem ksX10_mask : ax_MV mX10_mask 4 := ⟨kmX10_mask, (tb_at (i := 1016) (by decide +kernel)), (tb_at (i := 1017) (by decide +kernel))⟩
theorem kmX10_spoil : ax_MK mX10_spoil 4 := ⟨(tb_at (i := 1022) (by decide +kernel)), (tb_at (i := 10) (by decide +kernel)), ⟨by decide +kernel, by decide +kernel, by decide +kernel⟩, by decide⟩
theorem ksX10_spoil : ax_MV mX10_spoil 4 := ⟨kmX10_spoil, (tb_at (i := 1020) (by decide +kernel)), (tb_at (i := 1021) (by decide +kernel))⟩
theorem kmX10_impostor : ax_MK mX10_impostor 5 := ⟨(tb_at (i := 1026) (by decide +kernel)), (tb_at (i := 10) (by decide +kernel)), ⟨by decide +kernel, by decide +kernel, by decide +kernel⟩, by decide⟩
theorem ksX10_impostor : ax_MV mX10_impostor 5 := ⟨kmX10_impostor, (tb_at (i := 1024) (by decide +kernel)), (tb_at (i := 1025) (by decide +kernel))⟩
theorem kmX10_lost : ax_MK mX10_lost 1 := ⟨(tb_at (i := 1030) (by decide +kernel)), (tb_at (i := 10) (by decide +kernel)), ⟨by decide +kernel, by decide +kernel, by decide +kernel⟩, by decide⟩
theorem ksX10_lost : ax_MV mX10_lost 1 := ⟨kmX10_lost, (tb_at (i := 1028) (by decide +kernel)), (tb_at (i := 1029) (by decide +kernel))⟩
theorem kmX10_alike : ax_MK mX10_alike 1 := ⟨(tb_at (i := 1034) (by decide +kernel)), (tb_at (i := 10) (by decide +kernel)), ⟨by decide +kernel, by decide +kernel, by decide +kernel⟩, by decide⟩
theorem ksX10_alike : ax_MV mX10_alike 1 := ⟨kmX10_alike, (tb_at (i := 1032) (by decide +kernel)), (tb_at (i := 1033) (by decide +kernel))⟩
theorem kmX10_see : ax_MK mX10_see 4 := ⟨(tb_at (i := 1038) (by decide +kernel)), (tb_at (i := 10) (by decide +kernel)), ⟨by decide +kernel, by decide +kernel, by decide +kernel⟩, by decide⟩
theorem ksX10_see : ax_MV mX10_see 4 := ⟨kmX10_see, (tb_at (i := 1036) (by decide +kernel)), (tb_at (i := 1037) (by decide +kernel))⟩
theorem kmX10_nodsOf : ax_MK mX10_nodsOf 1 := ⟨(tb_at (i := 1046) (by decide +kernel)), (tb_at (i := 10) (by decide +kernel)), ⟨by decide +kernel, by decide +kernel, by decide +kernel⟩, by decide⟩
theorem ksX10_nodsOf : ax_MV mX10_nodsOf 1 := ⟨kmX10_nodsOf, (tb_at (i := 1045) (by decide +kernel)), (List.mem_append_left _ (List.mem_of_getElem? (i := 39) (by decide +kernel)))⟩
theorem kmX10_honest : ax_MK mX10_honest 0 := ⟨(tb_at (i := 1042) (by decide +kernel)), (tb_at (i := 10) (by decide +kernel)), ⟨by decide +kernel, by decide +kernel, by decide +kernel⟩, by decide⟩
theorem ksX10_honest : ax_MV mX10_honest 0 := ⟨kmX10_honest, (tb_at (i := 1040) (by decide +kernel)), (tb_at (i := 1041) (by decide +kernel))⟩
theorem kmX10_nods : ax_MK mX10_nods 1 := ⟨(tb_at (i := 1050) (by decide +kernel)), (tb_at (i := 10) (by decide +kernel)), ⟨by decide +kernel, by decide +kernel, by decide +kernel⟩, by decide⟩
theorem ksX10_nods : ax_MV mX10_nods 1 := ⟨kmX10_nods, (tb_at (i := 1048) (by decide +kernel)), (tb_at (i := 1049) (by decide +kernel))⟩
theorem kmX10_spread : ax_MK mX10_spread 2 := ⟨(tb_at (i := 1058) (by decide +kernel)), (tb_at (i := 10) (by decide +kernel)), ⟨by decide +kernel, by decide +kernel, by decide +kernel⟩, by decide⟩
theorem ksX10_spread : ax_MV mX10_spread 2 := ⟨kmX10_spread, (tb_at (i := 1057) (by decide +kernel)), (List.mem_append_left _ (List.mem_of_getElem? (i := 40) (by decide +kernel)))⟩
theorem kmX10_showNext : ax_MK mX10_showNext 2 := ⟨(tb_at (i := 1054) (by decide +kernel)), (tb_at (i := 10) (by decide +kernel)), ⟨by decide +kernel, by decide +kernel, by decide +kernel⟩, by decide⟩
theorem ksX10_showNext : ax_MV mX10_showNext 2 := ⟨kmX10_showNext, (tb_at (i := 1052) (by decide +kernel)), (tb_at (i := 1053) (by decide +kernel))⟩
theorem kmX10_write : ax_MK mX10_write 2 := ⟨(tb_at (i := 1062) (by decide +kernel)), (tb_at (i := 10) (by decide +kernel)), ⟨by decide +kernel, by decide +kernel, by decide +kernel⟩, by decide⟩
theorem ksX10_write : ax_MV mX10_write 2 := ⟨kmX10_write, (tb_at (i := 1060) (by decide +kernel)), (tb_at (i := 1061) (by decide +kernel))⟩
theorem kmX10_tear : ax_MK mX10_tear 0 := ⟨(tb_at (i := 1066) (by decide +kernel)), (tb_at (i := 10) (by decide +kernel)), ⟨by decide +kernel, by decide +kernel, by decide +kernel⟩, by decide⟩
theorem ksX10_tear : ax_MV mX10_tear 0 := ⟨kmX10_tear, (tb_at (i := 1064) (by decide +kernel)), (tb_at (i := 1065) (by decide +kernel))⟩
theorem kmX10_judge : ax_MK mX10_judge 0 := ⟨(tb_at (i := 1070) (by decide +kernel)), (tb_at (i := 10) (by decide +kernel)), ⟨by decide +kernel, by decide +kernel, by decide +kernel⟩, by decide⟩
theorem ksX10_judge : ax_MV mX10_judge 0 := ⟨kmX10_judge, (tb_at (i := 1068) (by decide +kernel)), (tb_at (i := 1069) (by decide +kernel))⟩
theorem kmX10_seed : ax_MK mX10_seed 1 := ⟨(tb_at (i := 1074) (by decide +kernel)), (tb_at (i := 10) (by decide +kernel)), ⟨by decide +kernel, by decide +kernel, by decide +kernel⟩, by decide⟩
theorem ksX10_seed : ax_MV mX10_seed 1 := ⟨kmX10_seed, (tb_at (i := 1072) (by decide +kernel)), (tb_at (i := 1073) (by decide +kernel))⟩
theorem kmX10_keep : ax_MK mX10_keep 1 := ⟨(tb_at (i := 1078) (by decide +kernel)), (tb_at (i := 10) (by decide +kernel)), ⟨by decide +kernel, by decide +kernel, by decide +kernel⟩, by decide⟩
theorem ksX10_keep : ax_MV mX10_keep 1 := ⟨kmX10_keep, (tb_at (i := 1076) (by decide +kernel)), (tb_at (i := 1077) (by decide +kernel))⟩
theorem kmX10_goBack : ax_MK mX10_goBack 1 := ⟨(tb_at (i := 1082) (by decide +kernel)), (tb_at (i := 10) (by decide +kernel)), ⟨by decide +kernel, by decide +kernel, by decide +kernel⟩, by decide⟩
theorem ksX10_goBack : ax_MV mX10_goBack 1 := ⟨kmX10_goBack, (tb_at (i := 1080) (by decide +kernel)), (tb_at (i := 1081) (by decide +kernel))⟩
theorem kmJ6_bitCount_0f7a4 : ax_MK mJ6_bitCount_0f7a4 1 := ⟨(tb_at (i := 353) (by decide +kernel)), (tb_at (i := 12) (by decide +kernel)), ⟨by decide +kernel, by decide +kernel, by decide +kernel⟩, by decide⟩
theorem ksJ6_bitCount_0f7a4 : ax_MS mJ6_bitCount_0f7a4 1 := ⟨kmJ6_bitCount_0f7a4, (tb_at (i := 352) (by decide +kernel))⟩
theorem kmJ9_max_7cf53 : ax_MK mJ9_max_7cf53 2 := ⟨(tb_at (i := 670) (by decide +kernel)), (tb_at (i := 13) (by decide +kernel)), ⟨by decide +kernel, by decide +kernel, by decide +kernel⟩, by decide⟩
theorem ksJ9_max_7cf53 : ax_MS mJ9_max_7cf53 2 := ⟨kmJ9_max_7cf53, (tb_at (i := 669) (by decide +kernel))⟩
theorem kmJ9_min_7cf53 : ax_MK mJ9_min_7cf53 2 := ⟨(tb_at (i := 412) (by decide +kernel)), (tb_at (i := 13) (by decide +kernel)), ⟨by decide +kernel, by decide +kernel, by decide +kernel⟩, by decide⟩
theorem ksJ9_min_7cf53 : ax_MS mJ9_min_7cf53 2 := ⟨kmJ9_min_7cf53, (tb_at (i := 411) (by decide +kernel))⟩
theorem kmJ7_fill_53178 : ax_MK mJ7_fill_53178 2 := ⟨(tb_at (i := 60) (by decide +kernel)), (tb_at (i := 4) (by decide +kernel)), ⟨by decide +kernel, by decide +kernel, by decide +kernel⟩, by decide⟩
theorem ksJ7_fill_53178 : ax_MS mJ7_fill_53178 2 := ⟨kmJ7_fill_53178, (tb_at (i := 59) (by decide +kernel))⟩
theorem lkL_9 : ax_LK RL 9 mX9_init := Or.inl (tb_at (i := 18) (by decide +kernel))
theorem lkX9_1 : Cond.methodLink RX9 1 objectInit ∈ lw_tbl := (tb_at (i := 21) (by decide +kernel))
theorem lkX9_9 : ax_LK RX9 9 mX8_init := Or.inl (tb_at (i := 26) (by decide +kernel))
theorem lkX8_3 : Cond.methodLink RX8 3 objectInit ∈ lw_tbl := (tb_at (i := 29) (by decide +kernel))
theorem lkX9_18 : ax_LK RX9 18 mX5_init := Or.inl (tb_at (i := 54) (by decide +kernel))
theorem lkX5_3 : Cond.methodLink RX5 3 objectInit ∈ lw_tbl := (tb_at (i := 57) (by decide +kernel))
theorem lkX5_24 : ax_LK RX5 24 mJ7_fill_53178 := Or.inl (tb_at (i := 58) (by decide +kernel))
theorem lkX9_28 : ax_LK RX9 28 mX4_init := Or.inl (tb_at (i := 87) (by decide +kernel))
theorem lkX4_3 : Cond.methodLink RX4 3 objectInit ∈ lw_tbl := (tb_at (i := 90) (by decide +kernel))
theorem lkX4_17 : ax_LK RX4 17 mX5_init := Or.inl (tb_at (i := 93) (by decide +kernel))
theorem lkX9_35 : ax_LK RX9 35 mX7_init := Or.inl (tb_at (i := 107) (by decide +kernel))
theorem lkX7_3 : Cond.methodLink RX7 3 objectInit ∈ lw_tbl := (tb_at (i := 110) (by decide +kernel))
theorem lkX9_42 : ax_LK RX9 42 mX0_init := Or.inl (tb_at (i := 130) (by decide +kernel))
theorem lkX0_3 : Cond.methodLink RX0 3 objectInit ∈ lw_tbl := (tb_at (i := 133) (by decide +kernel))
theorem lkX9_49 : ax_LK RX9 49 mX1_init := Or.inr ⟨"ParadeRow", (tb_at (i := 147) (by decide +kernel))⟩
theorem lkX1_1 : Cond.methodLink RX1 1 objectInit ∈ lw_tbl := (tb_at (i := 150) (by decide +kernel))
theorem lkX9_56 : ax_LK RX9 56 mX3_init := Or.inl (tb_at (i := 158) (by decide +kernel))
theorem lkX3_1 : Cond.methodLink RX3 1 objectInit ∈ lw_tbl := (tb_at (i := 161) (by decide +kernel))
theorem lkX3_9 : ax_LK RX3 9 mX5_init := Or.inl (tb_at (i := 163) (by decide +kernel))
theorem lkL_13 : ax_LK RL 13 mX9_feed := Or.inl (tb_at (i := 205) (by decide +kernel))
theorem lkX9_64 : ax_LK RX9 64 mX9_isWithin := Or.inl (tb_at (i := 209) (by decide +kernel))
theorem lkX9_68 : ax_LK RX9 68 mX8_hasRoom := Or.inl (tb_at (i := 212) (by decide +kernel))
theorem lkX9_72 : ax_LK RX9 72 mX9_refusal := Or.inl (tb_at (i := 216) (by decide +kernel))
theorem lkX9_76 : ax_LK RX9 76 mX8_append := Or.inl (tb_at (i := 223) (by decide +kernel))
theorem lkX8_22 : ax_LK RX8 22 mX9_isWithin := Or.inr ⟨"ParadeRow", (tb_at (i := 227) (by decide +kernel))⟩
theorem lkL_18 : ax_LK RL 18 mX9_place := Or.inl (tb_at (i := 228) (by decide +kernel))
theorem lkX9_80 : ax_LK RX9 80 mX8_tellInto := Or.inl (tb_at (i := 232) (by decide +kernel))
theorem lkX8_26 : ax_LK RX8 26 mX5_empty := Or.inl (tb_at (i := 236) (by decide +kernel))
theorem lkX8_37 : ax_LK RX8 37 mX8_skipBlanks := Or.inl (tb_at (i := 240) (by decide +kernel))
theorem lkX8_44 : ax_LK RX8 44 mX8_letterHere := Or.inl (tb_at (i := 244) (by decide +kernel))
theorem lkX8_40 : ax_LK RX8 40 mX8_readClause := Or.inl (tb_at (i := 248) (by decide +kernel))
theorem lkX8_48 : ax_LK RX8 48 mX8_readPerson := Or.inl (tb_at (i := 252) (by decide +kernel))
theorem lkX8_54 : ax_LK RX8 54 mX8_blame := Or.inl (tb_at (i := 256) (by decide +kernel))
theorem lkX8_61 : ax_LK RX8 61 mX8_readNumber := Or.inl (tb_at (i := 260) (by decide +kernel))
theorem lkX8_81 : ax_LK RX8 81 mX8_isFigure := Or.inl (tb_at (i := 264) (by decide +kernel))
theorem lkX8_65 : ax_LK RX8 65 mX8_readEndOfClause := Or.inl (tb_at (i := 267) (by decide +kernel))
theorem lkX8_68 : ax_LK RX8 68 mX5_add := Or.inl (tb_at (i := 271) (by decide +kernel))
theorem lkX5_43 : ax_LK RX5 43 mX9_isWithin := Or.inr ⟨"ParadeRow", (tb_at (i := 275) (by decide +kernel))⟩
theorem lkX8_51 : ax_LK RX8 51 mX8_readAcquaintance := Or.inl (tb_at (i := 276) (by decide +kernel))
theorem lkX8_71 : ax_LK RX8 71 mX5_knows := Or.inl (tb_at (i := 280) (by decide +kernel))
theorem lkX5_59 : ax_LK RX5 59 mX5_memoryOf := Or.inl (tb_at (i := 284) (by decide +kernel))
theorem lkX5_55 : ax_LK RX5 55 mX5_isPair := Or.inl (tb_at (i := 288) (by decide +kernel))
theorem lkX5_47 : ax_LK RX5 47 mX5_has := Or.inl (tb_at (i := 292) (by decide +kernel))
theorem lkX8_78 : ax_LK RX8 78 mX5_learn := Or.inl (tb_at (i := 296) (by decide +kernel))
theorem lkX5_63 : ax_LK RX5 63 mX5_marksOf := Or.inl (tb_at (i := 300) (by decide +kernel))
theorem lkX9_84 : ax_LK RX9 84 mX8_empty := Or.inl (tb_at (i := 304) (by decide +kernel))
theorem lkX9_87 : ax_LK RX9 87 mX5_become := Or.inl (tb_at (i := 308) (by decide +kernel))
theorem lkX5_37 : Cond.methodLink RX5 37 arraycopyName ∈ lw_tbl := (tb_at (i := 312) (by decide +kernel))
theorem lkX9_91 : ax_LK RX9 91 mX4_empty := Or.inl (tb_at (i := 315) (by decide +kernel))
theorem lkX9_92 : ax_LK RX9 92 mX7_empty := Or.inl (tb_at (i := 319) (by decide +kernel))
theorem lkX9_93 : ax_LK RX9 93 mX0_empty := Or.inl (tb_at (i := 323) (by decide +kernel))
theorem lkX9_94 : ax_LK RX9 94 mX3_drop := Or.inl (tb_at (i := 327) (by decide +kernel))
theorem lkL_23 : ax_LK RL 23 mX9_fault := Or.inl (tb_at (i := 331) (by decide +kernel))
theorem lkL_27 : ax_LK RL 27 mX9_told := Or.inl (tb_at (i := 335) (by decide +kernel))
theorem lkX9_110 : ax_LK RX9 110 mX5_twoOfOne := Or.inl (tb_at (i := 339) (by decide +kernel))
theorem lkX5_88 : ax_LK RX5 88 mX5_whoAre := Or.inl (tb_at (i := 343) (by decide +kernel))
theorem lkX5_85 : ax_LK RX5 85 mX5_identityOf := Or.inl (tb_at (i := 347) (by decide +kernel))
theorem lkX5_80 : ax_LK RX5 80 mJ6_bitCount_0f7a4 := Or.inl (tb_at (i := 351) (by decide +kernel))
theorem lkX9_114 : ax_LK RX9 114 mX5_nobodies := Or.inl (tb_at (i := 357) (by decide +kernel))
theorem lkX9_117 : ax_LK RX9 117 mX5_countAcquaintances := Or.inl (tb_at (i := 361) (by decide +kernel))
theorem lkX5_77 : ax_LK RX5 77 mX5_knownBy := Or.inl (tb_at (i := 365) (by decide +kernel))
theorem lkX5_74 : ax_LK RX5 74 mX5_knows := Or.inl (tb_at (i := 369) (by decide +kernel))
theorem lkL_31 : ax_LK RL 31 mX9_person := Or.inl (tb_at (i := 370) (by decide +kernel))
theorem lkX9_124 : ax_LK RX9 124 mX5_has := Or.inl (tb_at (i := 374) (by decide +kernel))
theorem lkX9_129 : ax_LK RX9 129 mX5_marksOf := Or.inl (tb_at (i := 375) (by decide +kernel))
theorem lkX9_132 : ax_LK RX9 132 mX5_changesOf := Or.inl (tb_at (i := 376) (by decide +kernel))
theorem lkX9_135 : ax_LK RX9 135 mX5_identityOf := Or.inl (tb_at (i := 380) (by decide +kernel))
theorem lkX9_138 : ax_LK RX9 138 mX5_knownBy := Or.inl (tb_at (i := 381) (by decide +kernel))
theorem lkX9_141 : ax_LK RX9 141 mX5_knowersOf := Or.inl (tb_at (i := 382) (by decide +kernel))
theorem lkL_36 : ax_LK RL 36 mX9_remembers := Or.inl (tb_at (i := 386) (by decide +kernel))
theorem lkX9_144 : ax_LK RX9 144 mX5_isPair := Or.inl (tb_at (i := 390) (by decide +kernel))
theorem lkX9_148 : ax_LK RX9 148 mX5_memoryOf := Or.inl (tb_at (i := 391) (by decide +kernel))
theorem lkL_40 : ax_LK RL 40 mX9_year := Or.inl (tb_at (i := 392) (by decide +kernel))
theorem lkX9_152 : ax_LK RX9 152 mX9_refusalOfYears := Or.inl (tb_at (i := 396) (by decide +kernel))
theorem lkX9_155 : ax_LK RX9 155 mX4_push := Or.inl (tb_at (i := 400) (by decide +kernel))
theorem lkX4_25 : ax_LK RX4 25 mX4_stateAt := Or.inl (tb_at (i := 404) (by decide +kernel))
theorem lkX4_39 : ax_LK RX4 39 mX9_isWithin := Or.inr ⟨"ParadeRow", (tb_at (i := 408) (by decide +kernel))⟩
theorem lkX4_29 : ax_LK RX4 29 mX5_become := Or.inl (tb_at (i := 409) (by decide +kernel))
theorem lkX4_33 : ax_LK RX4 33 mJ9_min_7cf53 := Or.inl (tb_at (i := 410) (by decide +kernel))
theorem lkX9_158 : ax_LK RX9 158 mX5_passYears := Or.inl (tb_at (i := 413) (by decide +kernel))
theorem lkX5_67 : ax_LK RX5 67 mX5_changesOf := Or.inl (tb_at (i := 417) (by decide +kernel))
theorem lkX5_70 : ax_LK RX5 70 mX5_flip := Or.inl (tb_at (i := 418) (by decide +kernel))
theorem lkL_44 : ax_LK RL 44 mX9_meet := Or.inl (tb_at (i := 422) (by decide +kernel))
theorem lkX9_162 : ax_LK RX9 162 mX5_learn := Or.inl (tb_at (i := 426) (by decide +kernel))
theorem lkX9_166 : ax_LK RX9 166 mX2_apart := Or.inl (tb_at (i := 427) (by decide +kernel))
theorem lkX2_9 : ax_LK RX2 9 mJ6_bitCount_0f7a4 := Or.inl (tb_at (i := 430) (by decide +kernel))
theorem lkL_48 : ax_LK RL 48 mX9_forget := Or.inl (tb_at (i := 431) (by decide +kernel))
theorem lkX9_171 : ax_LK RX9 171 mX5_knows := Or.inl (tb_at (i := 435) (by decide +kernel))
theorem lkX9_174 : ax_LK RX9 174 mX5_unlearn := Or.inl (tb_at (i := 436) (by decide +kernel))
theorem lkL_52 : ax_LK RL 52 mX9_parade := Or.inl (tb_at (i := 440) (by decide +kernel))
theorem lkX9_177 : ax_LK RX9 177 mX9_isAsked := Or.inl (tb_at (i := 444) (by decide +kernel))
theorem lkX9_219 : ax_LK RX9 219 mX5_holdsAll := Or.inl (tb_at (i := 448) (by decide +kernel))
theorem lkX5_51 : ax_LK RX5 51 mX5_everybody := Or.inl (tb_at (i := 452) (by decide +kernel))
theorem lkX9_201 : ax_LK RX9 201 mX9_hasBit := Or.inl (tb_at (i := 456) (by decide +kernel))
theorem lkX9_180 : ax_LK RX9 180 mX9_isLongEnough := Or.inl (tb_at (i := 459) (by decide +kernel))
theorem lkX9_291 : ax_LK RX9 291 mJ6_bitCount_0f7a4 := Or.inl (tb_at (i := 462) (by decide +kernel))
theorem lkX9_183 : ax_LK RX9 183 mX2_pick := Or.inl (tb_at (i := 463) (by decide +kernel))
theorem lkX2_30 : ax_LK RX2 30 mX9_hasBit := Or.inr ⟨"ParadeRow", (tb_at (i := 466) (by decide +kernel))⟩
theorem lkX2_34 : ax_LK RX2 34 mX2_apartOf := Or.inl (tb_at (i := 467) (by decide +kernel))
theorem lkX2_15 : ax_LK RX2 15 mX5_marksOf := Or.inl (tb_at (i := 470) (by decide +kernel))
theorem lkX2_20 : ax_LK RX2 20 mX2_apart := Or.inl (tb_at (i := 471) (by decide +kernel))
theorem lkX9_187 : ax_LK RX9 187 mX5_identify := Or.inl (tb_at (i := 472) (by decide +kernel))
theorem lkL_57 : ax_LK RL 57 mX9_mark := Or.inl (tb_at (i := 476) (by decide +kernel))
theorem lkX9_190 : ax_LK RX9 190 mX5_flip := Or.inl (tb_at (i := 480) (by decide +kernel))
theorem lkL_61 : ax_LK RL 61 mX9_drift := Or.inl (tb_at (i := 481) (by decide +kernel))
theorem lkX9_193 : ax_LK RX9 193 mX9_meetByDraws := Or.inl (tb_at (i := 485) (by decide +kernel))
theorem lkX9_296 : ax_LK RX9 296 mX1_drawOf := Or.inl (tb_at (i := 489) (by decide +kernel))
theorem lkL_65 : ax_LK RL 65 mX9_undo := Or.inl (tb_at (i := 496) (by decide +kernel))
theorem lkX9_196 : ax_LK RX9 196 mX4_popInto := Or.inl (tb_at (i := 500) (by decide +kernel))
theorem lkL_69 : ax_LK RL 69 mX9_sure := Or.inl (tb_at (i := 504) (by decide +kernel))
theorem lkX9_204 : ax_LK RX9 204 mX2_sureness := Or.inl (tb_at (i := 508) (by decide +kernel))
theorem lkX2_38 : ax_LK RX2 38 mX2_pick := Or.inl (tb_at (i := 511) (by decide +kernel))
theorem lkX2_41 : ax_LK RX2 41 mX2_lead := Or.inl (tb_at (i := 512) (by decide +kernel))
theorem lkL_73 : ax_LK RL 73 mX9_bestRow := Or.inl (tb_at (i := 515) (by decide +kernel))
theorem lkX9_208 : ax_LK RX9 208 mX9_isRowLength := Or.inl (tb_at (i := 519) (by decide +kernel))
theorem lkX9_211 : ax_LK RX9 211 mX6_surest := Or.inl (tb_at (i := 522) (by decide +kernel))
theorem lkX6_9 : ax_LK RX6 9 mX5_memoryOf := Or.inl (tb_at (i := 525) (by decide +kernel))
theorem lkX6_15 : ax_LK RX6 15 mX5_everybody := Or.inl (tb_at (i := 526) (by decide +kernel))
theorem lkX6_19 : ax_LK RX6 19 mX6_isRowWith := Or.inl (tb_at (i := 527) (by decide +kernel))
theorem lkX6_59 : ax_LK RX6 59 mX6_isRowOf := Or.inl (tb_at (i := 530) (by decide +kernel))
theorem lkX6_46 : ax_LK RX6 46 mJ6_bitCount_0f7a4 := Or.inl (tb_at (i := 533) (by decide +kernel))
theorem lkX6_39 : ax_LK RX6 39 mX9_hasBit := Or.inr ⟨"ParadeRow", (tb_at (i := 534) (by decide +kernel))⟩
theorem lkX6_25 : ax_LK RX6 25 mX2_sureness := Or.inl (tb_at (i := 535) (by decide +kernel))
theorem lkL_77 : ax_LK RL 77 mX9_odds := Or.inl (tb_at (i := 536) (by decide +kernel))
theorem lkX9_216 : ax_LK RX9 216 mX2_oddsOf := Or.inl (tb_at (i := 540) (by decide +kernel))
theorem lkX2_45 : ax_LK RX2 45 mX2_weightIn := Or.inl (tb_at (i := 543) (by decide +kernel))
theorem lkL_82 : ax_LK RL 82 mX9_ask := Or.inl (tb_at (i := 547) (by decide +kernel))
theorem lkX9_222 : ax_LK RX9 222 mX6_surestWitness := Or.inl (tb_at (i := 551) (by decide +kernel))
theorem lkX6_35 : ax_LK RX6 35 mX5_knows := Or.inl (tb_at (i := 554) (by decide +kernel))
theorem lkL_86 : ax_LK RL 86 mX9_ring := Or.inl (tb_at (i := 555) (by decide +kernel))
theorem lkX9_225 : ax_LK RX9 225 mX5_stepsBackTo := Or.inl (tb_at (i := 559) (by decide +kernel))
theorem lkL_90 : ax_LK RL 90 mX9_rings := Or.inl (tb_at (i := 563) (by decide +kernel))
theorem lkX9_228 : ax_LK RX9 228 mX5_countInRings := Or.inl (tb_at (i := 567) (by decide +kernel))
theorem lkX5_91 : ax_LK RX5 91 mX5_stepsBackTo := Or.inl (tb_at (i := 571) (by decide +kernel))
theorem lkX9_231 : ax_LK RX9 231 mX5_countAstray := Or.inl (tb_at (i := 572) (by decide +kernel))
theorem lkX9_234 : ax_LK RX9 234 mX5_countAstrayAndKnown := Or.inl (tb_at (i := 576) (by decide +kernel))
theorem lkX5_94 : ax_LK RX5 94 mX5_knowersOf := Or.inl (tb_at (i := 580) (by decide +kernel))
theorem lkL_94 : ax_LK RL 94 mX9_mask := Or.inl (tb_at (i := 581) (by decide +kernel))
theorem lkX9_237 : ax_LK RX9 237 mX6_fewestMarks := Or.inl (tb_at (i := 585) (by decide +kernel))
theorem lkX6_42 : ax_LK RX6 42 mX2_pick := Or.inl (tb_at (i := 588) (by decide +kernel))
theorem lkX6_52 : ax_LK RX6 52 mX5_marksOf := Or.inl (tb_at (i := 589) (by decide +kernel))
theorem lkX6_55 : ax_LK RX6 55 mX2_lead := Or.inl (tb_at (i := 590) (by decide +kernel))
theorem lkL_98 : ax_LK RL 98 mX9_spoil := Or.inl (tb_at (i := 591) (by decide +kernel))
theorem lkL_102 : ax_LK RL 102 mX9_impostor := Or.inl (tb_at (i := 595) (by decide +kernel))
theorem lkX9_241 : ax_LK RX9 241 mX6_countPicking := Or.inl (tb_at (i := 599) (by decide +kernel))
theorem lkX9_244 : ax_LK RX9 244 mX6_leastPicking := Or.inl (tb_at (i := 602) (by decide +kernel))
theorem lkL_107 : ax_LK RL 107 mX9_lost := Or.inl (tb_at (i := 605) (by decide +kernel))
theorem lkX9_247 : ax_LK RX9 247 mX5_fadedPair := Or.inl (tb_at (i := 609) (by decide +kernel))
theorem lkX5_102 : ax_LK RX5 102 mX5_isFaded := Or.inl (tb_at (i := 613) (by decide +kernel))
theorem lkX5_97 : ax_LK RX5 97 mX2_apart := Or.inl (tb_at (i := 617) (by decide +kernel))
theorem lkL_111 : ax_LK RL 111 mX9_alike := Or.inl (tb_at (i := 618) (by decide +kernel))
theorem lkX9_250 : ax_LK RX9 250 mX5_firstTwins := Or.inl (tb_at (i := 622) (by decide +kernel))
theorem lkL_115 : ax_LK RL 115 mX9_see := Or.inl (tb_at (i := 626) (by decide +kernel))
theorem lkX9_253 : ax_LK RX9 253 mX7_hasRoom := Or.inl (tb_at (i := 630) (by decide +kernel))
theorem lkX9_254 : ax_LK RX9 254 mX7_add := Or.inl (tb_at (i := 634) (by decide +kernel))
theorem lkX7_28 : ax_LK RX7 28 mX9_isWithin := Or.inr ⟨"ParadeRow", (tb_at (i := 638) (by decide +kernel))⟩
theorem lkL_119 : ax_LK RL 119 mX9_honest := Or.inl (tb_at (i := 639) (by decide +kernel))
theorem lkX9_258 : ax_LK RX9 258 mX7_countOtherwise := Or.inl (tb_at (i := 643) (by decide +kernel))
theorem lkX7_32 : ax_LK RX7 32 mX7_pickNow := Or.inl (tb_at (i := 647) (by decide +kernel))
theorem lkX7_36 : ax_LK RX7 36 mX5_knows := Or.inl (tb_at (i := 650) (by decide +kernel))
theorem lkX7_42 : ax_LK RX7 42 mX5_memoryOf := Or.inl (tb_at (i := 651) (by decide +kernel))
theorem lkX7_46 : ax_LK RX7 46 mX2_pick := Or.inl (tb_at (i := 652) (by decide +kernel))
theorem lkL_123 : ax_LK RL 123 mX9_nods := Or.inl (tb_at (i := 653) (by decide +kernel))
theorem lkL_127 : ax_LK RL 127 mX9_showNext := Or.inl (tb_at (i := 657) (by decide +kernel))
theorem lkX9_262 : ax_LK RX9 262 mX6_widest := Or.inl (tb_at (i := 661) (by decide +kernel))
theorem lkX6_63 : ax_LK RX6 63 mX2_spread := Or.inl (tb_at (i := 664) (by decide +kernel))
theorem lkX2_50 : ax_LK RX2 50 mJ9_min_7cf53 := Or.inl (tb_at (i := 667) (by decide +kernel))
theorem lkX2_55 : ax_LK RX2 55 mJ9_max_7cf53 := Or.inl (tb_at (i := 668) (by decide +kernel))
theorem lkL_131 : ax_LK RL 131 mX9_write := Or.inl (tb_at (i := 671) (by decide +kernel))
theorem lkX9_265 : ax_LK RX9 265 mX0_hasRoom := Or.inl (tb_at (i := 675) (by decide +kernel))
theorem lkX9_266 : ax_LK RX9 266 mX0_add := Or.inl (tb_at (i := 679) (by decide +kernel))
theorem lkX0_22 : ax_LK RX0 22 mX9_isWithin := Or.inr ⟨"ParadeRow", (tb_at (i := 683) (by decide +kernel))⟩
theorem lkL_135 : ax_LK RL 135 mX9_tear := Or.inl (tb_at (i := 684) (by decide +kernel))
theorem lkL_139 : ax_LK RL 139 mX9_judge := Or.inl (tb_at (i := 688) (by decide +kernel))
theorem lkX9_268 : ax_LK RX9 268 mX0_firstWrong := Or.inl (tb_at (i := 692) (by decide +kernel))
theorem lkX0_26 : ax_LK RX0 26 mX5_identityOf := Or.inl (tb_at (i := 696) (by decide +kernel))
theorem lkL_143 : ax_LK RL 143 mX9_seed := Or.inl (tb_at (i := 697) (by decide +kernel))
theorem lkL_147 : ax_LK RL 147 mX9_keep := Or.inl (tb_at (i := 701) (by decide +kernel))
theorem lkX9_274 : ax_LK RX9 274 mX9_imageOf := Or.inl (tb_at (i := 705) (by decide +kernel))
theorem lkX9_278 : ax_LK RX9 278 mX3_take := Or.inl (tb_at (i := 709) (by decide +kernel))
theorem lkX3_16 : ax_LK RX3 16 mX5_become := Or.inl (tb_at (i := 713) (by decide +kernel))
theorem lkL_151 : ax_LK RL 151 mX9_goBack := Or.inl (tb_at (i := 714) (by decide +kernel))
theorem lkL_12 : ax_LK RL 12 mX10_init := Or.inl (tb_at (i := 720) (by decide +kernel))
theorem lkX10_1 : Cond.methodLink RX10 1 objectInit ∈ lw_tbl := (tb_at (i := 723) (by decide +kernel))
theorem lkL_17 : ax_LK RL 17 mX10_feed := Or.inl (tb_at (i := 807) (by decide +kernel))
theorem lkX10_66 : ax_LK RX10 66 mX10_in := Or.inl (tb_at (i := 812) (by decide +kernel))
theorem lkL_22 : ax_LK RL 22 mX10_place := Or.inl (tb_at (i := 817) (by decide +kernel))
theorem lkX10_84 : ax_LK RX10 84 mX10_here := Or.inl (tb_at (i := 821) (by decide +kernel))
theorem lkX10_118 : ax_LK RX10 118 mX10_takeClause := Or.inl (tb_at (i := 825) (by decide +kernel))
theorem lkX10_92 : ax_LK RX10 92 mX10_fails := Or.inl (tb_at (i := 829) (by decide +kernel))
theorem lkX10_112 : ax_LK RX10 112 mX10_takePerson := Or.inl (tb_at (i := 833) (by decide +kernel))
theorem lkX10_108 : ax_LK RX10 108 mX10_into := Or.inl (tb_at (i := 837) (by decide +kernel))
theorem lkX10_102 : ax_LK RX10 102 mX10_takeNumber := Or.inl (tb_at (i := 841) (by decide +kernel))
theorem lkX10_115 : ax_LK RX10 115 mX10_takeKnows := Or.inl (tb_at (i := 847) (by decide +kernel))
theorem lkX10_121 : ax_LK RX10 121 mX10_takeRead := Or.inl (tb_at (i := 851) (by decide +kernel))
theorem lkL_26 : ax_LK RL 26 mX10_fault := Or.inl (tb_at (i := 855) (by decide +kernel))
theorem lkL_30 : ax_LK RL 30 mX10_told := Or.inl (tb_at (i := 859) (by decide +kernel))
theorem lkX10_143 : ax_LK RX10 143 mX10_twoOfOne := Or.inl (tb_at (i := 863) (by decide +kernel))
theorem lkX10_146 : ax_LK RX10 146 mX10_nobody := Or.inl (tb_at (i := 867) (by decide +kernel))
theorem lkX10_149 : ax_LK RX10 149 mX10_pairs := Or.inl (tb_at (i := 871) (by decide +kernel))
theorem lkX10_136 : ax_LK RX10 136 mX10_knownBy := Or.inl (tb_at (i := 875) (by decide +kernel))
theorem lkX10_133 : ax_LK RX10 133 mX10_remembered := Or.inl (tb_at (i := 879) (by decide +kernel))
theorem lkX10_140 : ax_LK RX10 140 mX10_bits := Or.inl (tb_at (i := 883) (by decide +kernel))
theorem lkL_35 : ax_LK RL 35 mX10_person := Or.inl (tb_at (i := 886) (by decide +kernel))
theorem lkX10_70 : ax_LK RX10 70 mX10_isPerson := Or.inl (tb_at (i := 890) (by decide +kernel))
theorem lkX10_153 : ax_LK RX10 153 mX10_whoKnow := Or.inl (tb_at (i := 895) (by decide +kernel))
theorem lkL_39 : ax_LK RL 39 mX10_remembers := Or.inl (tb_at (i := 899) (by decide +kernel))
theorem lkX10_156 : ax_LK RX10 156 mX10_areTwo := Or.inl (tb_at (i := 903) (by decide +kernel))
theorem lkL_43 : ax_LK RL 43 mX10_year := Or.inl (tb_at (i := 907) (by decide +kernel))
theorem lkX10_172 : ax_LK RX10 172 mX10_yearsRefused := Or.inl (tb_at (i := 911) (by decide +kernel))
theorem lkX10_175 : ax_LK RX10 175 mX10_remember := Or.inl (tb_at (i := 917) (by decide +kernel))
theorem lkX10_178 : ax_LK RX10 178 mX10_pass := Or.inl (tb_at (i := 921) (by decide +kernel))
theorem lkL_47 : ax_LK RL 47 mX10_meet := Or.inl (tb_at (i := 925) (by decide +kernel))
theorem lkX10_163 : ax_LK RX10 163 mX10_apart := Or.inl (tb_at (i := 929) (by decide +kernel))
theorem lkL_51 : ax_LK RL 51 mX10_forget := Or.inl (tb_at (i := 932) (by decide +kernel))
theorem lkL_56 : ax_LK RL 56 mX10_parade := Or.inl (tb_at (i := 936) (by decide +kernel))
theorem lkX10_184 : ax_LK RX10 184 mX10_rowRefused := Or.inl (tb_at (i := 940) (by decide +kernel))
theorem lkX10_181 : ax_LK RX10 181 mX10_isRow := Or.inl (tb_at (i := 944) (by decide +kernel))
theorem lkX10_160 : ax_LK RX10 160 mX10_has := Or.inl (tb_at (i := 948) (by decide +kernel))
theorem lkX10_188 : ax_LK RX10 188 mX10_unknownTo := Or.inl (tb_at (i := 951) (by decide +kernel))
theorem lkX10_166 : ax_LK RX10 166 mX10_pickBy := Or.inl (tb_at (i := 955) (by decide +kernel))
theorem lkL_60 : ax_LK RL 60 mX10_mark := Or.inl (tb_at (i := 959) (by decide +kernel))
theorem lkL_64 : ax_LK RL 64 mX10_drift := Or.inl (tb_at (i := 964) (by decide +kernel))
theorem lkX10_203 : ax_LK RX10 203 mX10_draw := Or.inl (tb_at (i := 968) (by decide +kernel))
theorem lkL_68 : ax_LK RL 68 mX10_undo := Or.inl (tb_at (i := 976) (by decide +kernel))
theorem lkL_72 : ax_LK RL 72 mX10_sure := Or.inl (tb_at (i := 980) (by decide +kernel))
theorem lkX10_206 : ax_LK RX10 206 mX10_sureBy := Or.inl (tb_at (i := 984) (by decide +kernel))
theorem lkL_76 : ax_LK RL 76 mX10_bestRow := Or.inl (tb_at (i := 988) (by decide +kernel))
theorem lkL_81 : ax_LK RL 81 mX10_odds := Or.inl (tb_at (i := 994) (by decide +kernel))
theorem lkL_85 : ax_LK RL 85 mX10_ask := Or.inl (tb_at (i := 999) (by decide +kernel))
theorem lkL_89 : ax_LK RL 89 mX10_ring := Or.inl (tb_at (i := 1003) (by decide +kernel))
theorem lkX10_214 : ax_LK RX10 214 mX10_ringOf := Or.inl (tb_at (i := 1007) (by decide +kernel))
theorem lkL_93 : ax_LK RL 93 mX10_rings := Or.inl (tb_at (i := 1011) (by decide +kernel))
theorem lkL_97 : ax_LK RL 97 mX10_mask := Or.inl (tb_at (i := 1015) (by decide +kernel))
theorem lkL_101 : ax_LK RL 101 mX10_spoil := Or.inl (tb_at (i := 1019) (by decide +kernel))
theorem lkL_106 : ax_LK RL 106 mX10_impostor := Or.inl (tb_at (i := 1023) (by decide +kernel))
theorem lkL_110 : ax_LK RL 110 mX10_lost := Or.inl (tb_at (i := 1027) (by decide +kernel))
theorem lkL_114 : ax_LK RL 114 mX10_alike := Or.inl (tb_at (i := 1031) (by decide +kernel))
theorem lkL_118 : ax_LK RL 118 mX10_see := Or.inl (tb_at (i := 1035) (by decide +kernel))
theorem lkL_122 : ax_LK RL 122 mX10_honest := Or.inl (tb_at (i := 1039) (by decide +kernel))
theorem lkX10_217 : ax_LK RX10 217 mX10_nodsOf := Or.inl (tb_at (i := 1043) (by decide +kernel))
theorem lkL_126 : ax_LK RL 126 mX10_nods := Or.inl (tb_at (i := 1047) (by decide +kernel))
theorem lkL_130 : ax_LK RL 130 mX10_showNext := Or.inl (tb_at (i := 1051) (by decide +kernel))
theorem lkX10_220 : ax_LK RX10 220 mX10_spread := Or.inl (tb_at (i := 1055) (by decide +kernel))
theorem lkL_134 : ax_LK RL 134 mX10_write := Or.inl (tb_at (i := 1059) (by decide +kernel))
theorem lkL_138 : ax_LK RL 138 mX10_tear := Or.inl (tb_at (i := 1063) (by decide +kernel))
theorem lkL_142 : ax_LK RL 142 mX10_judge := Or.inl (tb_at (i := 1067) (by decide +kernel))
theorem lkL_146 : ax_LK RL 146 mX10_seed := Or.inl (tb_at (i := 1071) (by decide +kernel))
theorem lkL_150 : ax_LK RL 150 mX10_keep := Or.inl (tb_at (i := 1075) (by decide +kernel))
theorem lkL_154 : ax_LK RL 154 mX10_goBack := Or.inl (tb_at (i := 1079) (by decide +kernel))
theorem flX8_9 : ax_F RX8 9 6 0 (.array .int) true := ⟨RX8, TX8, 6, tyX8, rfl, inX8, tyX8_ok, nmX8, by decide, rfl, rfl, rfl, Or.inl (tb_at (i := 30) (by decide +kernel))⟩
theorem ffX8_9 : ∃ (C : String) (T : u_T) (N : Nat), vwCl[6]? = some (C, T, N) ∧ C = RX8 ∧ Cond.fieldLink RX8 9 (T 0).1 (T 0).2.1 (T 0).2.2.1 ∈ lw_tbl := ⟨_, _, _, rfl, rfl, (tb_at (i := 30) (by decide +kernel))⟩
theorem flX8_19 : ax_F RX8 19 6 1 (.int) false := ⟨RX8, TX8, 6, tyX8, rfl, inX8, tyX8_ok, nmX8, by decide, rfl, rfl, rfl, Or.inl (tb_at (i := 31) (by decide +kernel))⟩
theorem flX9_104 : ax_F RX9 104 6 1 (.int) false := ⟨RX8, TX8, 6, tyX8, rfl, inX8, tyX8_ok, nmX8, by decide, rfl, rfl, rfl, Or.inr ⟨"ParadeRow", (tb_at (i := 32) (by decide +kernel))⟩⟩
theorem flX8_15 : ax_F RX8 15 6 2 (.int) false := ⟨RX8, TX8, 6, tyX8, rfl, inX8, tyX8_ok, nmX8, by decide, rfl, rfl, rfl, Or.inl (tb_at (i := 33) (by decide +kernel))⟩
theorem flX9_101 : ax_F RX9 101 6 2 (.int) false := ⟨RX8, TX8, 6, tyX8, rfl, inX8, tyX8_ok, nmX8, by decide, rfl, rfl, rfl, Or.inr ⟨"ParadeRow", (tb_at (i := 34) (by decide +kernel))⟩⟩
theorem flX8_34 : ax_F RX8 34 6 3 (.int) false := ⟨RX8, TX8, 6, tyX8, rfl, inX8, tyX8_ok, nmX8, by decide, rfl, rfl, rfl, Or.inl (tb_at (i := 35) (by decide +kernel))⟩
theorem flX8_31 : ax_F RX8 31 6 4 (.int) false := ⟨RX8, TX8, 6, tyX8, rfl, inX8, tyX8_ok, nmX8, by decide, rfl, rfl, rfl, Or.inl (tb_at (i := 36) (by decide +kernel))⟩
theorem flX8_75 : ax_F RX8 75 6 5 (.int) false := ⟨RX8, TX8, 6, tyX8, rfl, inX8, tyX8_ok, nmX8, by decide, rfl, rfl, rfl, Or.inl (tb_at (i := 37) (by decide +kernel))⟩
theorem flX5_9 : ax_F RX5 9 4 0 (.array .int) true := ⟨RX5, TX5, 6, tyX5, rfl, inX5, tyX5_ok, nmX5, by decide, rfl, rfl, rfl, Or.inl (tb_at (i := 61) (by decide +kernel))⟩
theorem ffX5_9 : ∃ (C : String) (T : u_T) (N : Nat), vwCl[4]? = some (C, T, N) ∧ C = RX5 ∧ Cond.fieldLink RX5 9 (T 0).1 (T 0).2.1 (T 0).2.2.1 ∈ lw_tbl := ⟨_, _, _, rfl, rfl, (tb_at (i := 61) (by decide +kernel))⟩
theorem flX5_15 : ax_F RX5 15 4 1 (.array .int) true := ⟨RX5, TX5, 6, tyX5, rfl, inX5, tyX5_ok, nmX5, by decide, rfl, rfl, rfl, Or.inl (tb_at (i := 62) (by decide +kernel))⟩
theorem ffX5_15 : ∃ (C : String) (T : u_T) (N : Nat), vwCl[4]? = some (C, T, N) ∧ C = RX5 ∧ Cond.fieldLink RX5 15 (T 1).1 (T 1).2.1 (T 1).2.2.1 ∈ lw_tbl := ⟨_, _, _, rfl, rfl, (tb_at (i := 62) (by decide +kernel))⟩
theorem flX5_18 : ax_F RX5 18 4 2 (.array .int) true := ⟨RX5, TX5, 6, tyX5, rfl, inX5, tyX5_ok, nmX5, by decide, rfl, rfl, rfl, Or.inl (tb_at (i := 63) (by decide +kernel))⟩
theorem ffX5_18 : ∃ (C : String) (T : u_T) (N : Nat), vwCl[4]? = some (C, T, N) ∧ C = RX5 ∧ Cond.fieldLink RX5 18 (T 2).1 (T 2).2.1 (T 2).2.2.1 ∈ lw_tbl := ⟨_, _, _, rfl, rfl, (tb_at (i := 63) (by decide +kernel))⟩
theorem flX5_21 : ax_F RX5 21 4 3 (.array .int) true := ⟨RX5, TX5, 6, tyX5, rfl, inX5, tyX5_ok, nmX5, by decide, rfl, rfl, rfl, Or.inl (tb_at (i := 64) (by decide +kernel))⟩
theorem ffX5_21 : ∃ (C : String) (T : u_T) (N : Nat), vwCl[4]? = some (C, T, N) ∧ C = RX5 ∧ Cond.fieldLink RX5 21 (T 3).1 (T 3).2.1 (T 3).2.2.1 ∈ lw_tbl := ⟨_, _, _, rfl, rfl, (tb_at (i := 64) (by decide +kernel))⟩
theorem flX5_30 : ax_F RX5 30 4 4 (.int) false := ⟨RX5, TX5, 6, tyX5, rfl, inX5, tyX5_ok, nmX5, by decide, rfl, rfl, rfl, Or.inl (tb_at (i := 65) (by decide +kernel))⟩
theorem flX6_31 : ax_F RX6 31 4 4 (.int) false := ⟨RX5, TX5, 6, tyX5, rfl, inX5, tyX5_ok, nmX5, by decide, rfl, rfl, rfl, Or.inr ⟨"ParadeRow", (tb_at (i := 66) (by decide +kernel))⟩⟩
theorem flX9_97 : ax_F RX9 97 4 4 (.int) false := ⟨RX5, TX5, 6, tyX5, rfl, inX5, tyX5_ok, nmX5, by decide, rfl, rfl, rfl, Or.inr ⟨"ParadeRow", (tb_at (i := 67) (by decide +kernel))⟩⟩
theorem flX2_26 : ax_F RX2 26 4 4 (.int) false := ⟨RX5, TX5, 6, tyX5, rfl, inX5, tyX5_ok, nmX5, by decide, rfl, rfl, rfl, Or.inr ⟨"ParadeRow", (tb_at (i := 68) (by decide +kernel))⟩⟩
theorem flX8_58 : ax_F RX8 58 4 4 (.int) false := ⟨RX5, TX5, 6, tyX5, rfl, inX5, tyX5_ok, nmX5, by decide, rfl, rfl, rfl, Or.inr ⟨"ParadeRow", (tb_at (i := 69) (by decide +kernel))⟩⟩
theorem flX5_34 : ax_F RX5 34 4 5 (.int) false := ⟨RX5, TX5, 6, tyX5, rfl, inX5, tyX5_ok, nmX5, by decide, rfl, rfl, rfl, Or.inl (tb_at (i := 70) (by decide +kernel))⟩
theorem flX9_107 : ax_F RX9 107 4 5 (.int) false := ⟨RX5, TX5, 6, tyX5, rfl, inX5, tyX5_ok, nmX5, by decide, rfl, rfl, rfl, Or.inr ⟨"ParadeRow", (tb_at (i := 71) (by decide +kernel))⟩⟩
theorem flX4_11 : ax_F RX4 11 3 0 (.array (.object "ParadeRow$People")) true := ⟨RX4, TX4, 3, tyX4, rfl, inX4, tyX4_ok, nmX4, by decide, rfl, rfl, rfl, Or.inl (tb_at (i := 94) (by decide +kernel))⟩
theorem ffX4_11 : ∃ (C : String) (T : u_T) (N : Nat), vwCl[3]? = some (C, T, N) ∧ C = RX4 ∧ Cond.fieldLink RX4 11 (T 0).1 (T 0).2.1 (T 0).2.2.1 ∈ lw_tbl := ⟨_, _, _, rfl, rfl, (tb_at (i := 94) (by decide +kernel))⟩
theorem flX4_22 : ax_F RX4 22 3 1 (.int) false := ⟨RX4, TX4, 3, tyX4, rfl, inX4, tyX4_ok, nmX4, by decide, rfl, rfl, rfl, Or.inl (tb_at (i := 95) (by decide +kernel))⟩
theorem flX4_18 : ax_F RX4 18 3 2 (.int) false := ⟨RX4, TX4, 3, tyX4, rfl, inX4, tyX4_ok, nmX4, by decide, rfl, rfl, rfl, Or.inl (tb_at (i := 96) (by decide +kernel))⟩
theorem flX9_122 : ax_F RX9 122 3 2 (.int) false := ⟨RX4, TX4, 3, tyX4, rfl, inX4, tyX4_ok, nmX4, by decide, rfl, rfl, rfl, Or.inr ⟨"ParadeRow", (tb_at (i := 97) (by decide +kernel))⟩⟩
theorem flX7_9 : ax_F RX7 9 5 0 (.array .int) true := ⟨RX7, TX7, 5, tyX7, rfl, inX7, tyX7_ok, nmX7, by decide, rfl, rfl, rfl, Or.inl (tb_at (i := 111) (by decide +kernel))⟩
theorem ffX7_9 : ∃ (C : String) (T : u_T) (N : Nat), vwCl[5]? = some (C, T, N) ∧ C = RX7 ∧ Cond.fieldLink RX7 9 (T 0).1 (T 0).2.1 (T 0).2.2.1 ∈ lw_tbl := ⟨_, _, _, rfl, rfl, (tb_at (i := 111) (by decide +kernel))⟩
theorem flX7_15 : ax_F RX7 15 5 1 (.array .int) true := ⟨RX7, TX7, 5, tyX7, rfl, inX7, tyX7_ok, nmX7, by decide, rfl, rfl, rfl, Or.inl (tb_at (i := 112) (by decide +kernel))⟩
theorem ffX7_15 : ∃ (C : String) (T : u_T) (N : Nat), vwCl[5]? = some (C, T, N) ∧ C = RX7 ∧ Cond.fieldLink RX7 15 (T 1).1 (T 1).2.1 (T 1).2.2.1 ∈ lw_tbl := ⟨_, _, _, rfl, rfl, (tb_at (i := 112) (by decide +kernel))⟩
theorem flX7_18 : ax_F RX7 18 5 2 (.array .int) true := ⟨RX7, TX7, 5, tyX7, rfl, inX7, tyX7_ok, nmX7, by decide, rfl, rfl, rfl, Or.inl (tb_at (i := 113) (by decide +kernel))⟩
theorem ffX7_18 : ∃ (C : String) (T : u_T) (N : Nat), vwCl[5]? = some (C, T, N) ∧ C = RX7 ∧ Cond.fieldLink RX7 18 (T 2).1 (T 2).2.1 (T 2).2.2.1 ∈ lw_tbl := ⟨_, _, _, rfl, rfl, (tb_at (i := 113) (by decide +kernel))⟩
theorem flX7_21 : ax_F RX7 21 5 3 (.array .int) true := ⟨RX7, TX7, 5, tyX7, rfl, inX7, tyX7_ok, nmX7, by decide, rfl, rfl, rfl, Or.inl (tb_at (i := 114) (by decide +kernel))⟩
theorem ffX7_21 : ∃ (C : String) (T : u_T) (N : Nat), vwCl[5]? = some (C, T, N) ∧ C = RX7 ∧ Cond.fieldLink RX7 21 (T 3).1 (T 3).2.1 (T 3).2.2.1 ∈ lw_tbl := ⟨_, _, _, rfl, rfl, (tb_at (i := 114) (by decide +kernel))⟩
theorem flX7_24 : ax_F RX7 24 5 4 (.int) false := ⟨RX7, TX7, 5, tyX7, rfl, inX7, tyX7_ok, nmX7, by decide, rfl, rfl, rfl, Or.inl (tb_at (i := 115) (by decide +kernel))⟩
theorem flX9_120 : ax_F RX9 120 5 4 (.int) false := ⟨RX7, TX7, 5, tyX7, rfl, inX7, tyX7_ok, nmX7, by decide, rfl, rfl, rfl, Or.inr ⟨"ParadeRow", (tb_at (i := 116) (by decide +kernel))⟩⟩
theorem flX0_9 : ax_F RX0 9 0 0 (.array .int) true := ⟨RX0, TX0, 3, tyX0, rfl, inX0, tyX0_ok, nmX0, by decide, rfl, rfl, rfl, Or.inl (tb_at (i := 134) (by decide +kernel))⟩
theorem ffX0_9 : ∃ (C : String) (T : u_T) (N : Nat), vwCl[0]? = some (C, T, N) ∧ C = RX0 ∧ Cond.fieldLink RX0 9 (T 0).1 (T 0).2.1 (T 0).2.2.1 ∈ lw_tbl := ⟨_, _, _, rfl, rfl, (tb_at (i := 134) (by decide +kernel))⟩
theorem flX0_15 : ax_F RX0 15 0 1 (.array .int) true := ⟨RX0, TX0, 3, tyX0, rfl, inX0, tyX0_ok, nmX0, by decide, rfl, rfl, rfl, Or.inl (tb_at (i := 135) (by decide +kernel))⟩
theorem ffX0_15 : ∃ (C : String) (T : u_T) (N : Nat), vwCl[0]? = some (C, T, N) ∧ C = RX0 ∧ Cond.fieldLink RX0 15 (T 1).1 (T 1).2.1 (T 1).2.2.1 ∈ lw_tbl := ⟨_, _, _, rfl, rfl, (tb_at (i := 135) (by decide +kernel))⟩
theorem flX0_18 : ax_F RX0 18 0 2 (.int) false := ⟨RX0, TX0, 3, tyX0, rfl, inX0, tyX0_ok, nmX0, by decide, rfl, rfl, rfl, Or.inl (tb_at (i := 136) (by decide +kernel))⟩
theorem flX9_121 : ax_F RX9 121 0 2 (.int) false := ⟨RX0, TX0, 3, tyX0, rfl, inX0, tyX0_ok, nmX0, by decide, rfl, rfl, rfl, Or.inr ⟨"ParadeRow", (tb_at (i := 137) (by decide +kernel))⟩⟩
theorem flX1_7 : ax_F RX1 7 1 0 (.int) false := ⟨RX1, TX1, 1, tyX1, rfl, inX1, tyX1_ok, nmX1, by decide, rfl, rfl, rfl, Or.inl (tb_at (i := 151) (by decide +kernel))⟩
theorem flX9_271 : ax_F RX9 271 1 0 (.int) false := ⟨RX1, TX1, 1, tyX1, rfl, inX1, tyX1_ok, nmX1, by decide, rfl, rfl, rfl, Or.inr ⟨"ParadeRow", (tb_at (i := 152) (by decide +kernel))⟩⟩
theorem flX3_10 : ax_F RX3 10 2 0 (.object "ParadeRow$People") true := ⟨RX3, TX3, 3, tyX3, rfl, inX3, tyX3_ok, nmX3, by decide, rfl, rfl, rfl, Or.inl (tb_at (i := 164) (by decide +kernel))⟩
theorem ffX3_10 : ∃ (C : String) (T : u_T) (N : Nat), vwCl[2]? = some (C, T, N) ∧ C = RX3 ∧ Cond.fieldLink RX3 10 (T 0).1 (T 0).2.1 (T 0).2.2.1 ∈ lw_tbl := ⟨_, _, _, rfl, rfl, (tb_at (i := 164) (by decide +kernel))⟩
theorem flX9_286 : ax_F RX9 286 2 0 (.object "ParadeRow$People") true := ⟨RX3, TX3, 3, tyX3, rfl, inX3, tyX3_ok, nmX3, by decide, rfl, rfl, rfl, Or.inr ⟨"ParadeRow", (tb_at (i := 165) (by decide +kernel))⟩⟩
theorem flX3_20 : ax_F RX3 20 2 1 (.int) false := ⟨RX3, TX3, 3, tyX3, rfl, inX3, tyX3_ok, nmX3, by decide, rfl, rfl, rfl, Or.inl (tb_at (i := 166) (by decide +kernel))⟩
theorem flX9_289 : ax_F RX9 289 2 1 (.int) false := ⟨RX3, TX3, 3, tyX3, rfl, inX3, tyX3_ok, nmX3, by decide, rfl, rfl, rfl, Or.inr ⟨"ParadeRow", (tb_at (i := 167) (by decide +kernel))⟩⟩
theorem flX3_24 : ax_F RX3 24 2 2 (.boolean) false := ⟨RX3, TX3, 3, tyX3, rfl, inX3, tyX3_ok, nmX3, by decide, rfl, rfl, rfl, Or.inl (tb_at (i := 168) (by decide +kernel))⟩
theorem flX9_282 : ax_F RX9 282 2 2 (.boolean) false := ⟨RX3, TX3, 3, tyX3, rfl, inX3, tyX3_ok, nmX3, by decide, rfl, rfl, rfl, Or.inr ⟨"ParadeRow", (tb_at (i := 169) (by decide +kernel))⟩⟩
theorem flX9_10 : ax_F RX9 10 7 0 (.object "ParadeRow$Text") true := ⟨RX9, TX9, 9, tyX9, rfl, inX9, tyX9_ok, nmX9, by decide, rfl, rfl, rfl, Or.inl (tb_at (i := 177) (by decide +kernel))⟩
theorem ffX9_10 : ∃ (C : String) (T : u_T) (N : Nat), vwCl[7]? = some (C, T, N) ∧ C = RX9 ∧ Cond.fieldLink RX9 10 (T 0).1 (T 0).2.1 (T 0).2.2.1 ∈ lw_tbl := ⟨_, _, _, rfl, rfl, (tb_at (i := 177) (by decide +kernel))⟩
theorem flX9_19 : ax_F RX9 19 7 1 (.object "ParadeRow$People") true := ⟨RX9, TX9, 9, tyX9, rfl, inX9, tyX9_ok, nmX9, by decide, rfl, rfl, rfl, Or.inl (tb_at (i := 178) (by decide +kernel))⟩
theorem ffX9_19 : ∃ (C : String) (T : u_T) (N : Nat), vwCl[7]? = some (C, T, N) ∧ C = RX9 ∧ Cond.fieldLink RX9 19 (T 1).1 (T 1).2.1 (T 1).2.2.1 ∈ lw_tbl := ⟨_, _, _, rfl, rfl, (tb_at (i := 178) (by decide +kernel))⟩
theorem flX9_23 : ax_F RX9 23 7 2 (.object "ParadeRow$People") true := ⟨RX9, TX9, 9, tyX9, rfl, inX9, tyX9_ok, nmX9, by decide, rfl, rfl, rfl, Or.inl (tb_at (i := 179) (by decide +kernel))⟩
theorem ffX9_23 : ∃ (C : String) (T : u_T) (N : Nat), vwCl[7]? = some (C, T, N) ∧ C = RX9 ∧ Cond.fieldLink RX9 23 (T 2).1 (T 2).2.1 (T 2).2.2.1 ∈ lw_tbl := ⟨_, _, _, rfl, rfl, (tb_at (i := 179) (by decide +kernel))⟩
theorem flX9_29 : ax_F RX9 29 7 3 (.object "ParadeRow$Past") true := ⟨RX9, TX9, 9, tyX9, rfl, inX9, tyX9_ok, nmX9, by decide, rfl, rfl, rfl, Or.inl (tb_at (i := 180) (by decide +kernel))⟩
theorem ffX9_29 : ∃ (C : String) (T : u_T) (N : Nat), vwCl[7]? = some (C, T, N) ∧ C = RX9 ∧ Cond.fieldLink RX9 29 (T 3).1 (T 3).2.1 (T 3).2.2.1 ∈ lw_tbl := ⟨_, _, _, rfl, rfl, (tb_at (i := 180) (by decide +kernel))⟩
theorem flX9_36 : ax_F RX9 36 7 4 (.object "ParadeRow$Sightings") true := ⟨RX9, TX9, 9, tyX9, rfl, inX9, tyX9_ok, nmX9, by decide, rfl, rfl, rfl, Or.inl (tb_at (i := 181) (by decide +kernel))⟩
theorem ffX9_36 : ∃ (C : String) (T : u_T) (N : Nat), vwCl[7]? = some (C, T, N) ∧ C = RX9 ∧ Cond.fieldLink RX9 36 (T 4).1 (T 4).2.1 (T 4).2.2.1 ∈ lw_tbl := ⟨_, _, _, rfl, rfl, (tb_at (i := 181) (by decide +kernel))⟩
theorem flX9_43 : ax_F RX9 43 7 5 (.object "ParadeRow$Book") true := ⟨RX9, TX9, 9, tyX9, rfl, inX9, tyX9_ok, nmX9, by decide, rfl, rfl, rfl, Or.inl (tb_at (i := 182) (by decide +kernel))⟩
theorem ffX9_43 : ∃ (C : String) (T : u_T) (N : Nat), vwCl[7]? = some (C, T, N) ∧ C = RX9 ∧ Cond.fieldLink RX9 43 (T 5).1 (T 5).2.1 (T 5).2.2.1 ∈ lw_tbl := ⟨_, _, _, rfl, rfl, (tb_at (i := 182) (by decide +kernel))⟩
theorem flX9_50 : ax_F RX9 50 7 6 (.object "ParadeRow$Draws") true := ⟨RX9, TX9, 9, tyX9, rfl, inX9, tyX9_ok, nmX9, by decide, rfl, rfl, rfl, Or.inl (tb_at (i := 183) (by decide +kernel))⟩
theorem ffX9_50 : ∃ (C : String) (T : u_T) (N : Nat), vwCl[7]? = some (C, T, N) ∧ C = RX9 ∧ Cond.fieldLink RX9 50 (T 6).1 (T 6).2.1 (T 6).2.2.1 ∈ lw_tbl := ⟨_, _, _, rfl, rfl, (tb_at (i := 183) (by decide +kernel))⟩
theorem flX9_57 : ax_F RX9 57 7 7 (.object "ParadeRow$Image") true := ⟨RX9, TX9, 9, tyX9, rfl, inX9, tyX9_ok, nmX9, by decide, rfl, rfl, rfl, Or.inl (tb_at (i := 184) (by decide +kernel))⟩
theorem ffX9_57 : ∃ (C : String) (T : u_T) (N : Nat), vwCl[7]? = some (C, T, N) ∧ C = RX9 ∧ Cond.fieldLink RX9 57 (T 7).1 (T 7).2.1 (T 7).2.2.1 ∈ lw_tbl := ⟨_, _, _, rfl, rfl, (tb_at (i := 184) (by decide +kernel))⟩
theorem flX9_61 : ax_F RX9 61 7 8 (.object "ParadeRow$Image") true := ⟨RX9, TX9, 9, tyX9, rfl, inX9, tyX9_ok, nmX9, by decide, rfl, rfl, rfl, Or.inl (tb_at (i := 185) (by decide +kernel))⟩
theorem ffX9_61 : ∃ (C : String) (T : u_T) (N : Nat), vwCl[7]? = some (C, T, N) ∧ C = RX9 ∧ Cond.fieldLink RX9 61 (T 8).1 (T 8).2.1 (T 8).2.2.1 ∈ lw_tbl := ⟨_, _, _, rfl, rfl, (tb_at (i := 185) (by decide +kernel))⟩
theorem flX10_63 : ax_F RX10 63 8 0 (.int) false := ⟨RX10, TX10, 27, tyX10, rfl, inX10, tyX10_ok, nmX10, by decide, rfl, rfl, rfl, Or.inl (tb_at (i := 724) (by decide +kernel))⟩
theorem flX10_7 : ax_F RX10 7 8 1 (.array .int) true := ⟨RX10, TX10, 27, tyX10, rfl, inX10, tyX10_ok, nmX10, by decide, rfl, rfl, rfl, Or.inl (tb_at (i := 725) (by decide +kernel))⟩
theorem ffX10_7 : ∃ (C : String) (T : u_T) (N : Nat), vwCl[8]? = some (C, T, N) ∧ C = RX10 ∧ Cond.fieldLink RX10 7 (T 1).1 (T 1).2.1 (T 1).2.2.1 ∈ lw_tbl := ⟨_, _, _, rfl, rfl, (tb_at (i := 725) (by decide +kernel))⟩
theorem flX10_13 : ax_F RX10 13 8 2 (.array .int) true := ⟨RX10, TX10, 27, tyX10, rfl, inX10, tyX10_ok, nmX10, by decide, rfl, rfl, rfl, Or.inl (tb_at (i := 726) (by decide +kernel))⟩
theorem ffX10_13 : ∃ (C : String) (T : u_T) (N : Nat), vwCl[8]? = some (C, T, N) ∧ C = RX10 ∧ Cond.fieldLink RX10 13 (T 2).1 (T 2).2.1 (T 2).2.2.1 ∈ lw_tbl := ⟨_, _, _, rfl, rfl, (tb_at (i := 726) (by decide +kernel))⟩
theorem flX10_193 : ax_F RX10 193 8 3 (.int) false := ⟨RX10, TX10, 27, tyX10, rfl, inX10, tyX10_ok, nmX10, by decide, rfl, rfl, rfl, Or.inl (tb_at (i := 727) (by decide +kernel))⟩
theorem flX10_16 : ax_F RX10 16 8 4 (.array .int) true := ⟨RX10, TX10, 27, tyX10, rfl, inX10, tyX10_ok, nmX10, by decide, rfl, rfl, rfl, Or.inl (tb_at (i := 728) (by decide +kernel))⟩
theorem ffX10_16 : ∃ (C : String) (T : u_T) (N : Nat), vwCl[8]? = some (C, T, N) ∧ C = RX10 ∧ Cond.fieldLink RX10 16 (T 4).1 (T 4).2.1 (T 4).2.2.1 ∈ lw_tbl := ⟨_, _, _, rfl, rfl, (tb_at (i := 728) (by decide +kernel))⟩
theorem flX10_77 : ax_F RX10 77 8 5 (.int) false := ⟨RX10, TX10, 27, tyX10, rfl, inX10, tyX10_ok, nmX10, by decide, rfl, rfl, rfl, Or.inl (tb_at (i := 729) (by decide +kernel))⟩
theorem flX10_19 : ax_F RX10 19 8 6 (.int) false := ⟨RX10, TX10, 27, tyX10, rfl, inX10, tyX10_ok, nmX10, by decide, rfl, rfl, rfl, Or.inl (tb_at (i := 730) (by decide +kernel))⟩
theorem flX10_81 : ax_F RX10 81 8 7 (.int) false := ⟨RX10, TX10, 27, tyX10, rfl, inX10, tyX10_ok, nmX10, by decide, rfl, rfl, rfl, Or.inl (tb_at (i := 731) (by decide +kernel))⟩
theorem flX10_99 : ax_F RX10 99 8 8 (.int) false := ⟨RX10, TX10, 27, tyX10, rfl, inX10, tyX10_ok, nmX10, by decide, rfl, rfl, rfl, Or.inl (tb_at (i := 732) (by decide +kernel))⟩
theorem flX10_96 : ax_F RX10 96 8 9 (.int) false := ⟨RX10, TX10, 27, tyX10, rfl, inX10, tyX10_ok, nmX10, by decide, rfl, rfl, rfl, Or.inl (tb_at (i := 733) (by decide +kernel))⟩
theorem flX10_105 : ax_F RX10 105 8 10 (.int) false := ⟨RX10, TX10, 27, tyX10, rfl, inX10, tyX10_ok, nmX10, by decide, rfl, rfl, rfl, Or.inl (tb_at (i := 734) (by decide +kernel))⟩
theorem flX10_23 : ax_F RX10 23 8 11 (.array .int) true := ⟨RX10, TX10, 27, tyX10, rfl, inX10, tyX10_ok, nmX10, by decide, rfl, rfl, rfl, Or.inl (tb_at (i := 735) (by decide +kernel))⟩
theorem ffX10_23 : ∃ (C : String) (T : u_T) (N : Nat), vwCl[8]? = some (C, T, N) ∧ C = RX10 ∧ Cond.fieldLink RX10 23 (T 11).1 (T 11).2.1 (T 11).2.2.1 ∈ lw_tbl := ⟨_, _, _, rfl, rfl, (tb_at (i := 735) (by decide +kernel))⟩
theorem flX10_26 : ax_F RX10 26 8 12 (.array .int) true := ⟨RX10, TX10, 27, tyX10, rfl, inX10, tyX10_ok, nmX10, by decide, rfl, rfl, rfl, Or.inl (tb_at (i := 736) (by decide +kernel))⟩
theorem ffX10_26 : ∃ (C : String) (T : u_T) (N : Nat), vwCl[8]? = some (C, T, N) ∧ C = RX10 ∧ Cond.fieldLink RX10 26 (T 12).1 (T 12).2.1 (T 12).2.2.1 ∈ lw_tbl := ⟨_, _, _, rfl, rfl, (tb_at (i := 736) (by decide +kernel))⟩
theorem flX10_29 : ax_F RX10 29 8 13 (.array .boolean) true := ⟨RX10, TX10, 27, tyX10, rfl, inX10, tyX10_ok, nmX10, by decide, rfl, rfl, rfl, Or.inl (tb_at (i := 737) (by decide +kernel))⟩
theorem ffX10_29 : ∃ (C : String) (T : u_T) (N : Nat), vwCl[8]? = some (C, T, N) ∧ C = RX10 ∧ Cond.fieldLink RX10 29 (T 13).1 (T 13).2.1 (T 13).2.2.1 ∈ lw_tbl := ⟨_, _, _, rfl, rfl, (tb_at (i := 737) (by decide +kernel))⟩
theorem flX10_130 : ax_F RX10 130 8 14 (.int) false := ⟨RX10, TX10, 27, tyX10, rfl, inX10, tyX10_ok, nmX10, by decide, rfl, rfl, rfl, Or.inl (tb_at (i := 738) (by decide +kernel))⟩
theorem flX10_33 : ax_F RX10 33 8 15 (.array .int) true := ⟨RX10, TX10, 27, tyX10, rfl, inX10, tyX10_ok, nmX10, by decide, rfl, rfl, rfl, Or.inl (tb_at (i := 739) (by decide +kernel))⟩
theorem ffX10_33 : ∃ (C : String) (T : u_T) (N : Nat), vwCl[8]? = some (C, T, N) ∧ C = RX10 ∧ Cond.fieldLink RX10 33 (T 15).1 (T 15).2.1 (T 15).2.2.1 ∈ lw_tbl := ⟨_, _, _, rfl, rfl, (tb_at (i := 739) (by decide +kernel))⟩
theorem flX10_36 : ax_F RX10 36 8 16 (.array .int) true := ⟨RX10, TX10, 27, tyX10, rfl, inX10, tyX10_ok, nmX10, by decide, rfl, rfl, rfl, Or.inl (tb_at (i := 740) (by decide +kernel))⟩
theorem ffX10_36 : ∃ (C : String) (T : u_T) (N : Nat), vwCl[8]? = some (C, T, N) ∧ C = RX10 ∧ Cond.fieldLink RX10 36 (T 16).1 (T 16).2.1 (T 16).2.2.1 ∈ lw_tbl := ⟨_, _, _, rfl, rfl, (tb_at (i := 740) (by decide +kernel))⟩
theorem flX10_124 : ax_F RX10 124 8 17 (.int) false := ⟨RX10, TX10, 27, tyX10, rfl, inX10, tyX10_ok, nmX10, by decide, rfl, rfl, rfl, Or.inl (tb_at (i := 741) (by decide +kernel))⟩
theorem flX10_39 : ax_F RX10 39 8 18 (.array .int) true := ⟨RX10, TX10, 27, tyX10, rfl, inX10, tyX10_ok, nmX10, by decide, rfl, rfl, rfl, Or.inl (tb_at (i := 742) (by decide +kernel))⟩
theorem ffX10_39 : ∃ (C : String) (T : u_T) (N : Nat), vwCl[8]? = some (C, T, N) ∧ C = RX10 ∧ Cond.fieldLink RX10 39 (T 18).1 (T 18).2.1 (T 18).2.2.1 ∈ lw_tbl := ⟨_, _, _, rfl, rfl, (tb_at (i := 742) (by decide +kernel))⟩
theorem flX10_42 : ax_F RX10 42 8 19 (.array .int) true := ⟨RX10, TX10, 27, tyX10, rfl, inX10, tyX10_ok, nmX10, by decide, rfl, rfl, rfl, Or.inl (tb_at (i := 743) (by decide +kernel))⟩
theorem ffX10_42 : ∃ (C : String) (T : u_T) (N : Nat), vwCl[8]? = some (C, T, N) ∧ C = RX10 ∧ Cond.fieldLink RX10 42 (T 19).1 (T 19).2.1 (T 19).2.2.1 ∈ lw_tbl := ⟨_, _, _, rfl, rfl, (tb_at (i := 743) (by decide +kernel))⟩
theorem flX10_45 : ax_F RX10 45 8 20 (.array .int) true := ⟨RX10, TX10, 27, tyX10, rfl, inX10, tyX10_ok, nmX10, by decide, rfl, rfl, rfl, Or.inl (tb_at (i := 744) (by decide +kernel))⟩
theorem ffX10_45 : ∃ (C : String) (T : u_T) (N : Nat), vwCl[8]? = some (C, T, N) ∧ C = RX10 ∧ Cond.fieldLink RX10 45 (T 20).1 (T 20).2.1 (T 20).2.2.1 ∈ lw_tbl := ⟨_, _, _, rfl, rfl, (tb_at (i := 744) (by decide +kernel))⟩
theorem flX10_48 : ax_F RX10 48 8 21 (.array .int) true := ⟨RX10, TX10, 27, tyX10, rfl, inX10, tyX10_ok, nmX10, by decide, rfl, rfl, rfl, Or.inl (tb_at (i := 745) (by decide +kernel))⟩
theorem ffX10_48 : ∃ (C : String) (T : u_T) (N : Nat), vwCl[8]? = some (C, T, N) ∧ C = RX10 ∧ Cond.fieldLink RX10 48 (T 21).1 (T 21).2.1 (T 21).2.2.1 ∈ lw_tbl := ⟨_, _, _, rfl, rfl, (tb_at (i := 745) (by decide +kernel))⟩
theorem flX10_127 : ax_F RX10 127 8 22 (.int) false := ⟨RX10, TX10, 27, tyX10, rfl, inX10, tyX10_ok, nmX10, by decide, rfl, rfl, rfl, Or.inl (tb_at (i := 746) (by decide +kernel))⟩
theorem flX10_51 : ax_F RX10 51 8 23 (.array .int) true := ⟨RX10, TX10, 27, tyX10, rfl, inX10, tyX10_ok, nmX10, by decide, rfl, rfl, rfl, Or.inl (tb_at (i := 747) (by decide +kernel))⟩
theorem ffX10_51 : ∃ (C : String) (T : u_T) (N : Nat), vwCl[8]? = some (C, T, N) ∧ C = RX10 ∧ Cond.fieldLink RX10 51 (T 23).1 (T 23).2.1 (T 23).2.2.1 ∈ lw_tbl := ⟨_, _, _, rfl, rfl, (tb_at (i := 747) (by decide +kernel))⟩
theorem flX10_54 : ax_F RX10 54 8 24 (.array .int) true := ⟨RX10, TX10, 27, tyX10, rfl, inX10, tyX10_ok, nmX10, by decide, rfl, rfl, rfl, Or.inl (tb_at (i := 748) (by decide +kernel))⟩
theorem ffX10_54 : ∃ (C : String) (T : u_T) (N : Nat), vwCl[8]? = some (C, T, N) ∧ C = RX10 ∧ Cond.fieldLink RX10 54 (T 24).1 (T 24).2.1 (T 24).2.2.1 ∈ lw_tbl := ⟨_, _, _, rfl, rfl, (tb_at (i := 748) (by decide +kernel))⟩
theorem flX10_57 : ax_F RX10 57 8 25 (.array .int) true := ⟨RX10, TX10, 27, tyX10, rfl, inX10, tyX10_ok, nmX10, by decide, rfl, rfl, rfl, Or.inl (tb_at (i := 749) (by decide +kernel))⟩
theorem ffX10_57 : ∃ (C : String) (T : u_T) (N : Nat), vwCl[8]? = some (C, T, N) ∧ C = RX10 ∧ Cond.fieldLink RX10 57 (T 25).1 (T 25).2.1 (T 25).2.2.1 ∈ lw_tbl := ⟨_, _, _, rfl, rfl, (tb_at (i := 749) (by decide +kernel))⟩
theorem flX10_60 : ax_F RX10 60 8 26 (.array .boolean) true := ⟨RX10, TX10, 27, tyX10, rfl, inX10, tyX10_ok, nmX10, by decide, rfl, rfl, rfl, Or.inl (tb_at (i := 750) (by decide +kernel))⟩
theorem ffX10_60 : ∃ (C : String) (T : u_T) (N : Nat), vwCl[8]? = some (C, T, N) ∧ C = RX10 ∧ Cond.fieldLink RX10 60 (T 26).1 (T 26).2.1 (T 26).2.2.1 ∈ lw_tbl := ⟨_, _, _, rfl, rfl, (tb_at (i := 750) (by decide +kernel))⟩
theorem cnX9_128 : Cond.constant RX9 128 (-1000000001) ∈ lw_tbl := (tb_at (i := 219) (by decide +kernel))
theorem cnX9_123 : Cond.constant RX9 123 (-1000000002) ∈ lw_tbl := (tb_at (i := 220) (by decide +kernel))
theorem cnX9_200 : Cond.constant RX9 200 (-1000000003) ∈ lw_tbl := (tb_at (i := 221) (by decide +kernel))
theorem cnX9_290 : Cond.constant RX9 290 (-1000000004) ∈ lw_tbl := (tb_at (i := 222) (by decide +kernel))
theorem cnJ6_265 : Cond.constant RJ6 265 (1431655765) ∈ lw_tbl := (tb_at (i := 354) (by decide +kernel))
theorem cnJ6_266 : Cond.constant RJ6 266 (858993459) ∈ lw_tbl := (tb_at (i := 355) (by decide +kernel))
theorem cnJ6_267 : Cond.constant RJ6 267 (252645135) ∈ lw_tbl := (tb_at (i := 356) (by decide +kernel))
theorem cnX1_13 : Cond.constant RX1 13 (1103515245) ∈ lw_tbl := (tb_at (i := 493) (by decide +kernel))
theorem cnX1_14 : Cond.constant RX1 14 (2147483647) ∈ lw_tbl := (tb_at (i := 494) (by decide +kernel))
theorem cnX1_15 : Cond.constant RX1 15 (65536) ∈ lw_tbl := (tb_at (i := 495) (by decide +kernel))
theorem cnX2_49 : Cond.constant RX2 49 (1000000) ∈ lw_tbl := (tb_at (i := 546) (by decide +kernel))
theorem cnX10_74 : Cond.constantLong RX10 74 (255) ∈ lw_tbl := (tb_at (i := 811) (by decide +kernel))
theorem cnX10_76 : Cond.constant RX10 76 (-1000000002) ∈ lw_tbl := (tb_at (i := 815) (by decide +kernel))
theorem cnX10_80 : Cond.constant RX10 80 (-1000000004) ∈ lw_tbl := (tb_at (i := 816) (by decide +kernel))
theorem cnX10_88 : Cond.constantLong RX10 88 (48) ∈ lw_tbl := (tb_at (i := 845) (by decide +kernel))
theorem cnX10_90 : Cond.constantLong RX10 90 (57) ∈ lw_tbl := (tb_at (i := 846) (by decide +kernel))
theorem cnX10_152 : Cond.constant RX10 152 (-1000000001) ∈ lw_tbl := (tb_at (i := 894) (by decide +kernel))
theorem cnX10_169 : Cond.constantLong RX10 169 (60) ∈ lw_tbl := (tb_at (i := 915) (by decide +kernel))
theorem cnX10_171 : Cond.constant RX10 171 (-1000000003) ∈ lw_tbl := (tb_at (i := 916) (by decide +kernel))
theorem cnX10_191 : Cond.constantLong RX10 191 (7) ∈ lw_tbl := (tb_at (i := 963) (by decide +kernel))
theorem cnX10_196 : Cond.constantLong RX10 196 (1103515245) ∈ lw_tbl := (tb_at (i := 972) (by decide +kernel))
theorem cnX10_198 : Cond.constantLong RX10 198 (12345) ∈ lw_tbl := (tb_at (i := 973) (by decide +kernel))
theorem cnX10_200 : Cond.constantLong RX10 200 (2147483648) ∈ lw_tbl := (tb_at (i := 974) (by decide +kernel))
theorem cnX10_202 : Cond.constant RX10 202 (65536) ∈ lw_tbl := (tb_at (i := 975) (by decide +kernel))
theorem cnX10_209 : Cond.constantLong RX10 209 (2) ∈ lw_tbl := (tb_at (i := 992) (by decide +kernel))
theorem cnX10_211 : Cond.constantLong RX10 211 (8) ∈ lw_tbl := (tb_at (i := 993) (by decide +kernel))
theorem cnX10_213 : Cond.constant RX10 213 (1000000) ∈ lw_tbl := (tb_at (i := 998) (by decide +kernel))
theorem nwL_7 : ax_N RL 7 7 9 [.null, .null, .null, .null, .null, .null, .null, .null, .null] := ⟨RX9, TX9, tyX9, rfl, inX9, tyX9_ok, (tb_at (i := 16) (by decide +kernel)), (tb_at (i := 17) (by decide +kernel)), (tb_at (i := 1) (by decide +kernel)), by decide +kernel⟩
theorem clL_7 : Cond.classLink RL 7 RX9 ∈ lw_tbl := (tb_at (i := 16) (by decide +kernel))
theorem nwX9_7 : ax_N RX9 7 6 6 [.null, .int 0, .int 0, .int 0, .int 0, .int 0] := ⟨RX8, TX8, tyX8, rfl, inX8, tyX8_ok, (tb_at (i := 24) (by decide +kernel)), (tb_at (i := 25) (by decide +kernel)), (tb_at (i := 2) (by decide +kernel)), by decide +kernel⟩
theorem clX9_7 : Cond.classLink RX9 7 RX8 ∈ lw_tbl := (tb_at (i := 24) (by decide +kernel))
theorem nwX9_16 : ax_N RX9 16 4 6 [.null, .null, .null, .null, .int 0, .int 0] := ⟨RX5, TX5, tyX5, rfl, inX5, tyX5_ok, (tb_at (i := 52) (by decide +kernel)), (tb_at (i := 53) (by decide +kernel)), (tb_at (i := 3) (by decide +kernel)), by decide +kernel⟩
theorem clX9_16 : Cond.classLink RX9 16 RX5 ∈ lw_tbl := (tb_at (i := 52) (by decide +kernel))
theorem nwX9_26 : ax_N RX9 26 3 3 [.null, .int 0, .int 0] := ⟨RX4, TX4, tyX4, rfl, inX4, tyX4_ok, (tb_at (i := 85) (by decide +kernel)), (tb_at (i := 86) (by decide +kernel)), (tb_at (i := 5) (by decide +kernel)), by decide +kernel⟩
theorem clX9_26 : Cond.classLink RX9 26 RX4 ∈ lw_tbl := (tb_at (i := 85) (by decide +kernel))
theorem nwX4_9 : ax_N RX4 9 4 6 [.null, .null, .null, .null, .int 0, .int 0] := ⟨RX5, TX5, tyX5, rfl, inX5, tyX5_ok, (tb_at (i := 91) (by decide +kernel)), (tb_at (i := 53) (by decide +kernel)), (tb_at (i := 3) (by decide +kernel)), by decide +kernel⟩
theorem clX4_9 : Cond.classLink RX4 9 RX5 ∈ lw_tbl := (tb_at (i := 91) (by decide +kernel))
theorem nwX9_33 : ax_N RX9 33 5 5 [.null, .null, .null, .null, .int 0] := ⟨RX7, TX7, tyX7, rfl, inX7, tyX7_ok, (tb_at (i := 105) (by decide +kernel)), (tb_at (i := 106) (by decide +kernel)), (tb_at (i := 6) (by decide +kernel)), by decide +kernel⟩
theorem clX9_33 : Cond.classLink RX9 33 RX7 ∈ lw_tbl := (tb_at (i := 105) (by decide +kernel))
theorem nwX9_40 : ax_N RX9 40 0 3 [.null, .null, .int 0] := ⟨RX0, TX0, tyX0, rfl, inX0, tyX0_ok, (tb_at (i := 128) (by decide +kernel)), (tb_at (i := 129) (by decide +kernel)), (tb_at (i := 7) (by decide +kernel)), by decide +kernel⟩
theorem clX9_40 : Cond.classLink RX9 40 RX0 ∈ lw_tbl := (tb_at (i := 128) (by decide +kernel))
theorem nwX9_47 : ax_N RX9 47 1 1 [.int 0] := ⟨RX1, TX1, tyX1, rfl, inX1, tyX1_ok, (tb_at (i := 145) (by decide +kernel)), (tb_at (i := 146) (by decide +kernel)), (tb_at (i := 8) (by decide +kernel)), by decide +kernel⟩
theorem clX9_47 : Cond.classLink RX9 47 RX1 ∈ lw_tbl := (tb_at (i := 145) (by decide +kernel))
theorem nwX9_54 : ax_N RX9 54 2 3 [.null, .int 0, .int 0] := ⟨RX3, TX3, tyX3, rfl, inX3, tyX3_ok, (tb_at (i := 156) (by decide +kernel)), (tb_at (i := 157) (by decide +kernel)), (tb_at (i := 9) (by decide +kernel)), by decide +kernel⟩
theorem clX9_54 : Cond.classLink RX9 54 RX3 ∈ lw_tbl := (tb_at (i := 156) (by decide +kernel))
theorem nwX3_7 : ax_N RX3 7 4 6 [.null, .null, .null, .null, .int 0, .int 0] := ⟨RX5, TX5, tyX5, rfl, inX5, tyX5_ok, (tb_at (i := 162) (by decide +kernel)), (tb_at (i := 53) (by decide +kernel)), (tb_at (i := 3) (by decide +kernel)), by decide +kernel⟩
theorem clX3_7 : Cond.classLink RX3 7 RX5 ∈ lw_tbl := (tb_at (i := 162) (by decide +kernel))
theorem nwL_10 : ax_N RL 10 8 27 [.int 0, .null, .null, .int 0, .null, .int 0, .int 0, .int 0, .int 0, .int 0, .int 0, .null, .null, .null, .int 0, .null, .null, .int 0, .null, .null, .null, .null, .int 0, .null, .null, .null, .null] := ⟨RX10, TX10, tyX10, rfl, inX10, tyX10_ok, (tb_at (i := 718) (by decide +kernel)), (tb_at (i := 719) (by decide +kernel)), (tb_at (i := 10) (by decide +kernel)), by decide +kernel⟩
theorem clL_10 : Cond.classLink RL 10 RX10 ∈ lw_tbl := (tb_at (i := 718) (by decide +kernel))
theorem wd_copy : Cond.native arraycopyName ∈ lw_tbl ∧ Cond.static arraycopyName ∈ lw_tbl ∧ Cond.initialized "java/lang/System" ∈ lw_tbl := ⟨(tb_at (i := 314) (by decide +kernel)), (tb_at (i := 313) (by decide +kernel)), (tb_at (i := 11) (by decide +kernel))⟩
theorem wd_obj : Cond.instanceMethod objectInit ∈ lw_tbl ∧ Cond.code objectInit ⟨#[0xb1]⟩ 1 none ∈ lw_tbl := ⟨(tb_at (i := 22) (by decide +kernel)), (tb_at (i := 23) (by decide +kernel))⟩
