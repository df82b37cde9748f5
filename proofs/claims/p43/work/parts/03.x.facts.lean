def sw_T : List Jvm.Cond := lw_tbl.filter goodWord
def sw_nk : Jvm.Cond → Bool
  | .fieldLinkNest .. => true
  | .methodLinkNest .. => true
  | .castable .. => true
  | .declares _ => true
  | _ => false
def sw_N : List Jvm.Cond := lw_tbl.filter sw_nk
theorem sw_in (i : Nat) {w : Jvm.Cond} (h : lw_tbl[i]? = some w) (hg : goodWord w = true) : w ∈ sw_T := List.mem_filter.mpr ⟨List.mem_of_getElem? h, hg⟩
theorem sw_inN (i : Nat) {w : Jvm.Cond} (h : lw_tbl[i]? = some w) (hg : sw_nk w = true) : w ∈ sw_N := List.mem_filter.mpr ⟨List.mem_of_getElem? h, hg⟩
def sw_nmL : List MethodName := [yX8_init, yX10_init, yX7_init, yX9_init, yX4_init, yX3_init, yX2_init, yX0_init, yX6_init, yJ7_fill_53178, yX1_init, yX5_init, yJ5_init_d00df, yJ4_init_da8c8, yX11_init, yL_cell, yL_low, yX11_needRange, yX11_nextDraw, yX8_drawAll, yX11_seed, yL_drawn, yL_draws, yX11_needBond, yX11_bond, yX11_needSite, yX11_site, yX7_close, yX11_close, yX11_shut, yL_has, yL_beside, yX11_siteBeside, yX7_countNotShutBeside, yX7_firstInRank, yX11_countTrue, yX11_strike, yL_many, yX11_needNotShut, yX11_wet, yL_wets, yX7_countFilledBeside, yX7_fillOnce, yX7_fill, yX11_filled, yL_filling, yX7_plant, yX11_grow, yL_flood, yX10_forget, yX10_add, yX7_kindle, yX10_next, yX7_burn, yX11_lightning, yX11_needFibre, yX11_fibre, yX1_mend, yX1_breakOnce, yX1_nextWhole, yX1_passOn, yX1_breakByNeighbours, yX1_breakEvenly, yX11_load, yL_broken, yX1_leastFatalByNeighbours, yX1_weakestWhole, yX1_leastFatalEvenly, yX11_lastStraw, yL_side, yL_moved, yX5_homeOf, yX11_isOnSide, yX5_findHanging, yX5_isPressed, yX5_nextPushed, yX5_push, yX11_drain, yX11_soak, yL_one, yL_other, yL_leads, yL_grown, yL_through, yX11_needKind, yX11_lowEnd, yX11_highEnd, yX9_open, yX9_startAtSide, yX11_bondBetween, yX9_walkOn, yX9_leastSteps, yX11_estimate, yX11_scaledOnce, yX11_scale, yX11_openAt, yX11_spans, yX9_walkFrom, yX9_lowestOfCluster, yX11_cluster, yL_lowest, yX9_findClusters, yX11_sizes, yX2_partAll, yX11_clear, yX8_enoughFor, yX2_nextToOpen, yX2_rootOf, yX2_byOpening, yX11_edge, yX3_forget, yX3_offer, yX2_startAtSide, yX3_settleNearest, yX2_offerBeside, yX2_byBestWay, yX11_edgeAnew, yL_cheapest, yX4_startAtLeft, yX4_isFree, yX4_searchWay, yX4_addWayTo, yX4_mostWays, yX4_countCut, yX11_cut, yX11_ways, yX9_countRedBonds, yX11_red, yX11_shortest, yL_steps, yL_thresholds, yL_nears, yX3_rise, yX11_time, yX11_rival, yX3_countWithin, yX11_ball, yX11_needInvasion, yX6_nextBond, yX6_goOn, yX11_invade, yL_comes, yX11_invaded, yL_most, yL_comers, yL_times, yX5_countTrapped, yX11_trapped, yX11_count, yX11_numberOf, yL_law]
def sw_nm (m : Nat) : MethodName := (sw_nmL[m]?).getD yL_law
def sw_onL : List String := [RJ4, RJ5, RJ7, RL, RX0, RX1, RX10, RX11, RX2, RX3, RX4, RX5, RX6, RX7, RX8, RX9]
def sw_on (o : Nat) : String := (sw_onL[o]?).getD ""
def sw_rtL : List (Option FieldType) := [none, none, none, none, none, none, none, none, none, none, none, none, none, none, none, some .int, some .int, none, some .int, none, none, some .int, none, none, some .int, none, some .int, none, none, some .boolean, some .boolean, some .int, some .int, some .int, some .int, some .int, some .int, some .int, none, some .boolean, some .int, some .int, some .int, none, some .int, some .boolean, none, some .int, some .long, none, none, none, some .int, some .int, some .int, none, some .int, none, some .int, some .int, none, some .int, some .int, some .int, some .int, some .int, some .int, some .int, some .int, some .long, some .long, some .int, some .boolean, none, some .boolean, some .int, none, some .int, some .int, some .int, some .int, some .boolean, some .long, some .boolean, none, some .int, some .int, none, none, some .int, none, some .int, some .int, some .int, some .int, none, some .boolean, some .int, some .int, some .int, some .int, none, some .int, none, none, some .int, some .int, some .int, some .int, some .int, none, none, none, some .int, none, some .int, some .int, some .int, none, some .boolean, some .int, none, some .int, some .int, some .int, some .int, some .int, some .int, some .int, some .int, some .boolean, none, none, some .int, some .int, some .int, some .int, none, some .int, some .boolean, some .int, some .int, some .int, some .int, some .boolean, some .boolean, some .int, some .int, some .int, some .int, some .boolean]
def sw_rt (m : Nat) : Option FieldType := (sw_rtL[m]?).getD none
abbrev sw_cl : List vw_C := [(RX0, TX0, 6), (RX1, TX1, 5), (RX2, TX2, 3), (RX3, TX3, 2), (RX4, TX4, 4), (RX5, TX5, 3), (RX6, TX6, 3), (RX7, TX7, 9), (RX8, TX8, 2), (RX9, TX9, 7), (RX10, TX10, 3), (RX11, TX11, 12), (RJ4, TJ4, 4)]
def sw_hh (m : Nat) : Option (List (Nat × Nat × Nat × Nat)) := if m = 40 then some [(0, 14, 15, 16)] else if m = 141 then some [(0, 6, 7, 16)] else if m = 143 then some [(0, 6, 7, 16)] else none
def sw_fw (m : Nat) : Jvm.Cond := match sw_hh m with
  | none => .code (sw_nm m) (sw_by m) (sw_ml m) (sw_rt m)
  | some h => .codeWith (sw_nm m) (sw_by m) (sw_ml m) (sw_rt m) h
def sw_FM (y : Nat) : Prop := (plainName (sw_nm y).cls = true ∧ sw_fw y ∈ sw_T ∧ Jvm.Cond.initialized (sw_nm y).cls ∈ sw_T ∧ sw_on (sw_ow y) = (sw_nm y).cls) ∧
  ((sw_nm y).cls ≠ "java/lang/invoke/MethodHandle" ∧ (sw_nm y).cls ≠ "java/lang/invoke/VarHandle") ∧
  (parseMethodDescriptor (sw_nm y).desc).map (fun d => d.parameters.length) = some (if sw_kd y = 0 then sw_na y else sw_na y - 1) ∧
  ((sw_kd y = 0 ∧ Jvm.Cond.static (sw_nm y) ∈ sw_T) ∨
   (sw_kd y = 1 ∧ 1 ≤ sw_na y ∧ Jvm.Cond.instanceMethod (sw_nm y) ∈ sw_T ∧ Jvm.Cond.selects (sw_nm y).cls (sw_nm y) (sw_nm y) ∈ sw_T ∧ sw_hh y = none ∧ ∃ (ci : Nat) (q : vw_C), sw_rx y = some ci ∧ sw_cl[ci]? = some q ∧ q.1 = (sw_nm y).cls) ∨
   (sw_kd y = 2 ∧ 1 ≤ sw_na y ∧ Jvm.Cond.instanceMethod (sw_nm y) ∈ sw_T ∧ (sw_nm y).name = "<init>" ∧ sw_rt y = none ∧ sw_hh y = none))
set_option maxRecDepth 100000 in
theorem sw_FM_0 : sw_FM 0 := ⟨⟨by decide +kernel, sw_in 67 rfl rfl, sw_in 32 rfl rfl, by decide +kernel⟩, ⟨by decide +kernel, by decide +kernel⟩, by decide +kernel, Or.inr (Or.inr ⟨rfl, by decide, sw_in 66 rfl rfl, rfl, rfl, rfl⟩)⟩
set_option maxRecDepth 100000 in
theorem sw_FM_1 : sw_FM 1 := ⟨⟨by decide +kernel, sw_in 94 rfl rfl, sw_in 34 rfl rfl, by decide +kernel⟩, ⟨by decide +kernel, by decide +kernel⟩, by decide +kernel, Or.inr (Or.inr ⟨rfl, by decide, sw_in 93 rfl rfl, rfl, rfl, rfl⟩)⟩
set_option maxRecDepth 100000 in
theorem sw_FM_2 : sw_FM 2 := ⟨⟨by decide +kernel, sw_in 88 rfl rfl, sw_in 33 rfl rfl, by decide +kernel⟩, ⟨by decide +kernel, by decide +kernel⟩, by decide +kernel, Or.inr (Or.inr ⟨rfl, by decide, sw_in 87 rfl rfl, rfl, rfl, rfl⟩)⟩
set_option maxRecDepth 100000 in
theorem sw_FM_3 : sw_FM 3 := ⟨⟨by decide +kernel, sw_in 146 rfl rfl, sw_in 35 rfl rfl, by decide +kernel⟩, ⟨by decide +kernel, by decide +kernel⟩, by decide +kernel, Or.inr (Or.inr ⟨rfl, by decide, sw_in 145 rfl rfl, rfl, rfl, rfl⟩)⟩
set_option maxRecDepth 100000 in
theorem sw_FM_4 : sw_FM 4 := ⟨⟨by decide +kernel, sw_in 181 rfl rfl, sw_in 36 rfl rfl, by decide +kernel⟩, ⟨by decide +kernel, by decide +kernel⟩, by decide +kernel, Or.inr (Or.inr ⟨rfl, by decide, sw_in 180 rfl rfl, rfl, rfl, rfl⟩)⟩
set_option maxRecDepth 100000 in
theorem sw_FM_5 : sw_FM 5 := ⟨⟨by decide +kernel, sw_in 208 rfl rfl, sw_in 38 rfl rfl, by decide +kernel⟩, ⟨by decide +kernel, by decide +kernel⟩, by decide +kernel, Or.inr (Or.inr ⟨rfl, by decide, sw_in 207 rfl rfl, rfl, rfl, rfl⟩)⟩
set_option maxRecDepth 100000 in
theorem sw_FM_6 : sw_FM 6 := ⟨⟨by decide +kernel, sw_in 202 rfl rfl, sw_in 37 rfl rfl, by decide +kernel⟩, ⟨by decide +kernel, by decide +kernel⟩, by decide +kernel, Or.inr (Or.inr ⟨rfl, by decide, sw_in 201 rfl rfl, rfl, rfl, rfl⟩)⟩
set_option maxRecDepth 100000 in
theorem sw_FM_7 : sw_FM 7 := ⟨⟨by decide +kernel, sw_in 233 rfl rfl, sw_in 39 rfl rfl, by decide +kernel⟩, ⟨by decide +kernel, by decide +kernel⟩, by decide +kernel, Or.inr (Or.inr ⟨rfl, by decide, sw_in 232 rfl rfl, rfl, rfl, rfl⟩)⟩
set_option maxRecDepth 100000 in
theorem sw_FM_8 : sw_FM 8 := ⟨⟨by decide +kernel, sw_in 256 rfl rfl, sw_in 40 rfl rfl, by decide +kernel⟩, ⟨by decide +kernel, by decide +kernel⟩, by decide +kernel, Or.inr (Or.inr ⟨rfl, by decide, sw_in 255 rfl rfl, rfl, rfl, rfl⟩)⟩
set_option maxRecDepth 100000 in
theorem sw_FM_9 : sw_FM 9 := ⟨⟨by decide +kernel, sw_in 278 rfl rfl, sw_in 42 rfl rfl, by decide +kernel⟩, ⟨by decide +kernel, by decide +kernel⟩, by decide +kernel, Or.inl ⟨rfl, sw_in 277 rfl rfl⟩⟩
set_option maxRecDepth 100000 in
theorem sw_FM_10 : sw_FM 10 := ⟨⟨by decide +kernel, sw_in 274 rfl rfl, sw_in 41 rfl rfl, by decide +kernel⟩, ⟨by decide +kernel, by decide +kernel⟩, by decide +kernel, Or.inr (Or.inr ⟨rfl, by decide, sw_in 273 rfl rfl, rfl, rfl, rfl⟩)⟩
set_option maxRecDepth 100000 in
theorem sw_FM_11 : sw_FM 11 := ⟨⟨by decide +kernel, sw_in 300 rfl rfl, sw_in 43 rfl rfl, by decide +kernel⟩, ⟨by decide +kernel, by decide +kernel⟩, by decide +kernel, Or.inr (Or.inr ⟨rfl, by decide, sw_in 299 rfl rfl, rfl, rfl, rfl⟩)⟩
set_option maxRecDepth 100000 in
theorem sw_FM_12 : sw_FM 12 := ⟨⟨by decide +kernel, sw_in 322 rfl rfl, sw_in 44 rfl rfl, by decide +kernel⟩, ⟨by decide +kernel, by decide +kernel⟩, by decide +kernel, Or.inr (Or.inr ⟨rfl, by decide, sw_in 321 rfl rfl, rfl, rfl, rfl⟩)⟩
set_option maxRecDepth 100000 in
theorem sw_FM_13 : sw_FM 13 := ⟨⟨by decide +kernel, sw_in 319 rfl rfl, sw_in 45 rfl rfl, by decide +kernel⟩, ⟨by decide +kernel, by decide +kernel⟩, by decide +kernel, Or.inr (Or.inr ⟨rfl, by decide, sw_in 318 rfl rfl, rfl, rfl, rfl⟩)⟩
set_option maxRecDepth 100000 in
theorem sw_FM_14 : sw_FM 14 := ⟨⟨by decide +kernel, sw_in 59 rfl rfl, sw_in 31 rfl rfl, by decide +kernel⟩, ⟨by decide +kernel, by decide +kernel⟩, by decide +kernel, Or.inr (Or.inr ⟨rfl, by decide, sw_in 58 rfl rfl, rfl, rfl, rfl⟩)⟩
set_option maxRecDepth 100000 in
theorem sw_FM_15 : sw_FM 15 := ⟨⟨by decide +kernel, sw_in 736 rfl rfl, sw_in 30 rfl rfl, by decide +kernel⟩, ⟨by decide +kernel, by decide +kernel⟩, by decide +kernel, Or.inl ⟨rfl, sw_in 735 rfl rfl⟩⟩
set_option maxRecDepth 100000 in
theorem sw_FM_16 : sw_FM 16 := ⟨⟨by decide +kernel, sw_in 741 rfl rfl, sw_in 30 rfl rfl, by decide +kernel⟩, ⟨by decide +kernel, by decide +kernel⟩, by decide +kernel, Or.inl ⟨rfl, sw_in 740 rfl rfl⟩⟩
set_option maxRecDepth 100000 in
theorem sw_FM_17 : sw_FM 17 := ⟨⟨by decide +kernel, sw_in 390 rfl rfl, sw_in 31 rfl rfl, by decide +kernel⟩, ⟨by decide +kernel, by decide +kernel⟩, by decide +kernel, Or.inl ⟨rfl, sw_in 389 rfl rfl⟩⟩
set_option maxRecDepth 100000 in
theorem sw_FM_18 : sw_FM 18 := ⟨⟨by decide +kernel, sw_in 464 rfl rfl, sw_in 31 rfl rfl, by decide +kernel⟩, ⟨by decide +kernel, by decide +kernel⟩, by decide +kernel, Or.inl ⟨rfl, sw_in 463 rfl rfl⟩⟩
set_option maxRecDepth 100000 in
theorem sw_FM_19 : sw_FM 19 := ⟨⟨by decide +kernel, sw_in 461 rfl rfl, sw_in 32 rfl rfl, by decide +kernel⟩, ⟨by decide +kernel, by decide +kernel⟩, by decide +kernel, Or.inr (Or.inl ⟨rfl, by decide, sw_in 459 rfl rfl, sw_in 460 rfl rfl, rfl, 8, _, rfl, rfl, rfl⟩)⟩
set_option maxRecDepth 100000 in
theorem sw_FM_20 : sw_FM 20 := ⟨⟨by decide +kernel, sw_in 386 rfl rfl, sw_in 31 rfl rfl, by decide +kernel⟩, ⟨by decide +kernel, by decide +kernel⟩, by decide +kernel, Or.inr (Or.inl ⟨rfl, by decide, sw_in 384 rfl rfl, sw_in 385 rfl rfl, rfl, 11, _, rfl, rfl, rfl⟩)⟩
set_option maxRecDepth 100000 in
theorem sw_FM_21 : sw_FM 21 := ⟨⟨by decide +kernel, sw_in 811 rfl rfl, sw_in 30 rfl rfl, by decide +kernel⟩, ⟨by decide +kernel, by decide +kernel⟩, by decide +kernel, Or.inl ⟨rfl, sw_in 810 rfl rfl⟩⟩
set_option maxRecDepth 100000 in
theorem sw_FM_22 : sw_FM 22 := ⟨⟨by decide +kernel, sw_in 815 rfl rfl, sw_in 30 rfl rfl, by decide +kernel⟩, ⟨by decide +kernel, by decide +kernel⟩, by decide +kernel, Or.inl ⟨rfl, sw_in 814 rfl rfl⟩⟩
set_option maxRecDepth 100000 in
theorem sw_FM_23 : sw_FM 23 := ⟨⟨by decide +kernel, sw_in 472 rfl rfl, sw_in 31 rfl rfl, by decide +kernel⟩, ⟨by decide +kernel, by decide +kernel⟩, by decide +kernel, Or.inl ⟨rfl, sw_in 471 rfl rfl⟩⟩
set_option maxRecDepth 100000 in
theorem sw_FM_24 : sw_FM 24 := ⟨⟨by decide +kernel, sw_in 469 rfl rfl, sw_in 31 rfl rfl, by decide +kernel⟩, ⟨by decide +kernel, by decide +kernel⟩, by decide +kernel, Or.inr (Or.inl ⟨rfl, by decide, sw_in 467 rfl rfl, sw_in 468 rfl rfl, rfl, 11, _, rfl, rfl, rfl⟩)⟩
set_option maxRecDepth 100000 in
theorem sw_FM_25 : sw_FM 25 := ⟨⟨by decide +kernel, sw_in 495 rfl rfl, sw_in 31 rfl rfl, by decide +kernel⟩, ⟨by decide +kernel, by decide +kernel⟩, by decide +kernel, Or.inl ⟨rfl, sw_in 494 rfl rfl⟩⟩
set_option maxRecDepth 100000 in
theorem sw_FM_26 : sw_FM 26 := ⟨⟨by decide +kernel, sw_in 492 rfl rfl, sw_in 31 rfl rfl, by decide +kernel⟩, ⟨by decide +kernel, by decide +kernel⟩, by decide +kernel, Or.inr (Or.inl ⟨rfl, by decide, sw_in 490 rfl rfl, sw_in 491 rfl rfl, rfl, 11, _, rfl, rfl, rfl⟩)⟩
set_option maxRecDepth 100000 in
theorem sw_FM_27 : sw_FM 27 := ⟨⟨by decide +kernel, sw_in 530 rfl rfl, sw_in 33 rfl rfl, by decide +kernel⟩, ⟨by decide +kernel, by decide +kernel⟩, by decide +kernel, Or.inr (Or.inl ⟨rfl, by decide, sw_in 528 rfl rfl, sw_in 529 rfl rfl, rfl, 7, _, rfl, rfl, rfl⟩)⟩
set_option maxRecDepth 100000 in
theorem sw_FM_28 : sw_FM 28 := ⟨⟨by decide +kernel, sw_in 526 rfl rfl, sw_in 31 rfl rfl, by decide +kernel⟩, ⟨by decide +kernel, by decide +kernel⟩, by decide +kernel, Or.inr (Or.inl ⟨rfl, by decide, sw_in 525 rfl rfl, sw_in 1 rfl rfl, rfl, 11, _, rfl, rfl, rfl⟩)⟩
set_option maxRecDepth 100000 in
theorem sw_FM_29 : sw_FM 29 := ⟨⟨by decide +kernel, sw_in 522 rfl rfl, sw_in 31 rfl rfl, by decide +kernel⟩, ⟨by decide +kernel, by decide +kernel⟩, by decide +kernel, Or.inr (Or.inl ⟨rfl, by decide, sw_in 520 rfl rfl, sw_in 521 rfl rfl, rfl, 11, _, rfl, rfl, rfl⟩)⟩
set_option maxRecDepth 100000 in
theorem sw_FM_30 : sw_FM 30 := ⟨⟨by decide +kernel, sw_in 779 rfl rfl, sw_in 30 rfl rfl, by decide +kernel⟩, ⟨by decide +kernel, by decide +kernel⟩, by decide +kernel, Or.inl ⟨rfl, sw_in 778 rfl rfl⟩⟩
set_option maxRecDepth 100000 in
theorem sw_FM_31 : sw_FM 31 := ⟨⟨by decide +kernel, sw_in 788 rfl rfl, sw_in 30 rfl rfl, by decide +kernel⟩, ⟨by decide +kernel, by decide +kernel⟩, by decide +kernel, Or.inl ⟨rfl, sw_in 787 rfl rfl⟩⟩
set_option maxRecDepth 100000 in
theorem sw_FM_32 : sw_FM 32 := ⟨⟨by decide +kernel, sw_in 545 rfl rfl, sw_in 31 rfl rfl, by decide +kernel⟩, ⟨by decide +kernel, by decide +kernel⟩, by decide +kernel, Or.inl ⟨rfl, sw_in 544 rfl rfl⟩⟩
set_option maxRecDepth 100000 in
theorem sw_FM_33 : sw_FM 33 := ⟨⟨by decide +kernel, sw_in 542 rfl rfl, sw_in 33 rfl rfl, by decide +kernel⟩, ⟨by decide +kernel, by decide +kernel⟩, by decide +kernel, Or.inr (Or.inl ⟨rfl, by decide, sw_in 541 rfl rfl, sw_in 2 rfl rfl, rfl, 7, _, rfl, rfl, rfl⟩)⟩
set_option maxRecDepth 100000 in
theorem sw_FM_34 : sw_FM 34 := ⟨⟨by decide +kernel, sw_in 538 rfl rfl, sw_in 33 rfl rfl, by decide +kernel⟩, ⟨by decide +kernel, by decide +kernel⟩, by decide +kernel, Or.inr (Or.inl ⟨rfl, by decide, sw_in 536 rfl rfl, sw_in 537 rfl rfl, rfl, 7, _, rfl, rfl, rfl⟩)⟩
set_option maxRecDepth 100000 in
theorem sw_FM_35 : sw_FM 35 := ⟨⟨by decide +kernel, sw_in 548 rfl rfl, sw_in 31 rfl rfl, by decide +kernel⟩, ⟨by decide +kernel, by decide +kernel⟩, by decide +kernel, Or.inl ⟨rfl, sw_in 547 rfl rfl⟩⟩
set_option maxRecDepth 100000 in
theorem sw_FM_36 : sw_FM 36 := ⟨⟨by decide +kernel, sw_in 534 rfl rfl, sw_in 31 rfl rfl, by decide +kernel⟩, ⟨by decide +kernel, by decide +kernel⟩, by decide +kernel, Or.inr (Or.inl ⟨rfl, by decide, sw_in 532 rfl rfl, sw_in 533 rfl rfl, rfl, 11, _, rfl, rfl, rfl⟩)⟩
set_option maxRecDepth 100000 in
theorem sw_FM_37 : sw_FM 37 := ⟨⟨by decide +kernel, sw_in 785 rfl rfl, sw_in 30 rfl rfl, by decide +kernel⟩, ⟨by decide +kernel, by decide +kernel⟩, by decide +kernel, Or.inl ⟨rfl, sw_in 784 rfl rfl⟩⟩
set_option maxRecDepth 100000 in
theorem sw_FM_38 : sw_FM 38 := ⟨⟨by decide +kernel, sw_in 754 rfl rfl, sw_in 31 rfl rfl, by decide +kernel⟩, ⟨by decide +kernel, by decide +kernel⟩, by decide +kernel, Or.inr (Or.inl ⟨rfl, by decide, sw_in 753 rfl rfl, sw_in 14 rfl rfl, rfl, 11, _, rfl, rfl, rfl⟩)⟩
set_option maxRecDepth 100000 in
theorem sw_FM_39 : sw_FM 39 := ⟨⟨by decide +kernel, sw_in 750 rfl rfl, sw_in 31 rfl rfl, by decide +kernel⟩, ⟨by decide +kernel, by decide +kernel⟩, by decide +kernel, Or.inr (Or.inl ⟨rfl, by decide, sw_in 748 rfl rfl, sw_in 749 rfl rfl, rfl, 11, _, rfl, rfl, rfl⟩)⟩
set_option maxRecDepth 100000 in
theorem sw_FM_40 : sw_FM 40 := ⟨⟨by decide +kernel, sw_in 745 rfl rfl, sw_in 30 rfl rfl, by decide +kernel⟩, ⟨by decide +kernel, by decide +kernel⟩, by decide +kernel, Or.inl ⟨rfl, sw_in 744 rfl rfl⟩⟩
set_option maxRecDepth 100000 in
theorem sw_FM_41 : sw_FM 41 := ⟨⟨by decide +kernel, sw_in 1057 rfl rfl, sw_in 33 rfl rfl, by decide +kernel⟩, ⟨by decide +kernel, by decide +kernel⟩, by decide +kernel, Or.inr (Or.inl ⟨rfl, by decide, sw_in 1056 rfl rfl, sw_in 29 rfl rfl, rfl, 7, _, rfl, rfl, rfl⟩)⟩
set_option maxRecDepth 100000 in
theorem sw_FM_42 : sw_FM 42 := ⟨⟨by decide +kernel, sw_in 1053 rfl rfl, sw_in 33 rfl rfl, by decide +kernel⟩, ⟨by decide +kernel, by decide +kernel⟩, by decide +kernel, Or.inr (Or.inl ⟨rfl, by decide, sw_in 1052 rfl rfl, sw_in 28 rfl rfl, rfl, 7, _, rfl, rfl, rfl⟩)⟩
set_option maxRecDepth 100000 in
theorem sw_FM_43 : sw_FM 43 := ⟨⟨by decide +kernel, sw_in 1048 rfl rfl, sw_in 33 rfl rfl, by decide +kernel⟩, ⟨by decide +kernel, by decide +kernel⟩, by decide +kernel, Or.inr (Or.inl ⟨rfl, by decide, sw_in 1046 rfl rfl, sw_in 1047 rfl rfl, rfl, 7, _, rfl, rfl, rfl⟩)⟩
set_option maxRecDepth 100000 in
theorem sw_FM_44 : sw_FM 44 := ⟨⟨by decide +kernel, sw_in 1044 rfl rfl, sw_in 31 rfl rfl, by decide +kernel⟩, ⟨by decide +kernel, by decide +kernel⟩, by decide +kernel, Or.inr (Or.inl ⟨rfl, by decide, sw_in 1042 rfl rfl, sw_in 1043 rfl rfl, rfl, 11, _, rfl, rfl, rfl⟩)⟩
set_option maxRecDepth 100000 in
theorem sw_FM_45 : sw_FM 45 := ⟨⟨by decide +kernel, sw_in 1040 rfl rfl, sw_in 30 rfl rfl, by decide +kernel⟩, ⟨by decide +kernel, by decide +kernel⟩, by decide +kernel, Or.inl ⟨rfl, sw_in 1039 rfl rfl⟩⟩
set_option maxRecDepth 100000 in
theorem sw_FM_46 : sw_FM 46 := ⟨⟨by decide +kernel, sw_in 556 rfl rfl, sw_in 33 rfl rfl, by decide +kernel⟩, ⟨by decide +kernel, by decide +kernel⟩, by decide +kernel, Or.inr (Or.inl ⟨rfl, by decide, sw_in 554 rfl rfl, sw_in 555 rfl rfl, rfl, 7, _, rfl, rfl, rfl⟩)⟩
set_option maxRecDepth 100000 in
theorem sw_FM_47 : sw_FM 47 := ⟨⟨by decide +kernel, sw_in 552 rfl rfl, sw_in 31 rfl rfl, by decide +kernel⟩, ⟨by decide +kernel, by decide +kernel⟩, by decide +kernel, Or.inr (Or.inl ⟨rfl, by decide, sw_in 550 rfl rfl, sw_in 551 rfl rfl, rfl, 11, _, rfl, rfl, rfl⟩)⟩
set_option maxRecDepth 100000 in
theorem sw_FM_48 : sw_FM 48 := ⟨⟨by decide +kernel, sw_in 804 rfl rfl, sw_in 30 rfl rfl, by decide +kernel⟩, ⟨by decide +kernel, by decide +kernel⟩, by decide +kernel, Or.inl ⟨rfl, sw_in 803 rfl rfl⟩⟩
set_option maxRecDepth 100000 in
theorem sw_FM_49 : sw_FM 49 := ⟨⟨by decide +kernel, sw_in 569 rfl rfl, sw_in 34 rfl rfl, by decide +kernel⟩, ⟨by decide +kernel, by decide +kernel⟩, by decide +kernel, Or.inr (Or.inl ⟨rfl, by decide, sw_in 567 rfl rfl, sw_in 568 rfl rfl, rfl, 10, _, rfl, rfl, rfl⟩)⟩
set_option maxRecDepth 100000 in
theorem sw_FM_50 : sw_FM 50 := ⟨⟨by decide +kernel, sw_in 577 rfl rfl, sw_in 34 rfl rfl, by decide +kernel⟩, ⟨by decide +kernel, by decide +kernel⟩, by decide +kernel, Or.inr (Or.inl ⟨rfl, by decide, sw_in 575 rfl rfl, sw_in 576 rfl rfl, rfl, 10, _, rfl, rfl, rfl⟩)⟩
set_option maxRecDepth 100000 in
theorem sw_FM_51 : sw_FM 51 := ⟨⟨by decide +kernel, sw_in 573 rfl rfl, sw_in 33 rfl rfl, by decide +kernel⟩, ⟨by decide +kernel, by decide +kernel⟩, by decide +kernel, Or.inr (Or.inl ⟨rfl, by decide, sw_in 572 rfl rfl, sw_in 3 rfl rfl, rfl, 7, _, rfl, rfl, rfl⟩)⟩
set_option maxRecDepth 100000 in
theorem sw_FM_52 : sw_FM 52 := ⟨⟨by decide +kernel, sw_in 581 rfl rfl, sw_in 34 rfl rfl, by decide +kernel⟩, ⟨by decide +kernel, by decide +kernel⟩, by decide +kernel, Or.inr (Or.inl ⟨rfl, by decide, sw_in 579 rfl rfl, sw_in 580 rfl rfl, rfl, 10, _, rfl, rfl, rfl⟩)⟩
set_option maxRecDepth 100000 in
theorem sw_FM_53 : sw_FM 53 := ⟨⟨by decide +kernel, sw_in 565 rfl rfl, sw_in 33 rfl rfl, by decide +kernel⟩, ⟨by decide +kernel, by decide +kernel⟩, by decide +kernel, Or.inr (Or.inl ⟨rfl, by decide, sw_in 563 rfl rfl, sw_in 564 rfl rfl, rfl, 7, _, rfl, rfl, rfl⟩)⟩
set_option maxRecDepth 100000 in
theorem sw_FM_54 : sw_FM 54 := ⟨⟨by decide +kernel, sw_in 561 rfl rfl, sw_in 31 rfl rfl, by decide +kernel⟩, ⟨by decide +kernel, by decide +kernel⟩, by decide +kernel, Or.inr (Or.inl ⟨rfl, by decide, sw_in 559 rfl rfl, sw_in 560 rfl rfl, rfl, 11, _, rfl, rfl, rfl⟩)⟩
set_option maxRecDepth 100000 in
theorem sw_FM_55 : sw_FM 55 := ⟨⟨by decide +kernel, sw_in 588 rfl rfl, sw_in 31 rfl rfl, by decide +kernel⟩, ⟨by decide +kernel, by decide +kernel⟩, by decide +kernel, Or.inl ⟨rfl, sw_in 587 rfl rfl⟩⟩
set_option maxRecDepth 100000 in
theorem sw_FM_56 : sw_FM 56 := ⟨⟨by decide +kernel, sw_in 585 rfl rfl, sw_in 31 rfl rfl, by decide +kernel⟩, ⟨by decide +kernel, by decide +kernel⟩, by decide +kernel, Or.inr (Or.inl ⟨rfl, by decide, sw_in 583 rfl rfl, sw_in 584 rfl rfl, rfl, 11, _, rfl, rfl, rfl⟩)⟩
set_option maxRecDepth 100000 in
theorem sw_FM_57 : sw_FM 57 := ⟨⟨by decide +kernel, sw_in 601 rfl rfl, sw_in 41 rfl rfl, by decide +kernel⟩, ⟨by decide +kernel, by decide +kernel⟩, by decide +kernel, Or.inr (Or.inl ⟨rfl, by decide, sw_in 600 rfl rfl, sw_in 4 rfl rfl, rfl, 1, _, rfl, rfl, rfl⟩)⟩
set_option maxRecDepth 100000 in
theorem sw_FM_58 : sw_FM 58 := ⟨⟨by decide +kernel, sw_in 605 rfl rfl, sw_in 41 rfl rfl, by decide +kernel⟩, ⟨by decide +kernel, by decide +kernel⟩, by decide +kernel, Or.inr (Or.inl ⟨rfl, by decide, sw_in 604 rfl rfl, sw_in 5 rfl rfl, rfl, 1, _, rfl, rfl, rfl⟩)⟩
set_option maxRecDepth 100000 in
theorem sw_FM_59 : sw_FM 59 := ⟨⟨by decide +kernel, sw_in 614 rfl rfl, sw_in 41 rfl rfl, by decide +kernel⟩, ⟨by decide +kernel, by decide +kernel⟩, by decide +kernel, Or.inr (Or.inl ⟨rfl, by decide, sw_in 613 rfl rfl, sw_in 7 rfl rfl, rfl, 1, _, rfl, rfl, rfl⟩)⟩
set_option maxRecDepth 100000 in
theorem sw_FM_60 : sw_FM 60 := ⟨⟨by decide +kernel, sw_in 610 rfl rfl, sw_in 41 rfl rfl, by decide +kernel⟩, ⟨by decide +kernel, by decide +kernel⟩, by decide +kernel, Or.inr (Or.inl ⟨rfl, by decide, sw_in 609 rfl rfl, sw_in 6 rfl rfl, rfl, 1, _, rfl, rfl, rfl⟩)⟩
set_option maxRecDepth 100000 in
theorem sw_FM_61 : sw_FM 61 := ⟨⟨by decide +kernel, sw_in 597 rfl rfl, sw_in 41 rfl rfl, by decide +kernel⟩, ⟨by decide +kernel, by decide +kernel⟩, by decide +kernel, Or.inr (Or.inl ⟨rfl, by decide, sw_in 595 rfl rfl, sw_in 596 rfl rfl, rfl, 1, _, rfl, rfl, rfl⟩)⟩
set_option maxRecDepth 100000 in
theorem sw_FM_62 : sw_FM 62 := ⟨⟨by decide +kernel, sw_in 618 rfl rfl, sw_in 41 rfl rfl, by decide +kernel⟩, ⟨by decide +kernel, by decide +kernel⟩, by decide +kernel, Or.inr (Or.inl ⟨rfl, by decide, sw_in 616 rfl rfl, sw_in 617 rfl rfl, rfl, 1, _, rfl, rfl, rfl⟩)⟩
set_option maxRecDepth 100000 in
theorem sw_FM_63 : sw_FM 63 := ⟨⟨by decide +kernel, sw_in 593 rfl rfl, sw_in 31 rfl rfl, by decide +kernel⟩, ⟨by decide +kernel, by decide +kernel⟩, by decide +kernel, Or.inr (Or.inl ⟨rfl, by decide, sw_in 591 rfl rfl, sw_in 592 rfl rfl, rfl, 11, _, rfl, rfl, rfl⟩)⟩
set_option maxRecDepth 100000 in
theorem sw_FM_64 : sw_FM 64 := ⟨⟨by decide +kernel, sw_in 801 rfl rfl, sw_in 30 rfl rfl, by decide +kernel⟩, ⟨by decide +kernel, by decide +kernel⟩, by decide +kernel, Or.inl ⟨rfl, sw_in 800 rfl rfl⟩⟩
set_option maxRecDepth 100000 in
theorem sw_FM_65 : sw_FM 65 := ⟨⟨by decide +kernel, sw_in 626 rfl rfl, sw_in 41 rfl rfl, by decide +kernel⟩, ⟨by decide +kernel, by decide +kernel⟩, by decide +kernel, Or.inr (Or.inl ⟨rfl, by decide, sw_in 624 rfl rfl, sw_in 625 rfl rfl, rfl, 1, _, rfl, rfl, rfl⟩)⟩
set_option maxRecDepth 100000 in
theorem sw_FM_66 : sw_FM 66 := ⟨⟨by decide +kernel, sw_in 635 rfl rfl, sw_in 41 rfl rfl, by decide +kernel⟩, ⟨by decide +kernel, by decide +kernel⟩, by decide +kernel, Or.inr (Or.inl ⟨rfl, by decide, sw_in 634 rfl rfl, sw_in 8 rfl rfl, rfl, 1, _, rfl, rfl, rfl⟩)⟩
set_option maxRecDepth 100000 in
theorem sw_FM_67 : sw_FM 67 := ⟨⟨by decide +kernel, sw_in 631 rfl rfl, sw_in 41 rfl rfl, by decide +kernel⟩, ⟨by decide +kernel, by decide +kernel⟩, by decide +kernel, Or.inr (Or.inl ⟨rfl, by decide, sw_in 629 rfl rfl, sw_in 630 rfl rfl, rfl, 1, _, rfl, rfl, rfl⟩)⟩
set_option maxRecDepth 100000 in
theorem sw_FM_68 : sw_FM 68 := ⟨⟨by decide +kernel, sw_in 622 rfl rfl, sw_in 31 rfl rfl, by decide +kernel⟩, ⟨by decide +kernel, by decide +kernel⟩, by decide +kernel, Or.inr (Or.inl ⟨rfl, by decide, sw_in 620 rfl rfl, sw_in 621 rfl rfl, rfl, 11, _, rfl, rfl, rfl⟩)⟩
set_option maxRecDepth 100000 in
theorem sw_FM_69 : sw_FM 69 := ⟨⟨by decide +kernel, sw_in 782 rfl rfl, sw_in 30 rfl rfl, by decide +kernel⟩, ⟨by decide +kernel, by decide +kernel⟩, by decide +kernel, Or.inl ⟨rfl, sw_in 781 rfl rfl⟩⟩
set_option maxRecDepth 100000 in
theorem sw_FM_70 : sw_FM 70 := ⟨⟨by decide +kernel, sw_in 807 rfl rfl, sw_in 30 rfl rfl, by decide +kernel⟩, ⟨by decide +kernel, by decide +kernel⟩, by decide +kernel, Or.inl ⟨rfl, sw_in 806 rfl rfl⟩⟩
set_option maxRecDepth 100000 in
theorem sw_FM_71 : sw_FM 71 := ⟨⟨by decide +kernel, sw_in 652 rfl rfl, sw_in 43 rfl rfl, by decide +kernel⟩, ⟨by decide +kernel, by decide +kernel⟩, by decide +kernel, Or.inl ⟨rfl, sw_in 651 rfl rfl⟩⟩
set_option maxRecDepth 100000 in
theorem sw_FM_72 : sw_FM 72 := ⟨⟨by decide +kernel, sw_in 655 rfl rfl, sw_in 31 rfl rfl, by decide +kernel⟩, ⟨by decide +kernel, by decide +kernel⟩, by decide +kernel, Or.inl ⟨rfl, sw_in 654 rfl rfl⟩⟩
set_option maxRecDepth 100000 in
theorem sw_FM_73 : sw_FM 73 := ⟨⟨by decide +kernel, sw_in 648 rfl rfl, sw_in 43 rfl rfl, by decide +kernel⟩, ⟨by decide +kernel, by decide +kernel⟩, by decide +kernel, Or.inr (Or.inl ⟨rfl, by decide, sw_in 647 rfl rfl, sw_in 9 rfl rfl, rfl, 5, _, rfl, rfl, rfl⟩)⟩
set_option maxRecDepth 100000 in
theorem sw_FM_74 : sw_FM 74 := ⟨⟨by decide +kernel, sw_in 667 rfl rfl, sw_in 43 rfl rfl, by decide +kernel⟩, ⟨by decide +kernel, by decide +kernel⟩, by decide +kernel, Or.inr (Or.inl ⟨rfl, by decide, sw_in 666 rfl rfl, sw_in 11 rfl rfl, rfl, 5, _, rfl, rfl, rfl⟩)⟩
set_option maxRecDepth 100000 in
theorem sw_FM_75 : sw_FM 75 := ⟨⟨by decide +kernel, sw_in 663 rfl rfl, sw_in 43 rfl rfl, by decide +kernel⟩, ⟨by decide +kernel, by decide +kernel⟩, by decide +kernel, Or.inr (Or.inl ⟨rfl, by decide, sw_in 662 rfl rfl, sw_in 10 rfl rfl, rfl, 5, _, rfl, rfl, rfl⟩)⟩
set_option maxRecDepth 100000 in
theorem sw_FM_76 : sw_FM 76 := ⟨⟨by decide +kernel, sw_in 644 rfl rfl, sw_in 43 rfl rfl, by decide +kernel⟩, ⟨by decide +kernel, by decide +kernel⟩, by decide +kernel, Or.inr (Or.inl ⟨rfl, by decide, sw_in 642 rfl rfl, sw_in 643 rfl rfl, rfl, 5, _, rfl, rfl, rfl⟩)⟩
set_option maxRecDepth 100000 in
theorem sw_FM_77 : sw_FM 77 := ⟨⟨by decide +kernel, sw_in 640 rfl rfl, sw_in 31 rfl rfl, by decide +kernel⟩, ⟨by decide +kernel, by decide +kernel⟩, by decide +kernel, Or.inr (Or.inl ⟨rfl, by decide, sw_in 638 rfl rfl, sw_in 639 rfl rfl, rfl, 11, _, rfl, rfl, rfl⟩)⟩
set_option maxRecDepth 100000 in
theorem sw_FM_78 : sw_FM 78 := ⟨⟨by decide +kernel, sw_in 671 rfl rfl, sw_in 31 rfl rfl, by decide +kernel⟩, ⟨by decide +kernel, by decide +kernel⟩, by decide +kernel, Or.inr (Or.inl ⟨rfl, by decide, sw_in 669 rfl rfl, sw_in 670 rfl rfl, rfl, 11, _, rfl, rfl, rfl⟩)⟩
set_option maxRecDepth 100000 in
theorem sw_FM_79 : sw_FM 79 := ⟨⟨by decide +kernel, sw_in 773 rfl rfl, sw_in 30 rfl rfl, by decide +kernel⟩, ⟨by decide +kernel, by decide +kernel⟩, by decide +kernel, Or.inl ⟨rfl, sw_in 772 rfl rfl⟩⟩
set_option maxRecDepth 100000 in
theorem sw_FM_80 : sw_FM 80 := ⟨⟨by decide +kernel, sw_in 776 rfl rfl, sw_in 30 rfl rfl, by decide +kernel⟩, ⟨by decide +kernel, by decide +kernel⟩, by decide +kernel, Or.inl ⟨rfl, sw_in 775 rfl rfl⟩⟩
set_option maxRecDepth 100000 in
theorem sw_FM_81 : sw_FM 81 := ⟨⟨by decide +kernel, sw_in 798 rfl rfl, sw_in 30 rfl rfl, by decide +kernel⟩, ⟨by decide +kernel, by decide +kernel⟩, by decide +kernel, Or.inl ⟨rfl, sw_in 797 rfl rfl⟩⟩
set_option maxRecDepth 100000 in
theorem sw_FM_82 : sw_FM 82 := ⟨⟨by decide +kernel, sw_in 794 rfl rfl, sw_in 30 rfl rfl, by decide +kernel⟩, ⟨by decide +kernel, by decide +kernel⟩, by decide +kernel, Or.inl ⟨rfl, sw_in 793 rfl rfl⟩⟩
set_option maxRecDepth 100000 in
theorem sw_FM_83 : sw_FM 83 := ⟨⟨by decide +kernel, sw_in 791 rfl rfl, sw_in 30 rfl rfl, by decide +kernel⟩, ⟨by decide +kernel, by decide +kernel⟩, by decide +kernel, Or.inl ⟨rfl, sw_in 790 rfl rfl⟩⟩
set_option maxRecDepth 100000 in
theorem sw_FM_84 : sw_FM 84 := ⟨⟨by decide +kernel, sw_in 503 rfl rfl, sw_in 31 rfl rfl, by decide +kernel⟩, ⟨by decide +kernel, by decide +kernel⟩, by decide +kernel, Or.inl ⟨rfl, sw_in 502 rfl rfl⟩⟩
set_option maxRecDepth 100000 in
theorem sw_FM_85 : sw_FM 85 := ⟨⟨by decide +kernel, sw_in 511 rfl rfl, sw_in 31 rfl rfl, by decide +kernel⟩, ⟨by decide +kernel, by decide +kernel⟩, by decide +kernel, Or.inl ⟨rfl, sw_in 510 rfl rfl⟩⟩
set_option maxRecDepth 100000 in
theorem sw_FM_86 : sw_FM 86 := ⟨⟨by decide +kernel, sw_in 514 rfl rfl, sw_in 31 rfl rfl, by decide +kernel⟩, ⟨by decide +kernel, by decide +kernel⟩, by decide +kernel, Or.inl ⟨rfl, sw_in 513 rfl rfl⟩⟩
set_option maxRecDepth 100000 in
theorem sw_FM_87 : sw_FM 87 := ⟨⟨by decide +kernel, sw_in 698 rfl rfl, sw_in 35 rfl rfl, by decide +kernel⟩, ⟨by decide +kernel, by decide +kernel⟩, by decide +kernel, Or.inr (Or.inl ⟨rfl, by decide, sw_in 696 rfl rfl, sw_in 697 rfl rfl, rfl, 9, _, rfl, rfl, rfl⟩)⟩
set_option maxRecDepth 100000 in
theorem sw_FM_88 : sw_FM 88 := ⟨⟨by decide +kernel, sw_in 708 rfl rfl, sw_in 35 rfl rfl, by decide +kernel⟩, ⟨by decide +kernel, by decide +kernel⟩, by decide +kernel, Or.inr (Or.inl ⟨rfl, by decide, sw_in 707 rfl rfl, sw_in 12 rfl rfl, rfl, 9, _, rfl, rfl, rfl⟩)⟩
set_option maxRecDepth 100000 in
theorem sw_FM_89 : sw_FM 89 := ⟨⟨by decide +kernel, sw_in 721 rfl rfl, sw_in 31 rfl rfl, by decide +kernel⟩, ⟨by decide +kernel, by decide +kernel⟩, by decide +kernel, Or.inl ⟨rfl, sw_in 720 rfl rfl⟩⟩
set_option maxRecDepth 100000 in
theorem sw_FM_90 : sw_FM 90 := ⟨⟨by decide +kernel, sw_in 716 rfl rfl, sw_in 35 rfl rfl, by decide +kernel⟩, ⟨by decide +kernel, by decide +kernel⟩, by decide +kernel, Or.inr (Or.inl ⟨rfl, by decide, sw_in 715 rfl rfl, sw_in 13 rfl rfl, rfl, 9, _, rfl, rfl, rfl⟩)⟩
set_option maxRecDepth 100000 in
theorem sw_FM_91 : sw_FM 91 := ⟨⟨by decide +kernel, sw_in 704 rfl rfl, sw_in 35 rfl rfl, by decide +kernel⟩, ⟨by decide +kernel, by decide +kernel⟩, by decide +kernel, Or.inr (Or.inl ⟨rfl, by decide, sw_in 702 rfl rfl, sw_in 703 rfl rfl, rfl, 9, _, rfl, rfl, rfl⟩)⟩
set_option maxRecDepth 100000 in
theorem sw_FM_92 : sw_FM 92 := ⟨⟨by decide +kernel, sw_in 694 rfl rfl, sw_in 31 rfl rfl, by decide +kernel⟩, ⟨by decide +kernel, by decide +kernel⟩, by decide +kernel, Or.inr (Or.inl ⟨rfl, by decide, sw_in 692 rfl rfl, sw_in 693 rfl rfl, rfl, 11, _, rfl, rfl, rfl⟩)⟩
set_option maxRecDepth 100000 in
theorem sw_FM_93 : sw_FM 93 := ⟨⟨by decide +kernel, sw_in 686 rfl rfl, sw_in 31 rfl rfl, by decide +kernel⟩, ⟨by decide +kernel, by decide +kernel⟩, by decide +kernel, Or.inl ⟨rfl, sw_in 685 rfl rfl⟩⟩
set_option maxRecDepth 100000 in
theorem sw_FM_94 : sw_FM 94 := ⟨⟨by decide +kernel, sw_in 683 rfl rfl, sw_in 31 rfl rfl, by decide +kernel⟩, ⟨by decide +kernel, by decide +kernel⟩, by decide +kernel, Or.inr (Or.inl ⟨rfl, by decide, sw_in 681 rfl rfl, sw_in 682 rfl rfl, rfl, 11, _, rfl, rfl, rfl⟩)⟩
set_option maxRecDepth 100000 in
theorem sw_FM_95 : sw_FM 95 := ⟨⟨by decide +kernel, sw_in 826 rfl rfl, sw_in 31 rfl rfl, by decide +kernel⟩, ⟨by decide +kernel, by decide +kernel⟩, by decide +kernel, Or.inr (Or.inl ⟨rfl, by decide, sw_in 825 rfl rfl, sw_in 15 rfl rfl, rfl, 11, _, rfl, rfl, rfl⟩)⟩
set_option maxRecDepth 100000 in
theorem sw_FM_96 : sw_FM 96 := ⟨⟨by decide +kernel, sw_in 822 rfl rfl, sw_in 31 rfl rfl, by decide +kernel⟩, ⟨by decide +kernel, by decide +kernel⟩, by decide +kernel, Or.inr (Or.inl ⟨rfl, by decide, sw_in 820 rfl rfl, sw_in 821 rfl rfl, rfl, 11, _, rfl, rfl, rfl⟩)⟩
set_option maxRecDepth 100000 in
theorem sw_FM_97 : sw_FM 97 := ⟨⟨by decide +kernel, sw_in 838 rfl rfl, sw_in 35 rfl rfl, by decide +kernel⟩, ⟨by decide +kernel, by decide +kernel⟩, by decide +kernel, Or.inr (Or.inl ⟨rfl, by decide, sw_in 837 rfl rfl, sw_in 16 rfl rfl, rfl, 9, _, rfl, rfl, rfl⟩)⟩
set_option maxRecDepth 100000 in
theorem sw_FM_98 : sw_FM 98 := ⟨⟨by decide +kernel, sw_in 834 rfl rfl, sw_in 35 rfl rfl, by decide +kernel⟩, ⟨by decide +kernel, by decide +kernel⟩, by decide +kernel, Or.inr (Or.inl ⟨rfl, by decide, sw_in 832 rfl rfl, sw_in 833 rfl rfl, rfl, 9, _, rfl, rfl, rfl⟩)⟩
set_option maxRecDepth 100000 in
theorem sw_FM_99 : sw_FM 99 := ⟨⟨by decide +kernel, sw_in 830 rfl rfl, sw_in 31 rfl rfl, by decide +kernel⟩, ⟨by decide +kernel, by decide +kernel⟩, by decide +kernel, Or.inr (Or.inl ⟨rfl, by decide, sw_in 828 rfl rfl, sw_in 829 rfl rfl, rfl, 11, _, rfl, rfl, rfl⟩)⟩
set_option maxRecDepth 100000 in
theorem sw_FM_100 : sw_FM 100 := ⟨⟨by decide +kernel, sw_in 841 rfl rfl, sw_in 30 rfl rfl, by decide +kernel⟩, ⟨by decide +kernel, by decide +kernel⟩, by decide +kernel, Or.inl ⟨rfl, sw_in 840 rfl rfl⟩⟩
set_option maxRecDepth 100000 in
theorem sw_FM_101 : sw_FM 101 := ⟨⟨by decide +kernel, sw_in 849 rfl rfl, sw_in 35 rfl rfl, by decide +kernel⟩, ⟨by decide +kernel, by decide +kernel⟩, by decide +kernel, Or.inr (Or.inl ⟨rfl, by decide, sw_in 847 rfl rfl, sw_in 848 rfl rfl, rfl, 9, _, rfl, rfl, rfl⟩)⟩
set_option maxRecDepth 100000 in
theorem sw_FM_102 : sw_FM 102 := ⟨⟨by decide +kernel, sw_in 845 rfl rfl, sw_in 31 rfl rfl, by decide +kernel⟩, ⟨by decide +kernel, by decide +kernel⟩, by decide +kernel, Or.inr (Or.inl ⟨rfl, by decide, sw_in 843 rfl rfl, sw_in 844 rfl rfl, rfl, 11, _, rfl, rfl, rfl⟩)⟩
set_option maxRecDepth 100000 in
theorem sw_FM_103 : sw_FM 103 := ⟨⟨by decide +kernel, sw_in 862 rfl rfl, sw_in 37 rfl rfl, by decide +kernel⟩, ⟨by decide +kernel, by decide +kernel⟩, by decide +kernel, Or.inr (Or.inl ⟨rfl, by decide, sw_in 861 rfl rfl, sw_in 17 rfl rfl, rfl, 2, _, rfl, rfl, rfl⟩)⟩
set_option maxRecDepth 100000 in
theorem sw_FM_104 : sw_FM 104 := ⟨⟨by decide +kernel, sw_in 866 rfl rfl, sw_in 31 rfl rfl, by decide +kernel⟩, ⟨by decide +kernel, by decide +kernel⟩, by decide +kernel, Or.inl ⟨rfl, sw_in 865 rfl rfl⟩⟩
set_option maxRecDepth 100000 in
theorem sw_FM_105 : sw_FM 105 := ⟨⟨by decide +kernel, sw_in 508 rfl rfl, sw_in 32 rfl rfl, by decide +kernel⟩, ⟨by decide +kernel, by decide +kernel⟩, by decide +kernel, Or.inr (Or.inl ⟨rfl, by decide, sw_in 506 rfl rfl, sw_in 507 rfl rfl, rfl, 8, _, rfl, rfl, rfl⟩)⟩
set_option maxRecDepth 100000 in
theorem sw_FM_106 : sw_FM 106 := ⟨⟨by decide +kernel, sw_in 870 rfl rfl, sw_in 37 rfl rfl, by decide +kernel⟩, ⟨by decide +kernel, by decide +kernel⟩, by decide +kernel, Or.inr (Or.inl ⟨rfl, by decide, sw_in 869 rfl rfl, sw_in 18 rfl rfl, rfl, 2, _, rfl, rfl, rfl⟩)⟩
set_option maxRecDepth 100000 in
theorem sw_FM_107 : sw_FM 107 := ⟨⟨by decide +kernel, sw_in 877 rfl rfl, sw_in 37 rfl rfl, by decide +kernel⟩, ⟨by decide +kernel, by decide +kernel⟩, by decide +kernel, Or.inr (Or.inl ⟨rfl, by decide, sw_in 876 rfl rfl, sw_in 19 rfl rfl, rfl, 2, _, rfl, rfl, rfl⟩)⟩
set_option maxRecDepth 100000 in
theorem sw_FM_108 : sw_FM 108 := ⟨⟨by decide +kernel, sw_in 858 rfl rfl, sw_in 37 rfl rfl, by decide +kernel⟩, ⟨by decide +kernel, by decide +kernel⟩, by decide +kernel, Or.inr (Or.inl ⟨rfl, by decide, sw_in 856 rfl rfl, sw_in 857 rfl rfl, rfl, 2, _, rfl, rfl, rfl⟩)⟩
set_option maxRecDepth 100000 in
theorem sw_FM_109 : sw_FM 109 := ⟨⟨by decide +kernel, sw_in 854 rfl rfl, sw_in 31 rfl rfl, by decide +kernel⟩, ⟨by decide +kernel, by decide +kernel⟩, by decide +kernel, Or.inr (Or.inl ⟨rfl, by decide, sw_in 852 rfl rfl, sw_in 853 rfl rfl, rfl, 11, _, rfl, rfl, rfl⟩)⟩
set_option maxRecDepth 100000 in
theorem sw_FM_110 : sw_FM 110 := ⟨⟨by decide +kernel, sw_in 893 rfl rfl, sw_in 38 rfl rfl, by decide +kernel⟩, ⟨by decide +kernel, by decide +kernel⟩, by decide +kernel, Or.inr (Or.inl ⟨rfl, by decide, sw_in 891 rfl rfl, sw_in 892 rfl rfl, rfl, 3, _, rfl, rfl, rfl⟩)⟩
set_option maxRecDepth 100000 in
theorem sw_FM_111 : sw_FM 111 := ⟨⟨by decide +kernel, sw_in 899 rfl rfl, sw_in 38 rfl rfl, by decide +kernel⟩, ⟨by decide +kernel, by decide +kernel⟩, by decide +kernel, Or.inr (Or.inl ⟨rfl, by decide, sw_in 897 rfl rfl, sw_in 898 rfl rfl, rfl, 3, _, rfl, rfl, rfl⟩)⟩
set_option maxRecDepth 100000 in
theorem sw_FM_112 : sw_FM 112 := ⟨⟨by decide +kernel, sw_in 889 rfl rfl, sw_in 37 rfl rfl, by decide +kernel⟩, ⟨by decide +kernel, by decide +kernel⟩, by decide +kernel, Or.inr (Or.inl ⟨rfl, by decide, sw_in 888 rfl rfl, sw_in 20 rfl rfl, rfl, 2, _, rfl, rfl, rfl⟩)⟩
set_option maxRecDepth 100000 in
theorem sw_FM_113 : sw_FM 113 := ⟨⟨by decide +kernel, sw_in 903 rfl rfl, sw_in 38 rfl rfl, by decide +kernel⟩, ⟨by decide +kernel, by decide +kernel⟩, by decide +kernel, Or.inr (Or.inl ⟨rfl, by decide, sw_in 901 rfl rfl, sw_in 902 rfl rfl, rfl, 3, _, rfl, rfl, rfl⟩)⟩
set_option maxRecDepth 100000 in
theorem sw_FM_114 : sw_FM 114 := ⟨⟨by decide +kernel, sw_in 907 rfl rfl, sw_in 37 rfl rfl, by decide +kernel⟩, ⟨by decide +kernel, by decide +kernel⟩, by decide +kernel, Or.inr (Or.inl ⟨rfl, by decide, sw_in 906 rfl rfl, sw_in 21 rfl rfl, rfl, 2, _, rfl, rfl, rfl⟩)⟩
set_option maxRecDepth 100000 in
theorem sw_FM_115 : sw_FM 115 := ⟨⟨by decide +kernel, sw_in 885 rfl rfl, sw_in 37 rfl rfl, by decide +kernel⟩, ⟨by decide +kernel, by decide +kernel⟩, by decide +kernel, Or.inr (Or.inl ⟨rfl, by decide, sw_in 883 rfl rfl, sw_in 884 rfl rfl, rfl, 2, _, rfl, rfl, rfl⟩)⟩
set_option maxRecDepth 100000 in
theorem sw_FM_116 : sw_FM 116 := ⟨⟨by decide +kernel, sw_in 881 rfl rfl, sw_in 31 rfl rfl, by decide +kernel⟩, ⟨by decide +kernel, by decide +kernel⟩, by decide +kernel, Or.inr (Or.inl ⟨rfl, by decide, sw_in 879 rfl rfl, sw_in 880 rfl rfl, rfl, 11, _, rfl, rfl, rfl⟩)⟩
set_option maxRecDepth 100000 in
theorem sw_FM_117 : sw_FM 117 := ⟨⟨by decide +kernel, sw_in 913 rfl rfl, sw_in 30 rfl rfl, by decide +kernel⟩, ⟨by decide +kernel, by decide +kernel⟩, by decide +kernel, Or.inl ⟨rfl, sw_in 912 rfl rfl⟩⟩
set_option maxRecDepth 100000 in
theorem sw_FM_118 : sw_FM 118 := ⟨⟨by decide +kernel, sw_in 930 rfl rfl, sw_in 36 rfl rfl, by decide +kernel⟩, ⟨by decide +kernel, by decide +kernel⟩, by decide +kernel, Or.inr (Or.inl ⟨rfl, by decide, sw_in 929 rfl rfl, sw_in 23 rfl rfl, rfl, 4, _, rfl, rfl, rfl⟩)⟩
set_option maxRecDepth 100000 in
theorem sw_FM_119 : sw_FM 119 := ⟨⟨by decide +kernel, sw_in 939 rfl rfl, sw_in 36 rfl rfl, by decide +kernel⟩, ⟨by decide +kernel, by decide +kernel⟩, by decide +kernel, Or.inr (Or.inl ⟨rfl, by decide, sw_in 938 rfl rfl, sw_in 24 rfl rfl, rfl, 4, _, rfl, rfl, rfl⟩)⟩
set_option maxRecDepth 100000 in
theorem sw_FM_120 : sw_FM 120 := ⟨⟨by decide +kernel, sw_in 926 rfl rfl, sw_in 36 rfl rfl, by decide +kernel⟩, ⟨by decide +kernel, by decide +kernel⟩, by decide +kernel, Or.inr (Or.inl ⟨rfl, by decide, sw_in 925 rfl rfl, sw_in 22 rfl rfl, rfl, 4, _, rfl, rfl, rfl⟩)⟩
set_option maxRecDepth 100000 in
theorem sw_FM_121 : sw_FM 121 := ⟨⟨by decide +kernel, sw_in 944 rfl rfl, sw_in 36 rfl rfl, by decide +kernel⟩, ⟨by decide +kernel, by decide +kernel⟩, by decide +kernel, Or.inr (Or.inl ⟨rfl, by decide, sw_in 943 rfl rfl, sw_in 25 rfl rfl, rfl, 4, _, rfl, rfl, rfl⟩)⟩
set_option maxRecDepth 100000 in
theorem sw_FM_122 : sw_FM 122 := ⟨⟨by decide +kernel, sw_in 921 rfl rfl, sw_in 36 rfl rfl, by decide +kernel⟩, ⟨by decide +kernel, by decide +kernel⟩, by decide +kernel, Or.inr (Or.inl ⟨rfl, by decide, sw_in 919 rfl rfl, sw_in 920 rfl rfl, rfl, 4, _, rfl, rfl, rfl⟩)⟩
set_option maxRecDepth 100000 in
theorem sw_FM_123 : sw_FM 123 := ⟨⟨by decide +kernel, sw_in 950 rfl rfl, sw_in 36 rfl rfl, by decide +kernel⟩, ⟨by decide +kernel, by decide +kernel⟩, by decide +kernel, Or.inr (Or.inl ⟨rfl, by decide, sw_in 948 rfl rfl, sw_in 949 rfl rfl, rfl, 4, _, rfl, rfl, rfl⟩)⟩
set_option maxRecDepth 100000 in
theorem sw_FM_124 : sw_FM 124 := ⟨⟨by decide +kernel, sw_in 917 rfl rfl, sw_in 31 rfl rfl, by decide +kernel⟩, ⟨by decide +kernel, by decide +kernel⟩, by decide +kernel, Or.inr (Or.inl ⟨rfl, by decide, sw_in 915 rfl rfl, sw_in 916 rfl rfl, rfl, 11, _, rfl, rfl, rfl⟩)⟩
set_option maxRecDepth 100000 in
theorem sw_FM_125 : sw_FM 125 := ⟨⟨by decide +kernel, sw_in 954 rfl rfl, sw_in 31 rfl rfl, by decide +kernel⟩, ⟨by decide +kernel, by decide +kernel⟩, by decide +kernel, Or.inr (Or.inl ⟨rfl, by decide, sw_in 952 rfl rfl, sw_in 953 rfl rfl, rfl, 11, _, rfl, rfl, rfl⟩)⟩
set_option maxRecDepth 100000 in
theorem sw_FM_126 : sw_FM 126 := ⟨⟨by decide +kernel, sw_in 962 rfl rfl, sw_in 35 rfl rfl, by decide +kernel⟩, ⟨by decide +kernel, by decide +kernel⟩, by decide +kernel, Or.inr (Or.inl ⟨rfl, by decide, sw_in 960 rfl rfl, sw_in 961 rfl rfl, rfl, 9, _, rfl, rfl, rfl⟩)⟩
set_option maxRecDepth 100000 in
theorem sw_FM_127 : sw_FM 127 := ⟨⟨by decide +kernel, sw_in 958 rfl rfl, sw_in 31 rfl rfl, by decide +kernel⟩, ⟨by decide +kernel, by decide +kernel⟩, by decide +kernel, Or.inr (Or.inl ⟨rfl, by decide, sw_in 956 rfl rfl, sw_in 957 rfl rfl, rfl, 11, _, rfl, rfl, rfl⟩)⟩
set_option maxRecDepth 100000 in
theorem sw_FM_128 : sw_FM 128 := ⟨⟨by decide +kernel, sw_in 967 rfl rfl, sw_in 31 rfl rfl, by decide +kernel⟩, ⟨by decide +kernel, by decide +kernel⟩, by decide +kernel, Or.inr (Or.inl ⟨rfl, by decide, sw_in 965 rfl rfl, sw_in 966 rfl rfl, rfl, 11, _, rfl, rfl, rfl⟩)⟩
set_option maxRecDepth 100000 in
theorem sw_FM_129 : sw_FM 129 := ⟨⟨by decide +kernel, sw_in 970 rfl rfl, sw_in 30 rfl rfl, by decide +kernel⟩, ⟨by decide +kernel, by decide +kernel⟩, by decide +kernel, Or.inl ⟨rfl, sw_in 969 rfl rfl⟩⟩
set_option maxRecDepth 100000 in
theorem sw_FM_130 : sw_FM 130 := ⟨⟨by decide +kernel, sw_in 818 rfl rfl, sw_in 30 rfl rfl, by decide +kernel⟩, ⟨by decide +kernel, by decide +kernel⟩, by decide +kernel, Or.inl ⟨rfl, sw_in 817 rfl rfl⟩⟩
set_option maxRecDepth 100000 in
theorem sw_FM_131 : sw_FM 131 := ⟨⟨by decide +kernel, sw_in 976 rfl rfl, sw_in 30 rfl rfl, by decide +kernel⟩, ⟨by decide +kernel, by decide +kernel⟩, by decide +kernel, Or.inl ⟨rfl, sw_in 975 rfl rfl⟩⟩
set_option maxRecDepth 100000 in
theorem sw_FM_132 : sw_FM 132 := ⟨⟨by decide +kernel, sw_in 984 rfl rfl, sw_in 38 rfl rfl, by decide +kernel⟩, ⟨by decide +kernel, by decide +kernel⟩, by decide +kernel, Or.inr (Or.inl ⟨rfl, by decide, sw_in 982 rfl rfl, sw_in 983 rfl rfl, rfl, 3, _, rfl, rfl, rfl⟩)⟩
set_option maxRecDepth 100000 in
theorem sw_FM_133 : sw_FM 133 := ⟨⟨by decide +kernel, sw_in 980 rfl rfl, sw_in 31 rfl rfl, by decide +kernel⟩, ⟨by decide +kernel, by decide +kernel⟩, by decide +kernel, Or.inr (Or.inl ⟨rfl, by decide, sw_in 978 rfl rfl, sw_in 979 rfl rfl, rfl, 11, _, rfl, rfl, rfl⟩)⟩
set_option maxRecDepth 100000 in
theorem sw_FM_134 : sw_FM 134 := ⟨⟨by decide +kernel, sw_in 993 rfl rfl, sw_in 31 rfl rfl, by decide +kernel⟩, ⟨by decide +kernel, by decide +kernel⟩, by decide +kernel, Or.inr (Or.inl ⟨rfl, by decide, sw_in 991 rfl rfl, sw_in 992 rfl rfl, rfl, 11, _, rfl, rfl, rfl⟩)⟩
set_option maxRecDepth 100000 in
theorem sw_FM_135 : sw_FM 135 := ⟨⟨by decide +kernel, sw_in 1004 rfl rfl, sw_in 38 rfl rfl, by decide +kernel⟩, ⟨by decide +kernel, by decide +kernel⟩, by decide +kernel, Or.inr (Or.inl ⟨rfl, by decide, sw_in 1002 rfl rfl, sw_in 1003 rfl rfl, rfl, 3, _, rfl, rfl, rfl⟩)⟩
set_option maxRecDepth 100000 in
theorem sw_FM_136 : sw_FM 136 := ⟨⟨by decide +kernel, sw_in 999 rfl rfl, sw_in 31 rfl rfl, by decide +kernel⟩, ⟨by decide +kernel, by decide +kernel⟩, by decide +kernel, Or.inr (Or.inl ⟨rfl, by decide, sw_in 997 rfl rfl, sw_in 998 rfl rfl, rfl, 11, _, rfl, rfl, rfl⟩)⟩
set_option maxRecDepth 100000 in
theorem sw_FM_137 : sw_FM 137 := ⟨⟨by decide +kernel, sw_in 1018 rfl rfl, sw_in 31 rfl rfl, by decide +kernel⟩, ⟨by decide +kernel, by decide +kernel⟩, by decide +kernel, Or.inr (Or.inl ⟨rfl, by decide, sw_in 1017 rfl rfl, sw_in 26 rfl rfl, rfl, 11, _, rfl, rfl, rfl⟩)⟩
set_option maxRecDepth 100000 in
theorem sw_FM_138 : sw_FM 138 := ⟨⟨by decide +kernel, sw_in 1027 rfl rfl, sw_in 40 rfl rfl, by decide +kernel⟩, ⟨by decide +kernel, by decide +kernel⟩, by decide +kernel, Or.inr (Or.inl ⟨rfl, by decide, sw_in 1026 rfl rfl, sw_in 27 rfl rfl, rfl, 6, _, rfl, rfl, rfl⟩)⟩
set_option maxRecDepth 100000 in
theorem sw_FM_139 : sw_FM 139 := ⟨⟨by decide +kernel, sw_in 1022 rfl rfl, sw_in 40 rfl rfl, by decide +kernel⟩, ⟨by decide +kernel, by decide +kernel⟩, by decide +kernel, Or.inr (Or.inl ⟨rfl, by decide, sw_in 1020 rfl rfl, sw_in 1021 rfl rfl, rfl, 6, _, rfl, rfl, rfl⟩)⟩
set_option maxRecDepth 100000 in
theorem sw_FM_140 : sw_FM 140 := ⟨⟨by decide +kernel, sw_in 1014 rfl rfl, sw_in 31 rfl rfl, by decide +kernel⟩, ⟨by decide +kernel, by decide +kernel⟩, by decide +kernel, Or.inr (Or.inl ⟨rfl, by decide, sw_in 1012 rfl rfl, sw_in 1013 rfl rfl, rfl, 11, _, rfl, rfl, rfl⟩)⟩
set_option maxRecDepth 100000 in
theorem sw_FM_141 : sw_FM 141 := ⟨⟨by decide +kernel, sw_in 1010 rfl rfl, sw_in 30 rfl rfl, by decide +kernel⟩, ⟨by decide +kernel, by decide +kernel⟩, by decide +kernel, Or.inl ⟨rfl, sw_in 1009 rfl rfl⟩⟩
set_option maxRecDepth 100000 in
theorem sw_FM_142 : sw_FM 142 := ⟨⟨by decide +kernel, sw_in 1037 rfl rfl, sw_in 31 rfl rfl, by decide +kernel⟩, ⟨by decide +kernel, by decide +kernel⟩, by decide +kernel, Or.inr (Or.inl ⟨rfl, by decide, sw_in 1035 rfl rfl, sw_in 1036 rfl rfl, rfl, 11, _, rfl, rfl, rfl⟩)⟩
set_option maxRecDepth 100000 in
theorem sw_FM_143 : sw_FM 143 := ⟨⟨by decide +kernel, sw_in 1033 rfl rfl, sw_in 30 rfl rfl, by decide +kernel⟩, ⟨by decide +kernel, by decide +kernel⟩, by decide +kernel, Or.inl ⟨rfl, sw_in 1032 rfl rfl⟩⟩
set_option maxRecDepth 100000 in
theorem sw_FM_144 : sw_FM 144 := ⟨⟨by decide +kernel, sw_in 1007 rfl rfl, sw_in 30 rfl rfl, by decide +kernel⟩, ⟨by decide +kernel, by decide +kernel⟩, by decide +kernel, Or.inl ⟨rfl, sw_in 1006 rfl rfl⟩⟩
set_option maxRecDepth 100000 in
theorem sw_FM_145 : sw_FM 145 := ⟨⟨by decide +kernel, sw_in 973 rfl rfl, sw_in 30 rfl rfl, by decide +kernel⟩, ⟨by decide +kernel, by decide +kernel⟩, by decide +kernel, Or.inl ⟨rfl, sw_in 972 rfl rfl⟩⟩
set_option maxRecDepth 100000 in
theorem sw_FM_146 : sw_FM 146 := ⟨⟨by decide +kernel, sw_in 679 rfl rfl, sw_in 43 rfl rfl, by decide +kernel⟩, ⟨by decide +kernel, by decide +kernel⟩, by decide +kernel, Or.inr (Or.inl ⟨rfl, by decide, sw_in 677 rfl rfl, sw_in 678 rfl rfl, rfl, 5, _, rfl, rfl, rfl⟩)⟩
set_option maxRecDepth 100000 in
theorem sw_FM_147 : sw_FM 147 := ⟨⟨by decide +kernel, sw_in 675 rfl rfl, sw_in 31 rfl rfl, by decide +kernel⟩, ⟨by decide +kernel, by decide +kernel⟩, by decide +kernel, Or.inr (Or.inl ⟨rfl, by decide, sw_in 673 rfl rfl, sw_in 674 rfl rfl, rfl, 11, _, rfl, rfl, rfl⟩)⟩
set_option maxRecDepth 100000 in
theorem sw_FM_148 : sw_FM 148 := ⟨⟨by decide +kernel, sw_in 725 rfl rfl, sw_in 31 rfl rfl, by decide +kernel⟩, ⟨by decide +kernel, by decide +kernel⟩, by decide +kernel, Or.inr (Or.inl ⟨rfl, by decide, sw_in 723 rfl rfl, sw_in 724 rfl rfl, rfl, 11, _, rfl, rfl, rfl⟩)⟩
set_option maxRecDepth 100000 in
theorem sw_FM_149 : sw_FM 149 := ⟨⟨by decide +kernel, sw_in 500 rfl rfl, sw_in 31 rfl rfl, by decide +kernel⟩, ⟨by decide +kernel, by decide +kernel⟩, by decide +kernel, Or.inr (Or.inl ⟨rfl, by decide, sw_in 498 rfl rfl, sw_in 499 rfl rfl, rfl, 11, _, rfl, rfl, rfl⟩)⟩
def sw_all (P : Nat → Prop) : Nat → Prop
  | 0 => True
  | n + 1 => sw_all P n ∧ P n
theorem sw_all_at {P : Nat → Prop} : ∀ (n : Nat), sw_all P n → ∀ k, k < n → P k
  | 0, _, k, h => absurd h (Nat.not_lt_zero k)
  | n + 1, a, k, h => by
    rcases Nat.lt_or_ge k n with q | q
    · exact sw_all_at n a.1 k q
    · rw [show k = n by omega]; exact a.2
theorem sw_FMa_10 : sw_all sw_FM 10 := ⟨⟨⟨⟨⟨⟨⟨⟨⟨⟨True.intro, sw_FM_0⟩, sw_FM_1⟩, sw_FM_2⟩, sw_FM_3⟩, sw_FM_4⟩, sw_FM_5⟩, sw_FM_6⟩, sw_FM_7⟩, sw_FM_8⟩, sw_FM_9⟩
theorem sw_FMa_20 : sw_all sw_FM 20 := ⟨⟨⟨⟨⟨⟨⟨⟨⟨⟨sw_FMa_10, sw_FM_10⟩, sw_FM_11⟩, sw_FM_12⟩, sw_FM_13⟩, sw_FM_14⟩, sw_FM_15⟩, sw_FM_16⟩, sw_FM_17⟩, sw_FM_18⟩, sw_FM_19⟩
theorem sw_FMa_30 : sw_all sw_FM 30 := ⟨⟨⟨⟨⟨⟨⟨⟨⟨⟨sw_FMa_20, sw_FM_20⟩, sw_FM_21⟩, sw_FM_22⟩, sw_FM_23⟩, sw_FM_24⟩, sw_FM_25⟩, sw_FM_26⟩, sw_FM_27⟩, sw_FM_28⟩, sw_FM_29⟩
theorem sw_FMa_40 : sw_all sw_FM 40 := ⟨⟨⟨⟨⟨⟨⟨⟨⟨⟨sw_FMa_30, sw_FM_30⟩, sw_FM_31⟩, sw_FM_32⟩, sw_FM_33⟩, sw_FM_34⟩, sw_FM_35⟩, sw_FM_36⟩, sw_FM_37⟩, sw_FM_38⟩, sw_FM_39⟩
theorem sw_FMa_50 : sw_all sw_FM 50 := ⟨⟨⟨⟨⟨⟨⟨⟨⟨⟨sw_FMa_40, sw_FM_40⟩, sw_FM_41⟩, sw_FM_42⟩, sw_FM_43⟩, sw_FM_44⟩, sw_FM_45⟩, sw_FM_46⟩, sw_FM_47⟩, sw_FM_48⟩, sw_FM_49⟩
theorem sw_FMa_60 : sw_all sw_FM 60 := ⟨⟨⟨⟨⟨⟨⟨⟨⟨⟨sw_FMa_50, sw_FM_50⟩, sw_FM_51⟩, sw_FM_52⟩, sw_FM_53⟩, sw_FM_54⟩, sw_FM_55⟩, sw_FM_56⟩, sw_FM_57⟩, sw_FM_58⟩, sw_FM_59⟩
theorem sw_FMa_70 : sw_all sw_FM 70 := ⟨⟨⟨⟨⟨⟨⟨⟨⟨⟨sw_FMa_60, sw_FM_60⟩, sw_FM_61⟩, sw_FM_62⟩, sw_FM_63⟩, sw_FM_64⟩, sw_FM_65⟩, sw_FM_66⟩, sw_FM_67⟩, sw_FM_68⟩, sw_FM_69⟩
theorem sw_FMa_80 : sw_all sw_FM 80 := ⟨⟨⟨⟨⟨⟨⟨⟨⟨⟨sw_FMa_70, sw_FM_70⟩, sw_FM_71⟩, sw_FM_72⟩, sw_FM_73⟩, sw_FM_74⟩, sw_FM_75⟩, sw_FM_76⟩, sw_FM_77⟩, sw_FM_78⟩, sw_FM_79⟩
theorem sw_FMa_90 : sw_all sw_FM 90 := ⟨⟨⟨⟨⟨⟨⟨⟨⟨⟨sw_FMa_80, sw_FM_80⟩, sw_FM_81⟩, sw_FM_82⟩, sw_FM_83⟩, sw_FM_84⟩, sw_FM_85⟩, sw_FM_86⟩, sw_FM_87⟩, sw_FM_88⟩, sw_FM_89⟩
theorem sw_FMa_100 : sw_all sw_FM 100 := ⟨⟨⟨⟨⟨⟨⟨⟨⟨⟨sw_FMa_90, sw_FM_90⟩, sw_FM_91⟩, sw_FM_92⟩, sw_FM_93⟩, sw_FM_94⟩, sw_FM_95⟩, sw_FM_96⟩, sw_FM_97⟩, sw_FM_98⟩, sw_FM_99⟩
theorem sw_FMa_110 : sw_all sw_FM 110 := ⟨⟨⟨⟨⟨⟨⟨⟨⟨⟨sw_FMa_100, sw_FM_100⟩, sw_FM_101⟩, sw_FM_102⟩, sw_FM_103⟩, sw_FM_104⟩, sw_FM_105⟩, sw_FM_106⟩, sw_FM_107⟩, sw_FM_108⟩, sw_FM_109⟩
theorem sw_FMa_120 : sw_all sw_FM 120 := ⟨⟨⟨⟨⟨⟨⟨⟨⟨⟨sw_FMa_110, sw_FM_110⟩, sw_FM_111⟩, sw_FM_112⟩, sw_FM_113⟩, sw_FM_114⟩, sw_FM_115⟩, sw_FM_116⟩, sw_FM_117⟩, sw_FM_118⟩, sw_FM_119⟩
theorem sw_FMa_130 : sw_all sw_FM 130 := ⟨⟨⟨⟨⟨⟨⟨⟨⟨⟨sw_FMa_120, sw_FM_120⟩, sw_FM_121⟩, sw_FM_122⟩, sw_FM_123⟩, sw_FM_124⟩, sw_FM_125⟩, sw_FM_126⟩, sw_FM_127⟩, sw_FM_128⟩, sw_FM_129⟩
theorem sw_FMa_140 : sw_all sw_FM 140 := ⟨⟨⟨⟨⟨⟨⟨⟨⟨⟨sw_FMa_130, sw_FM_130⟩, sw_FM_131⟩, sw_FM_132⟩, sw_FM_133⟩, sw_FM_134⟩, sw_FM_135⟩, sw_FM_136⟩, sw_FM_137⟩, sw_FM_138⟩, sw_FM_139⟩
theorem sw_FMa_150 : sw_all sw_FM 150 := ⟨⟨⟨⟨⟨⟨⟨⟨⟨⟨sw_FMa_140, sw_FM_140⟩, sw_FM_141⟩, sw_FM_142⟩, sw_FM_143⟩, sw_FM_144⟩, sw_FM_145⟩, sw_FM_146⟩, sw_FM_147⟩, sw_FM_148⟩, sw_FM_149⟩
theorem sw_FM_at (y : Nat) (h : y < 150) : sw_FM y := sw_all_at 150 sw_FMa_150 y h
