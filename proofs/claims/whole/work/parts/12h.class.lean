abbrev wd_X7_round (cI cZ cP cS : ClassId) (h_t h_t_red h_t_blue h_t_sky h_t_diary h_t_calendar h_t_awakeIn h_t_worths h_t_plants h_t_sheets h_t_bestFrom h_t_red_fitting h_t_red_worstLeft h_t_blue_fitting h_t_blue_worstLeft : Nat) (v_latestFinding : Int32) (v_turn : Nat → Int32) (v_phase : Nat → Int32) (v_up : Nat → Int32) : va_W := [(h_t, .inr (6, [.ref h_t_red, .ref h_t_blue, .ref h_t_sky, .ref h_t_diary, .ref h_t_calendar, .ref h_t_awakeIn, .ref h_t_worths, .ref h_t_plants, .ref h_t_sheets, .ref h_t_bestFrom, .int v_latestFinding])), (h_t_red, .inr (5, [.int (v_turn 0), .int (v_phase 0), .int (v_up 0), .ref h_t_red_fitting, .ref h_t_red_worstLeft])), (h_t_blue, .inr (5, [.int (v_turn 1), .int (v_phase 1), .int (v_up 1), .ref h_t_blue_fitting, .ref h_t_blue_worstLeft])), (h_t_sky, .inr (4, [.ref h_t_red, .ref h_t_blue]))]
abbrev rm_X7_round : Room := { frames := 1, cells := 0, slots := 0, locals := 22 }
def f_X7_round (n : Nat) (v_turn : Nat → Int32) : Option (Int32) := bd1_ (f_X4_hoursOfRound n v_turn) (fun (r4_1 : Int32) => some r4_1)
set_option maxHeartbeats 4000000 in
set_option maxRecDepth 100000 in
theorem c_X7_round (l : Launch) (dC : Nat → ClassId) (dI : Nat → Nat → Nat) (cI cZ cP cS : ClassId) (h_t h_t_red h_t_blue h_t_sky h_t_diary h_t_calendar h_t_awakeIn h_t_worths h_t_plants h_t_sheets h_t_bestFrom h_t_red_fitting h_t_red_worstLeft h_t_blue_fitting h_t_blue_worstLeft : Nat) (v_latestFinding : Int32) (v_turn : Nat → Int32) (v_phase : Nat → Int32) (v_up : Nat → Int32) (n : Nat) (r : Int32) (hf : f_X7_round n v_turn = some r) : Met l yX7_round wsX7_round rm_X7_round (RO (dC, dI) (TY cI cZ cP cS) [.ref h_t] (wd_X7_round cI cZ cP cS h_t h_t_red h_t_blue h_t_sky h_t_diary h_t_calendar h_t_awakeIn h_t_worths h_t_plants h_t_sheets h_t_bestFrom h_t_red_fitting h_t_red_worstLeft h_t_blue_fitting h_t_blue_worstLeft v_latestFinding v_turn v_phase v_up)) (vp_Si (fun x => x = r)) 0 0 NF := by
  refine Met.ofW (cc := cX7_round) (maxL := 1) (ret := (some .int)) (by decide) rfl ?_
  intro p e s m args below meth c s₁ B hml hv
  obtain ⟨rfl, hP, hK⟩ := hv
  have hx := B.exec
  have hb := B.bytes
  have hr := B.returns
  have hts := atoms_spec (ws := wsX7_round) B.pre
  have hown : s.vm.findClass RX7 = some m.cls := findClass_of_methodNamed B.named
  have hlocks := B.notSynchronized
  have hinX7 : ∀ w ∈ wsX70, w ∈ wsX7_round := by decide +kernel
  have hl := lv_entry ([.ref h_t]) (n := 1) (Nat.le_of_ble_eq_true rfl)
  rw [lg_entry_eq]
  generalize (lg_sl ([.ref h_t]) ++ List.replicate (1 - (lg_sl ([.ref h_t])).length) Slot.unset).toArray = ls at hl ⊢
  have hl : lv_has ls 1 [(0, .ref h_t)] := hl
  unfold f_X7_round at hf
  refine lv_aload_n hx hb dX7_round_0 rfl (lv_at hl 0 rfl) ?_
  refine va_get (D := (dC, dI)) (ci := 6) (v := .ref h_t_sky) (C := RX7) (T := TX7) (N := 11) hx hb hts hinX7 hown hK hP 0 rfl rfl 2 (by decide) (hts (.fieldLink RX7 26 "SecondSunrise" "sky" "LSecondSunrise$Sky;") (by decide +kernel)) (fun _ h9 => h9) rfl dX7_round_1 ?_
  obtain ⟨r4_1, hc_2, hf⟩ := bd1_e hf
  refine vp_callSi (va_runV (As := []) (rest := []) ⟨hx, hb, hml, hown, hts⟩ (c_X4_hoursOfRound l dC dI cI cZ cP cS h_t_sky h_t_red h_t_blue h_t_red_fitting h_t_red_worstLeft h_t_blue_fitting h_t_blue_worstLeft v_turn v_phase v_up  n r4_1 hc_2) (cwV 0 hts gX7_round_X4_hoursOfRound rfl rfl rfl (by decide +kernel) ⟨Nat.le_of_ble_eq_true rfl, Nat.le_of_ble_eq_true rfl⟩) (pv_ro (ci := 4) (q0 := 0) hK (hP.sub (ws' := (wd_X4_hoursOfRound cI cZ cP cS h_t_sky h_t_red h_t_blue h_t_red_fitting h_t_red_worstLeft h_t_blue_fitting h_t_blue_worstLeft v_turn v_phase v_up)) [3, 1, 2] rfl) rfl rfl) rfl rfl hl.1 rfl (lv_room (Nat.le_of_ble_eq_true rfl)) dX7_round_4 ⟨Nat.zero_le _, Nat.zero_le _⟩).run (fun x e_3 => ?_)
  rw [e_3]
  exact W.iret hx hb hr (fun t ht hW => ⟨_, rfl, Option.some.inj hf, ht⟩) (fun _ h => nomatch h) dX7_round_7

abbrev wd_X7_sheet (cI cZ cP cS : ClassId) (h_t h_t_red h_t_blue h_t_sky h_t_diary h_t_calendar h_t_awakeIn h_t_worths h_t_plants h_t_sheets h_t_bestFrom h_t_s0 h_t_s1 h_t_s2 h_t_s3 h_t_s0_items h_t_s1_items h_t_s2_items h_t_s3_items : Nat) (v_latestFinding : Int32) (v_sform : Nat → Int32) (v_ssize : Nat → Int32) (v_sitems : Nat → Nat → Int32) : va_W := [(h_t, .inr (6, [.ref h_t_red, .ref h_t_blue, .ref h_t_sky, .ref h_t_diary, .ref h_t_calendar, .ref h_t_awakeIn, .ref h_t_worths, .ref h_t_plants, .ref h_t_sheets, .ref h_t_bestFrom, .int v_latestFinding])), (h_t_sheets, .inl (cS, 4, .inr (.inr (.inr (.inr (ar4 h_t_s0 h_t_s1 h_t_s2 h_t_s3)))))), (h_t_s0, .inr (3, [.int (v_sform 0), .int (v_ssize 0), .ref h_t_s0_items])), (h_t_s0_items, .inl (cI, 48, .inl (v_sitems 0))), (h_t_s1, .inr (3, [.int (v_sform 1), .int (v_ssize 1), .ref h_t_s1_items])), (h_t_s1_items, .inl (cI, 48, .inl (v_sitems 1))), (h_t_s2, .inr (3, [.int (v_sform 2), .int (v_ssize 2), .ref h_t_s2_items])), (h_t_s2_items, .inl (cI, 48, .inl (v_sitems 2))), (h_t_s3, .inr (3, [.int (v_sform 3), .int (v_ssize 3), .ref h_t_s3_items])), (h_t_s3_items, .inl (cI, 48, .inl (v_sitems 3)))]
abbrev rm_X7_sheet : Room := { frames := 2, cells := 0, slots := 0, locals := 43 }
def f_X7_sheet (n : Nat) (v_latestFinding : Int32) (v_sform : Nat → Int32) (v_ssize : Nat → Int32) (v_sitems : Nat → Nat → Int32) (x1 : Int32) (x2 : Int32) (x3 : Int32) : Option (Int32 × Int32 × (Nat → Int32) × (Nat → Int32) × (Nat → Nat → Int32)) := if x1 = 0 then bd1_ (f_X7_noForm n x2) (fun (r13_2 : Int32) => if r13_2 = 0 then if x3 ≤ 48 then if (0 : Int32) ≤ x3 then bd3_ (f_X3_begin n (v_sform 0) (v_ssize 0) (v_sitems 0) x2 x3) (fun (o42_6 : Int32) (o42_7 : Int32) (o42_8 : Nat → Int32) => some (x3, v_latestFinding, (upd v_sform 0 o42_6), (upd v_ssize 0 o42_7), (va_up v_sitems 0 o42_8))) else bd2_ (f_X7_found n v_latestFinding 5) (fun (r34_11 : Int32) (o34_12 : Int32) => some (r34_11, o34_12, v_sform, v_ssize, v_sitems)) else some ((-2), v_latestFinding, v_sform, v_ssize, v_sitems) else some ((-2), v_latestFinding, v_sform, v_ssize, v_sitems)) else if x1 = 1 then bd1_ (f_X7_noForm n x2) (fun (r13_15 : Int32) => if r13_15 = 0 then if x3 ≤ 48 then if (0 : Int32) ≤ x3 then bd3_ (f_X3_begin n (v_sform 1) (v_ssize 1) (v_sitems 1) x2 x3) (fun (o42_19 : Int32) (o42_20 : Int32) (o42_21 : Nat → Int32) => some (x3, v_latestFinding, (upd v_sform 1 o42_19), (upd v_ssize 1 o42_20), (va_up v_sitems 1 o42_21))) else bd2_ (f_X7_found n v_latestFinding 5) (fun (r34_24 : Int32) (o34_25 : Int32) => some (r34_24, o34_25, v_sform, v_ssize, v_sitems)) else some ((-2), v_latestFinding, v_sform, v_ssize, v_sitems) else some ((-2), v_latestFinding, v_sform, v_ssize, v_sitems)) else if x1 = 2 then bd1_ (f_X7_noForm n x2) (fun (r13_28 : Int32) => if r13_28 = 0 then if x3 ≤ 48 then if (0 : Int32) ≤ x3 then bd3_ (f_X3_begin n (v_sform 2) (v_ssize 2) (v_sitems 2) x2 x3) (fun (o42_32 : Int32) (o42_33 : Int32) (o42_34 : Nat → Int32) => some (x3, v_latestFinding, (upd v_sform 2 o42_32), (upd v_ssize 2 o42_33), (va_up v_sitems 2 o42_34))) else bd2_ (f_X7_found n v_latestFinding 5) (fun (r34_37 : Int32) (o34_38 : Int32) => some (r34_37, o34_38, v_sform, v_ssize, v_sitems)) else some ((-2), v_latestFinding, v_sform, v_ssize, v_sitems) else some ((-2), v_latestFinding, v_sform, v_ssize, v_sitems)) else if x1 = 3 then bd1_ (f_X7_noForm n x2) (fun (r13_41 : Int32) => if r13_41 = 0 then if x3 ≤ 48 then if (0 : Int32) ≤ x3 then bd3_ (f_X3_begin n (v_sform 3) (v_ssize 3) (v_sitems 3) x2 x3) (fun (o42_45 : Int32) (o42_46 : Int32) (o42_47 : Nat → Int32) => some (x3, v_latestFinding, (upd v_sform 3 o42_45), (upd v_ssize 3 o42_46), (va_up v_sitems 3 o42_47))) else bd2_ (f_X7_found n v_latestFinding 5) (fun (r34_50 : Int32) (o34_51 : Int32) => some (r34_50, o34_51, v_sform, v_ssize, v_sitems)) else some ((-2), v_latestFinding, v_sform, v_ssize, v_sitems) else some ((-2), v_latestFinding, v_sform, v_ssize, v_sitems)) else some ((-2), v_latestFinding, v_sform, v_ssize, v_sitems)
set_option maxHeartbeats 4000000 in
set_option maxRecDepth 100000 in
theorem c_X7_sheet (l : Launch) (dC : Nat → ClassId) (dI : Nat → Nat → Nat) (cI cZ cP cS : ClassId) (sz : Nat) (h_t h_t_red h_t_blue h_t_sky h_t_diary h_t_calendar h_t_awakeIn h_t_worths h_t_plants h_t_sheets h_t_bestFrom h_t_s0 h_t_s1 h_t_s2 h_t_s3 h_t_s0_items h_t_s1_items h_t_s2_items h_t_s3_items : Nat) (v_latestFinding : Int32) (v_sform : Nat → Int32) (v_ssize : Nat → Int32) (v_sitems : Nat → Nat → Int32) (x1 : Int32) (x2 : Int32) (x3 : Int32) (n : Nat) (r : Int32) (o_latestFinding : Int32) (o_sform : Nat → Int32) (o_ssize : Nat → Int32) (o_sitems : Nat → Nat → Int32) (hf : f_X7_sheet n v_latestFinding v_sform v_ssize v_sitems x1 x2 x3 = some (r, o_latestFinding, o_sform, o_ssize, o_sitems)) : Met l yX7_sheet wsX7_sheet rm_X7_sheet (RW (dC, dI) (TY cI cZ cP cS) [.ref h_t, .int x1, .int x2, .int x3] sz (wd_X7_sheet cI cZ cP cS h_t h_t_red h_t_blue h_t_sky h_t_diary h_t_calendar h_t_awakeIn h_t_worths h_t_plants h_t_sheets h_t_bestFrom h_t_s0 h_t_s1 h_t_s2 h_t_s3 h_t_s0_items h_t_s1_items h_t_s2_items h_t_s3_items v_latestFinding v_sform v_ssize v_sitems)) (RWi (dC, dI) (TY cI cZ cP cS) r sz (wd_X7_sheet cI cZ cP cS h_t h_t_red h_t_blue h_t_sky h_t_diary h_t_calendar h_t_awakeIn h_t_worths h_t_plants h_t_sheets h_t_bestFrom h_t_s0 h_t_s1 h_t_s2 h_t_s3 h_t_s0_items h_t_s1_items h_t_s2_items h_t_s3_items v_latestFinding v_sform v_ssize v_sitems) (wd_X7_sheet cI cZ cP cS h_t h_t_red h_t_blue h_t_sky h_t_diary h_t_calendar h_t_awakeIn h_t_worths h_t_plants h_t_sheets h_t_bestFrom h_t_s0 h_t_s1 h_t_s2 h_t_s3 h_t_s0_items h_t_s1_items h_t_s2_items h_t_s3_items o_latestFinding o_sform o_ssize o_sitems)) 0 0 (va_A (wd_X7_sheet cI cZ cP cS h_t h_t_red h_t_blue h_t_sky h_t_diary h_t_calendar h_t_awakeIn h_t_worths h_t_plants h_t_sheets h_t_bestFrom h_t_s0 h_t_s1 h_t_s2 h_t_s3 h_t_s0_items h_t_s1_items h_t_s2_items h_t_s3_items v_latestFinding v_sform v_ssize v_sitems) sz) := by
  refine Met.ofW (cc := cX7_sheet) (maxL := 5) (ret := (some .int)) (by decide) rfl ?_
  intro p e s m args below meth c s₁ B hml hv
  obtain ⟨rfl, hsz, hP, hK, hD0⟩ := hv
  have hx := B.exec
  have hb := B.bytes
  have hr := B.returns
  have hts := atoms_spec (ws := wsX7_sheet) B.pre
  have hown : s.vm.findClass RX7 = some m.cls := findClass_of_methodNamed B.named
  have hlocks := B.notSynchronized
  subst hsz
  have hD := hD0.self (sz := s.heap.size)
  have hA : ∀ q : Nat, s.heap.size ≤ q → (va_A (wd_X7_sheet cI cZ cP cS h_t h_t_red h_t_blue h_t_sky h_t_diary h_t_calendar h_t_awakeIn h_t_worths h_t_plants h_t_sheets h_t_bestFrom h_t_s0 h_t_s1 h_t_s2 h_t_s3 h_t_s0_items h_t_s1_items h_t_s2_items h_t_s3_items v_latestFinding v_sform v_ssize v_sitems) s.heap.size) q := fun q h => Or.inr h
  have hS : va_S (va_A (wd_X7_sheet cI cZ cP cS h_t h_t_red h_t_blue h_t_sky h_t_diary h_t_calendar h_t_awakeIn h_t_worths h_t_plants h_t_sheets h_t_bestFrom h_t_s0 h_t_s1 h_t_s2 h_t_s3 h_t_s0_items h_t_s1_items h_t_s2_items h_t_s3_items v_latestFinding v_sform v_ssize v_sitems) s.heap.size) s.heap s.heap [] := va_S.rf
  have hl := lv_entry ([.ref h_t, .int x1, .int x2, .int x3]) (n := 5) (Nat.le_of_ble_eq_true rfl)
  rw [lg_entry_eq]
  generalize (lg_sl ([.ref h_t, .int x1, .int x2, .int x3]) ++ List.replicate (5 - (lg_sl ([.ref h_t, .int x1, .int x2, .int x3])).length) Slot.unset).toArray = ls at hl ⊢
  have hl : lv_has ls 5 [(0, .ref h_t), (1, .int x1), (2, .int x2), (3, .int x3)] := hl
  obtain ⟨H, hH⟩ : ∃ H : Heap, H = s.heap := ⟨_, rfl⟩
  have hP : va_P (dC, dI) vwCl (wd_X7_sheet cI cZ cP cS h_t h_t_red h_t_blue h_t_sky h_t_diary h_t_calendar h_t_awakeIn h_t_worths h_t_plants h_t_sheets h_t_bestFrom h_t_s0 h_t_s1 h_t_s2 h_t_s3 h_t_s0_items h_t_s1_items h_t_s2_items h_t_s3_items v_latestFinding v_sform v_ssize v_sitems) H := by rw [hH]; exact hP
  have hS : va_S (va_A (wd_X7_sheet cI cZ cP cS h_t h_t_red h_t_blue h_t_sky h_t_diary h_t_calendar h_t_awakeIn h_t_worths h_t_plants h_t_sheets h_t_bestFrom h_t_s0 h_t_s1 h_t_s2 h_t_s3 h_t_s0_items h_t_s1_items h_t_s2_items h_t_s3_items v_latestFinding v_sform v_ssize v_sitems) s.heap.size) s.heap H [] := by rw [hH]; exact hS
  obtain ⟨locs, hlo⟩ : ∃ L : List Loc, L = [] := ⟨_, rfl⟩
  rw [← hlo] at hS
  suffices hgo : W p l e (headSpec wsX7_sheet rm_X7_sheet).room s m ([.ref h_t, .int x1, .int x2, .int x3] : List Value).toArray below meth c H locs 0 0 (MQ below (RWi (dC, dI) (TY cI cZ cP cS) r s.heap.size (wd_X7_sheet cI cZ cP cS h_t h_t_red h_t_blue h_t_sky h_t_diary h_t_calendar h_t_awakeIn h_t_worths h_t_plants h_t_sheets h_t_bestFrom h_t_s0 h_t_s1 h_t_s2 h_t_s3 h_t_s0_items h_t_s1_items h_t_s2_items h_t_s3_items v_latestFinding v_sform v_ssize v_sitems) (wd_X7_sheet cI cZ cP cS h_t h_t_red h_t_blue h_t_sky h_t_diary h_t_calendar h_t_awakeIn h_t_worths h_t_plants h_t_sheets h_t_bestFrom h_t_s0 h_t_s1 h_t_s2 h_t_s3 h_t_s0_items h_t_s1_items h_t_s2_items h_t_s3_items o_latestFinding o_sform o_ssize o_sitems)) ([.ref h_t, .int x1, .int x2, .int x3] : List Value).toArray s 0 0 (va_A (wd_X7_sheet cI cZ cP cS h_t h_t_red h_t_blue h_t_sky h_t_diary h_t_calendar h_t_awakeIn h_t_worths h_t_plants h_t_sheets h_t_bestFrom h_t_s0 h_t_s1 h_t_s2 h_t_s3 h_t_s0_items h_t_s1_items h_t_s2_items h_t_s3_items v_latestFinding v_sform v_ssize v_sitems) s.heap.size)) (F0 m 0 ls []) by rw [hH, hlo] at hgo; exact hgo
  clear hH hlo
  unfold f_X7_sheet at hf
  refine lv_aload_n hx hb dX7_sheet_0 rfl (lv_at hl 0 rfl) ?_
  refine lv_iload_n hx hb dX7_sheet_1 rfl (lv_at hl 1 rfl) ?_
  refine va_csq (va_runV (As := [.int x1]) (rest := []) ⟨hx, hb, hml, hown, hts⟩ (c_X7_sheetOf l dC dI cI cZ cP cS h_t h_t_red h_t_blue h_t_sky h_t_diary h_t_calendar h_t_awakeIn h_t_worths h_t_plants h_t_sheets h_t_bestFrom h_t_s0 h_t_s1 h_t_s2 h_t_s3 v_latestFinding x1) (cwV 1 hts gX7_sheet_X7_sheetOf rfl rfl rfl (by decide +kernel) ⟨Nat.le_of_ble_eq_true rfl, Nat.le_of_ble_eq_true rfl⟩) (pv_ro (ci := 6) (q0 := 0) hK (hP.sub (ws' := (wd_X7_sheetOf cI cZ cP cS h_t h_t_red h_t_blue h_t_sky h_t_diary h_t_calendar h_t_awakeIn h_t_worths h_t_plants h_t_sheets h_t_bestFrom h_t_s0 h_t_s1 h_t_s2 h_t_s3 v_latestFinding)) [0, 1] rfl) rfl rfl) rfl rfl hl.1 rfl (lv_room (Nat.le_of_ble_eq_true rfl)) dX7_sheet_2 ⟨Nat.zero_le _, Nat.zero_le _⟩).run (fun x e_1 => ?_)
  by_cases c2_0 : x1 = 0
  · rw [if_pos c2_0] at hf e_1
    subst e_1
    refine W.eq (g2 := F0 m 5 ls [.ref h_t_s0]) rfl ?_
    refine lv_astore (lv' := [(4, .ref h_t_s0), (0, .ref h_t), (1, .int x1), (2, .int x2), (3, .int x3)]) hx hb dX7_sheet_5 hl (by decide) rfl (fun ls hl => ?_)
    refine lv_aload hx hb dX7_sheet_7 (lv_at hl 0 rfl) ?_
    refine lv_ifnull hx hb dX7_sheet_9 ?_
    refine lv_iload_n hx hb dX7_sheet_12 rfl (lv_at hl 3 rfl) ?_
    obtain ⟨r13_2, hc_3, hf⟩ := bd1_e hf
    refine vp_callSi (va_runS (As := [.int x2]) (rest := []) ⟨hx, hb, hml, hown, hts⟩ (c_X7_noForm l dC dI cI cZ cP cS   x2 n r13_2 hc_3) (va_cwS 1 hts gX7_sheet_X7_noForm rfl rfl rfl (by decide +kernel) ⟨Nat.le_of_ble_eq_true rfl, Nat.le_of_ble_eq_true rfl⟩) (ps_ro hK (hP.sub (ws' := ([] : va_W)) [] rfl)) rfl rfl hl.1 rfl (lv_room (Nat.le_of_ble_eq_true rfl)) dX7_sheet_13 ⟨Nat.zero_le _, Nat.zero_le _⟩).run (fun x e_4 => ?_)
    obtain ⟨e_4, hb_5⟩ := e_4
    rw [e_4] at hb_5 ⊢
    refine lv_if_ne (tgt := 25) hx hb dX7_sheet_16 (by decide) (fun c16 => ?_) (fun c16 => ?_)
    · rw [if_neg c16] at hf
      refine lv_bipush (v := (-2)) hx hb dX7_sheet_25 (by decide) ?_
      have hq0 := Option.some.inj hf
      obtain ⟨eq0, hq1⟩ := Prod.mk.inj hq0
      obtain ⟨eq1, hq2⟩ := Prod.mk.inj hq1
      obtain ⟨eq2, hq3⟩ := Prod.mk.inj hq2
      obtain ⟨eq3, hq4⟩ := Prod.mk.inj hq3
      clear hf hq0 hq1 hq2 hq3
      subst eq0
      subst eq1
      subst eq2
      subst eq3
      subst hq4
      exact W.iret hx hb hr (fun t ht hW => ⟨⟨_, (), rfl, rfl, by rw [ht]; exact hP, va_K.moved hW.alike hK, hD⟩, hS.F ht⟩) hS.2.2 dX7_sheet_27
    · rw [if_pos c16] at hf
      refine lv_iload_n hx hb dX7_sheet_19 rfl (lv_at hl 4 rfl) ?_
      refine lv_bipush (v := 48) hx hb dX7_sheet_20 (by decide) ?_
      refine lv_icmp_le (tgt := 28) hx hb dX7_sheet_22 (by decide) (fun c22 => ?_) (fun c22 => ?_)
      · rw [if_pos c22] at hf
        refine lv_iload_n hx hb dX7_sheet_28 rfl (lv_at hl 4 rfl) ?_
        refine lv_if_ge (tgt := 38) hx hb dX7_sheet_29 (by decide) (fun c29 => ?_) (fun c29 => ?_)
        · rw [if_pos c29] at hf
          refine lv_aload hx hb dX7_sheet_38 (lv_at hl 0 rfl) ?_
          refine lv_iload_n hx hb dX7_sheet_40 rfl (lv_at hl 3 rfl) ?_
          refine lv_iload_n hx hb dX7_sheet_41 rfl (lv_at hl 4 rfl) ?_
          obtain ⟨o42_6, o42_7, o42_8, hc_9, hf⟩ := bd3_e hf
          refine rwv_call (isC := [2, 3]) (isR := [0, 1, 4, 5, 6, 7, 8, 9]) (perm := [0, 1, 8, 9, 2, 3, 4, 5, 6, 7]) (wr := [(h_t, .inr (6, [.ref h_t_red, .ref h_t_blue, .ref h_t_sky, .ref h_t_diary, .ref h_t_calendar, .ref h_t_awakeIn, .ref h_t_worths, .ref h_t_plants, .ref h_t_sheets, .ref h_t_bestFrom, .int v_latestFinding])), (h_t_sheets, .inl (cS, 4, .inr (.inr (.inr (.inr (ar4 h_t_s0 h_t_s1 h_t_s2 h_t_s3)))))), (h_t_s1, .inr (3, [.int (v_sform 1), .int (v_ssize 1), .ref h_t_s1_items])), (h_t_s1_items, .inl (cI, 48, .inl (v_sitems 1))), (h_t_s2, .inr (3, [.int (v_sform 2), .int (v_ssize 2), .ref h_t_s2_items])), (h_t_s2_items, .inl (cI, 48, .inl (v_sitems 2))), (h_t_s3, .inr (3, [.int (v_sform 3), .int (v_ssize 3), .ref h_t_s3_items])), (h_t_s3_items, .inl (cI, 48, .inl (v_sitems 3)))]) (ws2 := (wd_X7_sheet cI cZ cP cS h_t h_t_red h_t_blue h_t_sky h_t_diary h_t_calendar h_t_awakeIn h_t_worths h_t_plants h_t_sheets h_t_bestFrom h_t_s0 h_t_s1 h_t_s2 h_t_s3 h_t_s0_items h_t_s1_items h_t_s2_items h_t_s3_items v_latestFinding (upd v_sform 0 o42_6) (upd v_ssize 0 o42_7) (va_up v_sitems 0 o42_8))) (va_runV (As := [.int x2, .int x3]) (rest := []) ⟨hx, hb, hml, hown, hts⟩ (c_X3_begin l dC dI cI cZ cP cS H.size h_t_s0 h_t_s0_items (v_sform 0) (v_ssize 0) (v_sitems 0) x2 x3 n o42_6 o42_7 o42_8 hc_9) (cwV 2 hts gX7_sheet_X3_begin rfl rfl rfl (by decide +kernel) ⟨Nat.le_of_ble_eq_true rfl, Nat.le_of_ble_eq_true rfl⟩) (pv_rw (ci := 3) (q0 := 0) hK (hP.sub (ws' := (wd_X3_begin cI cZ cP cS h_t_s0 h_t_s0_items (v_sform 0) (v_ssize 0) (v_sitems 0))) [2, 3] rfl) (hD.sub (ws' := (wd_X3_begin cI cZ cP cS h_t_s0 h_t_s0_items (v_sform 0) (v_ssize 0) (v_sitems 0))) [2, 3] (by decide) rfl) rfl rfl) rfl rfl hl.1 rfl (lv_room (Nat.le_of_ble_eq_true rfl)) dX7_sheet_42 ⟨Nat.zero_le _, Nat.zero_le _⟩) hS hA hP hD rfl (by decide) (by decide) rfl (by decide) rfl rfl (fun H locs hP hD hS => ?_)
          refine lv_iload_n hx hb dX7_sheet_45 rfl (lv_at hl 4 rfl) ?_
          have hq0 := Option.some.inj hf
          obtain ⟨eq0, hq1⟩ := Prod.mk.inj hq0
          obtain ⟨eq1, hq2⟩ := Prod.mk.inj hq1
          obtain ⟨eq2, hq3⟩ := Prod.mk.inj hq2
          obtain ⟨eq3, hq4⟩ := Prod.mk.inj hq3
          clear hf hq0 hq1 hq2 hq3
          subst eq0
          subst eq1
          subst eq2
          subst eq3
          subst hq4
          exact W.iret hx hb hr (fun t ht hW => ⟨⟨_, (), rfl, rfl, by rw [ht]; exact hP, va_K.moved hW.alike hK, hD⟩, hS.F ht⟩) hS.2.2 dX7_sheet_46
        · rw [if_neg c29] at hf
          refine lv_aload_n hx hb dX7_sheet_32 rfl (lv_at hl 1 rfl) ?_
          refine lv_iconst (v := 5) hx hb dX7_sheet_33 (by decide) ?_
          obtain ⟨r34_11, o34_12, hc_13, hf⟩ := bd2_e hf
          refine rwi_call (isC := [0]) (isR := [1, 2, 3, 4, 5, 6, 7, 8, 9]) (perm := [9, 0, 1, 2, 3, 4, 5, 6, 7, 8]) (wr := [(h_t_sheets, .inl (cS, 4, .inr (.inr (.inr (.inr (ar4 h_t_s0 h_t_s1 h_t_s2 h_t_s3)))))), (h_t_s0, .inr (3, [.int (v_sform 0), .int (v_ssize 0), .ref h_t_s0_items])), (h_t_s0_items, .inl (cI, 48, .inl (v_sitems 0))), (h_t_s1, .inr (3, [.int (v_sform 1), .int (v_ssize 1), .ref h_t_s1_items])), (h_t_s1_items, .inl (cI, 48, .inl (v_sitems 1))), (h_t_s2, .inr (3, [.int (v_sform 2), .int (v_ssize 2), .ref h_t_s2_items])), (h_t_s2_items, .inl (cI, 48, .inl (v_sitems 2))), (h_t_s3, .inr (3, [.int (v_sform 3), .int (v_ssize 3), .ref h_t_s3_items])), (h_t_s3_items, .inl (cI, 48, .inl (v_sitems 3)))]) (ws2 := (wd_X7_sheet cI cZ cP cS h_t h_t_red h_t_blue h_t_sky h_t_diary h_t_calendar h_t_awakeIn h_t_worths h_t_plants h_t_sheets h_t_bestFrom h_t_s0 h_t_s1 h_t_s2 h_t_s3 h_t_s0_items h_t_s1_items h_t_s2_items h_t_s3_items o34_12 v_sform v_ssize v_sitems)) (va_runV (As := [.int 5]) (rest := []) ⟨hx, hb, hml, hown, hts⟩ (c_X7_found l dC dI cI cZ cP cS H.size h_t h_t_red h_t_blue h_t_sky h_t_diary h_t_calendar h_t_awakeIn h_t_worths h_t_plants h_t_sheets h_t_bestFrom v_latestFinding 5 n r34_11 o34_12 hc_13) (cwV 1 hts gX7_sheet_X7_found rfl rfl rfl (by decide +kernel) ⟨Nat.le_of_ble_eq_true rfl, Nat.le_of_ble_eq_true rfl⟩) (pv_rw (ci := 6) (q0 := 0) hK (hP.sub (ws' := (wd_X7_found cI cZ cP cS h_t h_t_red h_t_blue h_t_sky h_t_diary h_t_calendar h_t_awakeIn h_t_worths h_t_plants h_t_sheets h_t_bestFrom v_latestFinding)) [0] rfl) (hD.sub (ws' := (wd_X7_found cI cZ cP cS h_t h_t_red h_t_blue h_t_sky h_t_diary h_t_calendar h_t_awakeIn h_t_worths h_t_plants h_t_sheets h_t_bestFrom v_latestFinding)) [0] (by decide) rfl) rfl rfl) rfl rfl hl.1 rfl (lv_room (Nat.le_of_ble_eq_true rfl)) dX7_sheet_34 ⟨Nat.zero_le _, Nat.zero_le _⟩) hS hA hP hD rfl (by decide) (by decide) rfl (by decide) rfl rfl (fun H locs hP hD hS => ?_)
          have hq0 := Option.some.inj hf
          obtain ⟨eq0, hq1⟩ := Prod.mk.inj hq0
          obtain ⟨eq1, hq2⟩ := Prod.mk.inj hq1
          obtain ⟨eq2, hq3⟩ := Prod.mk.inj hq2
          obtain ⟨eq3, hq4⟩ := Prod.mk.inj hq3
          clear hf hq0 hq1 hq2 hq3
          subst eq0
          subst eq1
          subst eq2
          subst eq3
          subst hq4
          exact W.iret hx hb hr (fun t ht hW => ⟨⟨_, (), rfl, rfl, by rw [ht]; exact hP, va_K.moved hW.alike hK, hD⟩, hS.F ht⟩) hS.2.2 dX7_sheet_37
      · rw [if_neg c22] at hf
        refine lv_bipush (v := (-2)) hx hb dX7_sheet_25 (by decide) ?_
        have hq0 := Option.some.inj hf
        obtain ⟨eq0, hq1⟩ := Prod.mk.inj hq0
        obtain ⟨eq1, hq2⟩ := Prod.mk.inj hq1
        obtain ⟨eq2, hq3⟩ := Prod.mk.inj hq2
        obtain ⟨eq3, hq4⟩ := Prod.mk.inj hq3
        clear hf hq0 hq1 hq2 hq3
        subst eq0
        subst eq1
        subst eq2
        subst eq3
        subst hq4
        exact W.iret hx hb hr (fun t ht hW => ⟨⟨_, (), rfl, rfl, by rw [ht]; exact hP, va_K.moved hW.alike hK, hD⟩, hS.F ht⟩) hS.2.2 dX7_sheet_27
  · rw [if_neg c2_0] at hf e_1
    by_cases c2_1 : x1 = 1
    · rw [if_pos c2_1] at hf e_1
      subst e_1
      refine W.eq (g2 := F0 m 5 ls [.ref h_t_s1]) rfl ?_
      refine lv_astore (lv' := [(4, .ref h_t_s1), (0, .ref h_t), (1, .int x1), (2, .int x2), (3, .int x3)]) hx hb dX7_sheet_5 hl (by decide) rfl (fun ls hl => ?_)
      refine lv_aload hx hb dX7_sheet_7 (lv_at hl 0 rfl) ?_
      refine lv_ifnull hx hb dX7_sheet_9 ?_
      refine lv_iload_n hx hb dX7_sheet_12 rfl (lv_at hl 3 rfl) ?_
      obtain ⟨r13_15, hc_16, hf⟩ := bd1_e hf
      refine vp_callSi (va_runS (As := [.int x2]) (rest := []) ⟨hx, hb, hml, hown, hts⟩ (c_X7_noForm l dC dI cI cZ cP cS   x2 n r13_15 hc_16) (va_cwS 1 hts gX7_sheet_X7_noForm rfl rfl rfl (by decide +kernel) ⟨Nat.le_of_ble_eq_true rfl, Nat.le_of_ble_eq_true rfl⟩) (ps_ro hK (hP.sub (ws' := ([] : va_W)) [] rfl)) rfl rfl hl.1 rfl (lv_room (Nat.le_of_ble_eq_true rfl)) dX7_sheet_13 ⟨Nat.zero_le _, Nat.zero_le _⟩).run (fun x e_17 => ?_)
      obtain ⟨e_17, hb_18⟩ := e_17
      rw [e_17] at hb_18 ⊢
      refine lv_if_ne (tgt := 25) hx hb dX7_sheet_16 (by decide) (fun c16 => ?_) (fun c16 => ?_)
      · rw [if_neg c16] at hf
        refine lv_bipush (v := (-2)) hx hb dX7_sheet_25 (by decide) ?_
        have hq0 := Option.some.inj hf
        obtain ⟨eq0, hq1⟩ := Prod.mk.inj hq0
        obtain ⟨eq1, hq2⟩ := Prod.mk.inj hq1
        obtain ⟨eq2, hq3⟩ := Prod.mk.inj hq2
        obtain ⟨eq3, hq4⟩ := Prod.mk.inj hq3
        clear hf hq0 hq1 hq2 hq3
        subst eq0
        subst eq1
        subst eq2
        subst eq3
        subst hq4
        exact W.iret hx hb hr (fun t ht hW => ⟨⟨_, (), rfl, rfl, by rw [ht]; exact hP, va_K.moved hW.alike hK, hD⟩, hS.F ht⟩) hS.2.2 dX7_sheet_27
      · rw [if_pos c16] at hf
        refine lv_iload_n hx hb dX7_sheet_19 rfl (lv_at hl 4 rfl) ?_
        refine lv_bipush (v := 48) hx hb dX7_sheet_20 (by decide) ?_
        refine lv_icmp_le (tgt := 28) hx hb dX7_sheet_22 (by decide) (fun c22 => ?_) (fun c22 => ?_)
        · rw [if_pos c22] at hf
          refine lv_iload_n hx hb dX7_sheet_28 rfl (lv_at hl 4 rfl) ?_
          refine lv_if_ge (tgt := 38) hx hb dX7_sheet_29 (by decide) (fun c29 => ?_) (fun c29 => ?_)
          · rw [if_pos c29] at hf
            refine lv_aload hx hb dX7_sheet_38 (lv_at hl 0 rfl) ?_
            refine lv_iload_n hx hb dX7_sheet_40 rfl (lv_at hl 3 rfl) ?_
            refine lv_iload_n hx hb dX7_sheet_41 rfl (lv_at hl 4 rfl) ?_
            obtain ⟨o42_19, o42_20, o42_21, hc_22, hf⟩ := bd3_e hf
            refine rwv_call (isC := [4, 5]) (isR := [0, 1, 2, 3, 6, 7, 8, 9]) (perm := [0, 1, 2, 3, 8, 9, 4, 5, 6, 7]) (wr := [(h_t, .inr (6, [.ref h_t_red, .ref h_t_blue, .ref h_t_sky, .ref h_t_diary, .ref h_t_calendar, .ref h_t_awakeIn, .ref h_t_worths, .ref h_t_plants, .ref h_t_sheets, .ref h_t_bestFrom, .int v_latestFinding])), (h_t_sheets, .inl (cS, 4, .inr (.inr (.inr (.inr (ar4 h_t_s0 h_t_s1 h_t_s2 h_t_s3)))))), (h_t_s0, .inr (3, [.int (v_sform 0), .int (v_ssize 0), .ref h_t_s0_items])), (h_t_s0_items, .inl (cI, 48, .inl (v_sitems 0))), (h_t_s2, .inr (3, [.int (v_sform 2), .int (v_ssize 2), .ref h_t_s2_items])), (h_t_s2_items, .inl (cI, 48, .inl (v_sitems 2))), (h_t_s3, .inr (3, [.int (v_sform 3), .int (v_ssize 3), .ref h_t_s3_items])), (h_t_s3_items, .inl (cI, 48, .inl (v_sitems 3)))]) (ws2 := (wd_X7_sheet cI cZ cP cS h_t h_t_red h_t_blue h_t_sky h_t_diary h_t_calendar h_t_awakeIn h_t_worths h_t_plants h_t_sheets h_t_bestFrom h_t_s0 h_t_s1 h_t_s2 h_t_s3 h_t_s0_items h_t_s1_items h_t_s2_items h_t_s3_items v_latestFinding (upd v_sform 1 o42_19) (upd v_ssize 1 o42_20) (va_up v_sitems 1 o42_21))) (va_runV (As := [.int x2, .int x3]) (rest := []) ⟨hx, hb, hml, hown, hts⟩ (c_X3_begin l dC dI cI cZ cP cS H.size h_t_s1 h_t_s1_items (v_sform 1) (v_ssize 1) (v_sitems 1) x2 x3 n o42_19 o42_20 o42_21 hc_22) (cwV 2 hts gX7_sheet_X3_begin rfl rfl rfl (by decide +kernel) ⟨Nat.le_of_ble_eq_true rfl, Nat.le_of_ble_eq_true rfl⟩) (pv_rw (ci := 3) (q0 := 0) hK (hP.sub (ws' := (wd_X3_begin cI cZ cP cS h_t_s1 h_t_s1_items (v_sform 1) (v_ssize 1) (v_sitems 1))) [4, 5] rfl) (hD.sub (ws' := (wd_X3_begin cI cZ cP cS h_t_s1 h_t_s1_items (v_sform 1) (v_ssize 1) (v_sitems 1))) [4, 5] (by decide) rfl) rfl rfl) rfl rfl hl.1 rfl (lv_room (Nat.le_of_ble_eq_true rfl)) dX7_sheet_42 ⟨Nat.zero_le _, Nat.zero_le _⟩) hS hA hP hD rfl (by decide) (by decide) rfl (by decide) rfl rfl (fun H locs hP hD hS => ?_)
            refine lv_iload_n hx hb dX7_sheet_45 rfl (lv_at hl 4 rfl) ?_
            have hq0 := Option.some.inj hf
            obtain ⟨eq0, hq1⟩ := Prod.mk.inj hq0
            obtain ⟨eq1, hq2⟩ := Prod.mk.inj hq1
            obtain ⟨eq2, hq3⟩ := Prod.mk.inj hq2
            obtain ⟨eq3, hq4⟩ := Prod.mk.inj hq3
            clear hf hq0 hq1 hq2 hq3
            subst eq0
            subst eq1
            subst eq2
            subst eq3
            subst hq4
            exact W.iret hx hb hr (fun t ht hW => ⟨⟨_, (), rfl, rfl, by rw [ht]; exact hP, va_K.moved hW.alike hK, hD⟩, hS.F ht⟩) hS.2.2 dX7_sheet_46
          · rw [if_neg c29] at hf
            refine lv_aload_n hx hb dX7_sheet_32 rfl (lv_at hl 1 rfl) ?_
            refine lv_iconst (v := 5) hx hb dX7_sheet_33 (by decide) ?_
            obtain ⟨r34_24, o34_25, hc_26, hf⟩ := bd2_e hf
            refine rwi_call (isC := [0]) (isR := [1, 2, 3, 4, 5, 6, 7, 8, 9]) (perm := [9, 0, 1, 2, 3, 4, 5, 6, 7, 8]) (wr := [(h_t_sheets, .inl (cS, 4, .inr (.inr (.inr (.inr (ar4 h_t_s0 h_t_s1 h_t_s2 h_t_s3)))))), (h_t_s0, .inr (3, [.int (v_sform 0), .int (v_ssize 0), .ref h_t_s0_items])), (h_t_s0_items, .inl (cI, 48, .inl (v_sitems 0))), (h_t_s1, .inr (3, [.int (v_sform 1), .int (v_ssize 1), .ref h_t_s1_items])), (h_t_s1_items, .inl (cI, 48, .inl (v_sitems 1))), (h_t_s2, .inr (3, [.int (v_sform 2), .int (v_ssize 2), .ref h_t_s2_items])), (h_t_s2_items, .inl (cI, 48, .inl (v_sitems 2))), (h_t_s3, .inr (3, [.int (v_sform 3), .int (v_ssize 3), .ref h_t_s3_items])), (h_t_s3_items, .inl (cI, 48, .inl (v_sitems 3)))]) (ws2 := (wd_X7_sheet cI cZ cP cS h_t h_t_red h_t_blue h_t_sky h_t_diary h_t_calendar h_t_awakeIn h_t_worths h_t_plants h_t_sheets h_t_bestFrom h_t_s0 h_t_s1 h_t_s2 h_t_s3 h_t_s0_items h_t_s1_items h_t_s2_items h_t_s3_items o34_25 v_sform v_ssize v_sitems)) (va_runV (As := [.int 5]) (rest := []) ⟨hx, hb, hml, hown, hts⟩ (c_X7_found l dC dI cI cZ cP cS H.size h_t h_t_red h_t_blue h_t_sky h_t_diary h_t_calendar h_t_awakeIn h_t_worths h_t_plants h_t_sheets h_t_bestFrom v_latestFinding 5 n r34_24 o34_25 hc_26) (cwV 1 hts gX7_sheet_X7_found rfl rfl rfl (by decide +kernel) ⟨Nat.le_of_ble_eq_true rfl, Nat.le_of_ble_eq_true rfl⟩) (pv_rw (ci := 6) (q0 := 0) hK (hP.sub (ws' := (wd_X7_found cI cZ cP cS h_t h_t_red h_t_blue h_t_sky h_t_diary h_t_calendar h_t_awakeIn h_t_worths h_t_plants h_t_sheets h_t_bestFrom v_latestFinding)) [0] rfl) (hD.sub (ws' := (wd_X7_found cI cZ cP cS h_t h_t_red h_t_blue h_t_sky h_t_diary h_t_calendar h_t_awakeIn h_t_worths h_t_plants h_t_sheets h_t_bestFrom v_latestFinding)) [0] (by decide) rfl) rfl rfl) rfl rfl hl.1 rfl (lv_room (Nat.le_of_ble_eq_true rfl)) dX7_sheet_34 ⟨Nat.zero_le _, Nat.zero_le _⟩) hS hA hP hD rfl (by decide) (by decide) rfl (by decide) rfl rfl (fun H locs hP hD hS => ?_)
            have hq0 := Option.some.inj hf
            obtain ⟨eq0, hq1⟩ := Prod.mk.inj hq0
            obtain ⟨eq1, hq2⟩ := Prod.mk.inj hq1
            obtain ⟨eq2, hq3⟩ := Prod.mk.inj hq2
            obtain ⟨eq3, hq4⟩ := Prod.mk.inj hq3
            clear hf hq0 hq1 hq2 hq3
            subst eq0
            subst eq1
            subst eq2
            subst eq3
            subst hq4
            exact W.iret hx hb hr (fun t ht hW => ⟨⟨_, (), rfl, rfl, by rw [ht]; exact hP, va_K.moved hW.alike hK, hD⟩, hS.F ht⟩) hS.2.2 dX7_sheet_37
        · rw [if_neg c22] at hf
          refine lv_bipush (v := (-2)) hx hb dX7_sheet_25 (by decide) ?_
          have hq0 := Option.some.inj hf
          obtain ⟨eq0, hq1⟩ := Prod.mk.inj hq0
          obtain ⟨eq1, hq2⟩ := Prod.mk.inj hq1
          obtain ⟨eq2, hq3⟩ := Prod.mk.inj hq2
          obtain ⟨eq3, hq4⟩ := Prod.mk.inj hq3
          clear hf hq0 hq1 hq2 hq3
          subst eq0
          subst eq1
          subst eq2
          subst eq3
          subst hq4
          exact W.iret hx hb hr (fun t ht hW => ⟨⟨_, (), rfl, rfl, by rw [ht]; exact hP, va_K.moved hW.alike hK, hD⟩, hS.F ht⟩) hS.2.2 dX7_sheet_27
    · rw [if_neg c2_1] at hf e_1
      by_cases c2_2 : x1 = 2
      · rw [if_pos c2_2] at hf e_1
        subst e_1
        refine W.eq (g2 := F0 m 5 ls [.ref h_t_s2]) rfl ?_
        refine lv_astore (lv' := [(4, .ref h_t_s2), (0, .ref h_t), (1, .int x1), (2, .int x2), (3, .int x3)]) hx hb dX7_sheet_5 hl (by decide) rfl (fun ls hl => ?_)
        refine lv_aload hx hb dX7_sheet_7 (lv_at hl 0 rfl) ?_
        refine lv_ifnull hx hb dX7_sheet_9 ?_
        refine lv_iload_n hx hb dX7_sheet_12 rfl (lv_at hl 3 rfl) ?_
        obtain ⟨r13_28, hc_29, hf⟩ := bd1_e hf
        refine vp_callSi (va_runS (As := [.int x2]) (rest := []) ⟨hx, hb, hml, hown, hts⟩ (c_X7_noForm l dC dI cI cZ cP cS   x2 n r13_28 hc_29) (va_cwS 1 hts gX7_sheet_X7_noForm rfl rfl rfl (by decide +kernel) ⟨Nat.le_of_ble_eq_true rfl, Nat.le_of_ble_eq_true rfl⟩) (ps_ro hK (hP.sub (ws' := ([] : va_W)) [] rfl)) rfl rfl hl.1 rfl (lv_room (Nat.le_of_ble_eq_true rfl)) dX7_sheet_13 ⟨Nat.zero_le _, Nat.zero_le _⟩).run (fun x e_30 => ?_)
        obtain ⟨e_30, hb_31⟩ := e_30
        rw [e_30] at hb_31 ⊢
        refine lv_if_ne (tgt := 25) hx hb dX7_sheet_16 (by decide) (fun c16 => ?_) (fun c16 => ?_)
        · rw [if_neg c16] at hf
          refine lv_bipush (v := (-2)) hx hb dX7_sheet_25 (by decide) ?_
          have hq0 := Option.some.inj hf
          obtain ⟨eq0, hq1⟩ := Prod.mk.inj hq0
          obtain ⟨eq1, hq2⟩ := Prod.mk.inj hq1
          obtain ⟨eq2, hq3⟩ := Prod.mk.inj hq2
          obtain ⟨eq3, hq4⟩ := Prod.mk.inj hq3
          clear hf hq0 hq1 hq2 hq3
          subst eq0
          subst eq1
          subst eq2
          subst eq3
          subst hq4
          exact W.iret hx hb hr (fun t ht hW => ⟨⟨_, (), rfl, rfl, by rw [ht]; exact hP, va_K.moved hW.alike hK, hD⟩, hS.F ht⟩) hS.2.2 dX7_sheet_27
        · rw [if_pos c16] at hf
          refine lv_iload_n hx hb dX7_sheet_19 rfl (lv_at hl 4 rfl) ?_
          refine lv_bipush (v := 48) hx hb dX7_sheet_20 (by decide) ?_
          refine lv_icmp_le (tgt := 28) hx hb dX7_sheet_22 (by decide) (fun c22 => ?_) (fun c22 => ?_)
          · rw [if_pos c22] at hf
            refine lv_iload_n hx hb dX7_sheet_28 rfl (lv_at hl 4 rfl) ?_
            refine lv_if_ge (tgt := 38) hx hb dX7_sheet_29 (by decide) (fun c29 => ?_) (fun c29 => ?_)
            · rw [if_pos c29] at hf
              refine lv_aload hx hb dX7_sheet_38 (lv_at hl 0 rfl) ?_
              refine lv_iload_n hx hb dX7_sheet_40 rfl (lv_at hl 3 rfl) ?_
              refine lv_iload_n hx hb dX7_sheet_41 rfl (lv_at hl 4 rfl) ?_
              obtain ⟨o42_32, o42_33, o42_34, hc_35, hf⟩ := bd3_e hf
              refine rwv_call (isC := [6, 7]) (isR := [0, 1, 2, 3, 4, 5, 8, 9]) (perm := [0, 1, 2, 3, 4, 5, 8, 9, 6, 7]) (wr := [(h_t, .inr (6, [.ref h_t_red, .ref h_t_blue, .ref h_t_sky, .ref h_t_diary, .ref h_t_calendar, .ref h_t_awakeIn, .ref h_t_worths, .ref h_t_plants, .ref h_t_sheets, .ref h_t_bestFrom, .int v_latestFinding])), (h_t_sheets, .inl (cS, 4, .inr (.inr (.inr (.inr (ar4 h_t_s0 h_t_s1 h_t_s2 h_t_s3)))))), (h_t_s0, .inr (3, [.int (v_sform 0), .int (v_ssize 0), .ref h_t_s0_items])), (h_t_s0_items, .inl (cI, 48, .inl (v_sitems 0))), (h_t_s1, .inr (3, [.int (v_sform 1), .int (v_ssize 1), .ref h_t_s1_items])), (h_t_s1_items, .inl (cI, 48, .inl (v_sitems 1))), (h_t_s3, .inr (3, [.int (v_sform 3), .int (v_ssize 3), .ref h_t_s3_items])), (h_t_s3_items, .inl (cI, 48, .inl (v_sitems 3)))]) (ws2 := (wd_X7_sheet cI cZ cP cS h_t h_t_red h_t_blue h_t_sky h_t_diary h_t_calendar h_t_awakeIn h_t_worths h_t_plants h_t_sheets h_t_bestFrom h_t_s0 h_t_s1 h_t_s2 h_t_s3 h_t_s0_items h_t_s1_items h_t_s2_items h_t_s3_items v_latestFinding (upd v_sform 2 o42_32) (upd v_ssize 2 o42_33) (va_up v_sitems 2 o42_34))) (va_runV (As := [.int x2, .int x3]) (rest := []) ⟨hx, hb, hml, hown, hts⟩ (c_X3_begin l dC dI cI cZ cP cS H.size h_t_s2 h_t_s2_items (v_sform 2) (v_ssize 2) (v_sitems 2) x2 x3 n o42_32 o42_33 o42_34 hc_35) (cwV 2 hts gX7_sheet_X3_begin rfl rfl rfl (by decide +kernel) ⟨Nat.le_of_ble_eq_true rfl, Nat.le_of_ble_eq_true rfl⟩) (pv_rw (ci := 3) (q0 := 0) hK (hP.sub (ws' := (wd_X3_begin cI cZ cP cS h_t_s2 h_t_s2_items (v_sform 2) (v_ssize 2) (v_sitems 2))) [6, 7] rfl) (hD.sub (ws' := (wd_X3_begin cI cZ cP cS h_t_s2 h_t_s2_items (v_sform 2) (v_ssize 2) (v_sitems 2))) [6, 7] (by decide) rfl) rfl rfl) rfl rfl hl.1 rfl (lv_room (Nat.le_of_ble_eq_true rfl)) dX7_sheet_42 ⟨Nat.zero_le _, Nat.zero_le _⟩) hS hA hP hD rfl (by decide) (by decide) rfl (by decide) rfl rfl (fun H locs hP hD hS => ?_)
              refine lv_iload_n hx hb dX7_sheet_45 rfl (lv_at hl 4 rfl) ?_
              have hq0 := Option.some.inj hf
              obtain ⟨eq0, hq1⟩ := Prod.mk.inj hq0
              obtain ⟨eq1, hq2⟩ := Prod.mk.inj hq1
              obtain ⟨eq2, hq3⟩ := Prod.mk.inj hq2
              obtain ⟨eq3, hq4⟩ := Prod.mk.inj hq3
              clear hf hq0 hq1 hq2 hq3
              subst eq0
              subst eq1
              subst eq2
              subst eq3
              subst hq4
              exact W.iret hx hb hr (fun t ht hW => ⟨⟨_, (), rfl, rfl, by rw [ht]; exact hP, va_K.moved hW.alike hK, hD⟩, hS.F ht⟩) hS.2.2 dX7_sheet_46
            · rw [if_neg c29] at hf
              refine lv_aload_n hx hb dX7_sheet_32 rfl (lv_at hl 1 rfl) ?_
              refine lv_iconst (v := 5) hx hb dX7_sheet_33 (by decide) ?_
              obtain ⟨r34_37, o34_38, hc_39, hf⟩ := bd2_e hf
              refine rwi_call (isC := [0]) (isR := [1, 2, 3, 4, 5, 6, 7, 8, 9]) (perm := [9, 0, 1, 2, 3, 4, 5, 6, 7, 8]) (wr := [(h_t_sheets, .inl (cS, 4, .inr (.inr (.inr (.inr (ar4 h_t_s0 h_t_s1 h_t_s2 h_t_s3)))))), (h_t_s0, .inr (3, [.int (v_sform 0), .int (v_ssize 0), .ref h_t_s0_items])), (h_t_s0_items, .inl (cI, 48, .inl (v_sitems 0))), (h_t_s1, .inr (3, [.int (v_sform 1), .int (v_ssize 1), .ref h_t_s1_items])), (h_t_s1_items, .inl (cI, 48, .inl (v_sitems 1))), (h_t_s2, .inr (3, [.int (v_sform 2), .int (v_ssize 2), .ref h_t_s2_items])), (h_t_s2_items, .inl (cI, 48, .inl (v_sitems 2))), (h_t_s3, .inr (3, [.int (v_sform 3), .int (v_ssize 3), .ref h_t_s3_items])), (h_t_s3_items, .inl (cI, 48, .inl (v_sitems 3)))]) (ws2 := (wd_X7_sheet cI cZ cP cS h_t h_t_red h_t_blue h_t_sky h_t_diary h_t_calendar h_t_awakeIn h_t_worths h_t_plants h_t_sheets h_t_bestFrom h_t_s0 h_t_s1 h_t_s2 h_t_s3 h_t_s0_items h_t_s1_items h_t_s2_items h_t_s3_items o34_38 v_sform v_ssize v_sitems)) (va_runV (As := [.int 5]) (rest := []) ⟨hx, hb, hml, hown, hts⟩ (c_X7_found l dC dI cI cZ cP cS H.size h_t h_t_red h_t_blue h_t_sky h_t_diary h_t_calendar h_t_awakeIn h_t_worths h_t_plants h_t_sheets h_t_bestFrom v_latestFinding 5 n r34_37 o34_38 hc_39) (cwV 1 hts gX7_sheet_X7_found rfl rfl rfl (by decide +kernel) ⟨Nat.le_of_ble_eq_true rfl, Nat.le_of_ble_eq_true rfl⟩) (pv_rw (ci := 6) (q0 := 0) hK (hP.sub (ws' := (wd_X7_found cI cZ cP cS h_t h_t_red h_t_blue h_t_sky h_t_diary h_t_calendar h_t_awakeIn h_t_worths h_t_plants h_t_sheets h_t_bestFrom v_latestFinding)) [0] rfl) (hD.sub (ws' := (wd_X7_found cI cZ cP cS h_t h_t_red h_t_blue h_t_sky h_t_diary h_t_calendar h_t_awakeIn h_t_worths h_t_plants h_t_sheets h_t_bestFrom v_latestFinding)) [0] (by decide) rfl) rfl rfl) rfl rfl hl.1 rfl (lv_room (Nat.le_of_ble_eq_true rfl)) dX7_sheet_34 ⟨Nat.zero_le _, Nat.zero_le _⟩) hS hA hP hD rfl (by decide) (by decide) rfl (by decide) rfl rfl (fun H locs hP hD hS => ?_)
              have hq0 := Option.some.inj hf
              obtain ⟨eq0, hq1⟩ := Prod.mk.inj hq0
              obtain ⟨eq1, hq2⟩ := Prod.mk.inj hq1
              obtain ⟨eq2, hq3⟩ := Prod.mk.inj hq2
              obtain ⟨eq3, hq4⟩ := Prod.mk.inj hq3
              clear hf hq0 hq1 hq2 hq3
              subst eq0
              subst eq1
              subst eq2
              subst eq3
              subst hq4
              exact W.iret hx hb hr (fun t ht hW => ⟨⟨_, (), rfl, rfl, by rw [ht]; exact hP, va_K.moved hW.alike hK, hD⟩, hS.F ht⟩) hS.2.2 dX7_sheet_37
          · rw [if_neg c22] at hf
            refine lv_bipush (v := (-2)) hx hb dX7_sheet_25 (by decide) ?_
            have hq0 := Option.some.inj hf
            obtain ⟨eq0, hq1⟩ := Prod.mk.inj hq0
            obtain ⟨eq1, hq2⟩ := Prod.mk.inj hq1
            obtain ⟨eq2, hq3⟩ := Prod.mk.inj hq2
            obtain ⟨eq3, hq4⟩ := Prod.mk.inj hq3
            clear hf hq0 hq1 hq2 hq3
            subst eq0
            subst eq1
            subst eq2
            subst eq3
            subst hq4
            exact W.iret hx hb hr (fun t ht hW => ⟨⟨_, (), rfl, rfl, by rw [ht]; exact hP, va_K.moved hW.alike hK, hD⟩, hS.F ht⟩) hS.2.2 dX7_sheet_27
      · rw [if_neg c2_2] at hf e_1
        by_cases c2_3 : x1 = 3
        · rw [if_pos c2_3] at hf e_1
          subst e_1
          refine W.eq (g2 := F0 m 5 ls [.ref h_t_s3]) rfl ?_
          refine lv_astore (lv' := [(4, .ref h_t_s3), (0, .ref h_t), (1, .int x1), (2, .int x2), (3, .int x3)]) hx hb dX7_sheet_5 hl (by decide) rfl (fun ls hl => ?_)
          refine lv_aload hx hb dX7_sheet_7 (lv_at hl 0 rfl) ?_
          refine lv_ifnull hx hb dX7_sheet_9 ?_
          refine lv_iload_n hx hb dX7_sheet_12 rfl (lv_at hl 3 rfl) ?_
          obtain ⟨r13_41, hc_42, hf⟩ := bd1_e hf
          refine vp_callSi (va_runS (As := [.int x2]) (rest := []) ⟨hx, hb, hml, hown, hts⟩ (c_X7_noForm l dC dI cI cZ cP cS   x2 n r13_41 hc_42) (va_cwS 1 hts gX7_sheet_X7_noForm rfl rfl rfl (by decide +kernel) ⟨Nat.le_of_ble_eq_true rfl, Nat.le_of_ble_eq_true rfl⟩) (ps_ro hK (hP.sub (ws' := ([] : va_W)) [] rfl)) rfl rfl hl.1 rfl (lv_room (Nat.le_of_ble_eq_true rfl)) dX7_sheet_13 ⟨Nat.zero_le _, Nat.zero_le _⟩).run (fun x e_43 => ?_)
          obtain ⟨e_43, hb_44⟩ := e_43
          rw [e_43] at hb_44 ⊢
          refine lv_if_ne (tgt := 25) hx hb dX7_sheet_16 (by decide) (fun c16 => ?_) (fun c16 => ?_)
          · rw [if_neg c16] at hf
            refine lv_bipush (v := (-2)) hx hb dX7_sheet_25 (by decide) ?_
            have hq0 := Option.some.inj hf
            obtain ⟨eq0, hq1⟩ := Prod.mk.inj hq0
            obtain ⟨eq1, hq2⟩ := Prod.mk.inj hq1
            obtain ⟨eq2, hq3⟩ := Prod.mk.inj hq2
            obtain ⟨eq3, hq4⟩ := Prod.mk.inj hq3
            clear hf hq0 hq1 hq2 hq3
            subst eq0
            subst eq1
            subst eq2
            subst eq3
            subst hq4
            exact W.iret hx hb hr (fun t ht hW => ⟨⟨_, (), rfl, rfl, by rw [ht]; exact hP, va_K.moved hW.alike hK, hD⟩, hS.F ht⟩) hS.2.2 dX7_sheet_27
          · rw [if_pos c16] at hf
            refine lv_iload_n hx hb dX7_sheet_19 rfl (lv_at hl 4 rfl) ?_
            refine lv_bipush (v := 48) hx hb dX7_sheet_20 (by decide) ?_
            refine lv_icmp_le (tgt := 28) hx hb dX7_sheet_22 (by decide) (fun c22 => ?_) (fun c22 => ?_)
            · rw [if_pos c22] at hf
              refine lv_iload_n hx hb dX7_sheet_28 rfl (lv_at hl 4 rfl) ?_
              refine lv_if_ge (tgt := 38) hx hb dX7_sheet_29 (by decide) (fun c29 => ?_) (fun c29 => ?_)
              · rw [if_pos c29] at hf
                refine lv_aload hx hb dX7_sheet_38 (lv_at hl 0 rfl) ?_
                refine lv_iload_n hx hb dX7_sheet_40 rfl (lv_at hl 3 rfl) ?_
                refine lv_iload_n hx hb dX7_sheet_41 rfl (lv_at hl 4 rfl) ?_
                obtain ⟨o42_45, o42_46, o42_47, hc_48, hf⟩ := bd3_e hf
                refine rwv_call (isC := [8, 9]) (isR := [0, 1, 2, 3, 4, 5, 6, 7]) (perm := [0, 1, 2, 3, 4, 5, 6, 7, 8, 9]) (wr := [(h_t, .inr (6, [.ref h_t_red, .ref h_t_blue, .ref h_t_sky, .ref h_t_diary, .ref h_t_calendar, .ref h_t_awakeIn, .ref h_t_worths, .ref h_t_plants, .ref h_t_sheets, .ref h_t_bestFrom, .int v_latestFinding])), (h_t_sheets, .inl (cS, 4, .inr (.inr (.inr (.inr (ar4 h_t_s0 h_t_s1 h_t_s2 h_t_s3)))))), (h_t_s0, .inr (3, [.int (v_sform 0), .int (v_ssize 0), .ref h_t_s0_items])), (h_t_s0_items, .inl (cI, 48, .inl (v_sitems 0))), (h_t_s1, .inr (3, [.int (v_sform 1), .int (v_ssize 1), .ref h_t_s1_items])), (h_t_s1_items, .inl (cI, 48, .inl (v_sitems 1))), (h_t_s2, .inr (3, [.int (v_sform 2), .int (v_ssize 2), .ref h_t_s2_items])), (h_t_s2_items, .inl (cI, 48, .inl (v_sitems 2)))]) (ws2 := (wd_X7_sheet cI cZ cP cS h_t h_t_red h_t_blue h_t_sky h_t_diary h_t_calendar h_t_awakeIn h_t_worths h_t_plants h_t_sheets h_t_bestFrom h_t_s0 h_t_s1 h_t_s2 h_t_s3 h_t_s0_items h_t_s1_items h_t_s2_items h_t_s3_items v_latestFinding (upd v_sform 3 o42_45) (upd v_ssize 3 o42_46) (va_up v_sitems 3 o42_47))) (va_runV (As := [.int x2, .int x3]) (rest := []) ⟨hx, hb, hml, hown, hts⟩ (c_X3_begin l dC dI cI cZ cP cS H.size h_t_s3 h_t_s3_items (v_sform 3) (v_ssize 3) (v_sitems 3) x2 x3 n o42_45 o42_46 o42_47 hc_48) (cwV 2 hts gX7_sheet_X3_begin rfl rfl rfl (by decide +kernel) ⟨Nat.le_of_ble_eq_true rfl, Nat.le_of_ble_eq_true rfl⟩) (pv_rw (ci := 3) (q0 := 0) hK (hP.sub (ws' := (wd_X3_begin cI cZ cP cS h_t_s3 h_t_s3_items (v_sform 3) (v_ssize 3) (v_sitems 3))) [8, 9] rfl) (hD.sub (ws' := (wd_X3_begin cI cZ cP cS h_t_s3 h_t_s3_items (v_sform 3) (v_ssize 3) (v_sitems 3))) [8, 9] (by decide) rfl) rfl rfl) rfl rfl hl.1 rfl (lv_room (Nat.le_of_ble_eq_true rfl)) dX7_sheet_42 ⟨Nat.zero_le _, Nat.zero_le _⟩) hS hA hP hD rfl (by decide) (by decide) rfl (by decide) rfl rfl (fun H locs hP hD hS => ?_)
                refine lv_iload_n hx hb dX7_sheet_45 rfl (lv_at hl 4 rfl) ?_
                have hq0 := Option.some.inj hf
                obtain ⟨eq0, hq1⟩ := Prod.mk.inj hq0
                obtain ⟨eq1, hq2⟩ := Prod.mk.inj hq1
                obtain ⟨eq2, hq3⟩ := Prod.mk.inj hq2
                obtain ⟨eq3, hq4⟩ := Prod.mk.inj hq3
                clear hf hq0 hq1 hq2 hq3
                subst eq0
                subst eq1
                subst eq2
                subst eq3
                subst hq4
                exact W.iret hx hb hr (fun t ht hW => ⟨⟨_, (), rfl, rfl, by rw [ht]; exact hP, va_K.moved hW.alike hK, hD⟩, hS.F ht⟩) hS.2.2 dX7_sheet_46
              · rw [if_neg c29] at hf
                refine lv_aload_n hx hb dX7_sheet_32 rfl (lv_at hl 1 rfl) ?_
                refine lv_iconst (v := 5) hx hb dX7_sheet_33 (by decide) ?_
                obtain ⟨r34_50, o34_51, hc_52, hf⟩ := bd2_e hf
                refine rwi_call (isC := [0]) (isR := [1, 2, 3, 4, 5, 6, 7, 8, 9]) (perm := [9, 0, 1, 2, 3, 4, 5, 6, 7, 8]) (wr := [(h_t_sheets, .inl (cS, 4, .inr (.inr (.inr (.inr (ar4 h_t_s0 h_t_s1 h_t_s2 h_t_s3)))))), (h_t_s0, .inr (3, [.int (v_sform 0), .int (v_ssize 0), .ref h_t_s0_items])), (h_t_s0_items, .inl (cI, 48, .inl (v_sitems 0))), (h_t_s1, .inr (3, [.int (v_sform 1), .int (v_ssize 1), .ref h_t_s1_items])), (h_t_s1_items, .inl (cI, 48, .inl (v_sitems 1))), (h_t_s2, .inr (3, [.int (v_sform 2), .int (v_ssize 2), .ref h_t_s2_items])), (h_t_s2_items, .inl (cI, 48, .inl (v_sitems 2))), (h_t_s3, .inr (3, [.int (v_sform 3), .int (v_ssize 3), .ref h_t_s3_items])), (h_t_s3_items, .inl (cI, 48, .inl (v_sitems 3)))]) (ws2 := (wd_X7_sheet cI cZ cP cS h_t h_t_red h_t_blue h_t_sky h_t_diary h_t_calendar h_t_awakeIn h_t_worths h_t_plants h_t_sheets h_t_bestFrom h_t_s0 h_t_s1 h_t_s2 h_t_s3 h_t_s0_items h_t_s1_items h_t_s2_items h_t_s3_items o34_51 v_sform v_ssize v_sitems)) (va_runV (As := [.int 5]) (rest := []) ⟨hx, hb, hml, hown, hts⟩ (c_X7_found l dC dI cI cZ cP cS H.size h_t h_t_red h_t_blue h_t_sky h_t_diary h_t_calendar h_t_awakeIn h_t_worths h_t_plants h_t_sheets h_t_bestFrom v_latestFinding 5 n r34_50 o34_51 hc_52) (cwV 1 hts gX7_sheet_X7_found rfl rfl rfl (by decide +kernel) ⟨Nat.le_of_ble_eq_true rfl, Nat.le_of_ble_eq_true rfl⟩) (pv_rw (ci := 6) (q0 := 0) hK (hP.sub (ws' := (wd_X7_found cI cZ cP cS h_t h_t_red h_t_blue h_t_sky h_t_diary h_t_calendar h_t_awakeIn h_t_worths h_t_plants h_t_sheets h_t_bestFrom v_latestFinding)) [0] rfl) (hD.sub (ws' := (wd_X7_found cI cZ cP cS h_t h_t_red h_t_blue h_t_sky h_t_diary h_t_calendar h_t_awakeIn h_t_worths h_t_plants h_t_sheets h_t_bestFrom v_latestFinding)) [0] (by decide) rfl) rfl rfl) rfl rfl hl.1 rfl (lv_room (Nat.le_of_ble_eq_true rfl)) dX7_sheet_34 ⟨Nat.zero_le _, Nat.zero_le _⟩) hS hA hP hD rfl (by decide) (by decide) rfl (by decide) rfl rfl (fun H locs hP hD hS => ?_)
                have hq0 := Option.some.inj hf
                obtain ⟨eq0, hq1⟩ := Prod.mk.inj hq0
                obtain ⟨eq1, hq2⟩ := Prod.mk.inj hq1
                obtain ⟨eq2, hq3⟩ := Prod.mk.inj hq2
                obtain ⟨eq3, hq4⟩ := Prod.mk.inj hq3
                clear hf hq0 hq1 hq2 hq3
                subst eq0
                subst eq1
                subst eq2
                subst eq3
                subst hq4
                exact W.iret hx hb hr (fun t ht hW => ⟨⟨_, (), rfl, rfl, by rw [ht]; exact hP, va_K.moved hW.alike hK, hD⟩, hS.F ht⟩) hS.2.2 dX7_sheet_37
            · rw [if_neg c22] at hf
              refine lv_bipush (v := (-2)) hx hb dX7_sheet_25 (by decide) ?_
              have hq0 := Option.some.inj hf
              obtain ⟨eq0, hq1⟩ := Prod.mk.inj hq0
              obtain ⟨eq1, hq2⟩ := Prod.mk.inj hq1
              obtain ⟨eq2, hq3⟩ := Prod.mk.inj hq2
              obtain ⟨eq3, hq4⟩ := Prod.mk.inj hq3
              clear hf hq0 hq1 hq2 hq3
              subst eq0
              subst eq1
              subst eq2
              subst eq3
              subst hq4
              exact W.iret hx hb hr (fun t ht hW => ⟨⟨_, (), rfl, rfl, by rw [ht]; exact hP, va_K.moved hW.alike hK, hD⟩, hS.F ht⟩) hS.2.2 dX7_sheet_27
        · rw [if_neg c2_3] at hf e_1
          subst e_1
          refine W.eq (g2 := F0 m 5 ls [.null]) rfl ?_
          refine lv_astoreN (lv' := [(4, .null), (0, .ref h_t), (1, .int x1), (2, .int x2), (3, .int x3)]) hx hb dX7_sheet_5 hl (by decide) rfl (fun ls hl => ?_)
          refine lv_aloadN hx hb dX7_sheet_7 (lv_at hl 0 rfl) ?_
          refine lv_ifnullN (tgt := 25) hx hb dX7_sheet_9 (by decide) ?_
          refine lv_bipush (v := (-2)) hx hb dX7_sheet_25 (by decide) ?_
          have hq0 := Option.some.inj hf
          obtain ⟨eq0, hq1⟩ := Prod.mk.inj hq0
          obtain ⟨eq1, hq2⟩ := Prod.mk.inj hq1
          obtain ⟨eq2, hq3⟩ := Prod.mk.inj hq2
          obtain ⟨eq3, hq4⟩ := Prod.mk.inj hq3
          clear hf hq0 hq1 hq2 hq3
          subst eq0
          subst eq1
          subst eq2
          subst eq3
          subst hq4
          exact W.iret hx hb hr (fun t ht hW => ⟨⟨_, (), rfl, rfl, by rw [ht]; exact hP, va_K.moved hW.alike hK, hD⟩, hS.F ht⟩) hS.2.2 dX7_sheet_27

abbrev wd_X7_sun (cI cZ cP cS : ClassId) (h_t h_t_red h_t_blue h_t_sky h_t_diary h_t_calendar h_t_awakeIn h_t_worths h_t_plants h_t_sheets h_t_bestFrom h_t_red_fitting h_t_red_worstLeft h_t_blue_fitting h_t_blue_worstLeft : Nat) (v_latestFinding : Int32) (v_turn : Nat → Int32) (v_phase : Nat → Int32) (v_up : Nat → Int32) : va_W := [(h_t, .inr (6, [.ref h_t_red, .ref h_t_blue, .ref h_t_sky, .ref h_t_diary, .ref h_t_calendar, .ref h_t_awakeIn, .ref h_t_worths, .ref h_t_plants, .ref h_t_sheets, .ref h_t_bestFrom, .int v_latestFinding])), (h_t_red, .inr (5, [.int (v_turn 0), .int (v_phase 0), .int (v_up 0), .ref h_t_red_fitting, .ref h_t_red_worstLeft])), (h_t_blue, .inr (5, [.int (v_turn 1), .int (v_phase 1), .int (v_up 1), .ref h_t_blue_fitting, .ref h_t_blue_worstLeft]))]
abbrev rm_X7_sun : Room := { frames := 2, cells := 0, slots := 0, locals := 44 }
def f_X7_sun (n : Nat) (v_turn : Nat → Int32) (v_phase : Nat → Int32) (v_up : Nat → Int32) (x1 : Int32) (x2 : Int32) (x3 : Int32) : Option (Int32 × (Nat → Int32) × (Nat → Int32) × (Nat → Int32)) := if x1 = 0 then if x2 = 0 then bd1_ (f_X7_outside n x3 2 40) (fun (r48_2 : Int32) => if r48_2 = 0 then bd4_ (f_X5_changeTurn n (v_turn 0) (v_phase 0) (v_up 0) x3) (fun (r62_6 : Int32) (o62_7 : Int32) (o62_8 : Int32) (o62_9 : Int32) => some (r62_6, (upd v_turn 0 o62_7), (upd v_phase 0 o62_8), (upd v_up 0 o62_9))) else some ((-2), v_turn, v_phase, v_up)) else if x2 = 1 then bd1_ (f_X7_outside n x3 0 ((v_turn 0) - 1)) (fun (r75_12 : Int32) => if r75_12 = 0 then bd2_ (f_X5_changePhase n (v_phase 0) x3) (fun (r89_16 : Int32) (o89_17 : Int32) => some (r89_16, v_turn, (upd v_phase 0 o89_17), v_up)) else some ((-2), v_turn, v_phase, v_up)) else if x2 = 2 then bd1_ (f_X7_outside n x3 0 (v_turn 0)) (fun (r100_20 : Int32) => if r100_20 = 0 then bd2_ (f_X5_changeUp n (v_up 0) x3) (fun (r114_24 : Int32) (o114_25 : Int32) => some (r114_24, v_turn, v_phase, (upd v_up 0 o114_25))) else some ((-2), v_turn, v_phase, v_up)) else some ((-2), v_turn, v_phase, v_up) else if x1 = 1 then if x2 = 0 then bd1_ (f_X7_outside n x3 2 40) (fun (r48_28 : Int32) => if r48_28 = 0 then bd4_ (f_X5_changeTurn n (v_turn 1) (v_phase 1) (v_up 1) x3) (fun (r62_32 : Int32) (o62_33 : Int32) (o62_34 : Int32) (o62_35 : Int32) => some (r62_32, (upd v_turn 1 o62_33), (upd v_phase 1 o62_34), (upd v_up 1 o62_35))) else some ((-2), v_turn, v_phase, v_up)) else if x2 = 1 then bd1_ (f_X7_outside n x3 0 ((v_turn 1) - 1)) (fun (r75_38 : Int32) => if r75_38 = 0 then bd2_ (f_X5_changePhase n (v_phase 1) x3) (fun (r89_42 : Int32) (o89_43 : Int32) => some (r89_42, v_turn, (upd v_phase 1 o89_43), v_up)) else some ((-2), v_turn, v_phase, v_up)) else if x2 = 2 then bd1_ (f_X7_outside n x3 0 (v_turn 1)) (fun (r100_46 : Int32) => if r100_46 = 0 then bd2_ (f_X5_changeUp n (v_up 1) x3) (fun (r114_50 : Int32) (o114_51 : Int32) => some (r114_50, v_turn, v_phase, (upd v_up 1 o114_51))) else some ((-2), v_turn, v_phase, v_up)) else some ((-2), v_turn, v_phase, v_up) else some ((-2), v_turn, v_phase, v_up)
set_option maxHeartbeats 4000000 in
set_option maxRecDepth 100000 in
theorem c_X7_sun (l : Launch) (dC : Nat → ClassId) (dI : Nat → Nat → Nat) (cI cZ cP cS : ClassId) (sz : Nat) (h_t h_t_red h_t_blue h_t_sky h_t_diary h_t_calendar h_t_awakeIn h_t_worths h_t_plants h_t_sheets h_t_bestFrom h_t_red_fitting h_t_red_worstLeft h_t_blue_fitting h_t_blue_worstLeft : Nat) (v_latestFinding : Int32) (v_turn : Nat → Int32) (v_phase : Nat → Int32) (v_up : Nat → Int32) (x1 : Int32) (x2 : Int32) (x3 : Int32) (n : Nat) (r : Int32) (o_turn : Nat → Int32) (o_phase : Nat → Int32) (o_up : Nat → Int32) (hf : f_X7_sun n v_turn v_phase v_up x1 x2 x3 = some (r, o_turn, o_phase, o_up)) : Met l yX7_sun wsX7_sun rm_X7_sun (RW (dC, dI) (TY cI cZ cP cS) [.ref h_t, .int x1, .int x2, .int x3] sz (wd_X7_sun cI cZ cP cS h_t h_t_red h_t_blue h_t_sky h_t_diary h_t_calendar h_t_awakeIn h_t_worths h_t_plants h_t_sheets h_t_bestFrom h_t_red_fitting h_t_red_worstLeft h_t_blue_fitting h_t_blue_worstLeft v_latestFinding v_turn v_phase v_up)) (RWi (dC, dI) (TY cI cZ cP cS) r sz (wd_X7_sun cI cZ cP cS h_t h_t_red h_t_blue h_t_sky h_t_diary h_t_calendar h_t_awakeIn h_t_worths h_t_plants h_t_sheets h_t_bestFrom h_t_red_fitting h_t_red_worstLeft h_t_blue_fitting h_t_blue_worstLeft v_latestFinding v_turn v_phase v_up) (wd_X7_sun cI cZ cP cS h_t h_t_red h_t_blue h_t_sky h_t_diary h_t_calendar h_t_awakeIn h_t_worths h_t_plants h_t_sheets h_t_bestFrom h_t_red_fitting h_t_red_worstLeft h_t_blue_fitting h_t_blue_worstLeft v_latestFinding o_turn o_phase o_up)) 0 0 (va_A (wd_X7_sun cI cZ cP cS h_t h_t_red h_t_blue h_t_sky h_t_diary h_t_calendar h_t_awakeIn h_t_worths h_t_plants h_t_sheets h_t_bestFrom h_t_red_fitting h_t_red_worstLeft h_t_blue_fitting h_t_blue_worstLeft v_latestFinding v_turn v_phase v_up) sz) := by
  refine Met.ofW (cc := cX7_sun) (maxL := 5) (ret := (some .int)) (by decide) rfl ?_
  intro p e s m args below meth c s₁ B hml hv
  obtain ⟨rfl, hsz, hP, hK, hD0⟩ := hv
  have hx := B.exec
  have hb := B.bytes
  have hr := B.returns
  have hts := atoms_spec (ws := wsX7_sun) B.pre
  have hown : s.vm.findClass RX7 = some m.cls := findClass_of_methodNamed B.named
  have hlocks := B.notSynchronized
  subst hsz
  have hD := hD0.self (sz := s.heap.size)
  have hA : ∀ q : Nat, s.heap.size ≤ q → (va_A (wd_X7_sun cI cZ cP cS h_t h_t_red h_t_blue h_t_sky h_t_diary h_t_calendar h_t_awakeIn h_t_worths h_t_plants h_t_sheets h_t_bestFrom h_t_red_fitting h_t_red_worstLeft h_t_blue_fitting h_t_blue_worstLeft v_latestFinding v_turn v_phase v_up) s.heap.size) q := fun q h => Or.inr h
  have hS : va_S (va_A (wd_X7_sun cI cZ cP cS h_t h_t_red h_t_blue h_t_sky h_t_diary h_t_calendar h_t_awakeIn h_t_worths h_t_plants h_t_sheets h_t_bestFrom h_t_red_fitting h_t_red_worstLeft h_t_blue_fitting h_t_blue_worstLeft v_latestFinding v_turn v_phase v_up) s.heap.size) s.heap s.heap [] := va_S.rf
  have hinX5 : ∀ w ∈ wsX50, w ∈ wsX7_sun := by decide +kernel
  have hl := lv_entry ([.ref h_t, .int x1, .int x2, .int x3]) (n := 5) (Nat.le_of_ble_eq_true rfl)
  rw [lg_entry_eq]
  generalize (lg_sl ([.ref h_t, .int x1, .int x2, .int x3]) ++ List.replicate (5 - (lg_sl ([.ref h_t, .int x1, .int x2, .int x3])).length) Slot.unset).toArray = ls at hl ⊢
  have hl : lv_has ls 5 [(0, .ref h_t), (1, .int x1), (2, .int x2), (3, .int x3)] := hl
  obtain ⟨H, hH⟩ : ∃ H : Heap, H = s.heap := ⟨_, rfl⟩
  have hP : va_P (dC, dI) vwCl (wd_X7_sun cI cZ cP cS h_t h_t_red h_t_blue h_t_sky h_t_diary h_t_calendar h_t_awakeIn h_t_worths h_t_plants h_t_sheets h_t_bestFrom h_t_red_fitting h_t_red_worstLeft h_t_blue_fitting h_t_blue_worstLeft v_latestFinding v_turn v_phase v_up) H := by rw [hH]; exact hP
  have hS : va_S (va_A (wd_X7_sun cI cZ cP cS h_t h_t_red h_t_blue h_t_sky h_t_diary h_t_calendar h_t_awakeIn h_t_worths h_t_plants h_t_sheets h_t_bestFrom h_t_red_fitting h_t_red_worstLeft h_t_blue_fitting h_t_blue_worstLeft v_latestFinding v_turn v_phase v_up) s.heap.size) s.heap H [] := by rw [hH]; exact hS
  obtain ⟨locs, hlo⟩ : ∃ L : List Loc, L = [] := ⟨_, rfl⟩
  rw [← hlo] at hS
  suffices hgo : W p l e (headSpec wsX7_sun rm_X7_sun).room s m ([.ref h_t, .int x1, .int x2, .int x3] : List Value).toArray below meth c H locs 0 0 (MQ below (RWi (dC, dI) (TY cI cZ cP cS) r s.heap.size (wd_X7_sun cI cZ cP cS h_t h_t_red h_t_blue h_t_sky h_t_diary h_t_calendar h_t_awakeIn h_t_worths h_t_plants h_t_sheets h_t_bestFrom h_t_red_fitting h_t_red_worstLeft h_t_blue_fitting h_t_blue_worstLeft v_latestFinding v_turn v_phase v_up) (wd_X7_sun cI cZ cP cS h_t h_t_red h_t_blue h_t_sky h_t_diary h_t_calendar h_t_awakeIn h_t_worths h_t_plants h_t_sheets h_t_bestFrom h_t_red_fitting h_t_red_worstLeft h_t_blue_fitting h_t_blue_worstLeft v_latestFinding o_turn o_phase o_up)) ([.ref h_t, .int x1, .int x2, .int x3] : List Value).toArray s 0 0 (va_A (wd_X7_sun cI cZ cP cS h_t h_t_red h_t_blue h_t_sky h_t_diary h_t_calendar h_t_awakeIn h_t_worths h_t_plants h_t_sheets h_t_bestFrom h_t_red_fitting h_t_red_worstLeft h_t_blue_fitting h_t_blue_worstLeft v_latestFinding v_turn v_phase v_up) s.heap.size)) (F0 m 0 ls []) by rw [hH, hlo] at hgo; exact hgo
  clear hH hlo
  unfold f_X7_sun at hf
  refine lv_aload_n hx hb dX7_sun_0 rfl (lv_at hl 0 rfl) ?_
  refine lv_iload_n hx hb dX7_sun_1 rfl (lv_at hl 1 rfl) ?_
  refine va_csq (va_runV (As := [.int x1]) (rest := []) ⟨hx, hb, hml, hown, hts⟩ (c_X7_sunOf l dC dI cI cZ cP cS h_t h_t_red h_t_blue h_t_sky h_t_diary h_t_calendar h_t_awakeIn h_t_worths h_t_plants h_t_sheets h_t_bestFrom v_latestFinding x1) (cwV 1 hts gX7_sun_X7_sunOf rfl rfl rfl (by decide +kernel) ⟨Nat.le_of_ble_eq_true rfl, Nat.le_of_ble_eq_true rfl⟩) (pv_ro (ci := 6) (q0 := 0) hK (hP.sub (ws' := (wd_X7_sunOf cI cZ cP cS h_t h_t_red h_t_blue h_t_sky h_t_diary h_t_calendar h_t_awakeIn h_t_worths h_t_plants h_t_sheets h_t_bestFrom v_latestFinding)) [0] rfl) rfl rfl) rfl rfl hl.1 rfl (lv_room (Nat.le_of_ble_eq_true rfl)) dX7_sun_2 ⟨Nat.zero_le _, Nat.zero_le _⟩).run (fun x e_1 => ?_)
  by_cases c2_0 : x1 = 0
  · rw [if_pos c2_0] at hf e_1
    subst e_1
    refine W.eq (g2 := F0 m 5 ls [.ref h_t_red]) rfl ?_
    refine lv_astore (lv' := [(4, .ref h_t_red), (0, .ref h_t), (1, .int x1), (2, .int x2), (3, .int x3)]) hx hb dX7_sun_5 hl (by decide) rfl (fun ls hl => ?_)
    refine lv_aload hx hb dX7_sun_7 (lv_at hl 0 rfl) ?_
    refine lv_ifnonnull (tgt := 15) hx hb dX7_sun_9 (by decide) ?_
    refine lv_iload_n hx hb dX7_sun_15 rfl (lv_at hl 3 rfl) ?_
    by_cases c16_0 : x2 = 0
    · rw [if_pos c16_0] at hf
      refine lv_tableIn (off := 28) (tgt := 44) hx hb dX7_sun_16 (by rw [c16_0]; decide) (by rw [c16_0]; decide) (by rw [c16_0]; decide) (by decide) ?_
      refine lv_iload_n hx hb dX7_sun_44 rfl (lv_at hl 4 rfl) ?_
      refine lv_iconst (v := 2) hx hb dX7_sun_45 (by decide) ?_
      refine lv_bipush (v := 40) hx hb dX7_sun_46 (by decide) ?_
      obtain ⟨r48_2, hc_3, hf⟩ := bd1_e hf
      refine vp_callSi (va_runS (As := [.int x3, .int 2, .int 40]) (rest := []) ⟨hx, hb, hml, hown, hts⟩ (c_X7_outside l dC dI cI cZ cP cS   x3 2 40 n r48_2 hc_3) (va_cwS 3 hts gX7_sun_X7_outside rfl rfl rfl (by decide +kernel) ⟨Nat.le_of_ble_eq_true rfl, Nat.le_of_ble_eq_true rfl⟩) (ps_ro hK (hP.sub (ws' := ([] : va_W)) [] rfl)) rfl rfl hl.1 rfl (lv_room (Nat.le_of_ble_eq_true rfl)) dX7_sun_48 ⟨Nat.zero_le _, Nat.zero_le _⟩).run (fun x e_4 => ?_)
      obtain ⟨e_4, hb_5⟩ := e_4
      rw [e_4] at hb_5 ⊢
      refine lv_if_eq (tgt := 59) hx hb dX7_sun_51 (by decide) (fun c51 => ?_) (fun c51 => ?_)
      · rw [if_pos c51] at hf
        refine lv_aload hx hb dX7_sun_59 (lv_at hl 0 rfl) ?_
        refine lv_iload_n hx hb dX7_sun_61 rfl (lv_at hl 4 rfl) ?_
        obtain ⟨r62_6, o62_7, o62_8, o62_9, hc_10, hf⟩ := bd4_e hf
        refine rwi_call (isC := [1]) (isR := [0, 2]) (perm := [0, 2, 1]) (wr := [(h_t, .inr (6, [.ref h_t_red, .ref h_t_blue, .ref h_t_sky, .ref h_t_diary, .ref h_t_calendar, .ref h_t_awakeIn, .ref h_t_worths, .ref h_t_plants, .ref h_t_sheets, .ref h_t_bestFrom, .int v_latestFinding])), (h_t_blue, .inr (5, [.int (v_turn 1), .int (v_phase 1), .int (v_up 1), .ref h_t_blue_fitting, .ref h_t_blue_worstLeft]))]) (ws2 := (wd_X7_sun cI cZ cP cS h_t h_t_red h_t_blue h_t_sky h_t_diary h_t_calendar h_t_awakeIn h_t_worths h_t_plants h_t_sheets h_t_bestFrom h_t_red_fitting h_t_red_worstLeft h_t_blue_fitting h_t_blue_worstLeft v_latestFinding (upd v_turn 0 o62_7) (upd v_phase 0 o62_8) (upd v_up 0 o62_9))) (va_runV (As := [.int x3]) (rest := []) ⟨hx, hb, hml, hown, hts⟩ (c_X5_changeTurn l dC dI cI cZ cP cS H.size h_t_red h_t_red_fitting h_t_red_worstLeft (v_turn 0) (v_phase 0) (v_up 0) x3 n r62_6 o62_7 o62_8 o62_9 hc_10) (cwV 1 hts gX7_sun_X5_changeTurn rfl rfl rfl (by decide +kernel) ⟨Nat.le_of_ble_eq_true rfl, Nat.le_of_ble_eq_true rfl⟩) (pv_rw (ci := 5) (q0 := 0) hK (hP.sub (ws' := (wd_X5_changeTurn cI cZ cP cS h_t_red h_t_red_fitting h_t_red_worstLeft (v_turn 0) (v_phase 0) (v_up 0))) [1] rfl) (hD.sub (ws' := (wd_X5_changeTurn cI cZ cP cS h_t_red h_t_red_fitting h_t_red_worstLeft (v_turn 0) (v_phase 0) (v_up 0))) [1] (by decide) rfl) rfl rfl) rfl rfl hl.1 rfl (lv_room (Nat.le_of_ble_eq_true rfl)) dX7_sun_62 ⟨Nat.zero_le _, Nat.zero_le _⟩) hS hA hP hD rfl (by decide) (by decide) rfl (by decide) rfl rfl (fun H locs hP hD hS => ?_)
        have hq0 := Option.some.inj hf
        obtain ⟨eq0, hq1⟩ := Prod.mk.inj hq0
        obtain ⟨eq1, hq2⟩ := Prod.mk.inj hq1
        obtain ⟨eq2, hq3⟩ := Prod.mk.inj hq2
        clear hf hq0 hq1 hq2
        subst eq0
        subst eq1
        subst eq2
        subst hq3
        exact W.iret hx hb hr (fun t ht hW => ⟨⟨_, (), rfl, rfl, by rw [ht]; exact hP, va_K.moved hW.alike hK, hD⟩, hS.F ht⟩) hS.2.2 dX7_sun_65
      · rw [if_neg c51] at hf
        refine lv_bipush (v := (-2)) hx hb dX7_sun_54 (by decide) ?_
        refine lv_goto (tgt := 65) hx hb dX7_sun_56 (by decide) ?_
        have hq0 := Option.some.inj hf
        obtain ⟨eq0, hq1⟩ := Prod.mk.inj hq0
        obtain ⟨eq1, hq2⟩ := Prod.mk.inj hq1
        obtain ⟨eq2, hq3⟩ := Prod.mk.inj hq2
        clear hf hq0 hq1 hq2
        subst eq0
        subst eq1
        subst eq2
        subst hq3
        exact W.iret hx hb hr (fun t ht hW => ⟨⟨_, (), rfl, rfl, by rw [ht]; exact hP, va_K.moved hW.alike hK, hD⟩, hS.F ht⟩) hS.2.2 dX7_sun_65
    · rw [if_neg c16_0] at hf
      by_cases c16_1 : x2 = 1
      · rw [if_pos c16_1] at hf
        refine lv_tableIn (off := 50) (tgt := 66) hx hb dX7_sun_16 (by rw [c16_1]; decide) (by rw [c16_1]; decide) (by rw [c16_1]; decide) (by decide) ?_
        refine lv_iload_n hx hb dX7_sun_66 rfl (lv_at hl 4 rfl) ?_
        refine lv_iconst (v := 0) hx hb dX7_sun_67 (by decide) ?_
        refine lv_aload hx hb dX7_sun_68 (lv_at hl 0 rfl) ?_
        refine va_get (D := (dC, dI)) (ci := 5) (v := .int (v_turn 0)) (C := RX5) (T := TX5) (N := 5) hx hb hts hinX5 hown hK hP 1 rfl rfl 0 (by decide) (hts (.fieldLink RX7 84 "SecondSunrise$Sun" "turn" "I") (by decide +kernel)) (fun _ h9 => h9) rfl dX7_sun_70 ?_
        refine lv_iconst (v := 1) hx hb dX7_sun_73 (by decide) ?_
        refine lv_isub hx hb dX7_sun_74 ?_
        obtain ⟨r75_12, hc_13, hf⟩ := bd1_e hf
        refine vp_callSi (va_runS (As := [.int x3, .int 0, .int ((v_turn 0) - 1)]) (rest := []) ⟨hx, hb, hml, hown, hts⟩ (c_X7_outside l dC dI cI cZ cP cS   x3 0 ((v_turn 0) - 1) n r75_12 hc_13) (va_cwS 3 hts gX7_sun_X7_outside rfl rfl rfl (by decide +kernel) ⟨Nat.le_of_ble_eq_true rfl, Nat.le_of_ble_eq_true rfl⟩) (ps_ro hK (hP.sub (ws' := ([] : va_W)) [] rfl)) rfl rfl hl.1 rfl (lv_room (Nat.le_of_ble_eq_true rfl)) dX7_sun_75 ⟨Nat.zero_le _, Nat.zero_le _⟩).run (fun x e_14 => ?_)
        obtain ⟨e_14, hb_15⟩ := e_14
        rw [e_14] at hb_15 ⊢
        refine lv_if_eq (tgt := 86) hx hb dX7_sun_78 (by decide) (fun c78 => ?_) (fun c78 => ?_)
        · rw [if_pos c78] at hf
          refine lv_aload hx hb dX7_sun_86 (lv_at hl 0 rfl) ?_
          refine lv_iload_n hx hb dX7_sun_88 rfl (lv_at hl 4 rfl) ?_
          obtain ⟨r89_16, o89_17, hc_18, hf⟩ := bd2_e hf
          refine rwi_call (isC := [1]) (isR := [0, 2]) (perm := [0, 2, 1]) (wr := [(h_t, .inr (6, [.ref h_t_red, .ref h_t_blue, .ref h_t_sky, .ref h_t_diary, .ref h_t_calendar, .ref h_t_awakeIn, .ref h_t_worths, .ref h_t_plants, .ref h_t_sheets, .ref h_t_bestFrom, .int v_latestFinding])), (h_t_blue, .inr (5, [.int (v_turn 1), .int (v_phase 1), .int (v_up 1), .ref h_t_blue_fitting, .ref h_t_blue_worstLeft]))]) (ws2 := (wd_X7_sun cI cZ cP cS h_t h_t_red h_t_blue h_t_sky h_t_diary h_t_calendar h_t_awakeIn h_t_worths h_t_plants h_t_sheets h_t_bestFrom h_t_red_fitting h_t_red_worstLeft h_t_blue_fitting h_t_blue_worstLeft v_latestFinding v_turn (upd v_phase 0 o89_17) v_up)) (va_runV (As := [.int x3]) (rest := []) ⟨hx, hb, hml, hown, hts⟩ (c_X5_changePhase l dC dI cI cZ cP cS H.size h_t_red h_t_red_fitting h_t_red_worstLeft (v_turn 0) (v_phase 0) (v_up 0) x3 n r89_16 o89_17 hc_18) (cwV 1 hts gX7_sun_X5_changePhase rfl rfl rfl (by decide +kernel) ⟨Nat.le_of_ble_eq_true rfl, Nat.le_of_ble_eq_true rfl⟩) (pv_rw (ci := 5) (q0 := 0) hK (hP.sub (ws' := (wd_X5_changePhase cI cZ cP cS h_t_red h_t_red_fitting h_t_red_worstLeft (v_turn 0) (v_phase 0) (v_up 0))) [1] rfl) (hD.sub (ws' := (wd_X5_changePhase cI cZ cP cS h_t_red h_t_red_fitting h_t_red_worstLeft (v_turn 0) (v_phase 0) (v_up 0))) [1] (by decide) rfl) rfl rfl) rfl rfl hl.1 rfl (lv_room (Nat.le_of_ble_eq_true rfl)) dX7_sun_89 ⟨Nat.zero_le _, Nat.zero_le _⟩) hS hA hP hD rfl (by decide) (by decide) rfl (by decide) rfl rfl (fun H locs hP hD hS => ?_)
          have hq0 := Option.some.inj hf
          obtain ⟨eq0, hq1⟩ := Prod.mk.inj hq0
          obtain ⟨eq1, hq2⟩ := Prod.mk.inj hq1
          obtain ⟨eq2, hq3⟩ := Prod.mk.inj hq2
          clear hf hq0 hq1 hq2
          subst eq0
          subst eq1
          subst eq2
          subst hq3
          exact W.iret hx hb hr (fun t ht hW => ⟨⟨_, (), rfl, rfl, by rw [ht]; exact hP, va_K.moved hW.alike hK, hD⟩, hS.F ht⟩) hS.2.2 dX7_sun_92
        · rw [if_neg c78] at hf
          refine lv_bipush (v := (-2)) hx hb dX7_sun_81 (by decide) ?_
          refine lv_goto (tgt := 92) hx hb dX7_sun_83 (by decide) ?_
          have hq0 := Option.some.inj hf
          obtain ⟨eq0, hq1⟩ := Prod.mk.inj hq0
          obtain ⟨eq1, hq2⟩ := Prod.mk.inj hq1
          obtain ⟨eq2, hq3⟩ := Prod.mk.inj hq2
          clear hf hq0 hq1 hq2
          subst eq0
          subst eq1
          subst eq2
          subst hq3
          exact W.iret hx hb hr (fun t ht hW => ⟨⟨_, (), rfl, rfl, by rw [ht]; exact hP, va_K.moved hW.alike hK, hD⟩, hS.F ht⟩) hS.2.2 dX7_sun_92
      · rw [if_neg c16_1] at hf
        by_cases c16_2 : x2 = 2
        · rw [if_pos c16_2] at hf
          refine lv_tableIn (off := 77) (tgt := 93) hx hb dX7_sun_16 (by rw [c16_2]; decide) (by rw [c16_2]; decide) (by rw [c16_2]; decide) (by decide) ?_
          refine lv_iload_n hx hb dX7_sun_93 rfl (lv_at hl 4 rfl) ?_
          refine lv_iconst (v := 0) hx hb dX7_sun_94 (by decide) ?_
          refine lv_aload hx hb dX7_sun_95 (lv_at hl 0 rfl) ?_
          refine va_get (D := (dC, dI)) (ci := 5) (v := .int (v_turn 0)) (C := RX5) (T := TX5) (N := 5) hx hb hts hinX5 hown hK hP 1 rfl rfl 0 (by decide) (hts (.fieldLink RX7 84 "SecondSunrise$Sun" "turn" "I") (by decide +kernel)) (fun _ h9 => h9) rfl dX7_sun_97 ?_
          obtain ⟨r100_20, hc_21, hf⟩ := bd1_e hf
          refine vp_callSi (va_runS (As := [.int x3, .int 0, .int (v_turn 0)]) (rest := []) ⟨hx, hb, hml, hown, hts⟩ (c_X7_outside l dC dI cI cZ cP cS   x3 0 (v_turn 0) n r100_20 hc_21) (va_cwS 3 hts gX7_sun_X7_outside rfl rfl rfl (by decide +kernel) ⟨Nat.le_of_ble_eq_true rfl, Nat.le_of_ble_eq_true rfl⟩) (ps_ro hK (hP.sub (ws' := ([] : va_W)) [] rfl)) rfl rfl hl.1 rfl (lv_room (Nat.le_of_ble_eq_true rfl)) dX7_sun_100 ⟨Nat.zero_le _, Nat.zero_le _⟩).run (fun x e_22 => ?_)
          obtain ⟨e_22, hb_23⟩ := e_22
          rw [e_22] at hb_23 ⊢
          refine lv_if_eq (tgt := 111) hx hb dX7_sun_103 (by decide) (fun c103 => ?_) (fun c103 => ?_)
          · rw [if_pos c103] at hf
            refine lv_aload hx hb dX7_sun_111 (lv_at hl 0 rfl) ?_
            refine lv_iload_n hx hb dX7_sun_113 rfl (lv_at hl 4 rfl) ?_
            obtain ⟨r114_24, o114_25, hc_26, hf⟩ := bd2_e hf
            refine rwi_call (isC := [1]) (isR := [0, 2]) (perm := [0, 2, 1]) (wr := [(h_t, .inr (6, [.ref h_t_red, .ref h_t_blue, .ref h_t_sky, .ref h_t_diary, .ref h_t_calendar, .ref h_t_awakeIn, .ref h_t_worths, .ref h_t_plants, .ref h_t_sheets, .ref h_t_bestFrom, .int v_latestFinding])), (h_t_blue, .inr (5, [.int (v_turn 1), .int (v_phase 1), .int (v_up 1), .ref h_t_blue_fitting, .ref h_t_blue_worstLeft]))]) (ws2 := (wd_X7_sun cI cZ cP cS h_t h_t_red h_t_blue h_t_sky h_t_diary h_t_calendar h_t_awakeIn h_t_worths h_t_plants h_t_sheets h_t_bestFrom h_t_red_fitting h_t_red_worstLeft h_t_blue_fitting h_t_blue_worstLeft v_latestFinding v_turn v_phase (upd v_up 0 o114_25))) (va_runV (As := [.int x3]) (rest := []) ⟨hx, hb, hml, hown, hts⟩ (c_X5_changeUp l dC dI cI cZ cP cS H.size h_t_red h_t_red_fitting h_t_red_worstLeft (v_turn 0) (v_phase 0) (v_up 0) x3 n r114_24 o114_25 hc_26) (cwV 1 hts gX7_sun_X5_changeUp rfl rfl rfl (by decide +kernel) ⟨Nat.le_of_ble_eq_true rfl, Nat.le_of_ble_eq_true rfl⟩) (pv_rw (ci := 5) (q0 := 0) hK (hP.sub (ws' := (wd_X5_changeUp cI cZ cP cS h_t_red h_t_red_fitting h_t_red_worstLeft (v_turn 0) (v_phase 0) (v_up 0))) [1] rfl) (hD.sub (ws' := (wd_X5_changeUp cI cZ cP cS h_t_red h_t_red_fitting h_t_red_worstLeft (v_turn 0) (v_phase 0) (v_up 0))) [1] (by decide) rfl) rfl rfl) rfl rfl hl.1 rfl (lv_room (Nat.le_of_ble_eq_true rfl)) dX7_sun_114 ⟨Nat.zero_le _, Nat.zero_le _⟩) hS hA hP hD rfl (by decide) (by decide) rfl (by decide) rfl rfl (fun H locs hP hD hS => ?_)
            have hq0 := Option.some.inj hf
            obtain ⟨eq0, hq1⟩ := Prod.mk.inj hq0
            obtain ⟨eq1, hq2⟩ := Prod.mk.inj hq1
            obtain ⟨eq2, hq3⟩ := Prod.mk.inj hq2
            clear hf hq0 hq1 hq2
            subst eq0
            subst eq1
            subst eq2
            subst hq3
            exact W.iret hx hb hr (fun t ht hW => ⟨⟨_, (), rfl, rfl, by rw [ht]; exact hP, va_K.moved hW.alike hK, hD⟩, hS.F ht⟩) hS.2.2 dX7_sun_117
          · rw [if_neg c103] at hf
            refine lv_bipush (v := (-2)) hx hb dX7_sun_106 (by decide) ?_
            refine lv_goto (tgt := 117) hx hb dX7_sun_108 (by decide) ?_
            have hq0 := Option.some.inj hf
            obtain ⟨eq0, hq1⟩ := Prod.mk.inj hq0
            obtain ⟨eq1, hq2⟩ := Prod.mk.inj hq1
            obtain ⟨eq2, hq3⟩ := Prod.mk.inj hq2
            clear hf hq0 hq1 hq2
            subst eq0
            subst eq1
            subst eq2
            subst hq3
            exact W.iret hx hb hr (fun t ht hW => ⟨⟨_, (), rfl, rfl, by rw [ht]; exact hP, va_K.moved hW.alike hK, hD⟩, hS.F ht⟩) hS.2.2 dX7_sun_117
        · rw [if_neg c16_2] at hf
          refine lv_tableOut (tgt := 118) hx hb dX7_sun_16 (sw2 c16_0 c16_1 c16_2) (by decide) ?_
          refine lv_bipush (v := (-2)) hx hb dX7_sun_118 (by decide) ?_
          have hq0 := Option.some.inj hf
          obtain ⟨eq0, hq1⟩ := Prod.mk.inj hq0
          obtain ⟨eq1, hq2⟩ := Prod.mk.inj hq1
          obtain ⟨eq2, hq3⟩ := Prod.mk.inj hq2
          clear hf hq0 hq1 hq2
          subst eq0
          subst eq1
          subst eq2
          subst hq3
          exact W.iret hx hb hr (fun t ht hW => ⟨⟨_, (), rfl, rfl, by rw [ht]; exact hP, va_K.moved hW.alike hK, hD⟩, hS.F ht⟩) hS.2.2 dX7_sun_120
  · rw [if_neg c2_0] at hf e_1
    by_cases c2_1 : x1 = 1
    · rw [if_pos c2_1] at hf e_1
      subst e_1
      refine W.eq (g2 := F0 m 5 ls [.ref h_t_blue]) rfl ?_
      refine lv_astore (lv' := [(4, .ref h_t_blue), (0, .ref h_t), (1, .int x1), (2, .int x2), (3, .int x3)]) hx hb dX7_sun_5 hl (by decide) rfl (fun ls hl => ?_)
      refine lv_aload hx hb dX7_sun_7 (lv_at hl 0 rfl) ?_
      refine lv_ifnonnull (tgt := 15) hx hb dX7_sun_9 (by decide) ?_
      refine lv_iload_n hx hb dX7_sun_15 rfl (lv_at hl 3 rfl) ?_
      by_cases c16_0 : x2 = 0
      · rw [if_pos c16_0] at hf
        refine lv_tableIn (off := 28) (tgt := 44) hx hb dX7_sun_16 (by rw [c16_0]; decide) (by rw [c16_0]; decide) (by rw [c16_0]; decide) (by decide) ?_
        refine lv_iload_n hx hb dX7_sun_44 rfl (lv_at hl 4 rfl) ?_
        refine lv_iconst (v := 2) hx hb dX7_sun_45 (by decide) ?_
        refine lv_bipush (v := 40) hx hb dX7_sun_46 (by decide) ?_
        obtain ⟨r48_28, hc_29, hf⟩ := bd1_e hf
        refine vp_callSi (va_runS (As := [.int x3, .int 2, .int 40]) (rest := []) ⟨hx, hb, hml, hown, hts⟩ (c_X7_outside l dC dI cI cZ cP cS   x3 2 40 n r48_28 hc_29) (va_cwS 3 hts gX7_sun_X7_outside rfl rfl rfl (by decide +kernel) ⟨Nat.le_of_ble_eq_true rfl, Nat.le_of_ble_eq_true rfl⟩) (ps_ro hK (hP.sub (ws' := ([] : va_W)) [] rfl)) rfl rfl hl.1 rfl (lv_room (Nat.le_of_ble_eq_true rfl)) dX7_sun_48 ⟨Nat.zero_le _, Nat.zero_le _⟩).run (fun x e_30 => ?_)
        obtain ⟨e_30, hb_31⟩ := e_30
        rw [e_30] at hb_31 ⊢
        refine lv_if_eq (tgt := 59) hx hb dX7_sun_51 (by decide) (fun c51 => ?_) (fun c51 => ?_)
        · rw [if_pos c51] at hf
          refine lv_aload hx hb dX7_sun_59 (lv_at hl 0 rfl) ?_
          refine lv_iload_n hx hb dX7_sun_61 rfl (lv_at hl 4 rfl) ?_
          obtain ⟨r62_32, o62_33, o62_34, o62_35, hc_36, hf⟩ := bd4_e hf
          refine rwi_call (isC := [2]) (isR := [0, 1]) (perm := [0, 1, 2]) (wr := [(h_t, .inr (6, [.ref h_t_red, .ref h_t_blue, .ref h_t_sky, .ref h_t_diary, .ref h_t_calendar, .ref h_t_awakeIn, .ref h_t_worths, .ref h_t_plants, .ref h_t_sheets, .ref h_t_bestFrom, .int v_latestFinding])), (h_t_red, .inr (5, [.int (v_turn 0), .int (v_phase 0), .int (v_up 0), .ref h_t_red_fitting, .ref h_t_red_worstLeft]))]) (ws2 := (wd_X7_sun cI cZ cP cS h_t h_t_red h_t_blue h_t_sky h_t_diary h_t_calendar h_t_awakeIn h_t_worths h_t_plants h_t_sheets h_t_bestFrom h_t_red_fitting h_t_red_worstLeft h_t_blue_fitting h_t_blue_worstLeft v_latestFinding (upd v_turn 1 o62_33) (upd v_phase 1 o62_34) (upd v_up 1 o62_35))) (va_runV (As := [.int x3]) (rest := []) ⟨hx, hb, hml, hown, hts⟩ (c_X5_changeTurn l dC dI cI cZ cP cS H.size h_t_blue h_t_blue_fitting h_t_blue_worstLeft (v_turn 1) (v_phase 1) (v_up 1) x3 n r62_32 o62_33 o62_34 o62_35 hc_36) (cwV 1 hts gX7_sun_X5_changeTurn rfl rfl rfl (by decide +kernel) ⟨Nat.le_of_ble_eq_true rfl, Nat.le_of_ble_eq_true rfl⟩) (pv_rw (ci := 5) (q0 := 0) hK (hP.sub (ws' := (wd_X5_changeTurn cI cZ cP cS h_t_blue h_t_blue_fitting h_t_blue_worstLeft (v_turn 1) (v_phase 1) (v_up 1))) [2] rfl) (hD.sub (ws' := (wd_X5_changeTurn cI cZ cP cS h_t_blue h_t_blue_fitting h_t_blue_worstLeft (v_turn 1) (v_phase 1) (v_up 1))) [2] (by decide) rfl) rfl rfl) rfl rfl hl.1 rfl (lv_room (Nat.le_of_ble_eq_true rfl)) dX7_sun_62 ⟨Nat.zero_le _, Nat.zero_le _⟩) hS hA hP hD rfl (by decide) (by decide) rfl (by decide) rfl rfl (fun H locs hP hD hS => ?_)
          have hq0 := Option.some.inj hf
          obtain ⟨eq0, hq1⟩ := Prod.mk.inj hq0
          obtain ⟨eq1, hq2⟩ := Prod.mk.inj hq1
          obtain ⟨eq2, hq3⟩ := Prod.mk.inj hq2
          clear hf hq0 hq1 hq2
          subst eq0
          subst eq1
          subst eq2
          subst hq3
          exact W.iret hx hb hr (fun t ht hW => ⟨⟨_, (), rfl, rfl, by rw [ht]; exact hP, va_K.moved hW.alike hK, hD⟩, hS.F ht⟩) hS.2.2 dX7_sun_65
        · rw [if_neg c51] at hf
          refine lv_bipush (v := (-2)) hx hb dX7_sun_54 (by decide) ?_
          refine lv_goto (tgt := 65) hx hb dX7_sun_56 (by decide) ?_
          have hq0 := Option.some.inj hf
          obtain ⟨eq0, hq1⟩ := Prod.mk.inj hq0
          obtain ⟨eq1, hq2⟩ := Prod.mk.inj hq1
          obtain ⟨eq2, hq3⟩ := Prod.mk.inj hq2
          clear hf hq0 hq1 hq2
          subst eq0
          subst eq1
          subst eq2
          subst hq3
          exact W.iret hx hb hr (fun t ht hW => ⟨⟨_, (), rfl, rfl, by rw [ht]; exact hP, va_K.moved hW.alike hK, hD⟩, hS.F ht⟩) hS.2.2 dX7_sun_65
      · rw [if_neg c16_0] at hf
        by_cases c16_1 : x2 = 1
        · rw [if_pos c16_1] at hf
          refine lv_tableIn (off := 50) (tgt := 66) hx hb dX7_sun_16 (by rw [c16_1]; decide) (by rw [c16_1]; decide) (by rw [c16_1]; decide) (by decide) ?_
          refine lv_iload_n hx hb dX7_sun_66 rfl (lv_at hl 4 rfl) ?_
          refine lv_iconst (v := 0) hx hb dX7_sun_67 (by decide) ?_
          refine lv_aload hx hb dX7_sun_68 (lv_at hl 0 rfl) ?_
          refine va_get (D := (dC, dI)) (ci := 5) (v := .int (v_turn 1)) (C := RX5) (T := TX5) (N := 5) hx hb hts hinX5 hown hK hP 2 rfl rfl 0 (by decide) (hts (.fieldLink RX7 84 "SecondSunrise$Sun" "turn" "I") (by decide +kernel)) (fun _ h9 => h9) rfl dX7_sun_70 ?_
          refine lv_iconst (v := 1) hx hb dX7_sun_73 (by decide) ?_
          refine lv_isub hx hb dX7_sun_74 ?_
          obtain ⟨r75_38, hc_39, hf⟩ := bd1_e hf
          refine vp_callSi (va_runS (As := [.int x3, .int 0, .int ((v_turn 1) - 1)]) (rest := []) ⟨hx, hb, hml, hown, hts⟩ (c_X7_outside l dC dI cI cZ cP cS   x3 0 ((v_turn 1) - 1) n r75_38 hc_39) (va_cwS 3 hts gX7_sun_X7_outside rfl rfl rfl (by decide +kernel) ⟨Nat.le_of_ble_eq_true rfl, Nat.le_of_ble_eq_true rfl⟩) (ps_ro hK (hP.sub (ws' := ([] : va_W)) [] rfl)) rfl rfl hl.1 rfl (lv_room (Nat.le_of_ble_eq_true rfl)) dX7_sun_75 ⟨Nat.zero_le _, Nat.zero_le _⟩).run (fun x e_40 => ?_)
          obtain ⟨e_40, hb_41⟩ := e_40
          rw [e_40] at hb_41 ⊢
          refine lv_if_eq (tgt := 86) hx hb dX7_sun_78 (by decide) (fun c78 => ?_) (fun c78 => ?_)
          · rw [if_pos c78] at hf
            refine lv_aload hx hb dX7_sun_86 (lv_at hl 0 rfl) ?_
            refine lv_iload_n hx hb dX7_sun_88 rfl (lv_at hl 4 rfl) ?_
            obtain ⟨r89_42, o89_43, hc_44, hf⟩ := bd2_e hf
            refine rwi_call (isC := [2]) (isR := [0, 1]) (perm := [0, 1, 2]) (wr := [(h_t, .inr (6, [.ref h_t_red, .ref h_t_blue, .ref h_t_sky, .ref h_t_diary, .ref h_t_calendar, .ref h_t_awakeIn, .ref h_t_worths, .ref h_t_plants, .ref h_t_sheets, .ref h_t_bestFrom, .int v_latestFinding])), (h_t_red, .inr (5, [.int (v_turn 0), .int (v_phase 0), .int (v_up 0), .ref h_t_red_fitting, .ref h_t_red_worstLeft]))]) (ws2 := (wd_X7_sun cI cZ cP cS h_t h_t_red h_t_blue h_t_sky h_t_diary h_t_calendar h_t_awakeIn h_t_worths h_t_plants h_t_sheets h_t_bestFrom h_t_red_fitting h_t_red_worstLeft h_t_blue_fitting h_t_blue_worstLeft v_latestFinding v_turn (upd v_phase 1 o89_43) v_up)) (va_runV (As := [.int x3]) (rest := []) ⟨hx, hb, hml, hown, hts⟩ (c_X5_changePhase l dC dI cI cZ cP cS H.size h_t_blue h_t_blue_fitting h_t_blue_worstLeft (v_turn 1) (v_phase 1) (v_up 1) x3 n r89_42 o89_43 hc_44) (cwV 1 hts gX7_sun_X5_changePhase rfl rfl rfl (by decide +kernel) ⟨Nat.le_of_ble_eq_true rfl, Nat.le_of_ble_eq_true rfl⟩) (pv_rw (ci := 5) (q0 := 0) hK (hP.sub (ws' := (wd_X5_changePhase cI cZ cP cS h_t_blue h_t_blue_fitting h_t_blue_worstLeft (v_turn 1) (v_phase 1) (v_up 1))) [2] rfl) (hD.sub (ws' := (wd_X5_changePhase cI cZ cP cS h_t_blue h_t_blue_fitting h_t_blue_worstLeft (v_turn 1) (v_phase 1) (v_up 1))) [2] (by decide) rfl) rfl rfl) rfl rfl hl.1 rfl (lv_room (Nat.le_of_ble_eq_true rfl)) dX7_sun_89 ⟨Nat.zero_le _, Nat.zero_le _⟩) hS hA hP hD rfl (by decide) (by decide) rfl (by decide) rfl rfl (fun H locs hP hD hS => ?_)
            have hq0 := Option.some.inj hf
            obtain ⟨eq0, hq1⟩ := Prod.mk.inj hq0
            obtain ⟨eq1, hq2⟩ := Prod.mk.inj hq1
            obtain ⟨eq2, hq3⟩ := Prod.mk.inj hq2
            clear hf hq0 hq1 hq2
            subst eq0
            subst eq1
            subst eq2
            subst hq3
            exact W.iret hx hb hr (fun t ht hW => ⟨⟨_, (), rfl, rfl, by rw [ht]; exact hP, va_K.moved hW.alike hK, hD⟩, hS.F ht⟩) hS.2.2 dX7_sun_92
          · rw [if_neg c78] at hf
            refine lv_bipush (v := (-2)) hx hb dX7_sun_81 (by decide) ?_
            refine lv_goto (tgt := 92) hx hb dX7_sun_83 (by decide) ?_
            have hq0 := Option.some.inj hf
            obtain ⟨eq0, hq1⟩ := Prod.mk.inj hq0
            obtain ⟨eq1, hq2⟩ := Prod.mk.inj hq1
            obtain ⟨eq2, hq3⟩ := Prod.mk.inj hq2
            clear hf hq0 hq1 hq2
            subst eq0
            subst eq1
            subst eq2
            subst hq3
            exact W.iret hx hb hr (fun t ht hW => ⟨⟨_, (), rfl, rfl, by rw [ht]; exact hP, va_K.moved hW.alike hK, hD⟩, hS.F ht⟩) hS.2.2 dX7_sun_92
        · rw [if_neg c16_1] at hf
          by_cases c16_2 : x2 = 2
          · rw [if_pos c16_2] at hf
            refine lv_tableIn (off := 77) (tgt := 93) hx hb dX7_sun_16 (by rw [c16_2]; decide) (by rw [c16_2]; decide) (by rw [c16_2]; decide) (by decide) ?_
            refine lv_iload_n hx hb dX7_sun_93 rfl (lv_at hl 4 rfl) ?_
            refine lv_iconst (v := 0) hx hb dX7_sun_94 (by decide) ?_
            refine lv_aload hx hb dX7_sun_95 (lv_at hl 0 rfl) ?_
            refine va_get (D := (dC, dI)) (ci := 5) (v := .int (v_turn 1)) (C := RX5) (T := TX5) (N := 5) hx hb hts hinX5 hown hK hP 2 rfl rfl 0 (by decide) (hts (.fieldLink RX7 84 "SecondSunrise$Sun" "turn" "I") (by decide +kernel)) (fun _ h9 => h9) rfl dX7_sun_97 ?_
            obtain ⟨r100_46, hc_47, hf⟩ := bd1_e hf
            refine vp_callSi (va_runS (As := [.int x3, .int 0, .int (v_turn 1)]) (rest := []) ⟨hx, hb, hml, hown, hts⟩ (c_X7_outside l dC dI cI cZ cP cS   x3 0 (v_turn 1) n r100_46 hc_47) (va_cwS 3 hts gX7_sun_X7_outside rfl rfl rfl (by decide +kernel) ⟨Nat.le_of_ble_eq_true rfl, Nat.le_of_ble_eq_true rfl⟩) (ps_ro hK (hP.sub (ws' := ([] : va_W)) [] rfl)) rfl rfl hl.1 rfl (lv_room (Nat.le_of_ble_eq_true rfl)) dX7_sun_100 ⟨Nat.zero_le _, Nat.zero_le _⟩).run (fun x e_48 => ?_)
            obtain ⟨e_48, hb_49⟩ := e_48
            rw [e_48] at hb_49 ⊢
            refine lv_if_eq (tgt := 111) hx hb dX7_sun_103 (by decide) (fun c103 => ?_) (fun c103 => ?_)
            · rw [if_pos c103] at hf
              refine lv_aload hx hb dX7_sun_111 (lv_at hl 0 rfl) ?_
              refine lv_iload_n hx hb dX7_sun_113 rfl (lv_at hl 4 rfl) ?_
              obtain ⟨r114_50, o114_51, hc_52, hf⟩ := bd2_e hf
              refine rwi_call (isC := [2]) (isR := [0, 1]) (perm := [0, 1, 2]) (wr := [(h_t, .inr (6, [.ref h_t_red, .ref h_t_blue, .ref h_t_sky, .ref h_t_diary, .ref h_t_calendar, .ref h_t_awakeIn, .ref h_t_worths, .ref h_t_plants, .ref h_t_sheets, .ref h_t_bestFrom, .int v_latestFinding])), (h_t_red, .inr (5, [.int (v_turn 0), .int (v_phase 0), .int (v_up 0), .ref h_t_red_fitting, .ref h_t_red_worstLeft]))]) (ws2 := (wd_X7_sun cI cZ cP cS h_t h_t_red h_t_blue h_t_sky h_t_diary h_t_calendar h_t_awakeIn h_t_worths h_t_plants h_t_sheets h_t_bestFrom h_t_red_fitting h_t_red_worstLeft h_t_blue_fitting h_t_blue_worstLeft v_latestFinding v_turn v_phase (upd v_up 1 o114_51))) (va_runV (As := [.int x3]) (rest := []) ⟨hx, hb, hml, hown, hts⟩ (c_X5_changeUp l dC dI cI cZ cP cS H.size h_t_blue h_t_blue_fitting h_t_blue_worstLeft (v_turn 1) (v_phase 1) (v_up 1) x3 n r114_50 o114_51 hc_52) (cwV 1 hts gX7_sun_X5_changeUp rfl rfl rfl (by decide +kernel) ⟨Nat.le_of_ble_eq_true rfl, Nat.le_of_ble_eq_true rfl⟩) (pv_rw (ci := 5) (q0 := 0) hK (hP.sub (ws' := (wd_X5_changeUp cI cZ cP cS h_t_blue h_t_blue_fitting h_t_blue_worstLeft (v_turn 1) (v_phase 1) (v_up 1))) [2] rfl) (hD.sub (ws' := (wd_X5_changeUp cI cZ cP cS h_t_blue h_t_blue_fitting h_t_blue_worstLeft (v_turn 1) (v_phase 1) (v_up 1))) [2] (by decide) rfl) rfl rfl) rfl rfl hl.1 rfl (lv_room (Nat.le_of_ble_eq_true rfl)) dX7_sun_114 ⟨Nat.zero_le _, Nat.zero_le _⟩) hS hA hP hD rfl (by decide) (by decide) rfl (by decide) rfl rfl (fun H locs hP hD hS => ?_)
              have hq0 := Option.some.inj hf
              obtain ⟨eq0, hq1⟩ := Prod.mk.inj hq0
              obtain ⟨eq1, hq2⟩ := Prod.mk.inj hq1
              obtain ⟨eq2, hq3⟩ := Prod.mk.inj hq2
              clear hf hq0 hq1 hq2
              subst eq0
              subst eq1
              subst eq2
              subst hq3
              exact W.iret hx hb hr (fun t ht hW => ⟨⟨_, (), rfl, rfl, by rw [ht]; exact hP, va_K.moved hW.alike hK, hD⟩, hS.F ht⟩) hS.2.2 dX7_sun_117
            · rw [if_neg c103] at hf
              refine lv_bipush (v := (-2)) hx hb dX7_sun_106 (by decide) ?_
              refine lv_goto (tgt := 117) hx hb dX7_sun_108 (by decide) ?_
              have hq0 := Option.some.inj hf
              obtain ⟨eq0, hq1⟩ := Prod.mk.inj hq0
              obtain ⟨eq1, hq2⟩ := Prod.mk.inj hq1
              obtain ⟨eq2, hq3⟩ := Prod.mk.inj hq2
              clear hf hq0 hq1 hq2
              subst eq0
              subst eq1
              subst eq2
              subst hq3
              exact W.iret hx hb hr (fun t ht hW => ⟨⟨_, (), rfl, rfl, by rw [ht]; exact hP, va_K.moved hW.alike hK, hD⟩, hS.F ht⟩) hS.2.2 dX7_sun_117
          · rw [if_neg c16_2] at hf
            refine lv_tableOut (tgt := 118) hx hb dX7_sun_16 (sw2 c16_0 c16_1 c16_2) (by decide) ?_
            refine lv_bipush (v := (-2)) hx hb dX7_sun_118 (by decide) ?_
            have hq0 := Option.some.inj hf
            obtain ⟨eq0, hq1⟩ := Prod.mk.inj hq0
            obtain ⟨eq1, hq2⟩ := Prod.mk.inj hq1
            obtain ⟨eq2, hq3⟩ := Prod.mk.inj hq2
            clear hf hq0 hq1 hq2
            subst eq0
            subst eq1
            subst eq2
            subst hq3
            exact W.iret hx hb hr (fun t ht hW => ⟨⟨_, (), rfl, rfl, by rw [ht]; exact hP, va_K.moved hW.alike hK, hD⟩, hS.F ht⟩) hS.2.2 dX7_sun_120
    · rw [if_neg c2_1] at hf e_1
      subst e_1
      refine W.eq (g2 := F0 m 5 ls [.null]) rfl ?_
      refine lv_astoreN (lv' := [(4, .null), (0, .ref h_t), (1, .int x1), (2, .int x2), (3, .int x3)]) hx hb dX7_sun_5 hl (by decide) rfl (fun ls hl => ?_)
      refine lv_aloadN hx hb dX7_sun_7 (lv_at hl 0 rfl) ?_
      refine lv_ifnonnullN hx hb dX7_sun_9 ?_
      refine lv_bipush (v := (-2)) hx hb dX7_sun_12 (by decide) ?_
      have hq0 := Option.some.inj hf
      obtain ⟨eq0, hq1⟩ := Prod.mk.inj hq0
      obtain ⟨eq1, hq2⟩ := Prod.mk.inj hq1
      obtain ⟨eq2, hq3⟩ := Prod.mk.inj hq2
      clear hf hq0 hq1 hq2
      subst eq0
      subst eq1
      subst eq2
      subst hq3
      exact W.iret hx hb hr (fun t ht hW => ⟨⟨_, (), rfl, rfl, by rw [ht]; exact hP, va_K.moved hW.alike hK, hD⟩, hS.F ht⟩) hS.2.2 dX7_sun_14

abbrev wd_X7_type (cI cZ cP cS : ClassId) (h_t h_t_red h_t_blue h_t_sky h_t_diary h_t_calendar h_t_awakeIn h_t_worths h_t_plants h_t_sheets h_t_bestFrom h_t_diary_bytes h_t_calendar_bytes : Nat) (v_latestFinding : Int32) (v_dsize : Int32) (v_dbytes : Nat → Int32) (v_csize : Int32) (v_cbytes : Nat → Int32) : va_W := [(h_t, .inr (6, [.ref h_t_red, .ref h_t_blue, .ref h_t_sky, .ref h_t_diary, .ref h_t_calendar, .ref h_t_awakeIn, .ref h_t_worths, .ref h_t_plants, .ref h_t_sheets, .ref h_t_bestFrom, .int v_latestFinding])), (h_t_diary, .inr (1, [.ref h_t_diary_bytes, .int v_dsize])), (h_t_diary_bytes, .inl (cI, 60, .inl v_dbytes)), (h_t_calendar, .inr (0, [.ref h_t_calendar_bytes, .int v_csize])), (h_t_calendar_bytes, .inl (cI, 20, .inl v_cbytes))]
abbrev rm_X7_type : Room := { frames := 1, cells := 0, slots := 0, locals := 22 }
def f_X7_type (n : Nat) (v_dsize : Int32) (v_dbytes : Nat → Int32) (v_csize : Int32) (v_cbytes : Nat → Int32) (x1 : Int32) (x2 : Int32) : Option (Int32 × Int32 × (Nat → Int32) × Int32 × (Nat → Int32)) := if x1 = 0 then bd1_ (f_X7_outside n x2 0 255) (fun (r15_2 : Int32) => if r15_2 = 0 then bd3_ (f_X6_append_D n v_dsize v_dbytes x2) (fun (r26_6 : Int32) (o26_7 : Int32) (o26_8 : Nat → Int32) => if r26_6 = 0 then some ((-4), o26_7, o26_8, v_csize, v_cbytes) else some (o26_7, o26_7, o26_8, v_csize, v_cbytes)) else some ((-2), v_dsize, v_dbytes, v_csize, v_cbytes)) else if x1 = 1 then bd1_ (f_X7_outside n x2 0 255) (fun (r15_11 : Int32) => if r15_11 = 0 then bd3_ (f_X6_append_C n v_csize v_cbytes x2) (fun (r26_15 : Int32) (o26_16 : Int32) (o26_17 : Nat → Int32) => if r26_15 = 0 then some ((-4), v_dsize, v_dbytes, o26_16, o26_17) else some (o26_16, v_dsize, v_dbytes, o26_16, o26_17)) else some ((-2), v_dsize, v_dbytes, v_csize, v_cbytes)) else some ((-2), v_dsize, v_dbytes, v_csize, v_cbytes)
set_option maxHeartbeats 4000000 in
set_option maxRecDepth 100000 in
theorem c_X7_type (l : Launch) (dC : Nat → ClassId) (dI : Nat → Nat → Nat) (cI cZ cP cS : ClassId) (sz : Nat) (h_t h_t_red h_t_blue h_t_sky h_t_diary h_t_calendar h_t_awakeIn h_t_worths h_t_plants h_t_sheets h_t_bestFrom h_t_diary_bytes h_t_calendar_bytes : Nat) (v_latestFinding : Int32) (v_dsize : Int32) (v_dbytes : Nat → Int32) (v_csize : Int32) (v_cbytes : Nat → Int32) (x1 : Int32) (x2 : Int32) (n : Nat) (r : Int32) (o_dsize : Int32) (o_dbytes : Nat → Int32) (o_csize : Int32) (o_cbytes : Nat → Int32) (hf : f_X7_type n v_dsize v_dbytes v_csize v_cbytes x1 x2 = some (r, o_dsize, o_dbytes, o_csize, o_cbytes)) : Met l yX7_type wsX7_type rm_X7_type (RW (dC, dI) (TY cI cZ cP cS) [.ref h_t, .int x1, .int x2] sz (wd_X7_type cI cZ cP cS h_t h_t_red h_t_blue h_t_sky h_t_diary h_t_calendar h_t_awakeIn h_t_worths h_t_plants h_t_sheets h_t_bestFrom h_t_diary_bytes h_t_calendar_bytes v_latestFinding v_dsize v_dbytes v_csize v_cbytes)) (RWi (dC, dI) (TY cI cZ cP cS) r sz (wd_X7_type cI cZ cP cS h_t h_t_red h_t_blue h_t_sky h_t_diary h_t_calendar h_t_awakeIn h_t_worths h_t_plants h_t_sheets h_t_bestFrom h_t_diary_bytes h_t_calendar_bytes v_latestFinding v_dsize v_dbytes v_csize v_cbytes) (wd_X7_type cI cZ cP cS h_t h_t_red h_t_blue h_t_sky h_t_diary h_t_calendar h_t_awakeIn h_t_worths h_t_plants h_t_sheets h_t_bestFrom h_t_diary_bytes h_t_calendar_bytes v_latestFinding o_dsize o_dbytes o_csize o_cbytes)) 0 0 (va_A (wd_X7_type cI cZ cP cS h_t h_t_red h_t_blue h_t_sky h_t_diary h_t_calendar h_t_awakeIn h_t_worths h_t_plants h_t_sheets h_t_bestFrom h_t_diary_bytes h_t_calendar_bytes v_latestFinding v_dsize v_dbytes v_csize v_cbytes) sz) := by
  refine Met.ofW (cc := cX7_type) (maxL := 4) (ret := (some .int)) (by decide) rfl ?_
  intro p e s m args below meth c s₁ B hml hv
  obtain ⟨rfl, hsz, hP, hK, hD0⟩ := hv
  have hx := B.exec
  have hb := B.bytes
  have hr := B.returns
  have hts := atoms_spec (ws := wsX7_type) B.pre
  have hown : s.vm.findClass RX7 = some m.cls := findClass_of_methodNamed B.named
  have hlocks := B.notSynchronized
  subst hsz
  have hD := hD0.self (sz := s.heap.size)
  have hA : ∀ q : Nat, s.heap.size ≤ q → (va_A (wd_X7_type cI cZ cP cS h_t h_t_red h_t_blue h_t_sky h_t_diary h_t_calendar h_t_awakeIn h_t_worths h_t_plants h_t_sheets h_t_bestFrom h_t_diary_bytes h_t_calendar_bytes v_latestFinding v_dsize v_dbytes v_csize v_cbytes) s.heap.size) q := fun q h => Or.inr h
  have hS : va_S (va_A (wd_X7_type cI cZ cP cS h_t h_t_red h_t_blue h_t_sky h_t_diary h_t_calendar h_t_awakeIn h_t_worths h_t_plants h_t_sheets h_t_bestFrom h_t_diary_bytes h_t_calendar_bytes v_latestFinding v_dsize v_dbytes v_csize v_cbytes) s.heap.size) s.heap s.heap [] := va_S.rf
  have hinX0 : ∀ w ∈ wsX00, w ∈ wsX7_type := by decide +kernel
  have hinX1 : ∀ w ∈ wsX10, w ∈ wsX7_type := by decide +kernel
  have hl := lv_entry ([.ref h_t, .int x1, .int x2]) (n := 4) (Nat.le_of_ble_eq_true rfl)
  rw [lg_entry_eq]
  generalize (lg_sl ([.ref h_t, .int x1, .int x2]) ++ List.replicate (4 - (lg_sl ([.ref h_t, .int x1, .int x2])).length) Slot.unset).toArray = ls at hl ⊢
  have hl : lv_has ls 4 [(0, .ref h_t), (1, .int x1), (2, .int x2)] := hl
  obtain ⟨H, hH⟩ : ∃ H : Heap, H = s.heap := ⟨_, rfl⟩
  have hP : va_P (dC, dI) vwCl (wd_X7_type cI cZ cP cS h_t h_t_red h_t_blue h_t_sky h_t_diary h_t_calendar h_t_awakeIn h_t_worths h_t_plants h_t_sheets h_t_bestFrom h_t_diary_bytes h_t_calendar_bytes v_latestFinding v_dsize v_dbytes v_csize v_cbytes) H := by rw [hH]; exact hP
  have hS : va_S (va_A (wd_X7_type cI cZ cP cS h_t h_t_red h_t_blue h_t_sky h_t_diary h_t_calendar h_t_awakeIn h_t_worths h_t_plants h_t_sheets h_t_bestFrom h_t_diary_bytes h_t_calendar_bytes v_latestFinding v_dsize v_dbytes v_csize v_cbytes) s.heap.size) s.heap H [] := by rw [hH]; exact hS
  obtain ⟨locs, hlo⟩ : ∃ L : List Loc, L = [] := ⟨_, rfl⟩
  rw [← hlo] at hS
  suffices hgo : W p l e (headSpec wsX7_type rm_X7_type).room s m ([.ref h_t, .int x1, .int x2] : List Value).toArray below meth c H locs 0 0 (MQ below (RWi (dC, dI) (TY cI cZ cP cS) r s.heap.size (wd_X7_type cI cZ cP cS h_t h_t_red h_t_blue h_t_sky h_t_diary h_t_calendar h_t_awakeIn h_t_worths h_t_plants h_t_sheets h_t_bestFrom h_t_diary_bytes h_t_calendar_bytes v_latestFinding v_dsize v_dbytes v_csize v_cbytes) (wd_X7_type cI cZ cP cS h_t h_t_red h_t_blue h_t_sky h_t_diary h_t_calendar h_t_awakeIn h_t_worths h_t_plants h_t_sheets h_t_bestFrom h_t_diary_bytes h_t_calendar_bytes v_latestFinding o_dsize o_dbytes o_csize o_cbytes)) ([.ref h_t, .int x1, .int x2] : List Value).toArray s 0 0 (va_A (wd_X7_type cI cZ cP cS h_t h_t_red h_t_blue h_t_sky h_t_diary h_t_calendar h_t_awakeIn h_t_worths h_t_plants h_t_sheets h_t_bestFrom h_t_diary_bytes h_t_calendar_bytes v_latestFinding v_dsize v_dbytes v_csize v_cbytes) s.heap.size)) (F0 m 0 ls []) by rw [hH, hlo] at hgo; exact hgo
  clear hH hlo
  unfold f_X7_type at hf
  refine lv_aload_n hx hb dX7_type_0 rfl (lv_at hl 0 rfl) ?_
  refine lv_iload_n hx hb dX7_type_1 rfl (lv_at hl 1 rfl) ?_
  refine va_csq (va_runV (As := [.int x1]) (rest := []) ⟨hx, hb, hml, hown, hts⟩ (c_X7_textOf l dC dI cI cZ cP cS h_t h_t_red h_t_blue h_t_sky h_t_diary h_t_calendar h_t_awakeIn h_t_worths h_t_plants h_t_sheets h_t_bestFrom v_latestFinding x1) (cwV 1 hts gX7_type_X7_textOf rfl rfl rfl (by decide +kernel) ⟨Nat.le_of_ble_eq_true rfl, Nat.le_of_ble_eq_true rfl⟩) (pv_ro (ci := 6) (q0 := 0) hK (hP.sub (ws' := (wd_X7_textOf cI cZ cP cS h_t h_t_red h_t_blue h_t_sky h_t_diary h_t_calendar h_t_awakeIn h_t_worths h_t_plants h_t_sheets h_t_bestFrom v_latestFinding)) [0] rfl) rfl rfl) rfl rfl hl.1 rfl (lv_room (Nat.le_of_ble_eq_true rfl)) dX7_type_2 ⟨Nat.zero_le _, Nat.zero_le _⟩).run (fun x e_1 => ?_)
  by_cases c2_0 : x1 = 0
  · rw [if_pos c2_0] at hf e_1
    subst e_1
    refine W.eq (g2 := F0 m 5 ls [.ref h_t_diary]) rfl ?_
    refine lv_astore_n (lv' := [(3, .ref h_t_diary), (0, .ref h_t), (1, .int x1), (2, .int x2)]) hx hb dX7_type_5 rfl hl (by decide) rfl (fun ls hl => ?_)
    refine lv_aload_n hx hb dX7_type_6 rfl (lv_at hl 0 rfl) ?_
    refine lv_ifnull hx hb dX7_type_7 ?_
    refine lv_iload_n hx hb dX7_type_10 rfl (lv_at hl 3 rfl) ?_
    refine lv_iconst (v := 0) hx hb dX7_type_11 (by decide) ?_
    refine lv_sipush (v := 255) hx hb dX7_type_12 (by decide) ?_
    obtain ⟨r15_2, hc_3, hf⟩ := bd1_e hf
    refine vp_callSi (va_runS (As := [.int x2, .int 0, .int 255]) (rest := []) ⟨hx, hb, hml, hown, hts⟩ (c_X7_outside l dC dI cI cZ cP cS   x2 0 255 n r15_2 hc_3) (va_cwS 3 hts gX7_type_X7_outside rfl rfl rfl (by decide +kernel) ⟨Nat.le_of_ble_eq_true rfl, Nat.le_of_ble_eq_true rfl⟩) (ps_ro hK (hP.sub (ws' := ([] : va_W)) [] rfl)) rfl rfl hl.1 rfl (lv_room (Nat.le_of_ble_eq_true rfl)) dX7_type_15 ⟨Nat.zero_le _, Nat.zero_le _⟩).run (fun x e_4 => ?_)
    obtain ⟨e_4, hb_5⟩ := e_4
    rw [e_4] at hb_5 ⊢
    refine lv_if_eq (tgt := 24) hx hb dX7_type_18 (by decide) (fun c18 => ?_) (fun c18 => ?_)
    · rw [if_pos c18] at hf
      refine lv_aload_n hx hb dX7_type_24 rfl (lv_at hl 0 rfl) ?_
      refine lv_iload_n hx hb dX7_type_25 rfl (lv_at hl 3 rfl) ?_
      obtain ⟨r26_6, o26_7, o26_8, hc_9, hf⟩ := bd3_e hf
      refine rwz_call (isC := [1, 2]) (isR := [0, 3, 4]) (perm := [0, 3, 4, 1, 2]) (wr := [(h_t, .inr (6, [.ref h_t_red, .ref h_t_blue, .ref h_t_sky, .ref h_t_diary, .ref h_t_calendar, .ref h_t_awakeIn, .ref h_t_worths, .ref h_t_plants, .ref h_t_sheets, .ref h_t_bestFrom, .int v_latestFinding])), (h_t_calendar, .inr (0, [.ref h_t_calendar_bytes, .int v_csize])), (h_t_calendar_bytes, .inl (cI, 20, .inl v_cbytes))]) (ws2 := (wd_X7_type cI cZ cP cS h_t h_t_red h_t_blue h_t_sky h_t_diary h_t_calendar h_t_awakeIn h_t_worths h_t_plants h_t_sheets h_t_bestFrom h_t_diary_bytes h_t_calendar_bytes v_latestFinding o26_7 o26_8 v_csize v_cbytes)) (va_runU (As := [.int x2]) (rest := []) ⟨hx, hb, hml, hown, hts⟩ (c_X6_append_D l dC dI cI cZ cP cS H.size h_t_diary h_t_diary_bytes v_dsize v_dbytes x2 n r26_6 o26_7 o26_8 hc_9) (va_cwU 1 hts gX7_type_X6_append_u97X1 rfl rfl rfl rfl (by decide +kernel) ⟨Nat.le_of_ble_eq_true rfl, Nat.le_of_ble_eq_true rfl⟩) (pv_rw (ci := 1) (q0 := 0) hK (hP.sub (ws' := (wd_X6_append_D cI cZ cP cS h_t_diary h_t_diary_bytes v_dsize v_dbytes)) [1, 2] rfl) (hD.sub (ws' := (wd_X6_append_D cI cZ cP cS h_t_diary h_t_diary_bytes v_dsize v_dbytes)) [1, 2] (by decide) rfl) rfl rfl) rfl rfl hl.1 rfl (lv_room (Nat.le_of_ble_eq_true rfl)) dX7_type_26 ⟨Nat.zero_le _, Nat.zero_le _⟩) hS hA hP hD rfl (by decide) (by decide) rfl (by decide) rfl rfl (fun hb_10 H locs hP hD hS => ?_)
      refine lv_if_eq (tgt := 39) hx hb dX7_type_29 (by decide) (fun c29 => ?_) (fun c29 => ?_)
      · rw [if_pos c29] at hf
        refine lv_bipush (v := (-4)) hx hb dX7_type_39 (by decide) ?_
        have hq0 := Option.some.inj hf
        obtain ⟨eq0, hq1⟩ := Prod.mk.inj hq0
        obtain ⟨eq1, hq2⟩ := Prod.mk.inj hq1
        obtain ⟨eq2, hq3⟩ := Prod.mk.inj hq2
        obtain ⟨eq3, hq4⟩ := Prod.mk.inj hq3
        clear hf hq0 hq1 hq2 hq3
        subst eq0
        subst eq1
        subst eq2
        subst eq3
        subst hq4
        exact W.iret hx hb hr (fun t ht hW => ⟨⟨_, (), rfl, rfl, by rw [ht]; exact hP, va_K.moved hW.alike hK, hD⟩, hS.F ht⟩) hS.2.2 dX7_type_41
      · rw [if_neg c29] at hf
        refine lv_aload_n hx hb dX7_type_32 rfl (lv_at hl 0 rfl) ?_
        refine va_get (D := (dC, dI)) (ci := 1) (v := .int o26_7) (C := RX1) (T := TX1) (N := 2) hx hb hts hinX1 hown hK hP 1 rfl rfl 1 (by decide) (hts (.fieldLink RX7 103 "SecondSunrise$Text" "size" "I") (by decide +kernel)) (fun _ h9 => h9) rfl dX7_type_33 ?_
        refine lv_goto (tgt := 41) hx hb dX7_type_36 (by decide) ?_
        have hq0 := Option.some.inj hf
        obtain ⟨eq0, hq1⟩ := Prod.mk.inj hq0
        obtain ⟨eq1, hq2⟩ := Prod.mk.inj hq1
        obtain ⟨eq2, hq3⟩ := Prod.mk.inj hq2
        obtain ⟨eq3, hq4⟩ := Prod.mk.inj hq3
        clear hf hq0 hq1 hq2 hq3
        subst eq0
        subst eq1
        subst eq2
        subst eq3
        subst hq4
        exact W.iret hx hb hr (fun t ht hW => ⟨⟨_, (), rfl, rfl, by rw [ht]; exact hP, va_K.moved hW.alike hK, hD⟩, hS.F ht⟩) hS.2.2 dX7_type_41
    · rw [if_neg c18] at hf
      refine lv_bipush (v := (-2)) hx hb dX7_type_21 (by decide) ?_
      have hq0 := Option.some.inj hf
      obtain ⟨eq0, hq1⟩ := Prod.mk.inj hq0
      obtain ⟨eq1, hq2⟩ := Prod.mk.inj hq1
      obtain ⟨eq2, hq3⟩ := Prod.mk.inj hq2
      obtain ⟨eq3, hq4⟩ := Prod.mk.inj hq3
      clear hf hq0 hq1 hq2 hq3
      subst eq0
      subst eq1
      subst eq2
      subst eq3
      subst hq4
      exact W.iret hx hb hr (fun t ht hW => ⟨⟨_, (), rfl, rfl, by rw [ht]; exact hP, va_K.moved hW.alike hK, hD⟩, hS.F ht⟩) hS.2.2 dX7_type_23
  · rw [if_neg c2_0] at hf e_1
    by_cases c2_1 : x1 = 1
    · rw [if_pos c2_1] at hf e_1
      subst e_1
      refine W.eq (g2 := F0 m 5 ls [.ref h_t_calendar]) rfl ?_
      refine lv_astore_n (lv' := [(3, .ref h_t_calendar), (0, .ref h_t), (1, .int x1), (2, .int x2)]) hx hb dX7_type_5 rfl hl (by decide) rfl (fun ls hl => ?_)
      refine lv_aload_n hx hb dX7_type_6 rfl (lv_at hl 0 rfl) ?_
      refine lv_ifnull hx hb dX7_type_7 ?_
      refine lv_iload_n hx hb dX7_type_10 rfl (lv_at hl 3 rfl) ?_
      refine lv_iconst (v := 0) hx hb dX7_type_11 (by decide) ?_
      refine lv_sipush (v := 255) hx hb dX7_type_12 (by decide) ?_
      obtain ⟨r15_11, hc_12, hf⟩ := bd1_e hf
      refine vp_callSi (va_runS (As := [.int x2, .int 0, .int 255]) (rest := []) ⟨hx, hb, hml, hown, hts⟩ (c_X7_outside l dC dI cI cZ cP cS   x2 0 255 n r15_11 hc_12) (va_cwS 3 hts gX7_type_X7_outside rfl rfl rfl (by decide +kernel) ⟨Nat.le_of_ble_eq_true rfl, Nat.le_of_ble_eq_true rfl⟩) (ps_ro hK (hP.sub (ws' := ([] : va_W)) [] rfl)) rfl rfl hl.1 rfl (lv_room (Nat.le_of_ble_eq_true rfl)) dX7_type_15 ⟨Nat.zero_le _, Nat.zero_le _⟩).run (fun x e_13 => ?_)
      obtain ⟨e_13, hb_14⟩ := e_13
      rw [e_13] at hb_14 ⊢
      refine lv_if_eq (tgt := 24) hx hb dX7_type_18 (by decide) (fun c18 => ?_) (fun c18 => ?_)
      · rw [if_pos c18] at hf
        refine lv_aload_n hx hb dX7_type_24 rfl (lv_at hl 0 rfl) ?_
        refine lv_iload_n hx hb dX7_type_25 rfl (lv_at hl 3 rfl) ?_
        obtain ⟨r26_15, o26_16, o26_17, hc_18, hf⟩ := bd3_e hf
        refine rwz_call (isC := [3, 4]) (isR := [0, 1, 2]) (perm := [0, 1, 2, 3, 4]) (wr := [(h_t, .inr (6, [.ref h_t_red, .ref h_t_blue, .ref h_t_sky, .ref h_t_diary, .ref h_t_calendar, .ref h_t_awakeIn, .ref h_t_worths, .ref h_t_plants, .ref h_t_sheets, .ref h_t_bestFrom, .int v_latestFinding])), (h_t_diary, .inr (1, [.ref h_t_diary_bytes, .int v_dsize])), (h_t_diary_bytes, .inl (cI, 60, .inl v_dbytes))]) (ws2 := (wd_X7_type cI cZ cP cS h_t h_t_red h_t_blue h_t_sky h_t_diary h_t_calendar h_t_awakeIn h_t_worths h_t_plants h_t_sheets h_t_bestFrom h_t_diary_bytes h_t_calendar_bytes v_latestFinding v_dsize v_dbytes o26_16 o26_17)) (va_runU (As := [.int x2]) (rest := []) ⟨hx, hb, hml, hown, hts⟩ (c_X6_append_C l dC dI cI cZ cP cS H.size h_t_calendar h_t_calendar_bytes v_csize v_cbytes x2 n r26_15 o26_16 o26_17 hc_18) (va_cwU 1 hts gX7_type_X6_append_u97X0 rfl rfl rfl rfl (by decide +kernel) ⟨Nat.le_of_ble_eq_true rfl, Nat.le_of_ble_eq_true rfl⟩) (pv_rw (ci := 0) (q0 := 0) hK (hP.sub (ws' := (wd_X6_append_C cI cZ cP cS h_t_calendar h_t_calendar_bytes v_csize v_cbytes)) [3, 4] rfl) (hD.sub (ws' := (wd_X6_append_C cI cZ cP cS h_t_calendar h_t_calendar_bytes v_csize v_cbytes)) [3, 4] (by decide) rfl) rfl rfl) rfl rfl hl.1 rfl (lv_room (Nat.le_of_ble_eq_true rfl)) dX7_type_26 ⟨Nat.zero_le _, Nat.zero_le _⟩) hS hA hP hD rfl (by decide) (by decide) rfl (by decide) rfl rfl (fun hb_19 H locs hP hD hS => ?_)
        refine lv_if_eq (tgt := 39) hx hb dX7_type_29 (by decide) (fun c29 => ?_) (fun c29 => ?_)
        · rw [if_pos c29] at hf
          refine lv_bipush (v := (-4)) hx hb dX7_type_39 (by decide) ?_
          have hq0 := Option.some.inj hf
          obtain ⟨eq0, hq1⟩ := Prod.mk.inj hq0
          obtain ⟨eq1, hq2⟩ := Prod.mk.inj hq1
          obtain ⟨eq2, hq3⟩ := Prod.mk.inj hq2
          obtain ⟨eq3, hq4⟩ := Prod.mk.inj hq3
          clear hf hq0 hq1 hq2 hq3
          subst eq0
          subst eq1
          subst eq2
          subst eq3
          subst hq4
          exact W.iret hx hb hr (fun t ht hW => ⟨⟨_, (), rfl, rfl, by rw [ht]; exact hP, va_K.moved hW.alike hK, hD⟩, hS.F ht⟩) hS.2.2 dX7_type_41
        · rw [if_neg c29] at hf
          refine lv_aload_n hx hb dX7_type_32 rfl (lv_at hl 0 rfl) ?_
          refine va_get (D := (dC, dI)) (ci := 0) (v := .int o26_16) (C := RX0) (T := TX0) (N := 2) hx hb hts hinX0 hown hK hP 3 rfl rfl 1 (by decide) (hts (.fieldLink RX7 103 "SecondSunrise$Text" "size" "I") (by decide +kernel)) (fun _ h9 => h9) rfl dX7_type_33 ?_
          refine lv_goto (tgt := 41) hx hb dX7_type_36 (by decide) ?_
          have hq0 := Option.some.inj hf
          obtain ⟨eq0, hq1⟩ := Prod.mk.inj hq0
          obtain ⟨eq1, hq2⟩ := Prod.mk.inj hq1
          obtain ⟨eq2, hq3⟩ := Prod.mk.inj hq2
          obtain ⟨eq3, hq4⟩ := Prod.mk.inj hq3
          clear hf hq0 hq1 hq2 hq3
          subst eq0
          subst eq1
          subst eq2
          subst eq3
          subst hq4
          exact W.iret hx hb hr (fun t ht hW => ⟨⟨_, (), rfl, rfl, by rw [ht]; exact hP, va_K.moved hW.alike hK, hD⟩, hS.F ht⟩) hS.2.2 dX7_type_41
      · rw [if_neg c18] at hf
        refine lv_bipush (v := (-2)) hx hb dX7_type_21 (by decide) ?_
        have hq0 := Option.some.inj hf
        obtain ⟨eq0, hq1⟩ := Prod.mk.inj hq0
        obtain ⟨eq1, hq2⟩ := Prod.mk.inj hq1
        obtain ⟨eq2, hq3⟩ := Prod.mk.inj hq2
        obtain ⟨eq3, hq4⟩ := Prod.mk.inj hq3
        clear hf hq0 hq1 hq2 hq3
        subst eq0
        subst eq1
        subst eq2
        subst eq3
        subst hq4
        exact W.iret hx hb hr (fun t ht hW => ⟨⟨_, (), rfl, rfl, by rw [ht]; exact hP, va_K.moved hW.alike hK, hD⟩, hS.F ht⟩) hS.2.2 dX7_type_23
    · rw [if_neg c2_1] at hf e_1
      subst e_1
      refine W.eq (g2 := F0 m 5 ls [.null]) rfl ?_
      refine lv_astore_nN (lv' := [(3, .null), (0, .ref h_t), (1, .int x1), (2, .int x2)]) hx hb dX7_type_5 rfl hl (by decide) rfl (fun ls hl => ?_)
      refine lv_aload_nN hx hb dX7_type_6 rfl (lv_at hl 0 rfl) ?_
      refine lv_ifnullN (tgt := 21) hx hb dX7_type_7 (by decide) ?_
      refine lv_bipush (v := (-2)) hx hb dX7_type_21 (by decide) ?_
      have hq0 := Option.some.inj hf
      obtain ⟨eq0, hq1⟩ := Prod.mk.inj hq0
      obtain ⟨eq1, hq2⟩ := Prod.mk.inj hq1
      obtain ⟨eq2, hq3⟩ := Prod.mk.inj hq2
      obtain ⟨eq3, hq4⟩ := Prod.mk.inj hq3
      clear hf hq0 hq1 hq2 hq3
      subst eq0
      subst eq1
      subst eq2
      subst eq3
      subst hq4
      exact W.iret hx hb hr (fun t ht hW => ⟨⟨_, (), rfl, rfl, by rw [ht]; exact hP, va_K.moved hW.alike hK, hD⟩, hS.F ht⟩) hS.2.2 dX7_type_23

abbrev wd_X7_undo (cI cZ cP cS : ClassId) (h_t h_t_red h_t_blue h_t_sky h_t_diary h_t_calendar h_t_awakeIn h_t_worths h_t_plants h_t_sheets h_t_bestFrom h_t_diary_bytes h_t_calendar_bytes : Nat) (v_latestFinding : Int32) (v_dsize : Int32) (v_csize : Int32) : va_W := [(h_t, .inr (6, [.ref h_t_red, .ref h_t_blue, .ref h_t_sky, .ref h_t_diary, .ref h_t_calendar, .ref h_t_awakeIn, .ref h_t_worths, .ref h_t_plants, .ref h_t_sheets, .ref h_t_bestFrom, .int v_latestFinding])), (h_t_diary, .inr (1, [.ref h_t_diary_bytes, .int v_dsize])), (h_t_calendar, .inr (0, [.ref h_t_calendar_bytes, .int v_csize]))]
abbrev rm_X7_undo : Room := { frames := 1, cells := 0, slots := 0, locals := 21 }
def f_X7_undo (n : Nat) (v_dsize : Int32) (v_csize : Int32) (x1 : Int32) : Option (Int32 × Int32 × Int32) := if x1 = 0 then if v_dsize = 0 then some ((-3), v_dsize, v_csize) else some ((v_dsize - 1), (v_dsize - 1), v_csize) else if x1 = 1 then if v_csize = 0 then some ((-3), v_dsize, v_csize) else some ((v_csize - 1), v_dsize, (v_csize - 1)) else some ((-2), v_dsize, v_csize)
set_option maxHeartbeats 4000000 in
set_option maxRecDepth 100000 in
theorem c_X7_undo (l : Launch) (dC : Nat → ClassId) (dI : Nat → Nat → Nat) (cI cZ cP cS : ClassId) (sz : Nat) (h_t h_t_red h_t_blue h_t_sky h_t_diary h_t_calendar h_t_awakeIn h_t_worths h_t_plants h_t_sheets h_t_bestFrom h_t_diary_bytes h_t_calendar_bytes : Nat) (v_latestFinding : Int32) (v_dsize : Int32) (v_csize : Int32) (x1 : Int32) (n : Nat) (r : Int32) (o_dsize : Int32) (o_csize : Int32) (hf : f_X7_undo n v_dsize v_csize x1 = some (r, o_dsize, o_csize)) : Met l yX7_undo wsX7_undo rm_X7_undo (RW (dC, dI) (TY cI cZ cP cS) [.ref h_t, .int x1] sz (wd_X7_undo cI cZ cP cS h_t h_t_red h_t_blue h_t_sky h_t_diary h_t_calendar h_t_awakeIn h_t_worths h_t_plants h_t_sheets h_t_bestFrom h_t_diary_bytes h_t_calendar_bytes v_latestFinding v_dsize v_csize)) (RWi (dC, dI) (TY cI cZ cP cS) r sz (wd_X7_undo cI cZ cP cS h_t h_t_red h_t_blue h_t_sky h_t_diary h_t_calendar h_t_awakeIn h_t_worths h_t_plants h_t_sheets h_t_bestFrom h_t_diary_bytes h_t_calendar_bytes v_latestFinding v_dsize v_csize) (wd_X7_undo cI cZ cP cS h_t h_t_red h_t_blue h_t_sky h_t_diary h_t_calendar h_t_awakeIn h_t_worths h_t_plants h_t_sheets h_t_bestFrom h_t_diary_bytes h_t_calendar_bytes v_latestFinding o_dsize o_csize)) 0 0 (va_A (wd_X7_undo cI cZ cP cS h_t h_t_red h_t_blue h_t_sky h_t_diary h_t_calendar h_t_awakeIn h_t_worths h_t_plants h_t_sheets h_t_bestFrom h_t_diary_bytes h_t_calendar_bytes v_latestFinding v_dsize v_csize) sz) := by
  refine Met.ofW (cc := cX7_undo) (maxL := 3) (ret := (some .int)) (by decide) rfl ?_
  intro p e s m args below meth c s₁ B hml hv
  obtain ⟨rfl, hsz, hP, hK, hD0⟩ := hv
  have hx := B.exec
  have hb := B.bytes
  have hr := B.returns
  have hts := atoms_spec (ws := wsX7_undo) B.pre
  have hown : s.vm.findClass RX7 = some m.cls := findClass_of_methodNamed B.named
  have hlocks := B.notSynchronized
  subst hsz
  have hD := hD0.self (sz := s.heap.size)
  have hA : ∀ q : Nat, s.heap.size ≤ q → (va_A (wd_X7_undo cI cZ cP cS h_t h_t_red h_t_blue h_t_sky h_t_diary h_t_calendar h_t_awakeIn h_t_worths h_t_plants h_t_sheets h_t_bestFrom h_t_diary_bytes h_t_calendar_bytes v_latestFinding v_dsize v_csize) s.heap.size) q := fun q h => Or.inr h
  have hS : va_S (va_A (wd_X7_undo cI cZ cP cS h_t h_t_red h_t_blue h_t_sky h_t_diary h_t_calendar h_t_awakeIn h_t_worths h_t_plants h_t_sheets h_t_bestFrom h_t_diary_bytes h_t_calendar_bytes v_latestFinding v_dsize v_csize) s.heap.size) s.heap s.heap [] := va_S.rf
  have hinX0 : ∀ w ∈ wsX00, w ∈ wsX7_undo := by decide +kernel
  have hinX1 : ∀ w ∈ wsX10, w ∈ wsX7_undo := by decide +kernel
  have hl := lv_entry ([.ref h_t, .int x1]) (n := 3) (Nat.le_of_ble_eq_true rfl)
  rw [lg_entry_eq]
  generalize (lg_sl ([.ref h_t, .int x1]) ++ List.replicate (3 - (lg_sl ([.ref h_t, .int x1])).length) Slot.unset).toArray = ls at hl ⊢
  have hl : lv_has ls 3 [(0, .ref h_t), (1, .int x1)] := hl
  obtain ⟨H, hH⟩ : ∃ H : Heap, H = s.heap := ⟨_, rfl⟩
  have hP : va_P (dC, dI) vwCl (wd_X7_undo cI cZ cP cS h_t h_t_red h_t_blue h_t_sky h_t_diary h_t_calendar h_t_awakeIn h_t_worths h_t_plants h_t_sheets h_t_bestFrom h_t_diary_bytes h_t_calendar_bytes v_latestFinding v_dsize v_csize) H := by rw [hH]; exact hP
  have hS : va_S (va_A (wd_X7_undo cI cZ cP cS h_t h_t_red h_t_blue h_t_sky h_t_diary h_t_calendar h_t_awakeIn h_t_worths h_t_plants h_t_sheets h_t_bestFrom h_t_diary_bytes h_t_calendar_bytes v_latestFinding v_dsize v_csize) s.heap.size) s.heap H [] := by rw [hH]; exact hS
  obtain ⟨locs, hlo⟩ : ∃ L : List Loc, L = [] := ⟨_, rfl⟩
  rw [← hlo] at hS
  suffices hgo : W p l e (headSpec wsX7_undo rm_X7_undo).room s m ([.ref h_t, .int x1] : List Value).toArray below meth c H locs 0 0 (MQ below (RWi (dC, dI) (TY cI cZ cP cS) r s.heap.size (wd_X7_undo cI cZ cP cS h_t h_t_red h_t_blue h_t_sky h_t_diary h_t_calendar h_t_awakeIn h_t_worths h_t_plants h_t_sheets h_t_bestFrom h_t_diary_bytes h_t_calendar_bytes v_latestFinding v_dsize v_csize) (wd_X7_undo cI cZ cP cS h_t h_t_red h_t_blue h_t_sky h_t_diary h_t_calendar h_t_awakeIn h_t_worths h_t_plants h_t_sheets h_t_bestFrom h_t_diary_bytes h_t_calendar_bytes v_latestFinding o_dsize o_csize)) ([.ref h_t, .int x1] : List Value).toArray s 0 0 (va_A (wd_X7_undo cI cZ cP cS h_t h_t_red h_t_blue h_t_sky h_t_diary h_t_calendar h_t_awakeIn h_t_worths h_t_plants h_t_sheets h_t_bestFrom h_t_diary_bytes h_t_calendar_bytes v_latestFinding v_dsize v_csize) s.heap.size)) (F0 m 0 ls []) by rw [hH, hlo] at hgo; exact hgo
  clear hH hlo
  unfold f_X7_undo at hf
  refine lv_aload_n hx hb dX7_undo_0 rfl (lv_at hl 0 rfl) ?_
  refine lv_iload_n hx hb dX7_undo_1 rfl (lv_at hl 1 rfl) ?_
  refine va_csq (va_runV (As := [.int x1]) (rest := []) ⟨hx, hb, hml, hown, hts⟩ (c_X7_textOf l dC dI cI cZ cP cS h_t h_t_red h_t_blue h_t_sky h_t_diary h_t_calendar h_t_awakeIn h_t_worths h_t_plants h_t_sheets h_t_bestFrom v_latestFinding x1) (cwV 1 hts gX7_undo_X7_textOf rfl rfl rfl (by decide +kernel) ⟨Nat.le_of_ble_eq_true rfl, Nat.le_of_ble_eq_true rfl⟩) (pv_ro (ci := 6) (q0 := 0) hK (hP.sub (ws' := (wd_X7_textOf cI cZ cP cS h_t h_t_red h_t_blue h_t_sky h_t_diary h_t_calendar h_t_awakeIn h_t_worths h_t_plants h_t_sheets h_t_bestFrom v_latestFinding)) [0] rfl) rfl rfl) rfl rfl hl.1 rfl (lv_room (Nat.le_of_ble_eq_true rfl)) dX7_undo_2 ⟨Nat.zero_le _, Nat.zero_le _⟩).run (fun x e_1 => ?_)
  by_cases c2_0 : x1 = 0
  · rw [if_pos c2_0] at hf e_1
    subst e_1
    refine W.eq (g2 := F0 m 5 ls [.ref h_t_diary]) rfl ?_
    refine lv_astore_n (lv' := [(2, .ref h_t_diary), (0, .ref h_t), (1, .int x1)]) hx hb dX7_undo_5 rfl hl (by decide) rfl (fun ls hl => ?_)
    refine lv_aload_n hx hb dX7_undo_6 rfl (lv_at hl 0 rfl) ?_
    refine lv_ifnonnull (tgt := 13) hx hb dX7_undo_7 (by decide) ?_
    refine lv_aload_n hx hb dX7_undo_13 rfl (lv_at hl 0 rfl) ?_
    refine va_get (D := (dC, dI)) (ci := 1) (v := .int v_dsize) (C := RX1) (T := TX1) (N := 2) hx hb hts hinX1 hown hK hP 1 rfl rfl 1 (by decide) (hts (.fieldLink RX7 103 "SecondSunrise$Text" "size" "I") (by decide +kernel)) (fun _ h9 => h9) rfl dX7_undo_14 ?_
    refine lv_if_ne (tgt := 23) hx hb dX7_undo_17 (by decide) (fun c17 => ?_) (fun c17 => ?_)
    · rw [if_neg c17] at hf
      refine lv_aload_n hx hb dX7_undo_23 rfl (lv_at hl 0 rfl) ?_
      refine lv_dup hx hb dX7_undo_24 rfl ?_
      refine va_get (D := (dC, dI)) (ci := 1) (v := .int v_dsize) (C := RX1) (T := TX1) (N := 2) hx hb hts hinX1 hown hK hP 1 rfl rfl 1 (by decide) (hts (.fieldLink RX7 103 "SecondSunrise$Text" "size" "I") (by decide +kernel)) (fun _ h9 => h9) rfl dX7_undo_25 ?_
      refine lv_iconst (v := 1) hx hb dX7_undo_28 (by decide) ?_
      refine lv_isub hx hb dX7_undo_29 ?_
      refine va_put (D := (dC, dI)) (ci := 1) (v := .int (v_dsize - 1)) (ty := .int) (C := RX1) (T := TX1) (N := 2) hx hb hts hinX1 tyX1 tyX1_ok nmX1 hown hK hP hD hS 1 rfl rfl 1 (by decide) (hts (.fieldLink RX7 103 "SecondSunrise$Text" "size" "I") (by decide +kernel)) (fun _ h9 => h9) rfl (by decide +kernel) rfl rfl (Nat.le_of_ble_eq_true rfl) dX7_undo_30 (fun H locs hP hD hS => ?_)
      have hP : va_P (dC, dI) vwCl (wd_X7_undo cI cZ cP cS h_t h_t_red h_t_blue h_t_sky h_t_diary h_t_calendar h_t_awakeIn h_t_worths h_t_plants h_t_sheets h_t_bestFrom h_t_diary_bytes h_t_calendar_bytes v_latestFinding (v_dsize - 1) v_csize) H := hP
      have hD : va_D (va_A (wd_X7_undo cI cZ cP cS h_t h_t_red h_t_blue h_t_sky h_t_diary h_t_calendar h_t_awakeIn h_t_worths h_t_plants h_t_sheets h_t_bestFrom h_t_diary_bytes h_t_calendar_bytes v_latestFinding v_dsize v_csize) s.heap.size) (wd_X7_undo cI cZ cP cS h_t h_t_red h_t_blue h_t_sky h_t_diary h_t_calendar h_t_awakeIn h_t_worths h_t_plants h_t_sheets h_t_bestFrom h_t_diary_bytes h_t_calendar_bytes v_latestFinding (v_dsize - 1) v_csize) := hD
      refine lv_aload_n hx hb dX7_undo_33 rfl (lv_at hl 0 rfl) ?_
      refine va_get (D := (dC, dI)) (ci := 1) (v := .int (v_dsize - 1)) (C := RX1) (T := TX1) (N := 2) hx hb hts hinX1 hown hK hP 1 rfl rfl 1 (by decide) (hts (.fieldLink RX7 103 "SecondSunrise$Text" "size" "I") (by decide +kernel)) (fun _ h9 => h9) rfl dX7_undo_34 ?_
      have hq0 := Option.some.inj hf
      obtain ⟨eq0, hq1⟩ := Prod.mk.inj hq0
      obtain ⟨eq1, hq2⟩ := Prod.mk.inj hq1
      clear hf hq0 hq1
      subst eq0
      subst eq1
      subst hq2
      exact W.iret hx hb hr (fun t ht hW => ⟨⟨_, (), rfl, rfl, by rw [ht]; exact hP, va_K.moved hW.alike hK, hD⟩, hS.F ht⟩) hS.2.2 dX7_undo_37
    · rw [if_pos c17] at hf
      refine lv_bipush (v := (-3)) hx hb dX7_undo_20 (by decide) ?_
      have hq0 := Option.some.inj hf
      obtain ⟨eq0, hq1⟩ := Prod.mk.inj hq0
      obtain ⟨eq1, hq2⟩ := Prod.mk.inj hq1
      clear hf hq0 hq1
      subst eq0
      subst eq1
      subst hq2
      exact W.iret hx hb hr (fun t ht hW => ⟨⟨_, (), rfl, rfl, by rw [ht]; exact hP, va_K.moved hW.alike hK, hD⟩, hS.F ht⟩) hS.2.2 dX7_undo_22
  · rw [if_neg c2_0] at hf e_1
    by_cases c2_1 : x1 = 1
    · rw [if_pos c2_1] at hf e_1
      subst e_1
      refine W.eq (g2 := F0 m 5 ls [.ref h_t_calendar]) rfl ?_
      refine lv_astore_n (lv' := [(2, .ref h_t_calendar), (0, .ref h_t), (1, .int x1)]) hx hb dX7_undo_5 rfl hl (by decide) rfl (fun ls hl => ?_)
      refine lv_aload_n hx hb dX7_undo_6 rfl (lv_at hl 0 rfl) ?_
      refine lv_ifnonnull (tgt := 13) hx hb dX7_undo_7 (by decide) ?_
      refine lv_aload_n hx hb dX7_undo_13 rfl (lv_at hl 0 rfl) ?_
      refine va_get (D := (dC, dI)) (ci := 0) (v := .int v_csize) (C := RX0) (T := TX0) (N := 2) hx hb hts hinX0 hown hK hP 2 rfl rfl 1 (by decide) (hts (.fieldLink RX7 103 "SecondSunrise$Text" "size" "I") (by decide +kernel)) (fun _ h9 => h9) rfl dX7_undo_14 ?_
      refine lv_if_ne (tgt := 23) hx hb dX7_undo_17 (by decide) (fun c17 => ?_) (fun c17 => ?_)
      · rw [if_neg c17] at hf
        refine lv_aload_n hx hb dX7_undo_23 rfl (lv_at hl 0 rfl) ?_
        refine lv_dup hx hb dX7_undo_24 rfl ?_
        refine va_get (D := (dC, dI)) (ci := 0) (v := .int v_csize) (C := RX0) (T := TX0) (N := 2) hx hb hts hinX0 hown hK hP 2 rfl rfl 1 (by decide) (hts (.fieldLink RX7 103 "SecondSunrise$Text" "size" "I") (by decide +kernel)) (fun _ h9 => h9) rfl dX7_undo_25 ?_
        refine lv_iconst (v := 1) hx hb dX7_undo_28 (by decide) ?_
        refine lv_isub hx hb dX7_undo_29 ?_
        refine va_put (D := (dC, dI)) (ci := 0) (v := .int (v_csize - 1)) (ty := .int) (C := RX0) (T := TX0) (N := 2) hx hb hts hinX0 tyX0 tyX0_ok nmX0 hown hK hP hD hS 2 rfl rfl 1 (by decide) (hts (.fieldLink RX7 103 "SecondSunrise$Text" "size" "I") (by decide +kernel)) (fun _ h9 => h9) rfl (by decide +kernel) rfl rfl (Nat.le_of_ble_eq_true rfl) dX7_undo_30 (fun H locs hP hD hS => ?_)
        have hP : va_P (dC, dI) vwCl (wd_X7_undo cI cZ cP cS h_t h_t_red h_t_blue h_t_sky h_t_diary h_t_calendar h_t_awakeIn h_t_worths h_t_plants h_t_sheets h_t_bestFrom h_t_diary_bytes h_t_calendar_bytes v_latestFinding v_dsize (v_csize - 1)) H := hP
        have hD : va_D (va_A (wd_X7_undo cI cZ cP cS h_t h_t_red h_t_blue h_t_sky h_t_diary h_t_calendar h_t_awakeIn h_t_worths h_t_plants h_t_sheets h_t_bestFrom h_t_diary_bytes h_t_calendar_bytes v_latestFinding v_dsize v_csize) s.heap.size) (wd_X7_undo cI cZ cP cS h_t h_t_red h_t_blue h_t_sky h_t_diary h_t_calendar h_t_awakeIn h_t_worths h_t_plants h_t_sheets h_t_bestFrom h_t_diary_bytes h_t_calendar_bytes v_latestFinding v_dsize (v_csize - 1)) := hD
        refine lv_aload_n hx hb dX7_undo_33 rfl (lv_at hl 0 rfl) ?_
        refine va_get (D := (dC, dI)) (ci := 0) (v := .int (v_csize - 1)) (C := RX0) (T := TX0) (N := 2) hx hb hts hinX0 hown hK hP 2 rfl rfl 1 (by decide) (hts (.fieldLink RX7 103 "SecondSunrise$Text" "size" "I") (by decide +kernel)) (fun _ h9 => h9) rfl dX7_undo_34 ?_
        have hq0 := Option.some.inj hf
        obtain ⟨eq0, hq1⟩ := Prod.mk.inj hq0
        obtain ⟨eq1, hq2⟩ := Prod.mk.inj hq1
        clear hf hq0 hq1
        subst eq0
        subst eq1
        subst hq2
        exact W.iret hx hb hr (fun t ht hW => ⟨⟨_, (), rfl, rfl, by rw [ht]; exact hP, va_K.moved hW.alike hK, hD⟩, hS.F ht⟩) hS.2.2 dX7_undo_37
      · rw [if_pos c17] at hf
        refine lv_bipush (v := (-3)) hx hb dX7_undo_20 (by decide) ?_
        have hq0 := Option.some.inj hf
        obtain ⟨eq0, hq1⟩ := Prod.mk.inj hq0
        obtain ⟨eq1, hq2⟩ := Prod.mk.inj hq1
        clear hf hq0 hq1
        subst eq0
        subst eq1
        subst hq2
        exact W.iret hx hb hr (fun t ht hW => ⟨⟨_, (), rfl, rfl, by rw [ht]; exact hP, va_K.moved hW.alike hK, hD⟩, hS.F ht⟩) hS.2.2 dX7_undo_22
    · rw [if_neg c2_1] at hf e_1
      subst e_1
      refine W.eq (g2 := F0 m 5 ls [.null]) rfl ?_
      refine lv_astore_nN (lv' := [(2, .null), (0, .ref h_t), (1, .int x1)]) hx hb dX7_undo_5 rfl hl (by decide) rfl (fun ls hl => ?_)
      refine lv_aload_nN hx hb dX7_undo_6 rfl (lv_at hl 0 rfl) ?_
      refine lv_ifnonnullN hx hb dX7_undo_7 ?_
      refine lv_bipush (v := (-2)) hx hb dX7_undo_10 (by decide) ?_
      have hq0 := Option.some.inj hf
      obtain ⟨eq0, hq1⟩ := Prod.mk.inj hq0
      obtain ⟨eq1, hq2⟩ := Prod.mk.inj hq1
      clear hf hq0 hq1
      subst eq0
      subst eq1
      subst hq2
      exact W.iret hx hb hr (fun t ht hW => ⟨⟨_, (), rfl, rfl, by rw [ht]; exact hP, va_K.moved hW.alike hK, hD⟩, hS.F ht⟩) hS.2.2 dX7_undo_12

abbrev wd_X7_wipe (cI cZ cP cS : ClassId) (h_t h_t_red h_t_blue h_t_sky h_t_diary h_t_calendar h_t_awakeIn h_t_worths h_t_plants h_t_sheets h_t_bestFrom h_t_diary_bytes h_t_calendar_bytes : Nat) (v_latestFinding : Int32) (v_dsize : Int32) (v_csize : Int32) : va_W := [(h_t, .inr (6, [.ref h_t_red, .ref h_t_blue, .ref h_t_sky, .ref h_t_diary, .ref h_t_calendar, .ref h_t_awakeIn, .ref h_t_worths, .ref h_t_plants, .ref h_t_sheets, .ref h_t_bestFrom, .int v_latestFinding])), (h_t_diary, .inr (1, [.ref h_t_diary_bytes, .int v_dsize])), (h_t_calendar, .inr (0, [.ref h_t_calendar_bytes, .int v_csize]))]
abbrev rm_X7_wipe : Room := { frames := 1, cells := 0, slots := 0, locals := 21 }
def f_X7_wipe (n : Nat) (v_dsize : Int32) (v_csize : Int32) (x1 : Int32) : Option (Int32 × Int32 × Int32) := if x1 = 0 then some (v_dsize, 0, v_csize) else if x1 = 1 then some (v_csize, v_dsize, 0) else some ((-2), v_dsize, v_csize)
set_option maxHeartbeats 4000000 in
set_option maxRecDepth 100000 in
theorem c_X7_wipe (l : Launch) (dC : Nat → ClassId) (dI : Nat → Nat → Nat) (cI cZ cP cS : ClassId) (sz : Nat) (h_t h_t_red h_t_blue h_t_sky h_t_diary h_t_calendar h_t_awakeIn h_t_worths h_t_plants h_t_sheets h_t_bestFrom h_t_diary_bytes h_t_calendar_bytes : Nat) (v_latestFinding : Int32) (v_dsize : Int32) (v_csize : Int32) (x1 : Int32) (n : Nat) (r : Int32) (o_dsize : Int32) (o_csize : Int32) (hf : f_X7_wipe n v_dsize v_csize x1 = some (r, o_dsize, o_csize)) : Met l yX7_wipe wsX7_wipe rm_X7_wipe (RW (dC, dI) (TY cI cZ cP cS) [.ref h_t, .int x1] sz (wd_X7_wipe cI cZ cP cS h_t h_t_red h_t_blue h_t_sky h_t_diary h_t_calendar h_t_awakeIn h_t_worths h_t_plants h_t_sheets h_t_bestFrom h_t_diary_bytes h_t_calendar_bytes v_latestFinding v_dsize v_csize)) (RWi (dC, dI) (TY cI cZ cP cS) r sz (wd_X7_wipe cI cZ cP cS h_t h_t_red h_t_blue h_t_sky h_t_diary h_t_calendar h_t_awakeIn h_t_worths h_t_plants h_t_sheets h_t_bestFrom h_t_diary_bytes h_t_calendar_bytes v_latestFinding v_dsize v_csize) (wd_X7_wipe cI cZ cP cS h_t h_t_red h_t_blue h_t_sky h_t_diary h_t_calendar h_t_awakeIn h_t_worths h_t_plants h_t_sheets h_t_bestFrom h_t_diary_bytes h_t_calendar_bytes v_latestFinding o_dsize o_csize)) 0 0 (va_A (wd_X7_wipe cI cZ cP cS h_t h_t_red h_t_blue h_t_sky h_t_diary h_t_calendar h_t_awakeIn h_t_worths h_t_plants h_t_sheets h_t_bestFrom h_t_diary_bytes h_t_calendar_bytes v_latestFinding v_dsize v_csize) sz) := by
  refine Met.ofW (cc := cX7_wipe) (maxL := 4) (ret := (some .int)) (by decide) rfl ?_
  intro p e s m args below meth c s₁ B hml hv
  obtain ⟨rfl, hsz, hP, hK, hD0⟩ := hv
  have hx := B.exec
  have hb := B.bytes
  have hr := B.returns
  have hts := atoms_spec (ws := wsX7_wipe) B.pre
  have hown : s.vm.findClass RX7 = some m.cls := findClass_of_methodNamed B.named
  have hlocks := B.notSynchronized
  subst hsz
  have hD := hD0.self (sz := s.heap.size)
  have hA : ∀ q : Nat, s.heap.size ≤ q → (va_A (wd_X7_wipe cI cZ cP cS h_t h_t_red h_t_blue h_t_sky h_t_diary h_t_calendar h_t_awakeIn h_t_worths h_t_plants h_t_sheets h_t_bestFrom h_t_diary_bytes h_t_calendar_bytes v_latestFinding v_dsize v_csize) s.heap.size) q := fun q h => Or.inr h
  have hS : va_S (va_A (wd_X7_wipe cI cZ cP cS h_t h_t_red h_t_blue h_t_sky h_t_diary h_t_calendar h_t_awakeIn h_t_worths h_t_plants h_t_sheets h_t_bestFrom h_t_diary_bytes h_t_calendar_bytes v_latestFinding v_dsize v_csize) s.heap.size) s.heap s.heap [] := va_S.rf
  have hinX0 : ∀ w ∈ wsX00, w ∈ wsX7_wipe := by decide +kernel
  have hinX1 : ∀ w ∈ wsX10, w ∈ wsX7_wipe := by decide +kernel
  have hl := lv_entry ([.ref h_t, .int x1]) (n := 4) (Nat.le_of_ble_eq_true rfl)
  rw [lg_entry_eq]
  generalize (lg_sl ([.ref h_t, .int x1]) ++ List.replicate (4 - (lg_sl ([.ref h_t, .int x1])).length) Slot.unset).toArray = ls at hl ⊢
  have hl : lv_has ls 4 [(0, .ref h_t), (1, .int x1)] := hl
  obtain ⟨H, hH⟩ : ∃ H : Heap, H = s.heap := ⟨_, rfl⟩
  have hP : va_P (dC, dI) vwCl (wd_X7_wipe cI cZ cP cS h_t h_t_red h_t_blue h_t_sky h_t_diary h_t_calendar h_t_awakeIn h_t_worths h_t_plants h_t_sheets h_t_bestFrom h_t_diary_bytes h_t_calendar_bytes v_latestFinding v_dsize v_csize) H := by rw [hH]; exact hP
  have hS : va_S (va_A (wd_X7_wipe cI cZ cP cS h_t h_t_red h_t_blue h_t_sky h_t_diary h_t_calendar h_t_awakeIn h_t_worths h_t_plants h_t_sheets h_t_bestFrom h_t_diary_bytes h_t_calendar_bytes v_latestFinding v_dsize v_csize) s.heap.size) s.heap H [] := by rw [hH]; exact hS
  obtain ⟨locs, hlo⟩ : ∃ L : List Loc, L = [] := ⟨_, rfl⟩
  rw [← hlo] at hS
  suffices hgo : W p l e (headSpec wsX7_wipe rm_X7_wipe).room s m ([.ref h_t, .int x1] : List Value).toArray below meth c H locs 0 0 (MQ below (RWi (dC, dI) (TY cI cZ cP cS) r s.heap.size (wd_X7_wipe cI cZ cP cS h_t h_t_red h_t_blue h_t_sky h_t_diary h_t_calendar h_t_awakeIn h_t_worths h_t_plants h_t_sheets h_t_bestFrom h_t_diary_bytes h_t_calendar_bytes v_latestFinding v_dsize v_csize) (wd_X7_wipe cI cZ cP cS h_t h_t_red h_t_blue h_t_sky h_t_diary h_t_calendar h_t_awakeIn h_t_worths h_t_plants h_t_sheets h_t_bestFrom h_t_diary_bytes h_t_calendar_bytes v_latestFinding o_dsize o_csize)) ([.ref h_t, .int x1] : List Value).toArray s 0 0 (va_A (wd_X7_wipe cI cZ cP cS h_t h_t_red h_t_blue h_t_sky h_t_diary h_t_calendar h_t_awakeIn h_t_worths h_t_plants h_t_sheets h_t_bestFrom h_t_diary_bytes h_t_calendar_bytes v_latestFinding v_dsize v_csize) s.heap.size)) (F0 m 0 ls []) by rw [hH, hlo] at hgo; exact hgo
  clear hH hlo
  unfold f_X7_wipe at hf
  refine lv_aload_n hx hb dX7_wipe_0 rfl (lv_at hl 0 rfl) ?_
  refine lv_iload_n hx hb dX7_wipe_1 rfl (lv_at hl 1 rfl) ?_
  refine va_csq (va_runV (As := [.int x1]) (rest := []) ⟨hx, hb, hml, hown, hts⟩ (c_X7_textOf l dC dI cI cZ cP cS h_t h_t_red h_t_blue h_t_sky h_t_diary h_t_calendar h_t_awakeIn h_t_worths h_t_plants h_t_sheets h_t_bestFrom v_latestFinding x1) (cwV 1 hts gX7_wipe_X7_textOf rfl rfl rfl (by decide +kernel) ⟨Nat.le_of_ble_eq_true rfl, Nat.le_of_ble_eq_true rfl⟩) (pv_ro (ci := 6) (q0 := 0) hK (hP.sub (ws' := (wd_X7_textOf cI cZ cP cS h_t h_t_red h_t_blue h_t_sky h_t_diary h_t_calendar h_t_awakeIn h_t_worths h_t_plants h_t_sheets h_t_bestFrom v_latestFinding)) [0] rfl) rfl rfl) rfl rfl hl.1 rfl (lv_room (Nat.le_of_ble_eq_true rfl)) dX7_wipe_2 ⟨Nat.zero_le _, Nat.zero_le _⟩).run (fun x e_1 => ?_)
  by_cases c2_0 : x1 = 0
  · rw [if_pos c2_0] at hf e_1
    subst e_1
    refine W.eq (g2 := F0 m 5 ls [.ref h_t_diary]) rfl ?_
    refine lv_astore_n (lv' := [(2, .ref h_t_diary), (0, .ref h_t), (1, .int x1)]) hx hb dX7_wipe_5 rfl hl (by decide) rfl (fun ls hl => ?_)
    refine lv_aload_n hx hb dX7_wipe_6 rfl (lv_at hl 0 rfl) ?_
    refine lv_ifnonnull (tgt := 13) hx hb dX7_wipe_7 (by decide) ?_
    refine lv_aload_n hx hb dX7_wipe_13 rfl (lv_at hl 0 rfl) ?_
    refine va_get (D := (dC, dI)) (ci := 1) (v := .int v_dsize) (C := RX1) (T := TX1) (N := 2) hx hb hts hinX1 hown hK hP 1 rfl rfl 1 (by decide) (hts (.fieldLink RX7 103 "SecondSunrise$Text" "size" "I") (by decide +kernel)) (fun _ h9 => h9) rfl dX7_wipe_14 ?_
    refine lv_istore_n (lv' := [(3, .int v_dsize), (2, .ref h_t_diary), (0, .ref h_t), (1, .int x1)]) hx hb dX7_wipe_17 rfl hl (by decide) rfl (fun ls hl => ?_)
    refine lv_aload_n hx hb dX7_wipe_18 rfl (lv_at hl 1 rfl) ?_
    refine lv_iconst (v := 0) hx hb dX7_wipe_19 (by decide) ?_
    refine va_put (D := (dC, dI)) (ci := 1) (v := .int 0) (ty := .int) (C := RX1) (T := TX1) (N := 2) hx hb hts hinX1 tyX1 tyX1_ok nmX1 hown hK hP hD hS 1 rfl rfl 1 (by decide) (hts (.fieldLink RX7 103 "SecondSunrise$Text" "size" "I") (by decide +kernel)) (fun _ h9 => h9) rfl (by decide +kernel) rfl rfl (Nat.le_of_ble_eq_true rfl) dX7_wipe_20 (fun H locs hP hD hS => ?_)
    have hP : va_P (dC, dI) vwCl (wd_X7_wipe cI cZ cP cS h_t h_t_red h_t_blue h_t_sky h_t_diary h_t_calendar h_t_awakeIn h_t_worths h_t_plants h_t_sheets h_t_bestFrom h_t_diary_bytes h_t_calendar_bytes v_latestFinding 0 v_csize) H := hP
    have hD : va_D (va_A (wd_X7_wipe cI cZ cP cS h_t h_t_red h_t_blue h_t_sky h_t_diary h_t_calendar h_t_awakeIn h_t_worths h_t_plants h_t_sheets h_t_bestFrom h_t_diary_bytes h_t_calendar_bytes v_latestFinding v_dsize v_csize) s.heap.size) (wd_X7_wipe cI cZ cP cS h_t h_t_red h_t_blue h_t_sky h_t_diary h_t_calendar h_t_awakeIn h_t_worths h_t_plants h_t_sheets h_t_bestFrom h_t_diary_bytes h_t_calendar_bytes v_latestFinding 0 v_csize) := hD
    refine lv_iload_n hx hb dX7_wipe_23 rfl (lv_at hl 0 rfl) ?_
    have hq0 := Option.some.inj hf
    obtain ⟨eq0, hq1⟩ := Prod.mk.inj hq0
    obtain ⟨eq1, hq2⟩ := Prod.mk.inj hq1
    clear hf hq0 hq1
    subst eq0
    subst eq1
    subst hq2
    exact W.iret hx hb hr (fun t ht hW => ⟨⟨_, (), rfl, rfl, by rw [ht]; exact hP, va_K.moved hW.alike hK, hD⟩, hS.F ht⟩) hS.2.2 dX7_wipe_24
  · rw [if_neg c2_0] at hf e_1
    by_cases c2_1 : x1 = 1
    · rw [if_pos c2_1] at hf e_1
      subst e_1
      refine W.eq (g2 := F0 m 5 ls [.ref h_t_calendar]) rfl ?_
      refine lv_astore_n (lv' := [(2, .ref h_t_calendar), (0, .ref h_t), (1, .int x1)]) hx hb dX7_wipe_5 rfl hl (by decide) rfl (fun ls hl => ?_)
      refine lv_aload_n hx hb dX7_wipe_6 rfl (lv_at hl 0 rfl) ?_
      refine lv_ifnonnull (tgt := 13) hx hb dX7_wipe_7 (by decide) ?_
      refine lv_aload_n hx hb dX7_wipe_13 rfl (lv_at hl 0 rfl) ?_
      refine va_get (D := (dC, dI)) (ci := 0) (v := .int v_csize) (C := RX0) (T := TX0) (N := 2) hx hb hts hinX0 hown hK hP 2 rfl rfl 1 (by decide) (hts (.fieldLink RX7 103 "SecondSunrise$Text" "size" "I") (by decide +kernel)) (fun _ h9 => h9) rfl dX7_wipe_14 ?_
      refine lv_istore_n (lv' := [(3, .int v_csize), (2, .ref h_t_calendar), (0, .ref h_t), (1, .int x1)]) hx hb dX7_wipe_17 rfl hl (by decide) rfl (fun ls hl => ?_)
      refine lv_aload_n hx hb dX7_wipe_18 rfl (lv_at hl 1 rfl) ?_
      refine lv_iconst (v := 0) hx hb dX7_wipe_19 (by decide) ?_
      refine va_put (D := (dC, dI)) (ci := 0) (v := .int 0) (ty := .int) (C := RX0) (T := TX0) (N := 2) hx hb hts hinX0 tyX0 tyX0_ok nmX0 hown hK hP hD hS 2 rfl rfl 1 (by decide) (hts (.fieldLink RX7 103 "SecondSunrise$Text" "size" "I") (by decide +kernel)) (fun _ h9 => h9) rfl (by decide +kernel) rfl rfl (Nat.le_of_ble_eq_true rfl) dX7_wipe_20 (fun H locs hP hD hS => ?_)
      have hP : va_P (dC, dI) vwCl (wd_X7_wipe cI cZ cP cS h_t h_t_red h_t_blue h_t_sky h_t_diary h_t_calendar h_t_awakeIn h_t_worths h_t_plants h_t_sheets h_t_bestFrom h_t_diary_bytes h_t_calendar_bytes v_latestFinding v_dsize 0) H := hP
      have hD : va_D (va_A (wd_X7_wipe cI cZ cP cS h_t h_t_red h_t_blue h_t_sky h_t_diary h_t_calendar h_t_awakeIn h_t_worths h_t_plants h_t_sheets h_t_bestFrom h_t_diary_bytes h_t_calendar_bytes v_latestFinding v_dsize v_csize) s.heap.size) (wd_X7_wipe cI cZ cP cS h_t h_t_red h_t_blue h_t_sky h_t_diary h_t_calendar h_t_awakeIn h_t_worths h_t_plants h_t_sheets h_t_bestFrom h_t_diary_bytes h_t_calendar_bytes v_latestFinding v_dsize 0) := hD
      refine lv_iload_n hx hb dX7_wipe_23 rfl (lv_at hl 0 rfl) ?_
      have hq0 := Option.some.inj hf
      obtain ⟨eq0, hq1⟩ := Prod.mk.inj hq0
      obtain ⟨eq1, hq2⟩ := Prod.mk.inj hq1
      clear hf hq0 hq1
      subst eq0
      subst eq1
      subst hq2
      exact W.iret hx hb hr (fun t ht hW => ⟨⟨_, (), rfl, rfl, by rw [ht]; exact hP, va_K.moved hW.alike hK, hD⟩, hS.F ht⟩) hS.2.2 dX7_wipe_24
    · rw [if_neg c2_1] at hf e_1
      subst e_1
      refine W.eq (g2 := F0 m 5 ls [.null]) rfl ?_
      refine lv_astore_nN (lv' := [(2, .null), (0, .ref h_t), (1, .int x1)]) hx hb dX7_wipe_5 rfl hl (by decide) rfl (fun ls hl => ?_)
      refine lv_aload_nN hx hb dX7_wipe_6 rfl (lv_at hl 0 rfl) ?_
      refine lv_ifnonnullN hx hb dX7_wipe_7 ?_
      refine lv_bipush (v := (-2)) hx hb dX7_wipe_10 (by decide) ?_
      have hq0 := Option.some.inj hf
      obtain ⟨eq0, hq1⟩ := Prod.mk.inj hq0
      obtain ⟨eq1, hq2⟩ := Prod.mk.inj hq1
      clear hf hq0 hq1
      subst eq0
      subst eq1
      subst hq2
      exact W.iret hx hb hr (fun t ht hW => ⟨⟨_, (), rfl, rfl, by rw [ht]; exact hP, va_K.moved hW.alike hK, hD⟩, hS.F ht⟩) hS.2.2 dX7_wipe_12

abbrev wd_X7_worth (cI cZ cP cS : ClassId) (h_t h_t_red h_t_blue h_t_sky h_t_diary h_t_calendar h_t_awakeIn h_t_worths h_t_plants h_t_sheets h_t_bestFrom : Nat) (v_latestFinding : Int32) (v_worths : Nat → Int32) : va_W := [(h_t, .inr (6, [.ref h_t_red, .ref h_t_blue, .ref h_t_sky, .ref h_t_diary, .ref h_t_calendar, .ref h_t_awakeIn, .ref h_t_worths, .ref h_t_plants, .ref h_t_sheets, .ref h_t_bestFrom, .int v_latestFinding])), (h_t_worths, .inl (cI, 6, .inl v_worths))]
abbrev rm_X7_worth : Room := { frames := 2, cells := 0, slots := 0, locals := 42 }
def f_X7_worth (n : Nat) (v_worths : Nat → Int32) (x1 : Int32) (x2 : Int32) : Option (Int32 × (Nat → Int32)) := bd1_ (f_X7_noPerson n x1) (fun (r1_1 : Int32) => if r1_1 = 0 then bd1_ (f_X7_outside n x2 0 99) (fun (r11_5 : Int32) => if r11_5 = 0 then ix_ x1 6 (ix_ x1 6 (some ((v_worths x1.toNatClampNeg), (upd v_worths x1.toNatClampNeg x2)))) else some ((-2), v_worths)) else some ((-2), v_worths))
set_option maxHeartbeats 4000000 in
set_option maxRecDepth 100000 in
theorem c_X7_worth (l : Launch) (dC : Nat → ClassId) (dI : Nat → Nat → Nat) (cI cZ cP cS : ClassId) (sz : Nat) (h_t h_t_red h_t_blue h_t_sky h_t_diary h_t_calendar h_t_awakeIn h_t_worths h_t_plants h_t_sheets h_t_bestFrom : Nat) (v_latestFinding : Int32) (v_worths : Nat → Int32) (x1 : Int32) (x2 : Int32) (n : Nat) (r : Int32) (o_worths : Nat → Int32) (hf : f_X7_worth n v_worths x1 x2 = some (r, o_worths)) : Met l yX7_worth wsX7_worth rm_X7_worth (RW (dC, dI) (TY cI cZ cP cS) [.ref h_t, .int x1, .int x2] sz (wd_X7_worth cI cZ cP cS h_t h_t_red h_t_blue h_t_sky h_t_diary h_t_calendar h_t_awakeIn h_t_worths h_t_plants h_t_sheets h_t_bestFrom v_latestFinding v_worths)) (RWi (dC, dI) (TY cI cZ cP cS) r sz (wd_X7_worth cI cZ cP cS h_t h_t_red h_t_blue h_t_sky h_t_diary h_t_calendar h_t_awakeIn h_t_worths h_t_plants h_t_sheets h_t_bestFrom v_latestFinding v_worths) (wd_X7_worth cI cZ cP cS h_t h_t_red h_t_blue h_t_sky h_t_diary h_t_calendar h_t_awakeIn h_t_worths h_t_plants h_t_sheets h_t_bestFrom v_latestFinding o_worths)) 0 0 (va_A (wd_X7_worth cI cZ cP cS h_t h_t_red h_t_blue h_t_sky h_t_diary h_t_calendar h_t_awakeIn h_t_worths h_t_plants h_t_sheets h_t_bestFrom v_latestFinding v_worths) sz) := by
  refine Met.ofW (cc := cX7_worth) (maxL := 4) (ret := (some .int)) (by decide) rfl ?_
  intro p e s m args below meth c s₁ B hml hv
  obtain ⟨rfl, hsz, hP, hK, hD0⟩ := hv
  have hx := B.exec
  have hb := B.bytes
  have hr := B.returns
  have hts := atoms_spec (ws := wsX7_worth) B.pre
  have hown : s.vm.findClass RX7 = some m.cls := findClass_of_methodNamed B.named
  have hlocks := B.notSynchronized
  subst hsz
  have hD := hD0.self (sz := s.heap.size)
  have hA : ∀ q : Nat, s.heap.size ≤ q → (va_A (wd_X7_worth cI cZ cP cS h_t h_t_red h_t_blue h_t_sky h_t_diary h_t_calendar h_t_awakeIn h_t_worths h_t_plants h_t_sheets h_t_bestFrom v_latestFinding v_worths) s.heap.size) q := fun q h => Or.inr h
  have hS : va_S (va_A (wd_X7_worth cI cZ cP cS h_t h_t_red h_t_blue h_t_sky h_t_diary h_t_calendar h_t_awakeIn h_t_worths h_t_plants h_t_sheets h_t_bestFrom v_latestFinding v_worths) s.heap.size) s.heap s.heap [] := va_S.rf
  have hinX7 : ∀ w ∈ wsX70, w ∈ wsX7_worth := by decide +kernel
  have hl := lv_entry ([.ref h_t, .int x1, .int x2]) (n := 4) (Nat.le_of_ble_eq_true rfl)
  rw [lg_entry_eq]
  generalize (lg_sl ([.ref h_t, .int x1, .int x2]) ++ List.replicate (4 - (lg_sl ([.ref h_t, .int x1, .int x2])).length) Slot.unset).toArray = ls at hl ⊢
  have hl : lv_has ls 4 [(0, .ref h_t), (1, .int x1), (2, .int x2)] := hl
  obtain ⟨H, hH⟩ : ∃ H : Heap, H = s.heap := ⟨_, rfl⟩
  have hP : va_P (dC, dI) vwCl (wd_X7_worth cI cZ cP cS h_t h_t_red h_t_blue h_t_sky h_t_diary h_t_calendar h_t_awakeIn h_t_worths h_t_plants h_t_sheets h_t_bestFrom v_latestFinding v_worths) H := by rw [hH]; exact hP
  have hS : va_S (va_A (wd_X7_worth cI cZ cP cS h_t h_t_red h_t_blue h_t_sky h_t_diary h_t_calendar h_t_awakeIn h_t_worths h_t_plants h_t_sheets h_t_bestFrom v_latestFinding v_worths) s.heap.size) s.heap H [] := by rw [hH]; exact hS
  obtain ⟨locs, hlo⟩ : ∃ L : List Loc, L = [] := ⟨_, rfl⟩
  rw [← hlo] at hS
  suffices hgo : W p l e (headSpec wsX7_worth rm_X7_worth).room s m ([.ref h_t, .int x1, .int x2] : List Value).toArray below meth c H locs 0 0 (MQ below (RWi (dC, dI) (TY cI cZ cP cS) r s.heap.size (wd_X7_worth cI cZ cP cS h_t h_t_red h_t_blue h_t_sky h_t_diary h_t_calendar h_t_awakeIn h_t_worths h_t_plants h_t_sheets h_t_bestFrom v_latestFinding v_worths) (wd_X7_worth cI cZ cP cS h_t h_t_red h_t_blue h_t_sky h_t_diary h_t_calendar h_t_awakeIn h_t_worths h_t_plants h_t_sheets h_t_bestFrom v_latestFinding o_worths)) ([.ref h_t, .int x1, .int x2] : List Value).toArray s 0 0 (va_A (wd_X7_worth cI cZ cP cS h_t h_t_red h_t_blue h_t_sky h_t_diary h_t_calendar h_t_awakeIn h_t_worths h_t_plants h_t_sheets h_t_bestFrom v_latestFinding v_worths) s.heap.size)) (F0 m 0 ls []) by rw [hH, hlo] at hgo; exact hgo
  clear hH hlo
  unfold f_X7_worth at hf
  refine lv_iload_n hx hb dX7_worth_0 rfl (lv_at hl 1 rfl) ?_
  obtain ⟨r1_1, hc_2, hf⟩ := bd1_e hf
  refine vp_callSi (va_runS (As := [.int x1]) (rest := []) ⟨hx, hb, hml, hown, hts⟩ (c_X7_noPerson l dC dI cI cZ cP cS   x1 n r1_1 hc_2) (va_cwS 1 hts gX7_worth_X7_noPerson rfl rfl rfl (by decide +kernel) ⟨Nat.le_of_ble_eq_true rfl, Nat.le_of_ble_eq_true rfl⟩) (ps_ro hK (hP.sub (ws' := ([] : va_W)) [] rfl)) rfl rfl hl.1 rfl (lv_room (Nat.le_of_ble_eq_true rfl)) dX7_worth_1 ⟨Nat.zero_le _, Nat.zero_le _⟩).run (fun x e_3 => ?_)
  obtain ⟨e_3, hb_4⟩ := e_3
  rw [e_3] at hb_4 ⊢
  refine lv_if_ne (tgt := 17) hx hb dX7_worth_4 (by decide) (fun c4 => ?_) (fun c4 => ?_)
  · rw [if_neg c4] at hf
    refine lv_bipush (v := (-2)) hx hb dX7_worth_17 (by decide) ?_
    have hq0 := Option.some.inj hf
    obtain ⟨eq0, hq1⟩ := Prod.mk.inj hq0
    clear hf hq0
    subst eq0
    subst hq1
    exact W.iret hx hb hr (fun t ht hW => ⟨⟨_, (), rfl, rfl, by rw [ht]; exact hP, va_K.moved hW.alike hK, hD⟩, hS.F ht⟩) hS.2.2 dX7_worth_19
  · rw [if_pos c4] at hf
    refine lv_iload_n hx hb dX7_worth_7 rfl (lv_at hl 2 rfl) ?_
    refine lv_iconst (v := 0) hx hb dX7_worth_8 (by decide) ?_
    refine lv_bipush (v := 99) hx hb dX7_worth_9 (by decide) ?_
    obtain ⟨r11_5, hc_6, hf⟩ := bd1_e hf
    refine vp_callSi (va_runS (As := [.int x2, .int 0, .int 99]) (rest := []) ⟨hx, hb, hml, hown, hts⟩ (c_X7_outside l dC dI cI cZ cP cS   x2 0 99 n r11_5 hc_6) (va_cwS 3 hts gX7_worth_X7_outside rfl rfl rfl (by decide +kernel) ⟨Nat.le_of_ble_eq_true rfl, Nat.le_of_ble_eq_true rfl⟩) (ps_ro hK (hP.sub (ws' := ([] : va_W)) [] rfl)) rfl rfl hl.1 rfl (lv_room (Nat.le_of_ble_eq_true rfl)) dX7_worth_11 ⟨Nat.zero_le _, Nat.zero_le _⟩).run (fun x e_7 => ?_)
    obtain ⟨e_7, hb_8⟩ := e_7
    rw [e_7] at hb_8 ⊢
    refine lv_if_eq (tgt := 20) hx hb dX7_worth_14 (by decide) (fun c14 => ?_) (fun c14 => ?_)
    · rw [if_pos c14] at hf
      refine lv_aload_n hx hb dX7_worth_20 rfl (lv_at hl 0 rfl) ?_
      refine va_get (D := (dC, dI)) (ci := 6) (v := .ref h_t_worths) (C := RX7) (T := TX7) (N := 11) hx hb hts hinX7 hown hK hP 0 rfl rfl 6 (by decide) (hts (.fieldLink RX7 48 "SecondSunrise" "worths" "[I") (by decide +kernel)) (fun _ h9 => h9) rfl dX7_worth_21 ?_
      refine lv_iload_n hx hb dX7_worth_24 rfl (lv_at hl 1 rfl) ?_
      obtain ⟨hi_9, hf⟩ := ix_e hf
      refine va_iald hx hb hK hP 1 0 rfl rfl hi_9 dX7_worth_25 ?_
      refine lv_istore_n (lv' := [(3, .int (v_worths x1.toNatClampNeg)), (0, .ref h_t), (1, .int x1), (2, .int x2)]) hx hb dX7_worth_26 rfl hl (by decide) rfl (fun ls hl => ?_)
      refine lv_aload_n hx hb dX7_worth_27 rfl (lv_at hl 1 rfl) ?_
      refine va_get (D := (dC, dI)) (ci := 6) (v := .ref h_t_worths) (C := RX7) (T := TX7) (N := 11) hx hb hts hinX7 hown hK hP 0 rfl rfl 6 (by decide) (hts (.fieldLink RX7 48 "SecondSunrise" "worths" "[I") (by decide +kernel)) (fun _ h9 => h9) rfl dX7_worth_28 ?_
      refine lv_iload_n hx hb dX7_worth_31 rfl (lv_at hl 2 rfl) ?_
      refine lv_iload_n hx hb dX7_worth_32 rfl (lv_at hl 3 rfl) ?_
      obtain ⟨hi_10, hf⟩ := ix_e hf
      refine va_iast hx hb hK hP hD hS 1 0 rfl rfl hi_10 dX7_worth_33 (fun H locs hP hD hS => ?_)
      have hP : va_P (dC, dI) vwCl (wd_X7_worth cI cZ cP cS h_t h_t_red h_t_blue h_t_sky h_t_diary h_t_calendar h_t_awakeIn h_t_worths h_t_plants h_t_sheets h_t_bestFrom v_latestFinding (upd v_worths x1.toNatClampNeg x2)) H := hP
      have hD : va_D (va_A (wd_X7_worth cI cZ cP cS h_t h_t_red h_t_blue h_t_sky h_t_diary h_t_calendar h_t_awakeIn h_t_worths h_t_plants h_t_sheets h_t_bestFrom v_latestFinding v_worths) s.heap.size) (wd_X7_worth cI cZ cP cS h_t h_t_red h_t_blue h_t_sky h_t_diary h_t_calendar h_t_awakeIn h_t_worths h_t_plants h_t_sheets h_t_bestFrom v_latestFinding (upd v_worths x1.toNatClampNeg x2)) := hD
      refine lv_iload_n hx hb dX7_worth_34 rfl (lv_at hl 0 rfl) ?_
      have hq0 := Option.some.inj hf
      obtain ⟨eq0, hq1⟩ := Prod.mk.inj hq0
      clear hf hq0
      subst eq0
      subst hq1
      exact W.iret hx hb hr (fun t ht hW => ⟨⟨_, (), rfl, rfl, by rw [ht]; exact hP, va_K.moved hW.alike hK, hD⟩, hS.F ht⟩) hS.2.2 dX7_worth_35
    · rw [if_neg c14] at hf
      refine lv_bipush (v := (-2)) hx hb dX7_worth_17 (by decide) ?_
      have hq0 := Option.some.inj hf
      obtain ⟨eq0, hq1⟩ := Prod.mk.inj hq0
      clear hf hq0
      subst eq0
      subst hq1
      exact W.iret hx hb hr (fun t ht hW => ⟨⟨_, (), rfl, rfl, by rw [ht]; exact hP, va_K.moved hW.alike hK, hD⟩, hS.F ht⟩) hS.2.2 dX7_worth_19
