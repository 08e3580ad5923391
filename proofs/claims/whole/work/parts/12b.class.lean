abbrev wd_X7_findFittingPhases (cI cZ cP cS : ClassId) (h_t h_t_red h_t_blue h_t_sky h_t_diary h_t_calendar h_t_awakeIn h_t_worths h_t_plants h_t_sheets h_t_bestFrom h_t_red_fitting h_t_red_worstLeft h_t_blue_fitting h_t_blue_worstLeft h_t_diary_bytes : Nat) (v_latestFinding : Int32) (v_turn : Nat → Int32) (v_phase : Nat → Int32) (v_up : Nat → Int32) (v_fitting : Nat → Nat → Int32) (v_dsize : Int32) (v_dbytes : Nat → Int32) : va_W := [(h_t, .inr (6, [.ref h_t_red, .ref h_t_blue, .ref h_t_sky, .ref h_t_diary, .ref h_t_calendar, .ref h_t_awakeIn, .ref h_t_worths, .ref h_t_plants, .ref h_t_sheets, .ref h_t_bestFrom, .int v_latestFinding])), (h_t_red, .inr (5, [.int (v_turn 0), .int (v_phase 0), .int (v_up 0), .ref h_t_red_fitting, .ref h_t_red_worstLeft])), (h_t_red_fitting, .inl (cZ, 40, .inl (v_fitting 0))), (h_t_blue, .inr (5, [.int (v_turn 1), .int (v_phase 1), .int (v_up 1), .ref h_t_blue_fitting, .ref h_t_blue_worstLeft])), (h_t_blue_fitting, .inl (cZ, 40, .inl (v_fitting 1))), (h_t_diary, .inr (1, [.ref h_t_diary_bytes, .int v_dsize])), (h_t_diary_bytes, .inl (cI, 60, .inl v_dbytes))]
abbrev rm_X7_findFittingPhases : Room := { frames := 4, cells := 0, slots := 0, locals := 93 }
def f_X7_findFittingPhases (n : Nat) (v_turn : Nat → Int32) (v_up : Nat → Int32) (v_fitting : Nat → Nat → Int32) (v_dsize : Int32) (v_dbytes : Nat → Int32) : Option ((Nat → Nat → Int32)) := bd1_ (f_X1_hours n v_dsize v_dbytes) (fun (r4_1 : Int32) => bd1_ (f_X5_findFitting n (v_turn 0) (v_up 0) (v_fitting 0) v_dsize v_dbytes r4_1 0) (fun (o18_4 : Nat → Int32) => bd1_ (f_X5_findFitting n (v_turn 1) (v_up 1) ((va_up v_fitting 0 o18_4) 1) v_dsize v_dbytes r4_1 1) (fun (o31_7 : Nat → Int32) => some (va_up (va_up v_fitting 0 o18_4) 1 o31_7))))
set_option maxHeartbeats 4000000 in
set_option maxRecDepth 100000 in
theorem c_X7_findFittingPhases (l : Launch) (dC : Nat → ClassId) (dI : Nat → Nat → Nat) (cI cZ cP cS : ClassId) (sz : Nat) (h_t h_t_red h_t_blue h_t_sky h_t_diary h_t_calendar h_t_awakeIn h_t_worths h_t_plants h_t_sheets h_t_bestFrom h_t_red_fitting h_t_red_worstLeft h_t_blue_fitting h_t_blue_worstLeft h_t_diary_bytes : Nat) (v_latestFinding : Int32) (v_turn : Nat → Int32) (v_phase : Nat → Int32) (v_up : Nat → Int32) (v_fitting : Nat → Nat → Int32) (v_dsize : Int32) (v_dbytes : Nat → Int32) (n : Nat) (o_fitting : Nat → Nat → Int32) (hf : f_X7_findFittingPhases n v_turn v_up v_fitting v_dsize v_dbytes = some o_fitting) : Met l yX7_findFittingPhases wsX7_findFittingPhases rm_X7_findFittingPhases (RW (dC, dI) (TY cI cZ cP cS) [.ref h_t] sz (wd_X7_findFittingPhases cI cZ cP cS h_t h_t_red h_t_blue h_t_sky h_t_diary h_t_calendar h_t_awakeIn h_t_worths h_t_plants h_t_sheets h_t_bestFrom h_t_red_fitting h_t_red_worstLeft h_t_blue_fitting h_t_blue_worstLeft h_t_diary_bytes v_latestFinding v_turn v_phase v_up v_fitting v_dsize v_dbytes)) (RWv (dC, dI) (TY cI cZ cP cS) sz (wd_X7_findFittingPhases cI cZ cP cS h_t h_t_red h_t_blue h_t_sky h_t_diary h_t_calendar h_t_awakeIn h_t_worths h_t_plants h_t_sheets h_t_bestFrom h_t_red_fitting h_t_red_worstLeft h_t_blue_fitting h_t_blue_worstLeft h_t_diary_bytes v_latestFinding v_turn v_phase v_up v_fitting v_dsize v_dbytes) (wd_X7_findFittingPhases cI cZ cP cS h_t h_t_red h_t_blue h_t_sky h_t_diary h_t_calendar h_t_awakeIn h_t_worths h_t_plants h_t_sheets h_t_bestFrom h_t_red_fitting h_t_red_worstLeft h_t_blue_fitting h_t_blue_worstLeft h_t_diary_bytes v_latestFinding v_turn v_phase v_up o_fitting v_dsize v_dbytes)) 0 0 (va_A (wd_X7_findFittingPhases cI cZ cP cS h_t h_t_red h_t_blue h_t_sky h_t_diary h_t_calendar h_t_awakeIn h_t_worths h_t_plants h_t_sheets h_t_bestFrom h_t_red_fitting h_t_red_worstLeft h_t_blue_fitting h_t_blue_worstLeft h_t_diary_bytes v_latestFinding v_turn v_phase v_up v_fitting v_dsize v_dbytes) sz) := by
  refine Met.ofW (cc := cX7_findFittingPhases) (maxL := 2) (ret := none) (by decide) rfl ?_
  intro p e s m args below meth c s₁ B hml hv
  obtain ⟨rfl, hsz, hP, hK, hD0⟩ := hv
  have hx := B.exec
  have hb := B.bytes
  have hr := B.returns
  have hts := atoms_spec (ws := wsX7_findFittingPhases) B.pre
  have hown : s.vm.findClass RX7 = some m.cls := findClass_of_methodNamed B.named
  have hlocks := B.notSynchronized
  subst hsz
  have hD := hD0.self (sz := s.heap.size)
  have hA : ∀ q : Nat, s.heap.size ≤ q → (va_A (wd_X7_findFittingPhases cI cZ cP cS h_t h_t_red h_t_blue h_t_sky h_t_diary h_t_calendar h_t_awakeIn h_t_worths h_t_plants h_t_sheets h_t_bestFrom h_t_red_fitting h_t_red_worstLeft h_t_blue_fitting h_t_blue_worstLeft h_t_diary_bytes v_latestFinding v_turn v_phase v_up v_fitting v_dsize v_dbytes) s.heap.size) q := fun q h => Or.inr h
  have hS : va_S (va_A (wd_X7_findFittingPhases cI cZ cP cS h_t h_t_red h_t_blue h_t_sky h_t_diary h_t_calendar h_t_awakeIn h_t_worths h_t_plants h_t_sheets h_t_bestFrom h_t_red_fitting h_t_red_worstLeft h_t_blue_fitting h_t_blue_worstLeft h_t_diary_bytes v_latestFinding v_turn v_phase v_up v_fitting v_dsize v_dbytes) s.heap.size) s.heap s.heap [] := va_S.rf
  have hinX7 : ∀ w ∈ wsX70, w ∈ wsX7_findFittingPhases := by decide +kernel
  have hl := lv_entry ([.ref h_t]) (n := 2) (Nat.le_of_ble_eq_true rfl)
  rw [lg_entry_eq]
  generalize (lg_sl ([.ref h_t]) ++ List.replicate (2 - (lg_sl ([.ref h_t])).length) Slot.unset).toArray = ls at hl ⊢
  have hl : lv_has ls 2 [(0, .ref h_t)] := hl
  obtain ⟨H, hH⟩ : ∃ H : Heap, H = s.heap := ⟨_, rfl⟩
  have hP : va_P (dC, dI) vwCl (wd_X7_findFittingPhases cI cZ cP cS h_t h_t_red h_t_blue h_t_sky h_t_diary h_t_calendar h_t_awakeIn h_t_worths h_t_plants h_t_sheets h_t_bestFrom h_t_red_fitting h_t_red_worstLeft h_t_blue_fitting h_t_blue_worstLeft h_t_diary_bytes v_latestFinding v_turn v_phase v_up v_fitting v_dsize v_dbytes) H := by rw [hH]; exact hP
  have hS : va_S (va_A (wd_X7_findFittingPhases cI cZ cP cS h_t h_t_red h_t_blue h_t_sky h_t_diary h_t_calendar h_t_awakeIn h_t_worths h_t_plants h_t_sheets h_t_bestFrom h_t_red_fitting h_t_red_worstLeft h_t_blue_fitting h_t_blue_worstLeft h_t_diary_bytes v_latestFinding v_turn v_phase v_up v_fitting v_dsize v_dbytes) s.heap.size) s.heap H [] := by rw [hH]; exact hS
  obtain ⟨locs, hlo⟩ : ∃ L : List Loc, L = [] := ⟨_, rfl⟩
  rw [← hlo] at hS
  suffices hgo : W p l e (headSpec wsX7_findFittingPhases rm_X7_findFittingPhases).room s m ([.ref h_t] : List Value).toArray below meth c H locs 0 0 (MQ below (RWv (dC, dI) (TY cI cZ cP cS) s.heap.size (wd_X7_findFittingPhases cI cZ cP cS h_t h_t_red h_t_blue h_t_sky h_t_diary h_t_calendar h_t_awakeIn h_t_worths h_t_plants h_t_sheets h_t_bestFrom h_t_red_fitting h_t_red_worstLeft h_t_blue_fitting h_t_blue_worstLeft h_t_diary_bytes v_latestFinding v_turn v_phase v_up v_fitting v_dsize v_dbytes) (wd_X7_findFittingPhases cI cZ cP cS h_t h_t_red h_t_blue h_t_sky h_t_diary h_t_calendar h_t_awakeIn h_t_worths h_t_plants h_t_sheets h_t_bestFrom h_t_red_fitting h_t_red_worstLeft h_t_blue_fitting h_t_blue_worstLeft h_t_diary_bytes v_latestFinding v_turn v_phase v_up o_fitting v_dsize v_dbytes)) ([.ref h_t] : List Value).toArray s 0 0 (va_A (wd_X7_findFittingPhases cI cZ cP cS h_t h_t_red h_t_blue h_t_sky h_t_diary h_t_calendar h_t_awakeIn h_t_worths h_t_plants h_t_sheets h_t_bestFrom h_t_red_fitting h_t_red_worstLeft h_t_blue_fitting h_t_blue_worstLeft h_t_diary_bytes v_latestFinding v_turn v_phase v_up v_fitting v_dsize v_dbytes) s.heap.size)) (F0 m 0 ls []) by rw [hH, hlo] at hgo; exact hgo
  clear hH hlo
  unfold f_X7_findFittingPhases at hf
  refine lv_aload_n hx hb dX7_findFittingPhases_0 rfl (lv_at hl 0 rfl) ?_
  refine va_get (D := (dC, dI)) (ci := 6) (v := .ref h_t_diary) (C := RX7) (T := TX7) (N := 11) hx hb hts hinX7 hown hK hP 0 rfl rfl 3 (by decide) (hts (.fieldLink RX7 33 "SecondSunrise" "diary" "LSecondSunrise$Diary;") (by decide +kernel)) (fun _ h9 => h9) rfl dX7_findFittingPhases_1 ?_
  obtain ⟨r4_1, hc_2, hf⟩ := bd1_e hf
  refine vp_callSi (va_runV (As := []) (rest := []) ⟨hx, hb, hml, hown, hts⟩ (c_X1_hours l dC dI cI cZ cP cS h_t_diary h_t_diary_bytes v_dsize v_dbytes  n r4_1 hc_2) (cwV 0 hts gX7_findFittingPhases_X1_hours rfl rfl rfl (by decide +kernel) ⟨Nat.le_of_ble_eq_true rfl, Nat.le_of_ble_eq_true rfl⟩) (pv_ro (ci := 1) (q0 := 0) hK (hP.sub (ws' := (wd_X1_hours cI cZ cP cS h_t_diary h_t_diary_bytes v_dsize v_dbytes)) [5, 6] rfl) rfl rfl) rfl rfl hl.1 rfl (lv_room (Nat.le_of_ble_eq_true rfl)) dX7_findFittingPhases_4 ⟨Nat.zero_le _, Nat.zero_le _⟩).run (fun x e_3 => ?_)
  rw [e_3]
  refine lv_istore_n (lv' := [(1, .int r4_1), (0, .ref h_t)]) hx hb dX7_findFittingPhases_7 rfl hl (by decide) rfl (fun ls hl => ?_)
  refine lv_aload_n hx hb dX7_findFittingPhases_8 rfl (lv_at hl 1 rfl) ?_
  refine va_get (D := (dC, dI)) (ci := 6) (v := .ref h_t_red) (C := RX7) (T := TX7) (N := 11) hx hb hts hinX7 hown hK hP 0 rfl rfl 0 (by decide) (hts (.fieldLink RX7 12 "SecondSunrise" "red" "LSecondSunrise$Sun;") (by decide +kernel)) (fun _ h9 => h9) rfl dX7_findFittingPhases_9 ?_
  refine lv_aload_n hx hb dX7_findFittingPhases_12 rfl (lv_at hl 1 rfl) ?_
  refine va_get (D := (dC, dI)) (ci := 6) (v := .ref h_t_diary) (C := RX7) (T := TX7) (N := 11) hx hb hts hinX7 hown hK hP 0 rfl rfl 3 (by decide) (hts (.fieldLink RX7 33 "SecondSunrise" "diary" "LSecondSunrise$Diary;") (by decide +kernel)) (fun _ h9 => h9) rfl dX7_findFittingPhases_13 ?_
  refine lv_iload_n hx hb dX7_findFittingPhases_16 rfl (lv_at hl 0 rfl) ?_
  refine lv_iconst (v := 0) hx hb dX7_findFittingPhases_17 (by decide) ?_
  obtain ⟨o18_4, hc_5, hf⟩ := bd1_e hf
  refine rwv_call (isC := [1, 2, 5, 6]) (isR := [0, 3, 4]) (perm := [0, 3, 4, 1, 2, 5, 6]) (wr := [(h_t, .inr (6, [.ref h_t_red, .ref h_t_blue, .ref h_t_sky, .ref h_t_diary, .ref h_t_calendar, .ref h_t_awakeIn, .ref h_t_worths, .ref h_t_plants, .ref h_t_sheets, .ref h_t_bestFrom, .int v_latestFinding])), (h_t_blue, .inr (5, [.int (v_turn 1), .int (v_phase 1), .int (v_up 1), .ref h_t_blue_fitting, .ref h_t_blue_worstLeft])), (h_t_blue_fitting, .inl (cZ, 40, .inl (v_fitting 1)))]) (ws2 := (wd_X7_findFittingPhases cI cZ cP cS h_t h_t_red h_t_blue h_t_sky h_t_diary h_t_calendar h_t_awakeIn h_t_worths h_t_plants h_t_sheets h_t_bestFrom h_t_red_fitting h_t_red_worstLeft h_t_blue_fitting h_t_blue_worstLeft h_t_diary_bytes v_latestFinding v_turn v_phase v_up (va_up v_fitting 0 o18_4) v_dsize v_dbytes)) (va_runV (As := [.ref h_t_diary, .int r4_1, .int 0]) (rest := []) ⟨hx, hb, hml, hown, hts⟩ (c_X5_findFitting l dC dI cI cZ cP cS H.size h_t_red h_t_red_fitting h_t_red_worstLeft h_t_diary h_t_diary_bytes (v_turn 0) (v_phase 0) (v_up 0) (v_fitting 0) v_dsize v_dbytes r4_1 0 n o18_4 hc_5) (cwV 3 hts gX7_findFittingPhases_X5_findFitting rfl rfl rfl (by decide +kernel) ⟨Nat.le_of_ble_eq_true rfl, Nat.le_of_ble_eq_true rfl⟩) (pv_rw (ci := 5) (q0 := 0) hK (hP.sub (ws' := (wd_X5_findFitting cI cZ cP cS h_t_red h_t_red_fitting h_t_red_worstLeft h_t_diary h_t_diary_bytes (v_turn 0) (v_phase 0) (v_up 0) (v_fitting 0) v_dsize v_dbytes)) [1, 2, 5, 6] rfl) (hD.sub (ws' := (wd_X5_findFitting cI cZ cP cS h_t_red h_t_red_fitting h_t_red_worstLeft h_t_diary h_t_diary_bytes (v_turn 0) (v_phase 0) (v_up 0) (v_fitting 0) v_dsize v_dbytes)) [1, 2, 5, 6] (by decide) rfl) rfl rfl) rfl rfl hl.1 rfl (lv_room (Nat.le_of_ble_eq_true rfl)) dX7_findFittingPhases_18 ⟨Nat.zero_le _, Nat.zero_le _⟩) hS hA hP hD rfl (by decide) (by decide) rfl (by decide) rfl rfl (fun H locs hP hD hS => ?_)
  refine lv_aload_n hx hb dX7_findFittingPhases_21 rfl (lv_at hl 1 rfl) ?_
  refine va_get (D := (dC, dI)) (ci := 6) (v := .ref h_t_blue) (C := RX7) (T := TX7) (N := 11) hx hb hts hinX7 hown hK hP 0 rfl rfl 1 (by decide) (hts (.fieldLink RX7 18 "SecondSunrise" "blue" "LSecondSunrise$Sun;") (by decide +kernel)) (fun _ h9 => h9) rfl dX7_findFittingPhases_22 ?_
  refine lv_aload_n hx hb dX7_findFittingPhases_25 rfl (lv_at hl 1 rfl) ?_
  refine va_get (D := (dC, dI)) (ci := 6) (v := .ref h_t_diary) (C := RX7) (T := TX7) (N := 11) hx hb hts hinX7 hown hK hP 0 rfl rfl 3 (by decide) (hts (.fieldLink RX7 33 "SecondSunrise" "diary" "LSecondSunrise$Diary;") (by decide +kernel)) (fun _ h9 => h9) rfl dX7_findFittingPhases_26 ?_
  refine lv_iload_n hx hb dX7_findFittingPhases_29 rfl (lv_at hl 0 rfl) ?_
  refine lv_iconst (v := 1) hx hb dX7_findFittingPhases_30 (by decide) ?_
  obtain ⟨o31_7, hc_8, hf⟩ := bd1_e hf
  refine rwv_call (isC := [3, 4, 5, 6]) (isR := [0, 1, 2]) (perm := [0, 1, 2, 3, 4, 5, 6]) (wr := [(h_t, .inr (6, [.ref h_t_red, .ref h_t_blue, .ref h_t_sky, .ref h_t_diary, .ref h_t_calendar, .ref h_t_awakeIn, .ref h_t_worths, .ref h_t_plants, .ref h_t_sheets, .ref h_t_bestFrom, .int v_latestFinding])), (h_t_red, .inr (5, [.int (v_turn 0), .int (v_phase 0), .int (v_up 0), .ref h_t_red_fitting, .ref h_t_red_worstLeft])), (h_t_red_fitting, .inl (cZ, 40, .inl ((va_up v_fitting 0 o18_4) 0)))]) (ws2 := (wd_X7_findFittingPhases cI cZ cP cS h_t h_t_red h_t_blue h_t_sky h_t_diary h_t_calendar h_t_awakeIn h_t_worths h_t_plants h_t_sheets h_t_bestFrom h_t_red_fitting h_t_red_worstLeft h_t_blue_fitting h_t_blue_worstLeft h_t_diary_bytes v_latestFinding v_turn v_phase v_up (va_up (va_up v_fitting 0 o18_4) 1 o31_7) v_dsize v_dbytes)) (va_runV (As := [.ref h_t_diary, .int r4_1, .int 1]) (rest := []) ⟨hx, hb, hml, hown, hts⟩ (c_X5_findFitting l dC dI cI cZ cP cS H.size h_t_blue h_t_blue_fitting h_t_blue_worstLeft h_t_diary h_t_diary_bytes (v_turn 1) (v_phase 1) (v_up 1) ((va_up v_fitting 0 o18_4) 1) v_dsize v_dbytes r4_1 1 n o31_7 hc_8) (cwV 3 hts gX7_findFittingPhases_X5_findFitting rfl rfl rfl (by decide +kernel) ⟨Nat.le_of_ble_eq_true rfl, Nat.le_of_ble_eq_true rfl⟩) (pv_rw (ci := 5) (q0 := 0) hK (hP.sub (ws' := (wd_X5_findFitting cI cZ cP cS h_t_blue h_t_blue_fitting h_t_blue_worstLeft h_t_diary h_t_diary_bytes (v_turn 1) (v_phase 1) (v_up 1) ((va_up v_fitting 0 o18_4) 1) v_dsize v_dbytes)) [3, 4, 5, 6] rfl) (hD.sub (ws' := (wd_X5_findFitting cI cZ cP cS h_t_blue h_t_blue_fitting h_t_blue_worstLeft h_t_diary h_t_diary_bytes (v_turn 1) (v_phase 1) (v_up 1) ((va_up v_fitting 0 o18_4) 1) v_dsize v_dbytes)) [3, 4, 5, 6] (by decide) rfl) rfl rfl) rfl rfl hl.1 rfl (lv_room (Nat.le_of_ble_eq_true rfl)) dX7_findFittingPhases_31 ⟨Nat.zero_le _, Nat.zero_le _⟩) hS hA hP hD rfl (by decide) (by decide) rfl (by decide) rfl rfl (fun H locs hP hD hS => ?_)
  have hq := Option.some.inj hf
  subst hq
  exact W.vret hx hb hr (fun t ht hW => ⟨⟨(), rfl, trivial, by rw [ht]; exact hP, va_K.moved hW.alike hK, hD⟩, hS.F ht⟩) hS.2.2 dX7_findFittingPhases_34

abbrev wd_X7_fits (cI cZ cP cS : ClassId) (h_t h_t_red h_t_blue h_t_sky h_t_diary h_t_calendar h_t_awakeIn h_t_worths h_t_plants h_t_sheets h_t_bestFrom h_t_red_fitting h_t_red_worstLeft h_t_blue_fitting h_t_blue_worstLeft h_t_diary_bytes : Nat) (v_latestFinding : Int32) (v_turn : Nat → Int32) (v_phase : Nat → Int32) (v_up : Nat → Int32) (v_fitting : Nat → Nat → Int32) (v_dsize : Int32) (v_dbytes : Nat → Int32) : va_W := [(h_t, .inr (6, [.ref h_t_red, .ref h_t_blue, .ref h_t_sky, .ref h_t_diary, .ref h_t_calendar, .ref h_t_awakeIn, .ref h_t_worths, .ref h_t_plants, .ref h_t_sheets, .ref h_t_bestFrom, .int v_latestFinding])), (h_t_red, .inr (5, [.int (v_turn 0), .int (v_phase 0), .int (v_up 0), .ref h_t_red_fitting, .ref h_t_red_worstLeft])), (h_t_red_fitting, .inl (cZ, 40, .inl (v_fitting 0))), (h_t_blue, .inr (5, [.int (v_turn 1), .int (v_phase 1), .int (v_up 1), .ref h_t_blue_fitting, .ref h_t_blue_worstLeft])), (h_t_blue_fitting, .inl (cZ, 40, .inl (v_fitting 1))), (h_t_diary, .inr (1, [.ref h_t_diary_bytes, .int v_dsize])), (h_t_diary_bytes, .inl (cI, 60, .inl v_dbytes))]
abbrev rm_X7_fits : Room := { frames := 5, cells := 0, slots := 0, locals := 114 }
def f_X7_fits (n : Nat) (v_turn : Nat → Int32) (v_up : Nat → Int32) (v_fitting : Nat → Nat → Int32) (v_dsize : Int32) (v_dbytes : Nat → Int32) (x1 : Int32) : Option (Int32 × (Nat → Nat → Int32)) := bd1_ (f_X7_outside n x1 0 1) (fun (r3_1 : Int32) => if r3_1 = 0 then bd1_ (f_X7_findFittingPhases n v_turn v_up v_fitting v_dsize v_dbytes) (fun (o13_5 : Nat → Nat → Int32) => bd1_ (f_X5_fittingPhases n (v_turn 0) (o13_5 0)) (fun (r20_8 : Int32) => bd1_ (f_X5_fittingPhases n (v_turn 1) (o13_5 1)) (fun (r27_11 : Int32) => if x1 = 0 then some ((r20_8 * r27_11), o13_5) else if (r20_8 * r27_11) = 0 then some ((-1), o13_5) else bd1_ (f_X5_firstFittingPhase n (v_turn 0) (o13_5 0)) (fun (r52_14 : Int32) => bd1_ (f_X5_firstFittingPhase n (v_turn 1) (o13_5 1)) (fun (r60_17 : Int32) => some (((40 * r52_14) + r60_17), o13_5)))))) else some ((-2), v_fitting))
set_option maxHeartbeats 4000000 in
set_option maxRecDepth 100000 in
theorem c_X7_fits (l : Launch) (dC : Nat → ClassId) (dI : Nat → Nat → Nat) (cI cZ cP cS : ClassId) (sz : Nat) (h_t h_t_red h_t_blue h_t_sky h_t_diary h_t_calendar h_t_awakeIn h_t_worths h_t_plants h_t_sheets h_t_bestFrom h_t_red_fitting h_t_red_worstLeft h_t_blue_fitting h_t_blue_worstLeft h_t_diary_bytes : Nat) (v_latestFinding : Int32) (v_turn : Nat → Int32) (v_phase : Nat → Int32) (v_up : Nat → Int32) (v_fitting : Nat → Nat → Int32) (v_dsize : Int32) (v_dbytes : Nat → Int32) (x1 : Int32) (n : Nat) (r : Int32) (o_fitting : Nat → Nat → Int32) (hf : f_X7_fits n v_turn v_up v_fitting v_dsize v_dbytes x1 = some (r, o_fitting)) : Met l yX7_fits wsX7_fits rm_X7_fits (RW (dC, dI) (TY cI cZ cP cS) [.ref h_t, .int x1] sz (wd_X7_fits cI cZ cP cS h_t h_t_red h_t_blue h_t_sky h_t_diary h_t_calendar h_t_awakeIn h_t_worths h_t_plants h_t_sheets h_t_bestFrom h_t_red_fitting h_t_red_worstLeft h_t_blue_fitting h_t_blue_worstLeft h_t_diary_bytes v_latestFinding v_turn v_phase v_up v_fitting v_dsize v_dbytes)) (RWi (dC, dI) (TY cI cZ cP cS) r sz (wd_X7_fits cI cZ cP cS h_t h_t_red h_t_blue h_t_sky h_t_diary h_t_calendar h_t_awakeIn h_t_worths h_t_plants h_t_sheets h_t_bestFrom h_t_red_fitting h_t_red_worstLeft h_t_blue_fitting h_t_blue_worstLeft h_t_diary_bytes v_latestFinding v_turn v_phase v_up v_fitting v_dsize v_dbytes) (wd_X7_fits cI cZ cP cS h_t h_t_red h_t_blue h_t_sky h_t_diary h_t_calendar h_t_awakeIn h_t_worths h_t_plants h_t_sheets h_t_bestFrom h_t_red_fitting h_t_red_worstLeft h_t_blue_fitting h_t_blue_worstLeft h_t_diary_bytes v_latestFinding v_turn v_phase v_up o_fitting v_dsize v_dbytes)) 0 0 (va_A (wd_X7_fits cI cZ cP cS h_t h_t_red h_t_blue h_t_sky h_t_diary h_t_calendar h_t_awakeIn h_t_worths h_t_plants h_t_sheets h_t_bestFrom h_t_red_fitting h_t_red_worstLeft h_t_blue_fitting h_t_blue_worstLeft h_t_diary_bytes v_latestFinding v_turn v_phase v_up v_fitting v_dsize v_dbytes) sz) := by
  refine Met.ofW (cc := cX7_fits) (maxL := 3) (ret := (some .int)) (by decide) rfl ?_
  intro p e s m args below meth c s₁ B hml hv
  obtain ⟨rfl, hsz, hP, hK, hD0⟩ := hv
  have hx := B.exec
  have hb := B.bytes
  have hr := B.returns
  have hts := atoms_spec (ws := wsX7_fits) B.pre
  have hown : s.vm.findClass RX7 = some m.cls := findClass_of_methodNamed B.named
  have hlocks := B.notSynchronized
  subst hsz
  have hD := hD0.self (sz := s.heap.size)
  have hA : ∀ q : Nat, s.heap.size ≤ q → (va_A (wd_X7_fits cI cZ cP cS h_t h_t_red h_t_blue h_t_sky h_t_diary h_t_calendar h_t_awakeIn h_t_worths h_t_plants h_t_sheets h_t_bestFrom h_t_red_fitting h_t_red_worstLeft h_t_blue_fitting h_t_blue_worstLeft h_t_diary_bytes v_latestFinding v_turn v_phase v_up v_fitting v_dsize v_dbytes) s.heap.size) q := fun q h => Or.inr h
  have hS : va_S (va_A (wd_X7_fits cI cZ cP cS h_t h_t_red h_t_blue h_t_sky h_t_diary h_t_calendar h_t_awakeIn h_t_worths h_t_plants h_t_sheets h_t_bestFrom h_t_red_fitting h_t_red_worstLeft h_t_blue_fitting h_t_blue_worstLeft h_t_diary_bytes v_latestFinding v_turn v_phase v_up v_fitting v_dsize v_dbytes) s.heap.size) s.heap s.heap [] := va_S.rf
  have hinX7 : ∀ w ∈ wsX70, w ∈ wsX7_fits := by decide +kernel
  have hl := lv_entry ([.ref h_t, .int x1]) (n := 3) (Nat.le_of_ble_eq_true rfl)
  rw [lg_entry_eq]
  generalize (lg_sl ([.ref h_t, .int x1]) ++ List.replicate (3 - (lg_sl ([.ref h_t, .int x1])).length) Slot.unset).toArray = ls at hl ⊢
  have hl : lv_has ls 3 [(0, .ref h_t), (1, .int x1)] := hl
  obtain ⟨H, hH⟩ : ∃ H : Heap, H = s.heap := ⟨_, rfl⟩
  have hP : va_P (dC, dI) vwCl (wd_X7_fits cI cZ cP cS h_t h_t_red h_t_blue h_t_sky h_t_diary h_t_calendar h_t_awakeIn h_t_worths h_t_plants h_t_sheets h_t_bestFrom h_t_red_fitting h_t_red_worstLeft h_t_blue_fitting h_t_blue_worstLeft h_t_diary_bytes v_latestFinding v_turn v_phase v_up v_fitting v_dsize v_dbytes) H := by rw [hH]; exact hP
  have hS : va_S (va_A (wd_X7_fits cI cZ cP cS h_t h_t_red h_t_blue h_t_sky h_t_diary h_t_calendar h_t_awakeIn h_t_worths h_t_plants h_t_sheets h_t_bestFrom h_t_red_fitting h_t_red_worstLeft h_t_blue_fitting h_t_blue_worstLeft h_t_diary_bytes v_latestFinding v_turn v_phase v_up v_fitting v_dsize v_dbytes) s.heap.size) s.heap H [] := by rw [hH]; exact hS
  obtain ⟨locs, hlo⟩ : ∃ L : List Loc, L = [] := ⟨_, rfl⟩
  rw [← hlo] at hS
  suffices hgo : W p l e (headSpec wsX7_fits rm_X7_fits).room s m ([.ref h_t, .int x1] : List Value).toArray below meth c H locs 0 0 (MQ below (RWi (dC, dI) (TY cI cZ cP cS) r s.heap.size (wd_X7_fits cI cZ cP cS h_t h_t_red h_t_blue h_t_sky h_t_diary h_t_calendar h_t_awakeIn h_t_worths h_t_plants h_t_sheets h_t_bestFrom h_t_red_fitting h_t_red_worstLeft h_t_blue_fitting h_t_blue_worstLeft h_t_diary_bytes v_latestFinding v_turn v_phase v_up v_fitting v_dsize v_dbytes) (wd_X7_fits cI cZ cP cS h_t h_t_red h_t_blue h_t_sky h_t_diary h_t_calendar h_t_awakeIn h_t_worths h_t_plants h_t_sheets h_t_bestFrom h_t_red_fitting h_t_red_worstLeft h_t_blue_fitting h_t_blue_worstLeft h_t_diary_bytes v_latestFinding v_turn v_phase v_up o_fitting v_dsize v_dbytes)) ([.ref h_t, .int x1] : List Value).toArray s 0 0 (va_A (wd_X7_fits cI cZ cP cS h_t h_t_red h_t_blue h_t_sky h_t_diary h_t_calendar h_t_awakeIn h_t_worths h_t_plants h_t_sheets h_t_bestFrom h_t_red_fitting h_t_red_worstLeft h_t_blue_fitting h_t_blue_worstLeft h_t_diary_bytes v_latestFinding v_turn v_phase v_up v_fitting v_dsize v_dbytes) s.heap.size)) (F0 m 0 ls []) by rw [hH, hlo] at hgo; exact hgo
  clear hH hlo
  unfold f_X7_fits at hf
  refine lv_iload_n hx hb dX7_fits_0 rfl (lv_at hl 1 rfl) ?_
  refine lv_iconst (v := 0) hx hb dX7_fits_1 (by decide) ?_
  refine lv_iconst (v := 1) hx hb dX7_fits_2 (by decide) ?_
  obtain ⟨r3_1, hc_2, hf⟩ := bd1_e hf
  refine vp_callSi (va_runS (As := [.int x1, .int 0, .int 1]) (rest := []) ⟨hx, hb, hml, hown, hts⟩ (c_X7_outside l dC dI cI cZ cP cS   x1 0 1 n r3_1 hc_2) (va_cwS 3 hts gX7_fits_X7_outside rfl rfl rfl (by decide +kernel) ⟨Nat.le_of_ble_eq_true rfl, Nat.le_of_ble_eq_true rfl⟩) (ps_ro hK (hP.sub (ws' := ([] : va_W)) [] rfl)) rfl rfl hl.1 rfl (lv_room (Nat.le_of_ble_eq_true rfl)) dX7_fits_3 ⟨Nat.zero_le _, Nat.zero_le _⟩).run (fun x e_3 => ?_)
  obtain ⟨e_3, hb_4⟩ := e_3
  rw [e_3] at hb_4 ⊢
  refine lv_if_eq (tgt := 12) hx hb dX7_fits_6 (by decide) (fun c6 => ?_) (fun c6 => ?_)
  · rw [if_pos c6] at hf
    refine lv_aload_n hx hb dX7_fits_12 rfl (lv_at hl 0 rfl) ?_
    obtain ⟨o13_5, hc_6, hf⟩ := bd1_e hf
    refine rwv_call (isC := [0, 1, 2, 3, 4, 5, 6]) (isR := []) (perm := [0, 1, 2, 3, 4, 5, 6]) (wr := []) (ws2 := (wd_X7_fits cI cZ cP cS h_t h_t_red h_t_blue h_t_sky h_t_diary h_t_calendar h_t_awakeIn h_t_worths h_t_plants h_t_sheets h_t_bestFrom h_t_red_fitting h_t_red_worstLeft h_t_blue_fitting h_t_blue_worstLeft h_t_diary_bytes v_latestFinding v_turn v_phase v_up o13_5 v_dsize v_dbytes)) (va_runV (As := []) (rest := []) ⟨hx, hb, hml, hown, hts⟩ (c_X7_findFittingPhases l dC dI cI cZ cP cS H.size h_t h_t_red h_t_blue h_t_sky h_t_diary h_t_calendar h_t_awakeIn h_t_worths h_t_plants h_t_sheets h_t_bestFrom h_t_red_fitting h_t_red_worstLeft h_t_blue_fitting h_t_blue_worstLeft h_t_diary_bytes v_latestFinding v_turn v_phase v_up v_fitting v_dsize v_dbytes  n o13_5 hc_6) (cwV 0 hts gX7_fits_X7_findFittingPhases rfl rfl rfl (by decide +kernel) ⟨Nat.le_of_ble_eq_true rfl, Nat.le_of_ble_eq_true rfl⟩) (pv_rw (ci := 6) (q0 := 0) hK (hP.sub (ws' := (wd_X7_findFittingPhases cI cZ cP cS h_t h_t_red h_t_blue h_t_sky h_t_diary h_t_calendar h_t_awakeIn h_t_worths h_t_plants h_t_sheets h_t_bestFrom h_t_red_fitting h_t_red_worstLeft h_t_blue_fitting h_t_blue_worstLeft h_t_diary_bytes v_latestFinding v_turn v_phase v_up v_fitting v_dsize v_dbytes)) [0, 1, 2, 3, 4, 5, 6] rfl) (hD.sub (ws' := (wd_X7_findFittingPhases cI cZ cP cS h_t h_t_red h_t_blue h_t_sky h_t_diary h_t_calendar h_t_awakeIn h_t_worths h_t_plants h_t_sheets h_t_bestFrom h_t_red_fitting h_t_red_worstLeft h_t_blue_fitting h_t_blue_worstLeft h_t_diary_bytes v_latestFinding v_turn v_phase v_up v_fitting v_dsize v_dbytes)) [0, 1, 2, 3, 4, 5, 6] (by decide) rfl) rfl rfl) rfl rfl hl.1 rfl (lv_room (Nat.le_of_ble_eq_true rfl)) dX7_fits_13 ⟨Nat.zero_le _, Nat.zero_le _⟩) hS hA hP hD rfl (by decide) (by decide) rfl (by decide) rfl rfl (fun H locs hP hD hS => ?_)
    refine lv_aload_n hx hb dX7_fits_16 rfl (lv_at hl 0 rfl) ?_
    refine va_get (D := (dC, dI)) (ci := 6) (v := .ref h_t_red) (C := RX7) (T := TX7) (N := 11) hx hb hts hinX7 hown hK hP 0 rfl rfl 0 (by decide) (hts (.fieldLink RX7 12 "SecondSunrise" "red" "LSecondSunrise$Sun;") (by decide +kernel)) (fun _ h9 => h9) rfl dX7_fits_17 ?_
    obtain ⟨r20_8, hc_9, hf⟩ := bd1_e hf
    refine vp_callSi (va_runV (As := []) (rest := []) ⟨hx, hb, hml, hown, hts⟩ (c_X5_fittingPhases l dC dI cI cZ cP cS h_t_red h_t_red_fitting h_t_red_worstLeft (v_turn 0) (v_phase 0) (v_up 0) (o13_5 0)  n r20_8 hc_9) (cwV 0 hts gX7_fits_X5_fittingPhases rfl rfl rfl (by decide +kernel) ⟨Nat.le_of_ble_eq_true rfl, Nat.le_of_ble_eq_true rfl⟩) (pv_ro (ci := 5) (q0 := 0) hK (hP.sub (ws' := (wd_X5_fittingPhases cI cZ cP cS h_t_red h_t_red_fitting h_t_red_worstLeft (v_turn 0) (v_phase 0) (v_up 0) (o13_5 0))) [1, 2] rfl) rfl rfl) rfl rfl hl.1 rfl (lv_room (Nat.le_of_ble_eq_true rfl)) dX7_fits_20 ⟨Nat.zero_le _, Nat.zero_le _⟩).run (fun x e_10 => ?_)
    rw [e_10]
    refine lv_aload_n hx hb dX7_fits_23 rfl (lv_at hl 0 rfl) ?_
    refine va_get (D := (dC, dI)) (ci := 6) (v := .ref h_t_blue) (C := RX7) (T := TX7) (N := 11) hx hb hts hinX7 hown hK hP 0 rfl rfl 1 (by decide) (hts (.fieldLink RX7 18 "SecondSunrise" "blue" "LSecondSunrise$Sun;") (by decide +kernel)) (fun _ h9 => h9) rfl dX7_fits_24 ?_
    obtain ⟨r27_11, hc_12, hf⟩ := bd1_e hf
    refine vp_callSi (va_runV (As := []) (rest := [.int r20_8]) ⟨hx, hb, hml, hown, hts⟩ (c_X5_fittingPhases l dC dI cI cZ cP cS h_t_blue h_t_blue_fitting h_t_blue_worstLeft (v_turn 1) (v_phase 1) (v_up 1) (o13_5 1)  n r27_11 hc_12) (cwV 0 hts gX7_fits_X5_fittingPhases rfl rfl rfl (by decide +kernel) ⟨Nat.le_of_ble_eq_true rfl, Nat.le_of_ble_eq_true rfl⟩) (pv_ro (ci := 5) (q0 := 0) hK (hP.sub (ws' := (wd_X5_fittingPhases cI cZ cP cS h_t_blue h_t_blue_fitting h_t_blue_worstLeft (v_turn 1) (v_phase 1) (v_up 1) (o13_5 1))) [3, 4] rfl) rfl rfl) rfl rfl hl.1 rfl (lv_room (Nat.le_of_ble_eq_true rfl)) dX7_fits_27 ⟨Nat.zero_le _, Nat.zero_le _⟩).run (fun x e_13 => ?_)
    rw [e_13]
    refine lv_imul hx hb dX7_fits_30 ?_
    refine lv_istore_n (lv' := [(2, .int (r20_8 * r27_11)), (0, .ref h_t), (1, .int x1)]) hx hb dX7_fits_31 rfl hl (by decide) rfl (fun ls hl => ?_)
    refine lv_iload_n hx hb dX7_fits_32 rfl (lv_at hl 2 rfl) ?_
    refine lv_if_ne (tgt := 38) hx hb dX7_fits_33 (by decide) (fun c33 => ?_) (fun c33 => ?_)
    · rw [if_neg c33] at hf
      refine lv_iload_n hx hb dX7_fits_38 rfl (lv_at hl 0 rfl) ?_
      refine lv_if_ne (tgt := 46) hx hb dX7_fits_39 (by decide) (fun c39 => ?_) (fun c39 => ?_)
      · rw [if_neg c39] at hf
        refine lv_bipush (v := 40) hx hb dX7_fits_46 (by decide) ?_
        refine lv_aload_n hx hb dX7_fits_48 rfl (lv_at hl 1 rfl) ?_
        refine va_get (D := (dC, dI)) (ci := 6) (v := .ref h_t_red) (C := RX7) (T := TX7) (N := 11) hx hb hts hinX7 hown hK hP 0 rfl rfl 0 (by decide) (hts (.fieldLink RX7 12 "SecondSunrise" "red" "LSecondSunrise$Sun;") (by decide +kernel)) (fun _ h9 => h9) rfl dX7_fits_49 ?_
        obtain ⟨r52_14, hc_15, hf⟩ := bd1_e hf
        refine vp_callSi (va_runV (As := []) (rest := [.int 40]) ⟨hx, hb, hml, hown, hts⟩ (c_X5_firstFittingPhase l dC dI cI cZ cP cS h_t_red h_t_red_fitting h_t_red_worstLeft (v_turn 0) (v_phase 0) (v_up 0) (o13_5 0)  n r52_14 hc_15) (cwV 0 hts gX7_fits_X5_firstFittingPhase rfl rfl rfl (by decide +kernel) ⟨Nat.le_of_ble_eq_true rfl, Nat.le_of_ble_eq_true rfl⟩) (pv_ro (ci := 5) (q0 := 0) hK (hP.sub (ws' := (wd_X5_firstFittingPhase cI cZ cP cS h_t_red h_t_red_fitting h_t_red_worstLeft (v_turn 0) (v_phase 0) (v_up 0) (o13_5 0))) [1, 2] rfl) rfl rfl) rfl rfl hl.1 rfl (lv_room (Nat.le_of_ble_eq_true rfl)) dX7_fits_52 ⟨Nat.zero_le _, Nat.zero_le _⟩).run (fun x e_16 => ?_)
        rw [e_16]
        refine lv_imul hx hb dX7_fits_55 ?_
        refine lv_aload_n hx hb dX7_fits_56 rfl (lv_at hl 1 rfl) ?_
        refine va_get (D := (dC, dI)) (ci := 6) (v := .ref h_t_blue) (C := RX7) (T := TX7) (N := 11) hx hb hts hinX7 hown hK hP 0 rfl rfl 1 (by decide) (hts (.fieldLink RX7 18 "SecondSunrise" "blue" "LSecondSunrise$Sun;") (by decide +kernel)) (fun _ h9 => h9) rfl dX7_fits_57 ?_
        obtain ⟨r60_17, hc_18, hf⟩ := bd1_e hf
        refine vp_callSi (va_runV (As := []) (rest := [.int (40 * r52_14)]) ⟨hx, hb, hml, hown, hts⟩ (c_X5_firstFittingPhase l dC dI cI cZ cP cS h_t_blue h_t_blue_fitting h_t_blue_worstLeft (v_turn 1) (v_phase 1) (v_up 1) (o13_5 1)  n r60_17 hc_18) (cwV 0 hts gX7_fits_X5_firstFittingPhase rfl rfl rfl (by decide +kernel) ⟨Nat.le_of_ble_eq_true rfl, Nat.le_of_ble_eq_true rfl⟩) (pv_ro (ci := 5) (q0 := 0) hK (hP.sub (ws' := (wd_X5_firstFittingPhase cI cZ cP cS h_t_blue h_t_blue_fitting h_t_blue_worstLeft (v_turn 1) (v_phase 1) (v_up 1) (o13_5 1))) [3, 4] rfl) rfl rfl) rfl rfl hl.1 rfl (lv_room (Nat.le_of_ble_eq_true rfl)) dX7_fits_60 ⟨Nat.zero_le _, Nat.zero_le _⟩).run (fun x e_19 => ?_)
        rw [e_19]
        refine lv_iadd hx hb dX7_fits_63 ?_
        have hq0 := Option.some.inj hf
        obtain ⟨eq0, hq1⟩ := Prod.mk.inj hq0
        clear hf hq0
        subst eq0
        subst hq1
        exact W.iret hx hb hr (fun t ht hW => ⟨⟨_, (), rfl, rfl, by rw [ht]; exact hP, va_K.moved hW.alike hK, hD⟩, hS.F ht⟩) hS.2.2 dX7_fits_64
      · rw [if_pos c39] at hf
        refine lv_iconst (v := (-1)) hx hb dX7_fits_42 (by decide) ?_
        refine lv_goto (tgt := 64) hx hb dX7_fits_43 (by decide) ?_
        have hq0 := Option.some.inj hf
        obtain ⟨eq0, hq1⟩ := Prod.mk.inj hq0
        clear hf hq0
        subst eq0
        subst hq1
        exact W.iret hx hb hr (fun t ht hW => ⟨⟨_, (), rfl, rfl, by rw [ht]; exact hP, va_K.moved hW.alike hK, hD⟩, hS.F ht⟩) hS.2.2 dX7_fits_64
    · rw [if_pos c33] at hf
      refine lv_iload_n hx hb dX7_fits_36 rfl (lv_at hl 0 rfl) ?_
      have hq0 := Option.some.inj hf
      obtain ⟨eq0, hq1⟩ := Prod.mk.inj hq0
      clear hf hq0
      subst eq0
      subst hq1
      exact W.iret hx hb hr (fun t ht hW => ⟨⟨_, (), rfl, rfl, by rw [ht]; exact hP, va_K.moved hW.alike hK, hD⟩, hS.F ht⟩) hS.2.2 dX7_fits_37
  · rw [if_neg c6] at hf
    refine lv_bipush (v := (-2)) hx hb dX7_fits_9 (by decide) ?_
    have hq0 := Option.some.inj hf
    obtain ⟨eq0, hq1⟩ := Prod.mk.inj hq0
    clear hf hq0
    subst eq0
    subst hq1
    exact W.iret hx hb hr (fun t ht hW => ⟨⟨_, (), rfl, rfl, by rw [ht]; exact hP, va_K.moved hW.alike hK, hD⟩, hS.F ht⟩) hS.2.2 dX7_fits_11

abbrev wd_X7_lasts (cI cZ cP cS : ClassId) (h_t h_t_red h_t_blue h_t_sky h_t_diary h_t_calendar h_t_awakeIn h_t_worths h_t_plants h_t_sheets h_t_bestFrom h_t_red_fitting h_t_red_worstLeft h_t_blue_fitting h_t_blue_worstLeft : Nat) (v_latestFinding : Int32) (v_turn : Nat → Int32) (v_phase : Nat → Int32) (v_up : Nat → Int32) : va_W := [(h_t, .inr (6, [.ref h_t_red, .ref h_t_blue, .ref h_t_sky, .ref h_t_diary, .ref h_t_calendar, .ref h_t_awakeIn, .ref h_t_worths, .ref h_t_plants, .ref h_t_sheets, .ref h_t_bestFrom, .int v_latestFinding])), (h_t_red, .inr (5, [.int (v_turn 0), .int (v_phase 0), .int (v_up 0), .ref h_t_red_fitting, .ref h_t_red_worstLeft])), (h_t_blue, .inr (5, [.int (v_turn 1), .int (v_phase 1), .int (v_up 1), .ref h_t_blue_fitting, .ref h_t_blue_worstLeft])), (h_t_sky, .inr (4, [.ref h_t_red, .ref h_t_blue]))]
abbrev rm_X7_lasts : Room := { frames := 3, cells := 0, slots := 0, locals := 66 }
def f_X7_lasts (n : Nat) (v_turn : Nat → Int32) (v_phase : Nat → Int32) (v_up : Nat → Int32) (x1 : Int32) : Option (Int32) := bd1_ (f_X7_noHour n x1) (fun (r1_1 : Int32) => if r1_1 = 0 then bd1_ (f_X4_unchangedFrom n v_turn v_phase v_up x1) (fun (r17_5 : Int32) => some r17_5) else some (-2))
set_option maxHeartbeats 4000000 in
set_option maxRecDepth 100000 in
theorem c_X7_lasts (l : Launch) (dC : Nat → ClassId) (dI : Nat → Nat → Nat) (cI cZ cP cS : ClassId) (h_t h_t_red h_t_blue h_t_sky h_t_diary h_t_calendar h_t_awakeIn h_t_worths h_t_plants h_t_sheets h_t_bestFrom h_t_red_fitting h_t_red_worstLeft h_t_blue_fitting h_t_blue_worstLeft : Nat) (v_latestFinding : Int32) (v_turn : Nat → Int32) (v_phase : Nat → Int32) (v_up : Nat → Int32) (x1 : Int32) (n : Nat) (r : Int32) (hf : f_X7_lasts n v_turn v_phase v_up x1 = some r) : Met l yX7_lasts wsX7_lasts rm_X7_lasts (RO (dC, dI) (TY cI cZ cP cS) [.ref h_t, .int x1] (wd_X7_lasts cI cZ cP cS h_t h_t_red h_t_blue h_t_sky h_t_diary h_t_calendar h_t_awakeIn h_t_worths h_t_plants h_t_sheets h_t_bestFrom h_t_red_fitting h_t_red_worstLeft h_t_blue_fitting h_t_blue_worstLeft v_latestFinding v_turn v_phase v_up)) (vp_Si (fun x => x = r)) 0 0 NF := by
  refine Met.ofW (cc := cX7_lasts) (maxL := 2) (ret := (some .int)) (by decide) rfl ?_
  intro p e s m args below meth c s₁ B hml hv
  obtain ⟨rfl, hP, hK⟩ := hv
  have hx := B.exec
  have hb := B.bytes
  have hr := B.returns
  have hts := atoms_spec (ws := wsX7_lasts) B.pre
  have hown : s.vm.findClass RX7 = some m.cls := findClass_of_methodNamed B.named
  have hlocks := B.notSynchronized
  have hinX7 : ∀ w ∈ wsX70, w ∈ wsX7_lasts := by decide +kernel
  have hl := lv_entry ([.ref h_t, .int x1]) (n := 2) (Nat.le_of_ble_eq_true rfl)
  rw [lg_entry_eq]
  generalize (lg_sl ([.ref h_t, .int x1]) ++ List.replicate (2 - (lg_sl ([.ref h_t, .int x1])).length) Slot.unset).toArray = ls at hl ⊢
  have hl : lv_has ls 2 [(0, .ref h_t), (1, .int x1)] := hl
  unfold f_X7_lasts at hf
  refine lv_iload_n hx hb dX7_lasts_0 rfl (lv_at hl 1 rfl) ?_
  obtain ⟨r1_1, hc_2, hf⟩ := bd1_e hf
  refine vp_callSi (va_runS (As := [.int x1]) (rest := []) ⟨hx, hb, hml, hown, hts⟩ (c_X7_noHour l dC dI cI cZ cP cS   x1 n r1_1 hc_2) (va_cwS 1 hts gX7_lasts_X7_noHour rfl rfl rfl (by decide +kernel) ⟨Nat.le_of_ble_eq_true rfl, Nat.le_of_ble_eq_true rfl⟩) (ps_ro hK (hP.sub (ws' := ([] : va_W)) [] rfl)) rfl rfl hl.1 rfl (lv_room (Nat.le_of_ble_eq_true rfl)) dX7_lasts_1 ⟨Nat.zero_le _, Nat.zero_le _⟩).run (fun x e_3 => ?_)
  obtain ⟨e_3, hb_4⟩ := e_3
  rw [e_3] at hb_4 ⊢
  refine lv_if_eq (tgt := 12) hx hb dX7_lasts_4 (by decide) (fun c4 => ?_) (fun c4 => ?_)
  · rw [if_pos c4] at hf
    refine lv_aload_n hx hb dX7_lasts_12 rfl (lv_at hl 0 rfl) ?_
    refine va_get (D := (dC, dI)) (ci := 6) (v := .ref h_t_sky) (C := RX7) (T := TX7) (N := 11) hx hb hts hinX7 hown hK hP 0 rfl rfl 2 (by decide) (hts (.fieldLink RX7 26 "SecondSunrise" "sky" "LSecondSunrise$Sky;") (by decide +kernel)) (fun _ h9 => h9) rfl dX7_lasts_13 ?_
    refine lv_iload_n hx hb dX7_lasts_16 rfl (lv_at hl 1 rfl) ?_
    obtain ⟨r17_5, hc_6, hf⟩ := bd1_e hf
    refine vp_callSi (va_runV (As := [.int x1]) (rest := []) ⟨hx, hb, hml, hown, hts⟩ (c_X4_unchangedFrom l dC dI cI cZ cP cS h_t_sky h_t_red h_t_blue h_t_red_fitting h_t_red_worstLeft h_t_blue_fitting h_t_blue_worstLeft v_turn v_phase v_up x1 n r17_5 hc_6) (cwV 1 hts gX7_lasts_X4_unchangedFrom rfl rfl rfl (by decide +kernel) ⟨Nat.le_of_ble_eq_true rfl, Nat.le_of_ble_eq_true rfl⟩) (pv_ro (ci := 4) (q0 := 0) hK (hP.sub (ws' := (wd_X4_unchangedFrom cI cZ cP cS h_t_sky h_t_red h_t_blue h_t_red_fitting h_t_red_worstLeft h_t_blue_fitting h_t_blue_worstLeft v_turn v_phase v_up)) [3, 1, 2] rfl) rfl rfl) rfl rfl hl.1 rfl (lv_room (Nat.le_of_ble_eq_true rfl)) dX7_lasts_17 ⟨Nat.zero_le _, Nat.zero_le _⟩).run (fun x e_7 => ?_)
    rw [e_7]
    exact W.iret hx hb hr (fun t ht hW => ⟨_, rfl, Option.some.inj hf, ht⟩) (fun _ h => nomatch h) dX7_lasts_20
  · rw [if_neg c4] at hf
    refine lv_bipush (v := (-2)) hx hb dX7_lasts_7 (by decide) ?_
    refine lv_goto (tgt := 20) hx hb dX7_lasts_9 (by decide) ?_
    exact W.iret hx hb hr (fun t ht hW => ⟨_, rfl, Option.some.inj hf, ht⟩) (fun _ h => nomatch h) dX7_lasts_20

abbrev wd_X7_light (cI cZ cP cS : ClassId) (h_t h_t_red h_t_blue h_t_sky h_t_diary h_t_calendar h_t_awakeIn h_t_worths h_t_plants h_t_sheets h_t_bestFrom h_t_red_fitting h_t_red_worstLeft h_t_blue_fitting h_t_blue_worstLeft : Nat) (v_latestFinding : Int32) (v_turn : Nat → Int32) (v_phase : Nat → Int32) (v_up : Nat → Int32) : va_W := [(h_t, .inr (6, [.ref h_t_red, .ref h_t_blue, .ref h_t_sky, .ref h_t_diary, .ref h_t_calendar, .ref h_t_awakeIn, .ref h_t_worths, .ref h_t_plants, .ref h_t_sheets, .ref h_t_bestFrom, .int v_latestFinding])), (h_t_red, .inr (5, [.int (v_turn 0), .int (v_phase 0), .int (v_up 0), .ref h_t_red_fitting, .ref h_t_red_worstLeft])), (h_t_blue, .inr (5, [.int (v_turn 1), .int (v_phase 1), .int (v_up 1), .ref h_t_blue_fitting, .ref h_t_blue_worstLeft])), (h_t_sky, .inr (4, [.ref h_t_red, .ref h_t_blue]))]
abbrev rm_X7_light : Room := { frames := 2, cells := 0, slots := 0, locals := 42 }
def f_X7_light (n : Nat) (v_turn : Nat → Int32) (v_phase : Nat → Int32) (v_up : Nat → Int32) (x1 : Int32) : Option (Int32) := bd1_ (f_X7_noHour n x1) (fun (r1_1 : Int32) => if r1_1 = 0 then bd1_ (f_X4_lightIn n v_turn v_phase v_up x1) (fun (r17_5 : Int32) => some r17_5) else some (-2))
set_option maxHeartbeats 4000000 in
set_option maxRecDepth 100000 in
theorem c_X7_light (l : Launch) (dC : Nat → ClassId) (dI : Nat → Nat → Nat) (cI cZ cP cS : ClassId) (h_t h_t_red h_t_blue h_t_sky h_t_diary h_t_calendar h_t_awakeIn h_t_worths h_t_plants h_t_sheets h_t_bestFrom h_t_red_fitting h_t_red_worstLeft h_t_blue_fitting h_t_blue_worstLeft : Nat) (v_latestFinding : Int32) (v_turn : Nat → Int32) (v_phase : Nat → Int32) (v_up : Nat → Int32) (x1 : Int32) (n : Nat) (r : Int32) (hf : f_X7_light n v_turn v_phase v_up x1 = some r) : Met l yX7_light wsX7_light rm_X7_light (RO (dC, dI) (TY cI cZ cP cS) [.ref h_t, .int x1] (wd_X7_light cI cZ cP cS h_t h_t_red h_t_blue h_t_sky h_t_diary h_t_calendar h_t_awakeIn h_t_worths h_t_plants h_t_sheets h_t_bestFrom h_t_red_fitting h_t_red_worstLeft h_t_blue_fitting h_t_blue_worstLeft v_latestFinding v_turn v_phase v_up)) (vp_Si (fun x => x = r)) 0 0 NF := by
  refine Met.ofW (cc := cX7_light) (maxL := 2) (ret := (some .int)) (by decide) rfl ?_
  intro p e s m args below meth c s₁ B hml hv
  obtain ⟨rfl, hP, hK⟩ := hv
  have hx := B.exec
  have hb := B.bytes
  have hr := B.returns
  have hts := atoms_spec (ws := wsX7_light) B.pre
  have hown : s.vm.findClass RX7 = some m.cls := findClass_of_methodNamed B.named
  have hlocks := B.notSynchronized
  have hinX7 : ∀ w ∈ wsX70, w ∈ wsX7_light := by decide +kernel
  have hl := lv_entry ([.ref h_t, .int x1]) (n := 2) (Nat.le_of_ble_eq_true rfl)
  rw [lg_entry_eq]
  generalize (lg_sl ([.ref h_t, .int x1]) ++ List.replicate (2 - (lg_sl ([.ref h_t, .int x1])).length) Slot.unset).toArray = ls at hl ⊢
  have hl : lv_has ls 2 [(0, .ref h_t), (1, .int x1)] := hl
  unfold f_X7_light at hf
  refine lv_iload_n hx hb dX7_light_0 rfl (lv_at hl 1 rfl) ?_
  obtain ⟨r1_1, hc_2, hf⟩ := bd1_e hf
  refine vp_callSi (va_runS (As := [.int x1]) (rest := []) ⟨hx, hb, hml, hown, hts⟩ (c_X7_noHour l dC dI cI cZ cP cS   x1 n r1_1 hc_2) (va_cwS 1 hts gX7_light_X7_noHour rfl rfl rfl (by decide +kernel) ⟨Nat.le_of_ble_eq_true rfl, Nat.le_of_ble_eq_true rfl⟩) (ps_ro hK (hP.sub (ws' := ([] : va_W)) [] rfl)) rfl rfl hl.1 rfl (lv_room (Nat.le_of_ble_eq_true rfl)) dX7_light_1 ⟨Nat.zero_le _, Nat.zero_le _⟩).run (fun x e_3 => ?_)
  obtain ⟨e_3, hb_4⟩ := e_3
  rw [e_3] at hb_4 ⊢
  refine lv_if_eq (tgt := 12) hx hb dX7_light_4 (by decide) (fun c4 => ?_) (fun c4 => ?_)
  · rw [if_pos c4] at hf
    refine lv_aload_n hx hb dX7_light_12 rfl (lv_at hl 0 rfl) ?_
    refine va_get (D := (dC, dI)) (ci := 6) (v := .ref h_t_sky) (C := RX7) (T := TX7) (N := 11) hx hb hts hinX7 hown hK hP 0 rfl rfl 2 (by decide) (hts (.fieldLink RX7 26 "SecondSunrise" "sky" "LSecondSunrise$Sky;") (by decide +kernel)) (fun _ h9 => h9) rfl dX7_light_13 ?_
    refine lv_iload_n hx hb dX7_light_16 rfl (lv_at hl 1 rfl) ?_
    obtain ⟨r17_5, hc_6, hf⟩ := bd1_e hf
    refine vp_callSi (va_runV (As := [.int x1]) (rest := []) ⟨hx, hb, hml, hown, hts⟩ (c_X4_lightIn l dC dI cI cZ cP cS h_t_sky h_t_red h_t_blue h_t_red_fitting h_t_red_worstLeft h_t_blue_fitting h_t_blue_worstLeft v_turn v_phase v_up x1 n r17_5 hc_6) (cwV 1 hts gX7_light_X4_lightIn rfl rfl rfl (by decide +kernel) ⟨Nat.le_of_ble_eq_true rfl, Nat.le_of_ble_eq_true rfl⟩) (pv_ro (ci := 4) (q0 := 0) hK (hP.sub (ws' := (wd_X4_lightIn cI cZ cP cS h_t_sky h_t_red h_t_blue h_t_red_fitting h_t_red_worstLeft h_t_blue_fitting h_t_blue_worstLeft v_turn v_phase v_up)) [3, 1, 2] rfl) rfl rfl) rfl rfl hl.1 rfl (lv_room (Nat.le_of_ble_eq_true rfl)) dX7_light_17 ⟨Nat.zero_le _, Nat.zero_le _⟩).run (fun x e_7 => ?_)
    rw [e_7]
    exact W.iret hx hb hr (fun t ht hW => ⟨_, rfl, Option.some.inj hf, ht⟩) (fun _ h => nomatch h) dX7_light_20
  · rw [if_neg c4] at hf
    refine lv_bipush (v := (-2)) hx hb dX7_light_7 (by decide) ?_
    refine lv_goto (tgt := 20) hx hb dX7_light_9 (by decide) ?_
    exact W.iret hx hb hr (fun t ht hW => ⟨_, rfl, Option.some.inj hf, ht⟩) (fun _ h => nomatch h) dX7_light_20

abbrev wd_X7_next (cI cZ cP cS : ClassId) (h_t h_t_red h_t_blue h_t_sky h_t_diary h_t_calendar h_t_awakeIn h_t_worths h_t_plants h_t_sheets h_t_bestFrom h_t_red_fitting h_t_red_worstLeft h_t_blue_fitting h_t_blue_worstLeft : Nat) (v_latestFinding : Int32) (v_turn : Nat → Int32) (v_phase : Nat → Int32) (v_up : Nat → Int32) : va_W := [(h_t, .inr (6, [.ref h_t_red, .ref h_t_blue, .ref h_t_sky, .ref h_t_diary, .ref h_t_calendar, .ref h_t_awakeIn, .ref h_t_worths, .ref h_t_plants, .ref h_t_sheets, .ref h_t_bestFrom, .int v_latestFinding])), (h_t_red, .inr (5, [.int (v_turn 0), .int (v_phase 0), .int (v_up 0), .ref h_t_red_fitting, .ref h_t_red_worstLeft])), (h_t_blue, .inr (5, [.int (v_turn 1), .int (v_phase 1), .int (v_up 1), .ref h_t_blue_fitting, .ref h_t_blue_worstLeft])), (h_t_sky, .inr (4, [.ref h_t_red, .ref h_t_blue]))]
abbrev rm_X7_next : Room := { frames := 3, cells := 0, slots := 0, locals := 66 }
def f_X7_next (n : Nat) (v_turn : Nat → Int32) (v_phase : Nat → Int32) (v_up : Nat → Int32) (x1 : Int32) (x2 : Int32) : Option (Int32) := bd1_ (f_X7_noHour n x1) (fun (r1_1 : Int32) => jn0_ (some (-2)) (fun k14 => if r1_1 = 0 then bd1_ (f_X7_noLight n x2) (fun (r8_5 : Int32) => if r8_5 = 0 then bd1_ (f_X4_firstWith n v_turn v_phase v_up x1 x2) (fun (r25_9 : Int32) => some r25_9) else k14) else k14))
set_option maxHeartbeats 4000000 in
set_option maxRecDepth 100000 in
theorem c_X7_next (l : Launch) (dC : Nat → ClassId) (dI : Nat → Nat → Nat) (cI cZ cP cS : ClassId) (h_t h_t_red h_t_blue h_t_sky h_t_diary h_t_calendar h_t_awakeIn h_t_worths h_t_plants h_t_sheets h_t_bestFrom h_t_red_fitting h_t_red_worstLeft h_t_blue_fitting h_t_blue_worstLeft : Nat) (v_latestFinding : Int32) (v_turn : Nat → Int32) (v_phase : Nat → Int32) (v_up : Nat → Int32) (x1 : Int32) (x2 : Int32) (n : Nat) (r : Int32) (hf : f_X7_next n v_turn v_phase v_up x1 x2 = some r) : Met l yX7_next wsX7_next rm_X7_next (RO (dC, dI) (TY cI cZ cP cS) [.ref h_t, .int x1, .int x2] (wd_X7_next cI cZ cP cS h_t h_t_red h_t_blue h_t_sky h_t_diary h_t_calendar h_t_awakeIn h_t_worths h_t_plants h_t_sheets h_t_bestFrom h_t_red_fitting h_t_red_worstLeft h_t_blue_fitting h_t_blue_worstLeft v_latestFinding v_turn v_phase v_up)) (vp_Si (fun x => x = r)) 0 0 NF := by
  refine Met.ofW (cc := cX7_next) (maxL := 3) (ret := (some .int)) (by decide) rfl ?_
  intro p e s m args below meth c s₁ B hml hv
  obtain ⟨rfl, hP, hK⟩ := hv
  have hx := B.exec
  have hb := B.bytes
  have hr := B.returns
  have hts := atoms_spec (ws := wsX7_next) B.pre
  have hown : s.vm.findClass RX7 = some m.cls := findClass_of_methodNamed B.named
  have hlocks := B.notSynchronized
  have hinX7 : ∀ w ∈ wsX70, w ∈ wsX7_next := by decide +kernel
  have hl := lv_entry ([.ref h_t, .int x1, .int x2]) (n := 3) (Nat.le_of_ble_eq_true rfl)
  rw [lg_entry_eq]
  generalize (lg_sl ([.ref h_t, .int x1, .int x2]) ++ List.replicate (3 - (lg_sl ([.ref h_t, .int x1, .int x2])).length) Slot.unset).toArray = ls at hl ⊢
  have hl : lv_has ls 3 [(0, .ref h_t), (1, .int x1), (2, .int x2)] := hl
  unfold f_X7_next at hf
  refine lv_iload_n hx hb dX7_next_0 rfl (lv_at hl 1 rfl) ?_
  obtain ⟨r1_1, hc_2, hf⟩ := bd1_e hf
  refine vp_callSi (va_runS (As := [.int x1]) (rest := []) ⟨hx, hb, hml, hown, hts⟩ (c_X7_noHour l dC dI cI cZ cP cS   x1 n r1_1 hc_2) (va_cwS 1 hts gX7_next_X7_noHour rfl rfl rfl (by decide +kernel) ⟨Nat.le_of_ble_eq_true rfl, Nat.le_of_ble_eq_true rfl⟩) (ps_ro hK (hP.sub (ws' := ([] : va_W)) [] rfl)) rfl rfl hl.1 rfl (lv_room (Nat.le_of_ble_eq_true rfl)) dX7_next_1 ⟨Nat.zero_le _, Nat.zero_le _⟩).run (fun x e_3 => ?_)
  obtain ⟨e_3, hb_4⟩ := e_3
  rw [e_3] at hb_4 ⊢
  obtain ⟨k14, ek14, hf⟩ := jn0_e hf
  have hj14 : ∀ (ls : Array Slot), lv_has ls 3 [] → k14 = some r → W p l e (headSpec wsX7_next rm_X7_next).room s m ([.ref h_t, .int x1, .int x2] : List Value).toArray below meth c s.heap [] 0 0 (MQ below (vp_Si (fun x => x = r)) ([.ref h_t, .int x1, .int x2] : List Value).toArray s 0 0 NF) (F0 m 14 ls []) := by
    intro ls hl hf
    rw [ek14] at hf
    refine lv_bipush (v := (-2)) hx hb dX7_next_14 (by decide) ?_
    refine lv_goto (tgt := 28) hx hb dX7_next_16 (by decide) ?_
    exact W.iret hx hb hr (fun t ht hW => ⟨_, rfl, Option.some.inj hf, ht⟩) (fun _ h => nomatch h) dX7_next_28
  refine lv_if_ne (tgt := 14) hx hb dX7_next_4 (by decide) (fun c4 => ?_) (fun c4 => ?_)
  · rw [if_neg c4] at hf
    exact hj14 ls (lv_sub hl [] rfl) hf
  · rw [if_pos c4] at hf
    refine lv_iload_n hx hb dX7_next_7 rfl (lv_at hl 2 rfl) ?_
    obtain ⟨r8_5, hc_6, hf⟩ := bd1_e hf
    refine vp_callSi (va_runS (As := [.int x2]) (rest := []) ⟨hx, hb, hml, hown, hts⟩ (c_X7_noLight l dC dI cI cZ cP cS   x2 n r8_5 hc_6) (va_cwS 1 hts gX7_next_X7_noLight rfl rfl rfl (by decide +kernel) ⟨Nat.le_of_ble_eq_true rfl, Nat.le_of_ble_eq_true rfl⟩) (ps_ro hK (hP.sub (ws' := ([] : va_W)) [] rfl)) rfl rfl hl.1 rfl (lv_room (Nat.le_of_ble_eq_true rfl)) dX7_next_8 ⟨Nat.zero_le _, Nat.zero_le _⟩).run (fun x e_7 => ?_)
    obtain ⟨e_7, hb_8⟩ := e_7
    rw [e_7] at hb_8 ⊢
    refine lv_if_eq (tgt := 19) hx hb dX7_next_11 (by decide) (fun c11 => ?_) (fun c11 => ?_)
    · rw [if_pos c11] at hf
      refine lv_aload_n hx hb dX7_next_19 rfl (lv_at hl 0 rfl) ?_
      refine va_get (D := (dC, dI)) (ci := 6) (v := .ref h_t_sky) (C := RX7) (T := TX7) (N := 11) hx hb hts hinX7 hown hK hP 0 rfl rfl 2 (by decide) (hts (.fieldLink RX7 26 "SecondSunrise" "sky" "LSecondSunrise$Sky;") (by decide +kernel)) (fun _ h9 => h9) rfl dX7_next_20 ?_
      refine lv_iload_n hx hb dX7_next_23 rfl (lv_at hl 1 rfl) ?_
      refine lv_iload_n hx hb dX7_next_24 rfl (lv_at hl 2 rfl) ?_
      obtain ⟨r25_9, hc_10, hf⟩ := bd1_e hf
      refine vp_callSi (va_runV (As := [.int x1, .int x2]) (rest := []) ⟨hx, hb, hml, hown, hts⟩ (c_X4_firstWith l dC dI cI cZ cP cS h_t_sky h_t_red h_t_blue h_t_red_fitting h_t_red_worstLeft h_t_blue_fitting h_t_blue_worstLeft v_turn v_phase v_up x1 x2 n r25_9 hc_10) (cwV 2 hts gX7_next_X4_firstWith rfl rfl rfl (by decide +kernel) ⟨Nat.le_of_ble_eq_true rfl, Nat.le_of_ble_eq_true rfl⟩) (pv_ro (ci := 4) (q0 := 0) hK (hP.sub (ws' := (wd_X4_firstWith cI cZ cP cS h_t_sky h_t_red h_t_blue h_t_red_fitting h_t_red_worstLeft h_t_blue_fitting h_t_blue_worstLeft v_turn v_phase v_up)) [3, 1, 2] rfl) rfl rfl) rfl rfl hl.1 rfl (lv_room (Nat.le_of_ble_eq_true rfl)) dX7_next_25 ⟨Nat.zero_le _, Nat.zero_le _⟩).run (fun x e_11 => ?_)
      rw [e_11]
      exact W.iret hx hb hr (fun t ht hW => ⟨_, rfl, Option.some.inj hf, ht⟩) (fun _ h => nomatch h) dX7_next_28
    · rw [if_neg c11] at hf
      exact hj14 ls (lv_sub hl [] rfl) hf

abbrev wd_X7_spells (cI cZ cP cS : ClassId) (h_t h_t_red h_t_blue h_t_sky h_t_diary h_t_calendar h_t_awakeIn h_t_worths h_t_plants h_t_sheets h_t_bestFrom h_t_red_fitting h_t_red_worstLeft h_t_blue_fitting h_t_blue_worstLeft : Nat) (v_latestFinding : Int32) (v_turn : Nat → Int32) (v_phase : Nat → Int32) (v_up : Nat → Int32) : va_W := [(h_t, .inr (6, [.ref h_t_red, .ref h_t_blue, .ref h_t_sky, .ref h_t_diary, .ref h_t_calendar, .ref h_t_awakeIn, .ref h_t_worths, .ref h_t_plants, .ref h_t_sheets, .ref h_t_bestFrom, .int v_latestFinding])), (h_t_red, .inr (5, [.int (v_turn 0), .int (v_phase 0), .int (v_up 0), .ref h_t_red_fitting, .ref h_t_red_worstLeft])), (h_t_blue, .inr (5, [.int (v_turn 1), .int (v_phase 1), .int (v_up 1), .ref h_t_blue_fitting, .ref h_t_blue_worstLeft])), (h_t_sky, .inr (4, [.ref h_t_red, .ref h_t_blue]))]
abbrev rm_X7_spells : Room := { frames := 3, cells := 0, slots := 0, locals := 67 }
def f_X7_spells (n : Nat) (v_turn : Nat → Int32) (v_phase : Nat → Int32) (v_up : Nat → Int32) (x1 : Int32) (x2 : Int32) : Option (Int32) := bd1_ (f_X7_noLight n x1) (fun (r1_1 : Int32) => if r1_1 = 0 then if x2 = 0 then bd1_ (f_X4_hoursWith n v_turn v_phase v_up x1) (fun (r41_5 : Int32) => some r41_5) else if x2 = 1 then bd1_ (f_X4_rowsOf n v_turn v_phase v_up x1) (fun (r50_8 : Int32) => some r50_8) else if x2 = 2 then bd1_ (f_X4_longestRowOf n v_turn v_phase v_up x1) (fun (r59_11 : Int32) => some r59_11) else some (-2) else some (-2))
set_option maxHeartbeats 4000000 in
set_option maxRecDepth 100000 in
theorem c_X7_spells (l : Launch) (dC : Nat → ClassId) (dI : Nat → Nat → Nat) (cI cZ cP cS : ClassId) (h_t h_t_red h_t_blue h_t_sky h_t_diary h_t_calendar h_t_awakeIn h_t_worths h_t_plants h_t_sheets h_t_bestFrom h_t_red_fitting h_t_red_worstLeft h_t_blue_fitting h_t_blue_worstLeft : Nat) (v_latestFinding : Int32) (v_turn : Nat → Int32) (v_phase : Nat → Int32) (v_up : Nat → Int32) (x1 : Int32) (x2 : Int32) (n : Nat) (r : Int32) (hf : f_X7_spells n v_turn v_phase v_up x1 x2 = some r) : Met l yX7_spells wsX7_spells rm_X7_spells (RO (dC, dI) (TY cI cZ cP cS) [.ref h_t, .int x1, .int x2] (wd_X7_spells cI cZ cP cS h_t h_t_red h_t_blue h_t_sky h_t_diary h_t_calendar h_t_awakeIn h_t_worths h_t_plants h_t_sheets h_t_bestFrom h_t_red_fitting h_t_red_worstLeft h_t_blue_fitting h_t_blue_worstLeft v_latestFinding v_turn v_phase v_up)) (vp_Si (fun x => x = r)) 0 0 NF := by
  refine Met.ofW (cc := cX7_spells) (maxL := 3) (ret := (some .int)) (by decide) rfl ?_
  intro p e s m args below meth c s₁ B hml hv
  obtain ⟨rfl, hP, hK⟩ := hv
  have hx := B.exec
  have hb := B.bytes
  have hr := B.returns
  have hts := atoms_spec (ws := wsX7_spells) B.pre
  have hown : s.vm.findClass RX7 = some m.cls := findClass_of_methodNamed B.named
  have hlocks := B.notSynchronized
  have hinX7 : ∀ w ∈ wsX70, w ∈ wsX7_spells := by decide +kernel
  have hl := lv_entry ([.ref h_t, .int x1, .int x2]) (n := 3) (Nat.le_of_ble_eq_true rfl)
  rw [lg_entry_eq]
  generalize (lg_sl ([.ref h_t, .int x1, .int x2]) ++ List.replicate (3 - (lg_sl ([.ref h_t, .int x1, .int x2])).length) Slot.unset).toArray = ls at hl ⊢
  have hl : lv_has ls 3 [(0, .ref h_t), (1, .int x1), (2, .int x2)] := hl
  unfold f_X7_spells at hf
  refine lv_iload_n hx hb dX7_spells_0 rfl (lv_at hl 1 rfl) ?_
  obtain ⟨r1_1, hc_2, hf⟩ := bd1_e hf
  refine vp_callSi (va_runS (As := [.int x1]) (rest := []) ⟨hx, hb, hml, hown, hts⟩ (c_X7_noLight l dC dI cI cZ cP cS   x1 n r1_1 hc_2) (va_cwS 1 hts gX7_spells_X7_noLight rfl rfl rfl (by decide +kernel) ⟨Nat.le_of_ble_eq_true rfl, Nat.le_of_ble_eq_true rfl⟩) (ps_ro hK (hP.sub (ws' := ([] : va_W)) [] rfl)) rfl rfl hl.1 rfl (lv_room (Nat.le_of_ble_eq_true rfl)) dX7_spells_1 ⟨Nat.zero_le _, Nat.zero_le _⟩).run (fun x e_3 => ?_)
  obtain ⟨e_3, hb_4⟩ := e_3
  rw [e_3] at hb_4 ⊢
  refine lv_if_eq (tgt := 10) hx hb dX7_spells_4 (by decide) (fun c4 => ?_) (fun c4 => ?_)
  · rw [if_pos c4] at hf
    refine lv_iload_n hx hb dX7_spells_10 rfl (lv_at hl 2 rfl) ?_
    by_cases c11_0 : x2 = 0
    · rw [if_pos c11_0] at hf
      refine lv_tableIn (off := 25) (tgt := 36) hx hb dX7_spells_11 (by rw [c11_0]; decide) (by rw [c11_0]; decide) (by rw [c11_0]; decide) (by decide) ?_
      refine lv_aload_n hx hb dX7_spells_36 rfl (lv_at hl 0 rfl) ?_
      refine va_get (D := (dC, dI)) (ci := 6) (v := .ref h_t_sky) (C := RX7) (T := TX7) (N := 11) hx hb hts hinX7 hown hK hP 0 rfl rfl 2 (by decide) (hts (.fieldLink RX7 26 "SecondSunrise" "sky" "LSecondSunrise$Sky;") (by decide +kernel)) (fun _ h9 => h9) rfl dX7_spells_37 ?_
      refine lv_iload_n hx hb dX7_spells_40 rfl (lv_at hl 1 rfl) ?_
      obtain ⟨r41_5, hc_6, hf⟩ := bd1_e hf
      refine vp_callSi (va_runV (As := [.int x1]) (rest := []) ⟨hx, hb, hml, hown, hts⟩ (c_X4_hoursWith l dC dI cI cZ cP cS h_t_sky h_t_red h_t_blue h_t_red_fitting h_t_red_worstLeft h_t_blue_fitting h_t_blue_worstLeft v_turn v_phase v_up x1 n r41_5 hc_6) (cwV 1 hts gX7_spells_X4_hoursWith rfl rfl rfl (by decide +kernel) ⟨Nat.le_of_ble_eq_true rfl, Nat.le_of_ble_eq_true rfl⟩) (pv_ro (ci := 4) (q0 := 0) hK (hP.sub (ws' := (wd_X4_hoursWith cI cZ cP cS h_t_sky h_t_red h_t_blue h_t_red_fitting h_t_red_worstLeft h_t_blue_fitting h_t_blue_worstLeft v_turn v_phase v_up)) [3, 1, 2] rfl) rfl rfl) rfl rfl hl.1 rfl (lv_room (Nat.le_of_ble_eq_true rfl)) dX7_spells_41 ⟨Nat.zero_le _, Nat.zero_le _⟩).run (fun x e_7 => ?_)
      rw [e_7]
      exact W.iret hx hb hr (fun t ht hW => ⟨_, rfl, Option.some.inj hf, ht⟩) (fun _ h => nomatch h) dX7_spells_44
    · rw [if_neg c11_0] at hf
      by_cases c11_1 : x2 = 1
      · rw [if_pos c11_1] at hf
        refine lv_tableIn (off := 34) (tgt := 45) hx hb dX7_spells_11 (by rw [c11_1]; decide) (by rw [c11_1]; decide) (by rw [c11_1]; decide) (by decide) ?_
        refine lv_aload_n hx hb dX7_spells_45 rfl (lv_at hl 0 rfl) ?_
        refine va_get (D := (dC, dI)) (ci := 6) (v := .ref h_t_sky) (C := RX7) (T := TX7) (N := 11) hx hb hts hinX7 hown hK hP 0 rfl rfl 2 (by decide) (hts (.fieldLink RX7 26 "SecondSunrise" "sky" "LSecondSunrise$Sky;") (by decide +kernel)) (fun _ h9 => h9) rfl dX7_spells_46 ?_
        refine lv_iload_n hx hb dX7_spells_49 rfl (lv_at hl 1 rfl) ?_
        obtain ⟨r50_8, hc_9, hf⟩ := bd1_e hf
        refine vp_callSi (va_runV (As := [.int x1]) (rest := []) ⟨hx, hb, hml, hown, hts⟩ (c_X4_rowsOf l dC dI cI cZ cP cS h_t_sky h_t_red h_t_blue h_t_red_fitting h_t_red_worstLeft h_t_blue_fitting h_t_blue_worstLeft v_turn v_phase v_up x1 n r50_8 hc_9) (cwV 1 hts gX7_spells_X4_rowsOf rfl rfl rfl (by decide +kernel) ⟨Nat.le_of_ble_eq_true rfl, Nat.le_of_ble_eq_true rfl⟩) (pv_ro (ci := 4) (q0 := 0) hK (hP.sub (ws' := (wd_X4_rowsOf cI cZ cP cS h_t_sky h_t_red h_t_blue h_t_red_fitting h_t_red_worstLeft h_t_blue_fitting h_t_blue_worstLeft v_turn v_phase v_up)) [3, 1, 2] rfl) rfl rfl) rfl rfl hl.1 rfl (lv_room (Nat.le_of_ble_eq_true rfl)) dX7_spells_50 ⟨Nat.zero_le _, Nat.zero_le _⟩).run (fun x e_10 => ?_)
        rw [e_10]
        exact W.iret hx hb hr (fun t ht hW => ⟨_, rfl, Option.some.inj hf, ht⟩) (fun _ h => nomatch h) dX7_spells_53
      · rw [if_neg c11_1] at hf
        by_cases c11_2 : x2 = 2
        · rw [if_pos c11_2] at hf
          refine lv_tableIn (off := 43) (tgt := 54) hx hb dX7_spells_11 (by rw [c11_2]; decide) (by rw [c11_2]; decide) (by rw [c11_2]; decide) (by decide) ?_
          refine lv_aload_n hx hb dX7_spells_54 rfl (lv_at hl 0 rfl) ?_
          refine va_get (D := (dC, dI)) (ci := 6) (v := .ref h_t_sky) (C := RX7) (T := TX7) (N := 11) hx hb hts hinX7 hown hK hP 0 rfl rfl 2 (by decide) (hts (.fieldLink RX7 26 "SecondSunrise" "sky" "LSecondSunrise$Sky;") (by decide +kernel)) (fun _ h9 => h9) rfl dX7_spells_55 ?_
          refine lv_iload_n hx hb dX7_spells_58 rfl (lv_at hl 1 rfl) ?_
          obtain ⟨r59_11, hc_12, hf⟩ := bd1_e hf
          refine vp_callSi (va_runV (As := [.int x1]) (rest := []) ⟨hx, hb, hml, hown, hts⟩ (c_X4_longestRowOf l dC dI cI cZ cP cS h_t_sky h_t_red h_t_blue h_t_red_fitting h_t_red_worstLeft h_t_blue_fitting h_t_blue_worstLeft v_turn v_phase v_up x1 n r59_11 hc_12) (cwV 1 hts gX7_spells_X4_longestRowOf rfl rfl rfl (by decide +kernel) ⟨Nat.le_of_ble_eq_true rfl, Nat.le_of_ble_eq_true rfl⟩) (pv_ro (ci := 4) (q0 := 0) hK (hP.sub (ws' := (wd_X4_longestRowOf cI cZ cP cS h_t_sky h_t_red h_t_blue h_t_red_fitting h_t_red_worstLeft h_t_blue_fitting h_t_blue_worstLeft v_turn v_phase v_up)) [3, 1, 2] rfl) rfl rfl) rfl rfl hl.1 rfl (lv_room (Nat.le_of_ble_eq_true rfl)) dX7_spells_59 ⟨Nat.zero_le _, Nat.zero_le _⟩).run (fun x e_13 => ?_)
          rw [e_13]
          exact W.iret hx hb hr (fun t ht hW => ⟨_, rfl, Option.some.inj hf, ht⟩) (fun _ h => nomatch h) dX7_spells_62
        · rw [if_neg c11_2] at hf
          refine lv_tableOut (tgt := 63) hx hb dX7_spells_11 (sw2 c11_0 c11_1 c11_2) (by decide) ?_
          refine lv_bipush (v := (-2)) hx hb dX7_spells_63 (by decide) ?_
          exact W.iret hx hb hr (fun t ht hW => ⟨_, rfl, Option.some.inj hf, ht⟩) (fun _ h => nomatch h) dX7_spells_65
  · rw [if_neg c4] at hf
    refine lv_bipush (v := (-2)) hx hb dX7_spells_7 (by decide) ?_
    exact W.iret hx hb hr (fun t ht hW => ⟨_, rfl, Option.some.inj hf, ht⟩) (fun _ h => nomatch h) dX7_spells_9

abbrev wd_X7_mixedLights (cI cZ cP cS : ClassId) (h_t h_t_red h_t_blue h_t_sky h_t_diary h_t_calendar h_t_awakeIn h_t_worths h_t_plants h_t_sheets h_t_bestFrom h_t_red_fitting h_t_red_worstLeft h_t_blue_fitting h_t_blue_worstLeft : Nat) (v_latestFinding : Int32) (v_turn : Nat → Int32) (v_phase : Nat → Int32) (v_up : Nat → Int32) : va_W := [(h_t, .inr (6, [.ref h_t_red, .ref h_t_blue, .ref h_t_sky, .ref h_t_diary, .ref h_t_calendar, .ref h_t_awakeIn, .ref h_t_worths, .ref h_t_plants, .ref h_t_sheets, .ref h_t_bestFrom, .int v_latestFinding])), (h_t_red, .inr (5, [.int (v_turn 0), .int (v_phase 0), .int (v_up 0), .ref h_t_red_fitting, .ref h_t_red_worstLeft])), (h_t_blue, .inr (5, [.int (v_turn 1), .int (v_phase 1), .int (v_up 1), .ref h_t_blue_fitting, .ref h_t_blue_worstLeft])), (h_t_sky, .inr (4, [.ref h_t_red, .ref h_t_blue]))]
abbrev rm_X7_mixedLights : Room := { frames := 4, cells := 0, slots := 0, locals := 89 }
def L_X7_mixedLights_28 (n : Nat) (v_turn : Nat → Int32) (v_phase : Nat → Int32) (v_up : Nat → Int32) (y5_5 : Int32) (kx28 : Int64 → Option (Int64)) : Nat → Int64 → Int32 → Option (Int64)
  | 0, _, _ => none
  | k28 + 1, y28_3, y28_6 => if (2 : Int32) < y28_6 then kx28 y28_3 else bd1_ (f_X7_spells n v_turn v_phase v_up y5_5 y28_6) (fun (r40_7 : Int32) => bd1_ (f_X7_mixed n y28_3 (r40_7.toInt64)) (fun (r44_10 : Int64) => L_X7_mixedLights_28 n v_turn v_phase v_up y5_5 kx28 k28 r44_10 (y28_6 + 1)))
theorem L_X7_mixedLights_28_s (n : Nat) (v_turn : Nat → Int32) (v_phase : Nat → Int32) (v_up : Nat → Int32) (y5_5 : Int32) (kx28 : Int64 → Option (Int64)) (k28 : Nat) (y28_3 : Int64) (y28_6 : Int32) : L_X7_mixedLights_28 n v_turn v_phase v_up y5_5 kx28 (k28 + 1) y28_3 y28_6 = if (2 : Int32) < y28_6 then kx28 y28_3 else bd1_ (f_X7_spells n v_turn v_phase v_up y5_5 y28_6) (fun (r40_7 : Int32) => bd1_ (f_X7_mixed n y28_3 (r40_7.toInt64)) (fun (r44_10 : Int64) => L_X7_mixedLights_28 n v_turn v_phase v_up y5_5 kx28 k28 r44_10 (y28_6 + 1))) := rfl
def L_X7_mixedLights_5 (n : Nat) (v_turn : Nat → Int32) (v_phase : Nat → Int32) (v_up : Nat → Int32) (kx5 : Int64 → Option (Int64)) : Nat → Int64 → Int32 → Option (Int64)
  | 0, _, _ => none
  | k5 + 1, y5_3, y5_5 => if (4 : Int32) ≤ y5_5 then kx5 y5_3 else bd1_ (f_X7_next n v_turn v_phase v_up 50 y5_5) (fun (r17_1 : Int32) => bd1_ (f_X7_mixed n y5_3 (r17_1.toInt64)) (fun (r21_4 : Int64) => jn1_ (fun (z28_3 : Int64) => L_X7_mixedLights_5 n v_turn v_phase v_up kx5 k5 z28_3 (y5_5 + 1)) (fun kx28 => L_X7_mixedLights_28 n v_turn v_phase v_up y5_5 kx28 n r21_4 0)))
theorem L_X7_mixedLights_5_s (n : Nat) (v_turn : Nat → Int32) (v_phase : Nat → Int32) (v_up : Nat → Int32) (kx5 : Int64 → Option (Int64)) (k5 : Nat) (y5_3 : Int64) (y5_5 : Int32) : L_X7_mixedLights_5 n v_turn v_phase v_up kx5 (k5 + 1) y5_3 y5_5 = if (4 : Int32) ≤ y5_5 then kx5 y5_3 else bd1_ (f_X7_next n v_turn v_phase v_up 50 y5_5) (fun (r17_1 : Int32) => bd1_ (f_X7_mixed n y5_3 (r17_1.toInt64)) (fun (r21_4 : Int64) => jn1_ (fun (z28_3 : Int64) => L_X7_mixedLights_5 n v_turn v_phase v_up kx5 k5 z28_3 (y5_5 + 1)) (fun kx28 => L_X7_mixedLights_28 n v_turn v_phase v_up y5_5 kx28 n r21_4 0))) := rfl
def f_X7_mixedLights (n : Nat) (v_turn : Nat → Int32) (v_phase : Nat → Int32) (v_up : Nat → Int32) (x1 : Int64) : Option (Int64) := jn1_ (fun (z5_3 : Int64) => some z5_3) (fun kx5 => L_X7_mixedLights_5 n v_turn v_phase v_up kx5 n x1 0)
set_option maxHeartbeats 4000000 in
set_option maxRecDepth 100000 in
theorem c_X7_mixedLights (l : Launch) (dC : Nat → ClassId) (dI : Nat → Nat → Nat) (cI cZ cP cS : ClassId) (h_t h_t_red h_t_blue h_t_sky h_t_diary h_t_calendar h_t_awakeIn h_t_worths h_t_plants h_t_sheets h_t_bestFrom h_t_red_fitting h_t_red_worstLeft h_t_blue_fitting h_t_blue_worstLeft : Nat) (v_latestFinding : Int32) (v_turn : Nat → Int32) (v_phase : Nat → Int32) (v_up : Nat → Int32) (x1 : Int64) (n : Nat) (r : Int64) (hf : f_X7_mixedLights n v_turn v_phase v_up x1 = some r) : Met l yX7_mixedLights wsX7_mixedLights rm_X7_mixedLights (RO (dC, dI) (TY cI cZ cP cS) [.ref h_t, .long x1] (wd_X7_mixedLights cI cZ cP cS h_t h_t_red h_t_blue h_t_sky h_t_diary h_t_calendar h_t_awakeIn h_t_worths h_t_plants h_t_sheets h_t_bestFrom h_t_red_fitting h_t_red_worstLeft h_t_blue_fitting h_t_blue_worstLeft v_latestFinding v_turn v_phase v_up)) (vp_Sl (fun x => x = r)) 0 0 NF := by
  refine Met.ofW (cc := cX7_mixedLights) (maxL := 7) (ret := (some .long)) (by decide) rfl ?_
  intro p e s m args below meth c s₁ B hml hv
  obtain ⟨rfl, hP, hK⟩ := hv
  have hx := B.exec
  have hb := B.bytes
  have hr := B.returns
  have hts := atoms_spec (ws := wsX7_mixedLights) B.pre
  have hown : s.vm.findClass RX7 = some m.cls := findClass_of_methodNamed B.named
  have hlocks := B.notSynchronized
  have hl := lv_entry ([.ref h_t, .long x1]) (n := 7) (Nat.le_of_ble_eq_true rfl)
  rw [lg_entry_eq]
  generalize (lg_sl ([.ref h_t, .long x1]) ++ List.replicate (7 - (lg_sl ([.ref h_t, .long x1])).length) Slot.unset).toArray = ls at hl ⊢
  have hl : lv_has ls 7 [(0, .ref h_t), (1, .long x1)] := hl
  unfold f_X7_mixedLights at hf
  refine lv_lload_n hx hb dX7_mixedLights_0 rfl (lv_at hl 1 rfl) ?_
  refine lv_lstore_n (lv' := [(3, .long x1), (0, .ref h_t), (1, .long x1)]) hx hb dX7_mixedLights_1 rfl hl (by decide) rfl (fun ls hl => ?_)
  refine lv_iconst (v := 0) hx hb dX7_mixedLights_2 (by decide) ?_
  refine lv_istore (lv' := [(5, .int 0), (3, .long x1), (0, .ref h_t), (1, .long x1)]) hx hb dX7_mixedLights_3 hl (by decide) rfl (fun ls hl => ?_)
  obtain ⟨kx5, ekx5, hf⟩ := jn1_e hf
  have hx5 : ∀ (z5_3 : Int64) (ls : Array Slot), lv_has ls 7 [(3, .long z5_3)] → kx5 z5_3 = some r → W p l e (headSpec wsX7_mixedLights rm_X7_mixedLights).room s m ([.ref h_t, .long x1] : List Value).toArray below meth c s.heap [] 0 0 (MQ below (vp_Sl (fun x => x = r)) ([.ref h_t, .long x1] : List Value).toArray s 0 0 NF) (F0 m 60 ls []) := by
    intro z5_3 ls hl hf
    rw [ekx5] at hf
    refine lv_lload_n hx hb dX7_mixedLights_60 rfl (lv_at hl 0 rfl) ?_
    exact W.lret hx hb hr (fun t ht hW => ⟨_, rfl, Option.some.inj hf, ht⟩) (fun _ h => nomatch h) dX7_mixedLights_61
  have hL5 : ∀ (k5 : Nat) (y5_3 : Int64) (y5_5 : Int32) (ls : Array Slot), lv_has ls 7 [(0, .ref h_t), (3, .long y5_3), (5, .int y5_5)] → L_X7_mixedLights_5 n v_turn v_phase v_up kx5 k5 y5_3 y5_5 = some r → W p l e (headSpec wsX7_mixedLights rm_X7_mixedLights).room s m ([.ref h_t, .long x1] : List Value).toArray below meth c s.heap [] 0 0 (MQ below (vp_Sl (fun x => x = r)) ([.ref h_t, .long x1] : List Value).toArray s 0 0 NF) (F0 m 5 ls []) := by
    intro k5
    induction k5 with
    | zero =>
      intro y5_3 y5_5 ls hl hf
      exact absurd hf (fun h => Option.some_ne_none _ h.symm)
    | succ k5 ih =>
      intro y5_3 y5_5 ls hl hf
      rw [L_X7_mixedLights_5_s] at hf
      refine lv_iload hx hb dX7_mixedLights_5 (lv_at hl 2 rfl) ?_
      refine lv_iconst (v := 4) hx hb dX7_mixedLights_7 (by decide) ?_
      refine lv_icmp_ge (tgt := 60) hx hb dX7_mixedLights_8 (by decide) (fun c8 => ?_) (fun c8 => ?_)
      · rw [if_pos c8] at hf
        exact hx5 y5_3 ls (lv_sub hl [1] rfl) hf
      · rw [if_neg c8] at hf
        refine lv_lload_n hx hb dX7_mixedLights_11 rfl (lv_at hl 1 rfl) ?_
        refine lv_aload_n hx hb dX7_mixedLights_12 rfl (lv_at hl 0 rfl) ?_
        refine lv_bipush (v := 50) hx hb dX7_mixedLights_13 (by decide) ?_
        refine lv_iload hx hb dX7_mixedLights_15 (lv_at hl 2 rfl) ?_
        obtain ⟨r17_1, hc_2, hf⟩ := bd1_e hf
        refine vp_callSi (va_runV (As := [.int 50, .int y5_5]) (rest := [.long y5_3]) ⟨hx, hb, hml, hown, hts⟩ (c_X7_next l dC dI cI cZ cP cS h_t h_t_red h_t_blue h_t_sky h_t_diary h_t_calendar h_t_awakeIn h_t_worths h_t_plants h_t_sheets h_t_bestFrom h_t_red_fitting h_t_red_worstLeft h_t_blue_fitting h_t_blue_worstLeft v_latestFinding v_turn v_phase v_up 50 y5_5 n r17_1 hc_2) (cwV 2 hts gX7_mixedLights_X7_next rfl rfl rfl (by decide +kernel) ⟨Nat.le_of_ble_eq_true rfl, Nat.le_of_ble_eq_true rfl⟩) (pv_ro (ci := 6) (q0 := 0) hK (hP.sub (ws' := (wd_X7_next cI cZ cP cS h_t h_t_red h_t_blue h_t_sky h_t_diary h_t_calendar h_t_awakeIn h_t_worths h_t_plants h_t_sheets h_t_bestFrom h_t_red_fitting h_t_red_worstLeft h_t_blue_fitting h_t_blue_worstLeft v_latestFinding v_turn v_phase v_up)) [0, 1, 2, 3] rfl) rfl rfl) rfl rfl hl.1 rfl (lv_room (Nat.le_of_ble_eq_true rfl)) dX7_mixedLights_17 ⟨Nat.zero_le _, Nat.zero_le _⟩).run (fun x e_3 => ?_)
        rw [e_3]
        refine lv_i2l (v := r17_1.toInt64) hx hb dX7_mixedLights_20 rfl ?_
        obtain ⟨r21_4, hc_5, hf⟩ := bd1_e hf
        refine vp_callSl (va_runS (As := [.long y5_3, .long (r17_1.toInt64)]) (rest := []) ⟨hx, hb, hml, hown, hts⟩ (c_X7_mixed l dC dI cI cZ cP cS   y5_3 (r17_1.toInt64) n r21_4 hc_5) (va_cwS 2 hts gX7_mixedLights_X7_mixed rfl rfl rfl (by decide +kernel) ⟨Nat.le_of_ble_eq_true rfl, Nat.le_of_ble_eq_true rfl⟩) (ps_ro hK (hP.sub (ws' := ([] : va_W)) [] rfl)) rfl rfl hl.1 rfl (lv_room (Nat.le_of_ble_eq_true rfl)) dX7_mixedLights_21 ⟨Nat.zero_le _, Nat.zero_le _⟩).run (fun x e_6 => ?_)
        rw [e_6]
        refine lv_lstore_n (lv' := [(3, .long r21_4), (0, .ref h_t), (5, .int y5_5)]) hx hb dX7_mixedLights_24 rfl hl (by decide) rfl (fun ls hl => ?_)
        refine lv_iconst (v := 0) hx hb dX7_mixedLights_25 (by decide) ?_
        refine lv_istore (lv' := [(6, .int 0), (3, .long r21_4), (0, .ref h_t), (5, .int y5_5)]) hx hb dX7_mixedLights_26 hl (by decide) rfl (fun ls hl => ?_)
        obtain ⟨kx28, ekx28, hf⟩ := jn1_e hf
        have hx28 : ∀ (z28_3 : Int64) (ls : Array Slot), lv_has ls 7 [(0, .ref h_t), (3, .long z28_3), (5, .int y5_5)] → kx28 z28_3 = some r → W p l e (headSpec wsX7_mixedLights rm_X7_mixedLights).room s m ([.ref h_t, .long x1] : List Value).toArray below meth c s.heap [] 0 0 (MQ below (vp_Sl (fun x => x = r)) ([.ref h_t, .long x1] : List Value).toArray s 0 0 NF) (F0 m 54 ls []) := by
          intro z28_3 ls hl hf
          rw [ekx28] at hf
          refine lv_iinc (v := (y5_5 + 1)) (lv' := [(5, .int (y5_5 + 1)), (0, .ref h_t), (3, .long z28_3)]) hx hb dX7_mixedLights_54 hl (k := 2) rfl rfl (by decide) rfl (fun ls hl => ?_)
          refine lv_goto (tgt := 5) hx hb dX7_mixedLights_57 (by decide) ?_
          exact ih z28_3 (y5_5 + 1) ls (lv_sub hl [1, 2, 0] rfl) hf
        have hL28 : ∀ (k28 : Nat) (y28_3 : Int64) (y28_6 : Int32) (ls : Array Slot), lv_has ls 7 [(0, .ref h_t), (3, .long y28_3), (5, .int y5_5), (6, .int y28_6)] → L_X7_mixedLights_28 n v_turn v_phase v_up y5_5 kx28 k28 y28_3 y28_6 = some r → W p l e (headSpec wsX7_mixedLights rm_X7_mixedLights).room s m ([.ref h_t, .long x1] : List Value).toArray below meth c s.heap [] 0 0 (MQ below (vp_Sl (fun x => x = r)) ([.ref h_t, .long x1] : List Value).toArray s 0 0 NF) (F0 m 28 ls []) := by
          intro k28
          induction k28 with
          | zero =>
            intro y28_3 y28_6 ls hl hf
            exact absurd hf (fun h => Option.some_ne_none _ h.symm)
          | succ k28 ih =>
            intro y28_3 y28_6 ls hl hf
            rw [L_X7_mixedLights_28_s] at hf
            refine lv_iload hx hb dX7_mixedLights_28 (lv_at hl 3 rfl) ?_
            refine lv_iconst (v := 2) hx hb dX7_mixedLights_30 (by decide) ?_
            refine lv_icmp_gt (tgt := 54) hx hb dX7_mixedLights_31 (by decide) (fun c31 => ?_) (fun c31 => ?_)
            · rw [if_pos c31] at hf
              exact hx28 y28_3 ls (lv_sub hl [0, 1, 2] rfl) hf
            · rw [if_neg c31] at hf
              refine lv_lload_n hx hb dX7_mixedLights_34 rfl (lv_at hl 1 rfl) ?_
              refine lv_aload_n hx hb dX7_mixedLights_35 rfl (lv_at hl 0 rfl) ?_
              refine lv_iload hx hb dX7_mixedLights_36 (lv_at hl 2 rfl) ?_
              refine lv_iload hx hb dX7_mixedLights_38 (lv_at hl 3 rfl) ?_
              obtain ⟨r40_7, hc_8, hf⟩ := bd1_e hf
              refine vp_callSi (va_runV (As := [.int y5_5, .int y28_6]) (rest := [.long y28_3]) ⟨hx, hb, hml, hown, hts⟩ (c_X7_spells l dC dI cI cZ cP cS h_t h_t_red h_t_blue h_t_sky h_t_diary h_t_calendar h_t_awakeIn h_t_worths h_t_plants h_t_sheets h_t_bestFrom h_t_red_fitting h_t_red_worstLeft h_t_blue_fitting h_t_blue_worstLeft v_latestFinding v_turn v_phase v_up y5_5 y28_6 n r40_7 hc_8) (cwV 2 hts gX7_mixedLights_X7_spells rfl rfl rfl (by decide +kernel) ⟨Nat.le_of_ble_eq_true rfl, Nat.le_of_ble_eq_true rfl⟩) (pv_ro (ci := 6) (q0 := 0) hK (hP.sub (ws' := (wd_X7_spells cI cZ cP cS h_t h_t_red h_t_blue h_t_sky h_t_diary h_t_calendar h_t_awakeIn h_t_worths h_t_plants h_t_sheets h_t_bestFrom h_t_red_fitting h_t_red_worstLeft h_t_blue_fitting h_t_blue_worstLeft v_latestFinding v_turn v_phase v_up)) [0, 1, 2, 3] rfl) rfl rfl) rfl rfl hl.1 rfl (lv_room (Nat.le_of_ble_eq_true rfl)) dX7_mixedLights_40 ⟨Nat.zero_le _, Nat.zero_le _⟩).run (fun x e_9 => ?_)
              rw [e_9]
              refine lv_i2l (v := r40_7.toInt64) hx hb dX7_mixedLights_43 rfl ?_
              obtain ⟨r44_10, hc_11, hf⟩ := bd1_e hf
              refine vp_callSl (va_runS (As := [.long y28_3, .long (r40_7.toInt64)]) (rest := []) ⟨hx, hb, hml, hown, hts⟩ (c_X7_mixed l dC dI cI cZ cP cS   y28_3 (r40_7.toInt64) n r44_10 hc_11) (va_cwS 2 hts gX7_mixedLights_X7_mixed rfl rfl rfl (by decide +kernel) ⟨Nat.le_of_ble_eq_true rfl, Nat.le_of_ble_eq_true rfl⟩) (ps_ro hK (hP.sub (ws' := ([] : va_W)) [] rfl)) rfl rfl hl.1 rfl (lv_room (Nat.le_of_ble_eq_true rfl)) dX7_mixedLights_44 ⟨Nat.zero_le _, Nat.zero_le _⟩).run (fun x e_12 => ?_)
              rw [e_12]
              refine lv_lstore_n (lv' := [(3, .long r44_10), (0, .ref h_t), (5, .int y5_5), (6, .int y28_6)]) hx hb dX7_mixedLights_47 rfl hl (by decide) rfl (fun ls hl => ?_)
              refine lv_iinc (v := (y28_6 + 1)) (lv' := [(6, .int (y28_6 + 1)), (3, .long r44_10), (0, .ref h_t), (5, .int y5_5)]) hx hb dX7_mixedLights_48 hl (k := 3) rfl rfl (by decide) rfl (fun ls hl => ?_)
              refine lv_goto (tgt := 28) hx hb dX7_mixedLights_51 (by decide) ?_
              exact ih r44_10 (y28_6 + 1) ls (lv_sub hl [2, 1, 3, 0] rfl) hf
        exact hL28 n r21_4 0 ls (lv_sub hl [2, 1, 3, 0] rfl) hf
  exact hL5 n x1 0 ls (lv_sub hl [2, 1, 0] rfl) hf

abbrev wd_X7_driftByCalendar (cI cZ cP cS : ClassId) (h_t h_t_red h_t_blue h_t_sky h_t_diary h_t_calendar h_t_awakeIn h_t_worths h_t_plants h_t_sheets h_t_bestFrom h_t_calendar_bytes h_a1 h_a1_fitting h_a1_worstLeft : Nat) (v_latestFinding : Int32) (v_csize : Int32) (v_cbytes : Nat → Int32) (v_aturn : Int32) (v_aphase : Int32) (v_aup : Int32) : va_W := [(h_t, .inr (6, [.ref h_t_red, .ref h_t_blue, .ref h_t_sky, .ref h_t_diary, .ref h_t_calendar, .ref h_t_awakeIn, .ref h_t_worths, .ref h_t_plants, .ref h_t_sheets, .ref h_t_bestFrom, .int v_latestFinding])), (h_t_calendar, .inr (0, [.ref h_t_calendar_bytes, .int v_csize])), (h_t_calendar_bytes, .inl (cI, 20, .inl v_cbytes)), (h_a1, .inr (5, [.int v_aturn, .int v_aphase, .int v_aup, .ref h_a1_fitting, .ref h_a1_worstLeft]))]
abbrev rm_X7_driftByCalendar : Room := { frames := 2, cells := 0, slots := 0, locals := 43 }
def L_X7_driftByCalendar_12 (n : Nat) (v_csize : Int32) (v_cbytes : Nat → Int32) (v_aturn : Int32) (v_aphase : Int32) (x2 : Int32) (x3 : Int32) (kx12 : Int32 → Option (Int32)) : Nat → Int32 → Int32 → Int32 → Int32 → Option (Int32)
  | 0, _, _, _, _ => none
  | k12 + 1, y12_4, y12_5, y12_6, y12_7 => if x2 ≤ y12_7 then kx12 y12_4 else bd1_ (f_X5_awayFromRise n v_aturn v_aphase y12_5) (fun (r23_1 : Int32) => bd1_ (f_X0_lengthOf n v_csize v_cbytes y12_6) (fun (r39_4 : Int32) => lt_ ((if x3 ≤ (y12_6 + 1) then 0 else (y12_6 + 1)) : Int32) (fun v61_7 => L_X7_driftByCalendar_12 n v_csize v_cbytes v_aturn v_aphase x2 x3 kx12 k12 (if y12_4 < r23_1 then r23_1 else y12_4) (y12_5 + r39_4) v61_7 (y12_7 + 1))))
theorem L_X7_driftByCalendar_12_s (n : Nat) (v_csize : Int32) (v_cbytes : Nat → Int32) (v_aturn : Int32) (v_aphase : Int32) (x2 : Int32) (x3 : Int32) (kx12 : Int32 → Option (Int32)) (k12 : Nat) (y12_4 : Int32) (y12_5 : Int32) (y12_6 : Int32) (y12_7 : Int32) : L_X7_driftByCalendar_12 n v_csize v_cbytes v_aturn v_aphase x2 x3 kx12 (k12 + 1) y12_4 y12_5 y12_6 y12_7 = if x2 ≤ y12_7 then kx12 y12_4 else bd1_ (f_X5_awayFromRise n v_aturn v_aphase y12_5) (fun (r23_1 : Int32) => bd1_ (f_X0_lengthOf n v_csize v_cbytes y12_6) (fun (r39_4 : Int32) => lt_ ((if x3 ≤ (y12_6 + 1) then 0 else (y12_6 + 1)) : Int32) (fun v61_7 => L_X7_driftByCalendar_12 n v_csize v_cbytes v_aturn v_aphase x2 x3 kx12 k12 (if y12_4 < r23_1 then r23_1 else y12_4) (y12_5 + r39_4) v61_7 (y12_7 + 1)))) := rfl
def f_X7_driftByCalendar (n : Nat) (v_csize : Int32) (v_cbytes : Nat → Int32) (v_aturn : Int32) (v_aphase : Int32) (x2 : Int32) (x3 : Int32) : Option (Int32) := jn1_ (fun (z12_4 : Int32) => some z12_4) (fun kx12 => L_X7_driftByCalendar_12 n v_csize v_cbytes v_aturn v_aphase x2 x3 kx12 n 0 0 0 0)
set_option maxHeartbeats 4000000 in
set_option maxRecDepth 100000 in
theorem c_X7_driftByCalendar (l : Launch) (dC : Nat → ClassId) (dI : Nat → Nat → Nat) (cI cZ cP cS : ClassId) (h_t h_t_red h_t_blue h_t_sky h_t_diary h_t_calendar h_t_awakeIn h_t_worths h_t_plants h_t_sheets h_t_bestFrom h_t_calendar_bytes h_a1 h_a1_fitting h_a1_worstLeft : Nat) (v_latestFinding : Int32) (v_csize : Int32) (v_cbytes : Nat → Int32) (v_aturn : Int32) (v_aphase : Int32) (v_aup : Int32) (x2 : Int32) (x3 : Int32) (n : Nat) (r : Int32) (hf : f_X7_driftByCalendar n v_csize v_cbytes v_aturn v_aphase x2 x3 = some r) : Met l yX7_driftByCalendar wsX7_driftByCalendar rm_X7_driftByCalendar (RO (dC, dI) (TY cI cZ cP cS) [.ref h_t, .ref h_a1, .int x2, .int x3] (wd_X7_driftByCalendar cI cZ cP cS h_t h_t_red h_t_blue h_t_sky h_t_diary h_t_calendar h_t_awakeIn h_t_worths h_t_plants h_t_sheets h_t_bestFrom h_t_calendar_bytes h_a1 h_a1_fitting h_a1_worstLeft v_latestFinding v_csize v_cbytes v_aturn v_aphase v_aup)) (vp_Si (fun x => x = r)) 0 0 NF := by
  refine Met.ofW (cc := cX7_driftByCalendar) (maxL := 8) (ret := (some .int)) (by decide) rfl ?_
  intro p e s m args below meth c s₁ B hml hv
  obtain ⟨rfl, hP, hK⟩ := hv
  have hx := B.exec
  have hb := B.bytes
  have hr := B.returns
  have hts := atoms_spec (ws := wsX7_driftByCalendar) B.pre
  have hown : s.vm.findClass RX7 = some m.cls := findClass_of_methodNamed B.named
  have hlocks := B.notSynchronized
  have hinX7 : ∀ w ∈ wsX70, w ∈ wsX7_driftByCalendar := by decide +kernel
  have hl := lv_entry ([.ref h_t, .ref h_a1, .int x2, .int x3]) (n := 8) (Nat.le_of_ble_eq_true rfl)
  rw [lg_entry_eq]
  generalize (lg_sl ([.ref h_t, .ref h_a1, .int x2, .int x3]) ++ List.replicate (8 - (lg_sl ([.ref h_t, .ref h_a1, .int x2, .int x3])).length) Slot.unset).toArray = ls at hl ⊢
  have hl : lv_has ls 8 [(0, .ref h_t), (1, .ref h_a1), (2, .int x2), (3, .int x3)] := hl
  unfold f_X7_driftByCalendar at hf
  refine lv_iconst (v := 0) hx hb dX7_driftByCalendar_0 (by decide) ?_
  refine lv_istore (lv' := [(4, .int 0), (0, .ref h_t), (1, .ref h_a1), (2, .int x2), (3, .int x3)]) hx hb dX7_driftByCalendar_1 hl (by decide) rfl (fun ls hl => ?_)
  refine lv_iconst (v := 0) hx hb dX7_driftByCalendar_3 (by decide) ?_
  refine lv_istore (lv' := [(5, .int 0), (4, .int 0), (0, .ref h_t), (1, .ref h_a1), (2, .int x2), (3, .int x3)]) hx hb dX7_driftByCalendar_4 hl (by decide) rfl (fun ls hl => ?_)
  refine lv_iconst (v := 0) hx hb dX7_driftByCalendar_6 (by decide) ?_
  refine lv_istore (lv' := [(6, .int 0), (5, .int 0), (4, .int 0), (0, .ref h_t), (1, .ref h_a1), (2, .int x2), (3, .int x3)]) hx hb dX7_driftByCalendar_7 hl (by decide) rfl (fun ls hl => ?_)
  refine lv_iconst (v := 0) hx hb dX7_driftByCalendar_9 (by decide) ?_
  refine lv_istore (lv' := [(7, .int 0), (6, .int 0), (5, .int 0), (4, .int 0), (0, .ref h_t), (1, .ref h_a1), (2, .int x2), (3, .int x3)]) hx hb dX7_driftByCalendar_10 hl (by decide) rfl (fun ls hl => ?_)
  obtain ⟨kx12, ekx12, hf⟩ := jn1_e hf
  have hx12 : ∀ (z12_4 : Int32) (ls : Array Slot), lv_has ls 8 [(4, .int z12_4)] → kx12 z12_4 = some r → W p l e (headSpec wsX7_driftByCalendar rm_X7_driftByCalendar).room s m ([.ref h_t, .ref h_a1, .int x2, .int x3] : List Value).toArray below meth c s.heap [] 0 0 (MQ below (vp_Si (fun x => x = r)) ([.ref h_t, .ref h_a1, .int x2, .int x3] : List Value).toArray s 0 0 NF) (F0 m 69 ls []) := by
    intro z12_4 ls hl hf
    rw [ekx12] at hf
    refine lv_iload hx hb dX7_driftByCalendar_69 (lv_at hl 0 rfl) ?_
    exact W.iret hx hb hr (fun t ht hW => ⟨_, rfl, Option.some.inj hf, ht⟩) (fun _ h => nomatch h) dX7_driftByCalendar_71
  have hL12 : ∀ (k12 : Nat) (y12_4 : Int32) (y12_5 : Int32) (y12_6 : Int32) (y12_7 : Int32) (ls : Array Slot), lv_has ls 8 [(0, .ref h_t), (1, .ref h_a1), (2, .int x2), (3, .int x3), (4, .int y12_4), (5, .int y12_5), (6, .int y12_6), (7, .int y12_7)] → L_X7_driftByCalendar_12 n v_csize v_cbytes v_aturn v_aphase x2 x3 kx12 k12 y12_4 y12_5 y12_6 y12_7 = some r → W p l e (headSpec wsX7_driftByCalendar rm_X7_driftByCalendar).room s m ([.ref h_t, .ref h_a1, .int x2, .int x3] : List Value).toArray below meth c s.heap [] 0 0 (MQ below (vp_Si (fun x => x = r)) ([.ref h_t, .ref h_a1, .int x2, .int x3] : List Value).toArray s 0 0 NF) (F0 m 12 ls []) := by
    intro k12
    induction k12 with
    | zero =>
      intro y12_4 y12_5 y12_6 y12_7 ls hl hf
      exact absurd hf (fun h => Option.some_ne_none _ h.symm)
    | succ k12 ih =>
      intro y12_4 y12_5 y12_6 y12_7 ls hl hf
      rw [L_X7_driftByCalendar_12_s] at hf
      refine lv_iload hx hb dX7_driftByCalendar_12 (lv_at hl 7 rfl) ?_
      refine lv_iload_n hx hb dX7_driftByCalendar_14 rfl (lv_at hl 2 rfl) ?_
      refine lv_icmp_ge (tgt := 69) hx hb dX7_driftByCalendar_15 (by decide) (fun c15 => ?_) (fun c15 => ?_)
      · rw [if_pos c15] at hf
        exact hx12 y12_4 ls (lv_sub hl [4] rfl) hf
      · rw [if_neg c15] at hf
        refine lv_iload hx hb dX7_driftByCalendar_18 (lv_at hl 4 rfl) ?_
        refine lv_aload_n hx hb dX7_driftByCalendar_20 rfl (lv_at hl 1 rfl) ?_
        refine lv_iload hx hb dX7_driftByCalendar_21 (lv_at hl 5 rfl) ?_
        obtain ⟨r23_1, hc_2, hf⟩ := bd1_e hf
        refine vp_callSi (va_runV (As := [.int y12_5]) (rest := [.int y12_4]) ⟨hx, hb, hml, hown, hts⟩ (c_X5_awayFromRise l dC dI cI cZ cP cS h_a1 h_a1_fitting h_a1_worstLeft v_aturn v_aphase v_aup y12_5 n r23_1 hc_2) (cwV 1 hts gX7_driftByCalendar_X5_awayFromRise rfl rfl rfl (by decide +kernel) ⟨Nat.le_of_ble_eq_true rfl, Nat.le_of_ble_eq_true rfl⟩) (pv_ro (ci := 5) (q0 := 0) hK (hP.sub (ws' := (wd_X5_awayFromRise cI cZ cP cS h_a1 h_a1_fitting h_a1_worstLeft v_aturn v_aphase v_aup)) [3] rfl) rfl rfl) rfl rfl hl.1 rfl (lv_room (Nat.le_of_ble_eq_true rfl)) dX7_driftByCalendar_23 ⟨Nat.zero_le _, Nat.zero_le _⟩).run (fun x e_3 => ?_)
        rw [e_3]
        refine va_mmax hx hb (hml.trans hl.1.symm) hown (hts (.methodLink RX7 366 Lib.Math.max.name) (by decide +kernel)) (hts (.static Lib.Math.max.name) (by decide +kernel)) (hts (.initialized "java/lang/Math") (by decide +kernel)) (hts (.code Lib.Math.max.name Lib.Math.max.code 2 (some .int)) (by decide +kernel)) (Nat.le_of_ble_eq_true rfl) (Nat.le_of_ble_eq_true rfl) (Nat.zero_le _) (Nat.zero_le _) dX7_driftByCalendar_26 ?_
        refine lv_istore (lv' := [(4, .int (if y12_4 < r23_1 then r23_1 else y12_4)), (0, .ref h_t), (1, .ref h_a1), (2, .int x2), (3, .int x3), (5, .int y12_5), (6, .int y12_6), (7, .int y12_7)]) hx hb dX7_driftByCalendar_29 hl (by decide) rfl (fun ls hl => ?_)
        refine lv_iload hx hb dX7_driftByCalendar_31 (lv_at hl 5 rfl) ?_
        refine lv_aload_n hx hb dX7_driftByCalendar_33 rfl (lv_at hl 1 rfl) ?_
        refine va_get (D := (dC, dI)) (ci := 6) (v := .ref h_t_calendar) (C := RX7) (T := TX7) (N := 11) hx hb hts hinX7 hown hK hP 0 rfl rfl 4 (by decide) (hts (.fieldLink RX7 40 "SecondSunrise" "calendar" "LSecondSunrise$Calendar;") (by decide +kernel)) (fun _ h9 => h9) rfl dX7_driftByCalendar_34 ?_
        refine lv_iload hx hb dX7_driftByCalendar_37 (lv_at hl 6 rfl) ?_
        obtain ⟨r39_4, hc_5, hf⟩ := bd1_e hf
        refine vp_callSi (va_runV (As := [.int y12_6]) (rest := [.int y12_5]) ⟨hx, hb, hml, hown, hts⟩ (c_X0_lengthOf l dC dI cI cZ cP cS h_t_calendar h_t_calendar_bytes v_csize v_cbytes y12_6 n r39_4 hc_5) (cwV 1 hts gX7_driftByCalendar_X0_lengthOf rfl rfl rfl (by decide +kernel) ⟨Nat.le_of_ble_eq_true rfl, Nat.le_of_ble_eq_true rfl⟩) (pv_ro (ci := 0) (q0 := 0) hK (hP.sub (ws' := (wd_X0_lengthOf cI cZ cP cS h_t_calendar h_t_calendar_bytes v_csize v_cbytes)) [1, 2] rfl) rfl rfl) rfl rfl hl.1 rfl (lv_room (Nat.le_of_ble_eq_true rfl)) dX7_driftByCalendar_39 ⟨Nat.zero_le _, Nat.zero_le _⟩).run (fun x e_6 => ?_)
        rw [e_6]
        refine lv_iadd hx hb dX7_driftByCalendar_42 ?_
        refine lv_istore (lv' := [(5, .int (y12_5 + r39_4)), (4, .int (if y12_4 < r23_1 then r23_1 else y12_4)), (0, .ref h_t), (1, .ref h_a1), (2, .int x2), (3, .int x3), (6, .int y12_6), (7, .int y12_7)]) hx hb dX7_driftByCalendar_43 hl (by decide) rfl (fun ls hl => ?_)
        refine lv_iload hx hb dX7_driftByCalendar_45 (lv_at hl 6 rfl) ?_
        refine lv_iconst (v := 1) hx hb dX7_driftByCalendar_47 (by decide) ?_
        refine lv_iadd hx hb dX7_driftByCalendar_48 ?_
        refine lv_iload_n hx hb dX7_driftByCalendar_49 rfl (lv_at hl 5 rfl) ?_
        obtain ⟨v61_7, ev61_7, hf⟩ := lt_e hf
        have hj61_8 : ∀ (ls : Array Slot), lv_has ls 8 [(0, .ref h_t), (1, .ref h_a1), (2, .int x2), (3, .int x3), (4, .int (if y12_4 < r23_1 then r23_1 else y12_4)), (5, .int (y12_5 + r39_4)), (7, .int y12_7)] → W p l e (headSpec wsX7_driftByCalendar rm_X7_driftByCalendar).room s m ([.ref h_t, .ref h_a1, .int x2, .int x3] : List Value).toArray below meth c s.heap [] 0 0 (MQ below (vp_Si (fun x => x = r)) ([.ref h_t, .ref h_a1, .int x2, .int x3] : List Value).toArray s 0 0 NF) (F0 m 61 ls [.int v61_7]) := by
          intro ls hl
          refine lv_istore (lv' := [(6, .int v61_7), (0, .ref h_t), (1, .ref h_a1), (2, .int x2), (3, .int x3), (4, .int (if y12_4 < r23_1 then r23_1 else y12_4)), (5, .int (y12_5 + r39_4)), (7, .int y12_7)]) hx hb dX7_driftByCalendar_61 hl (by decide) rfl (fun ls hl => ?_)
          refine lv_iinc (v := (y12_7 + 1)) (lv' := [(7, .int (y12_7 + 1)), (6, .int v61_7), (0, .ref h_t), (1, .ref h_a1), (2, .int x2), (3, .int x3), (4, .int (if y12_4 < r23_1 then r23_1 else y12_4)), (5, .int (y12_5 + r39_4))]) hx hb dX7_driftByCalendar_63 hl (k := 7) rfl rfl (by decide) rfl (fun ls hl => ?_)
          refine lv_goto (tgt := 12) hx hb dX7_driftByCalendar_66 (by decide) ?_
          exact ih (if y12_4 < r23_1 then r23_1 else y12_4) (y12_5 + r39_4) v61_7 (y12_7 + 1) ls (lv_sub hl [2, 3, 4, 5, 6, 7, 1, 0] rfl) hf
        clear hf
        refine lv_icmp_ge (tgt := 60) hx hb dX7_driftByCalendar_50 (by decide) (fun c50 => ?_) (fun c50 => ?_)
        ·
          refine lv_iconst (v := 0) hx hb dX7_driftByCalendar_60 (by decide) ?_
          rw [if_pos c50] at ev61_7
          subst ev61_7
          exact hj61_8 ls (lv_sub hl [2, 3, 4, 5, 1, 0, 7] rfl)
        ·
          refine lv_iload hx hb dX7_driftByCalendar_53 (lv_at hl 6 rfl) ?_
          refine lv_iconst (v := 1) hx hb dX7_driftByCalendar_55 (by decide) ?_
          refine lv_iadd hx hb dX7_driftByCalendar_56 ?_
          refine lv_goto (tgt := 61) hx hb dX7_driftByCalendar_57 (by decide) ?_
          rw [if_neg c50] at ev61_7
          subst ev61_7
          exact hj61_8 ls (lv_sub hl [2, 3, 4, 5, 1, 0, 7] rfl)
  exact hL12 n 0 0 0 0 ls (lv_sub hl [4, 5, 6, 7, 3, 2, 1, 0] rfl) hf

abbrev wd_X7_drift (cI cZ cP cS : ClassId) (h_t h_t_red h_t_blue h_t_sky h_t_diary h_t_calendar h_t_awakeIn h_t_worths h_t_plants h_t_sheets h_t_bestFrom h_t_red_fitting h_t_red_worstLeft h_t_blue_fitting h_t_blue_worstLeft h_t_calendar_bytes : Nat) (v_latestFinding : Int32) (v_turn : Nat → Int32) (v_phase : Nat → Int32) (v_up : Nat → Int32) (v_csize : Int32) (v_cbytes : Nat → Int32) : va_W := [(h_t, .inr (6, [.ref h_t_red, .ref h_t_blue, .ref h_t_sky, .ref h_t_diary, .ref h_t_calendar, .ref h_t_awakeIn, .ref h_t_worths, .ref h_t_plants, .ref h_t_sheets, .ref h_t_bestFrom, .int v_latestFinding])), (h_t_red, .inr (5, [.int (v_turn 0), .int (v_phase 0), .int (v_up 0), .ref h_t_red_fitting, .ref h_t_red_worstLeft])), (h_t_blue, .inr (5, [.int (v_turn 1), .int (v_phase 1), .int (v_up 1), .ref h_t_blue_fitting, .ref h_t_blue_worstLeft])), (h_t_calendar, .inr (0, [.ref h_t_calendar_bytes, .int v_csize])), (h_t_calendar_bytes, .inl (cI, 20, .inl v_cbytes))]
abbrev rm_X7_drift : Room := { frames := 4, cells := 0, slots := 0, locals := 84 }
def f_X7_drift (n : Nat) (v_turn : Nat → Int32) (v_phase : Nat → Int32) (v_up : Nat → Int32) (v_csize : Int32) (v_cbytes : Nat → Int32) (x1 : Int32) (x2 : Int32) : Option (Int32) := if x1 = 0 then bd1_ (f_X7_outside n x2 1 60) (fun (r14_2 : Int32) => if r14_2 = 0 then bd1_ (f_X0_months n v_csize v_cbytes) (fun (r27_6 : Int32) => jn0_ (some (-3)) (fun k45 => if (v_up 0) = 0 then k45 else if (1 : Int32) ≤ r27_6 then bd1_ (f_X7_driftByCalendar n v_csize v_cbytes (v_turn 0) (v_phase 0) x2 r27_6) (fun (r55_9 : Int32) => some r55_9) else k45)) else some (-2)) else if x1 = 1 then bd1_ (f_X7_outside n x2 1 60) (fun (r14_12 : Int32) => if r14_12 = 0 then bd1_ (f_X0_months n v_csize v_cbytes) (fun (r27_16 : Int32) => jn0_ (some (-3)) (fun k45 => if (v_up 1) = 0 then k45 else if (1 : Int32) ≤ r27_16 then bd1_ (f_X7_driftByCalendar n v_csize v_cbytes (v_turn 1) (v_phase 1) x2 r27_16) (fun (r55_19 : Int32) => some r55_19) else k45)) else some (-2)) else some (-2)
set_option maxHeartbeats 4000000 in
set_option maxRecDepth 100000 in
theorem c_X7_drift (l : Launch) (dC : Nat → ClassId) (dI : Nat → Nat → Nat) (cI cZ cP cS : ClassId) (h_t h_t_red h_t_blue h_t_sky h_t_diary h_t_calendar h_t_awakeIn h_t_worths h_t_plants h_t_sheets h_t_bestFrom h_t_red_fitting h_t_red_worstLeft h_t_blue_fitting h_t_blue_worstLeft h_t_calendar_bytes : Nat) (v_latestFinding : Int32) (v_turn : Nat → Int32) (v_phase : Nat → Int32) (v_up : Nat → Int32) (v_csize : Int32) (v_cbytes : Nat → Int32) (x1 : Int32) (x2 : Int32) (n : Nat) (r : Int32) (hf : f_X7_drift n v_turn v_phase v_up v_csize v_cbytes x1 x2 = some r) : Met l yX7_drift wsX7_drift rm_X7_drift (RO (dC, dI) (TY cI cZ cP cS) [.ref h_t, .int x1, .int x2] (wd_X7_drift cI cZ cP cS h_t h_t_red h_t_blue h_t_sky h_t_diary h_t_calendar h_t_awakeIn h_t_worths h_t_plants h_t_sheets h_t_bestFrom h_t_red_fitting h_t_red_worstLeft h_t_blue_fitting h_t_blue_worstLeft h_t_calendar_bytes v_latestFinding v_turn v_phase v_up v_csize v_cbytes)) (vp_Si (fun x => x = r)) 0 0 NF := by
  refine Met.ofW (cc := cX7_drift) (maxL := 5) (ret := (some .int)) (by decide) rfl ?_
  intro p e s m args below meth c s₁ B hml hv
  obtain ⟨rfl, hP, hK⟩ := hv
  have hx := B.exec
  have hb := B.bytes
  have hr := B.returns
  have hts := atoms_spec (ws := wsX7_drift) B.pre
  have hown : s.vm.findClass RX7 = some m.cls := findClass_of_methodNamed B.named
  have hlocks := B.notSynchronized
  have hinX5 : ∀ w ∈ wsX50, w ∈ wsX7_drift := by decide +kernel
  have hinX7 : ∀ w ∈ wsX70, w ∈ wsX7_drift := by decide +kernel
  have hl := lv_entry ([.ref h_t, .int x1, .int x2]) (n := 5) (Nat.le_of_ble_eq_true rfl)
  rw [lg_entry_eq]
  generalize (lg_sl ([.ref h_t, .int x1, .int x2]) ++ List.replicate (5 - (lg_sl ([.ref h_t, .int x1, .int x2])).length) Slot.unset).toArray = ls at hl ⊢
  have hl : lv_has ls 5 [(0, .ref h_t), (1, .int x1), (2, .int x2)] := hl
  unfold f_X7_drift at hf
  refine lv_aload_n hx hb dX7_drift_0 rfl (lv_at hl 0 rfl) ?_
  refine lv_iload_n hx hb dX7_drift_1 rfl (lv_at hl 1 rfl) ?_
  refine va_csq (va_runV (As := [.int x1]) (rest := []) ⟨hx, hb, hml, hown, hts⟩ (c_X7_sunOf l dC dI cI cZ cP cS h_t h_t_red h_t_blue h_t_sky h_t_diary h_t_calendar h_t_awakeIn h_t_worths h_t_plants h_t_sheets h_t_bestFrom v_latestFinding x1) (cwV 1 hts gX7_drift_X7_sunOf rfl rfl rfl (by decide +kernel) ⟨Nat.le_of_ble_eq_true rfl, Nat.le_of_ble_eq_true rfl⟩) (pv_ro (ci := 6) (q0 := 0) hK (hP.sub (ws' := (wd_X7_sunOf cI cZ cP cS h_t h_t_red h_t_blue h_t_sky h_t_diary h_t_calendar h_t_awakeIn h_t_worths h_t_plants h_t_sheets h_t_bestFrom v_latestFinding)) [0] rfl) rfl rfl) rfl rfl hl.1 rfl (lv_room (Nat.le_of_ble_eq_true rfl)) dX7_drift_2 ⟨Nat.zero_le _, Nat.zero_le _⟩).run (fun x e_1 => ?_)
  by_cases c2_0 : x1 = 0
  · rw [if_pos c2_0] at hf e_1
    subst e_1
    refine W.eq (g2 := F0 m 5 ls [.ref h_t_red]) rfl ?_
    refine lv_astore_n (lv' := [(3, .ref h_t_red), (0, .ref h_t), (1, .int x1), (2, .int x2)]) hx hb dX7_drift_5 rfl hl (by decide) rfl (fun ls hl => ?_)
    refine lv_aload_n hx hb dX7_drift_6 rfl (lv_at hl 0 rfl) ?_
    refine lv_ifnull hx hb dX7_drift_7 ?_
    refine lv_iload_n hx hb dX7_drift_10 rfl (lv_at hl 3 rfl) ?_
    refine lv_iconst (v := 1) hx hb dX7_drift_11 (by decide) ?_
    refine lv_bipush (v := 60) hx hb dX7_drift_12 (by decide) ?_
    obtain ⟨r14_2, hc_3, hf⟩ := bd1_e hf
    refine vp_callSi (va_runS (As := [.int x2, .int 1, .int 60]) (rest := []) ⟨hx, hb, hml, hown, hts⟩ (c_X7_outside l dC dI cI cZ cP cS   x2 1 60 n r14_2 hc_3) (va_cwS 3 hts gX7_drift_X7_outside rfl rfl rfl (by decide +kernel) ⟨Nat.le_of_ble_eq_true rfl, Nat.le_of_ble_eq_true rfl⟩) (ps_ro hK (hP.sub (ws' := ([] : va_W)) [] rfl)) rfl rfl hl.1 rfl (lv_room (Nat.le_of_ble_eq_true rfl)) dX7_drift_14 ⟨Nat.zero_le _, Nat.zero_le _⟩).run (fun x e_4 => ?_)
    obtain ⟨e_4, hb_5⟩ := e_4
    rw [e_4] at hb_5 ⊢
    refine lv_if_eq (tgt := 23) hx hb dX7_drift_17 (by decide) (fun c17 => ?_) (fun c17 => ?_)
    · rw [if_pos c17] at hf
      refine lv_aload_n hx hb dX7_drift_23 rfl (lv_at hl 1 rfl) ?_
      refine va_get (D := (dC, dI)) (ci := 6) (v := .ref h_t_calendar) (C := RX7) (T := TX7) (N := 11) hx hb hts hinX7 hown hK hP 0 rfl rfl 4 (by decide) (hts (.fieldLink RX7 40 "SecondSunrise" "calendar" "LSecondSunrise$Calendar;") (by decide +kernel)) (fun _ h9 => h9) rfl dX7_drift_24 ?_
      obtain ⟨r27_6, hc_7, hf⟩ := bd1_e hf
      refine vp_callSi (va_runV (As := []) (rest := []) ⟨hx, hb, hml, hown, hts⟩ (c_X0_months l dC dI cI cZ cP cS h_t_calendar h_t_calendar_bytes v_csize v_cbytes  n r27_6 hc_7) (cwV 0 hts gX7_drift_X0_months rfl rfl rfl (by decide +kernel) ⟨Nat.le_of_ble_eq_true rfl, Nat.le_of_ble_eq_true rfl⟩) (pv_ro (ci := 0) (q0 := 0) hK (hP.sub (ws' := (wd_X0_months cI cZ cP cS h_t_calendar h_t_calendar_bytes v_csize v_cbytes)) [3, 4] rfl) rfl rfl) rfl rfl hl.1 rfl (lv_room (Nat.le_of_ble_eq_true rfl)) dX7_drift_27 ⟨Nat.zero_le _, Nat.zero_le _⟩).run (fun x e_8 => ?_)
      rw [e_8]
      refine lv_istore (lv' := [(4, .int r27_6), (3, .ref h_t_red), (0, .ref h_t), (1, .int x1), (2, .int x2)]) hx hb dX7_drift_30 hl (by decide) rfl (fun ls hl => ?_)
      refine lv_aload_n hx hb dX7_drift_32 rfl (lv_at hl 1 rfl) ?_
      refine va_get (D := (dC, dI)) (ci := 5) (v := .int (v_up 0)) (C := RX5) (T := TX5) (N := 5) hx hb hts hinX5 hown hK hP 1 rfl rfl 2 (by decide) (hts (.fieldLink RX7 141 "SecondSunrise$Sun" "up" "I") (by decide +kernel)) (fun _ h9 => h9) rfl dX7_drift_33 ?_
      obtain ⟨k45, ek45, hf⟩ := jn0_e hf
      have hj45 : ∀ (ls : Array Slot), lv_has ls 5 [] → k45 = some r → W p l e (headSpec wsX7_drift rm_X7_drift).room s m ([.ref h_t, .int x1, .int x2] : List Value).toArray below meth c s.heap [] 0 0 (MQ below (vp_Si (fun x => x = r)) ([.ref h_t, .int x1, .int x2] : List Value).toArray s 0 0 NF) (F0 m 45 ls []) := by
        intro ls hl hf
        rw [ek45] at hf
        refine lv_bipush (v := (-3)) hx hb dX7_drift_45 (by decide) ?_
        refine lv_goto (tgt := 58) hx hb dX7_drift_47 (by decide) ?_
        exact W.iret hx hb hr (fun t ht hW => ⟨_, rfl, Option.some.inj hf, ht⟩) (fun _ h => nomatch h) dX7_drift_58
      refine lv_if_eq (tgt := 45) hx hb dX7_drift_36 (by decide) (fun c36 => ?_) (fun c36 => ?_)
      · rw [if_pos c36] at hf
        exact hj45 ls (lv_sub hl [] rfl) hf
      · rw [if_neg c36] at hf
        refine lv_iload hx hb dX7_drift_39 (lv_at hl 0 rfl) ?_
        refine lv_iconst (v := 1) hx hb dX7_drift_41 (by decide) ?_
        refine lv_icmp_ge (tgt := 50) hx hb dX7_drift_42 (by decide) (fun c42 => ?_) (fun c42 => ?_)
        · rw [if_pos c42] at hf
          refine lv_aload_n hx hb dX7_drift_50 rfl (lv_at hl 2 rfl) ?_
          refine lv_aload_n hx hb dX7_drift_51 rfl (lv_at hl 1 rfl) ?_
          refine lv_iload_n hx hb dX7_drift_52 rfl (lv_at hl 4 rfl) ?_
          refine lv_iload hx hb dX7_drift_53 (lv_at hl 0 rfl) ?_
          obtain ⟨r55_9, hc_10, hf⟩ := bd1_e hf
          refine vp_callSi (va_runV (As := [.ref h_t_red, .int x2, .int r27_6]) (rest := []) ⟨hx, hb, hml, hown, hts⟩ (c_X7_driftByCalendar l dC dI cI cZ cP cS h_t h_t_red h_t_blue h_t_sky h_t_diary h_t_calendar h_t_awakeIn h_t_worths h_t_plants h_t_sheets h_t_bestFrom h_t_calendar_bytes h_t_red h_t_red_fitting h_t_red_worstLeft v_latestFinding v_csize v_cbytes (v_turn 0) (v_phase 0) (v_up 0) x2 r27_6 n r55_9 hc_10) (cwV 3 hts gX7_drift_X7_driftByCalendar rfl rfl rfl (by decide +kernel) ⟨Nat.le_of_ble_eq_true rfl, Nat.le_of_ble_eq_true rfl⟩) (pv_ro (ci := 6) (q0 := 0) hK (hP.sub (ws' := (wd_X7_driftByCalendar cI cZ cP cS h_t h_t_red h_t_blue h_t_sky h_t_diary h_t_calendar h_t_awakeIn h_t_worths h_t_plants h_t_sheets h_t_bestFrom h_t_calendar_bytes h_t_red h_t_red_fitting h_t_red_worstLeft v_latestFinding v_csize v_cbytes (v_turn 0) (v_phase 0) (v_up 0))) [0, 3, 4, 1] rfl) rfl rfl) rfl rfl hl.1 rfl (lv_room (Nat.le_of_ble_eq_true rfl)) dX7_drift_55 ⟨Nat.zero_le _, Nat.zero_le _⟩).run (fun x e_11 => ?_)
          rw [e_11]
          exact W.iret hx hb hr (fun t ht hW => ⟨_, rfl, Option.some.inj hf, ht⟩) (fun _ h => nomatch h) dX7_drift_58
        · rw [if_neg c42] at hf
          exact hj45 ls (lv_sub hl [] rfl) hf
    · rw [if_neg c17] at hf
      refine lv_bipush (v := (-2)) hx hb dX7_drift_20 (by decide) ?_
      exact W.iret hx hb hr (fun t ht hW => ⟨_, rfl, Option.some.inj hf, ht⟩) (fun _ h => nomatch h) dX7_drift_22
  · rw [if_neg c2_0] at hf e_1
    by_cases c2_1 : x1 = 1
    · rw [if_pos c2_1] at hf e_1
      subst e_1
      refine W.eq (g2 := F0 m 5 ls [.ref h_t_blue]) rfl ?_
      refine lv_astore_n (lv' := [(3, .ref h_t_blue), (0, .ref h_t), (1, .int x1), (2, .int x2)]) hx hb dX7_drift_5 rfl hl (by decide) rfl (fun ls hl => ?_)
      refine lv_aload_n hx hb dX7_drift_6 rfl (lv_at hl 0 rfl) ?_
      refine lv_ifnull hx hb dX7_drift_7 ?_
      refine lv_iload_n hx hb dX7_drift_10 rfl (lv_at hl 3 rfl) ?_
      refine lv_iconst (v := 1) hx hb dX7_drift_11 (by decide) ?_
      refine lv_bipush (v := 60) hx hb dX7_drift_12 (by decide) ?_
      obtain ⟨r14_12, hc_13, hf⟩ := bd1_e hf
      refine vp_callSi (va_runS (As := [.int x2, .int 1, .int 60]) (rest := []) ⟨hx, hb, hml, hown, hts⟩ (c_X7_outside l dC dI cI cZ cP cS   x2 1 60 n r14_12 hc_13) (va_cwS 3 hts gX7_drift_X7_outside rfl rfl rfl (by decide +kernel) ⟨Nat.le_of_ble_eq_true rfl, Nat.le_of_ble_eq_true rfl⟩) (ps_ro hK (hP.sub (ws' := ([] : va_W)) [] rfl)) rfl rfl hl.1 rfl (lv_room (Nat.le_of_ble_eq_true rfl)) dX7_drift_14 ⟨Nat.zero_le _, Nat.zero_le _⟩).run (fun x e_14 => ?_)
      obtain ⟨e_14, hb_15⟩ := e_14
      rw [e_14] at hb_15 ⊢
      refine lv_if_eq (tgt := 23) hx hb dX7_drift_17 (by decide) (fun c17 => ?_) (fun c17 => ?_)
      · rw [if_pos c17] at hf
        refine lv_aload_n hx hb dX7_drift_23 rfl (lv_at hl 1 rfl) ?_
        refine va_get (D := (dC, dI)) (ci := 6) (v := .ref h_t_calendar) (C := RX7) (T := TX7) (N := 11) hx hb hts hinX7 hown hK hP 0 rfl rfl 4 (by decide) (hts (.fieldLink RX7 40 "SecondSunrise" "calendar" "LSecondSunrise$Calendar;") (by decide +kernel)) (fun _ h9 => h9) rfl dX7_drift_24 ?_
        obtain ⟨r27_16, hc_17, hf⟩ := bd1_e hf
        refine vp_callSi (va_runV (As := []) (rest := []) ⟨hx, hb, hml, hown, hts⟩ (c_X0_months l dC dI cI cZ cP cS h_t_calendar h_t_calendar_bytes v_csize v_cbytes  n r27_16 hc_17) (cwV 0 hts gX7_drift_X0_months rfl rfl rfl (by decide +kernel) ⟨Nat.le_of_ble_eq_true rfl, Nat.le_of_ble_eq_true rfl⟩) (pv_ro (ci := 0) (q0 := 0) hK (hP.sub (ws' := (wd_X0_months cI cZ cP cS h_t_calendar h_t_calendar_bytes v_csize v_cbytes)) [3, 4] rfl) rfl rfl) rfl rfl hl.1 rfl (lv_room (Nat.le_of_ble_eq_true rfl)) dX7_drift_27 ⟨Nat.zero_le _, Nat.zero_le _⟩).run (fun x e_18 => ?_)
        rw [e_18]
        refine lv_istore (lv' := [(4, .int r27_16), (3, .ref h_t_blue), (0, .ref h_t), (1, .int x1), (2, .int x2)]) hx hb dX7_drift_30 hl (by decide) rfl (fun ls hl => ?_)
        refine lv_aload_n hx hb dX7_drift_32 rfl (lv_at hl 1 rfl) ?_
        refine va_get (D := (dC, dI)) (ci := 5) (v := .int (v_up 1)) (C := RX5) (T := TX5) (N := 5) hx hb hts hinX5 hown hK hP 2 rfl rfl 2 (by decide) (hts (.fieldLink RX7 141 "SecondSunrise$Sun" "up" "I") (by decide +kernel)) (fun _ h9 => h9) rfl dX7_drift_33 ?_
        obtain ⟨k45, ek45, hf⟩ := jn0_e hf
        have hj45 : ∀ (ls : Array Slot), lv_has ls 5 [] → k45 = some r → W p l e (headSpec wsX7_drift rm_X7_drift).room s m ([.ref h_t, .int x1, .int x2] : List Value).toArray below meth c s.heap [] 0 0 (MQ below (vp_Si (fun x => x = r)) ([.ref h_t, .int x1, .int x2] : List Value).toArray s 0 0 NF) (F0 m 45 ls []) := by
          intro ls hl hf
          rw [ek45] at hf
          refine lv_bipush (v := (-3)) hx hb dX7_drift_45 (by decide) ?_
          refine lv_goto (tgt := 58) hx hb dX7_drift_47 (by decide) ?_
          exact W.iret hx hb hr (fun t ht hW => ⟨_, rfl, Option.some.inj hf, ht⟩) (fun _ h => nomatch h) dX7_drift_58
        refine lv_if_eq (tgt := 45) hx hb dX7_drift_36 (by decide) (fun c36 => ?_) (fun c36 => ?_)
        · rw [if_pos c36] at hf
          exact hj45 ls (lv_sub hl [] rfl) hf
        · rw [if_neg c36] at hf
          refine lv_iload hx hb dX7_drift_39 (lv_at hl 0 rfl) ?_
          refine lv_iconst (v := 1) hx hb dX7_drift_41 (by decide) ?_
          refine lv_icmp_ge (tgt := 50) hx hb dX7_drift_42 (by decide) (fun c42 => ?_) (fun c42 => ?_)
          · rw [if_pos c42] at hf
            refine lv_aload_n hx hb dX7_drift_50 rfl (lv_at hl 2 rfl) ?_
            refine lv_aload_n hx hb dX7_drift_51 rfl (lv_at hl 1 rfl) ?_
            refine lv_iload_n hx hb dX7_drift_52 rfl (lv_at hl 4 rfl) ?_
            refine lv_iload hx hb dX7_drift_53 (lv_at hl 0 rfl) ?_
            obtain ⟨r55_19, hc_20, hf⟩ := bd1_e hf
            refine vp_callSi (va_runV (As := [.ref h_t_blue, .int x2, .int r27_16]) (rest := []) ⟨hx, hb, hml, hown, hts⟩ (c_X7_driftByCalendar l dC dI cI cZ cP cS h_t h_t_red h_t_blue h_t_sky h_t_diary h_t_calendar h_t_awakeIn h_t_worths h_t_plants h_t_sheets h_t_bestFrom h_t_calendar_bytes h_t_blue h_t_blue_fitting h_t_blue_worstLeft v_latestFinding v_csize v_cbytes (v_turn 1) (v_phase 1) (v_up 1) x2 r27_16 n r55_19 hc_20) (cwV 3 hts gX7_drift_X7_driftByCalendar rfl rfl rfl (by decide +kernel) ⟨Nat.le_of_ble_eq_true rfl, Nat.le_of_ble_eq_true rfl⟩) (pv_ro (ci := 6) (q0 := 0) hK (hP.sub (ws' := (wd_X7_driftByCalendar cI cZ cP cS h_t h_t_red h_t_blue h_t_sky h_t_diary h_t_calendar h_t_awakeIn h_t_worths h_t_plants h_t_sheets h_t_bestFrom h_t_calendar_bytes h_t_blue h_t_blue_fitting h_t_blue_worstLeft v_latestFinding v_csize v_cbytes (v_turn 1) (v_phase 1) (v_up 1))) [0, 3, 4, 2] rfl) rfl rfl) rfl rfl hl.1 rfl (lv_room (Nat.le_of_ble_eq_true rfl)) dX7_drift_55 ⟨Nat.zero_le _, Nat.zero_le _⟩).run (fun x e_21 => ?_)
            rw [e_21]
            exact W.iret hx hb hr (fun t ht hW => ⟨_, rfl, Option.some.inj hf, ht⟩) (fun _ h => nomatch h) dX7_drift_58
          · rw [if_neg c42] at hf
            exact hj45 ls (lv_sub hl [] rfl) hf
      · rw [if_neg c17] at hf
        refine lv_bipush (v := (-2)) hx hb dX7_drift_20 (by decide) ?_
        exact W.iret hx hb hr (fun t ht hW => ⟨_, rfl, Option.some.inj hf, ht⟩) (fun _ h => nomatch h) dX7_drift_22
    · rw [if_neg c2_1] at hf e_1
      subst e_1
      refine W.eq (g2 := F0 m 5 ls [.null]) rfl ?_
      refine lv_astore_nN (lv' := [(3, .null), (0, .ref h_t), (1, .int x1), (2, .int x2)]) hx hb dX7_drift_5 rfl hl (by decide) rfl (fun ls hl => ?_)
      refine lv_aload_nN hx hb dX7_drift_6 rfl (lv_at hl 0 rfl) ?_
      refine lv_ifnullN (tgt := 20) hx hb dX7_drift_7 (by decide) ?_
      refine lv_bipush (v := (-2)) hx hb dX7_drift_20 (by decide) ?_
      exact W.iret hx hb hr (fun t ht hW => ⟨_, rfl, Option.some.inj hf, ht⟩) (fun _ h => nomatch h) dX7_drift_22

abbrev wd_X7_place (cI cZ cP cS : ClassId) (h_t h_t_red h_t_blue h_t_sky h_t_diary h_t_calendar h_t_awakeIn h_t_worths h_t_plants h_t_sheets h_t_bestFrom h_t_red_fitting h_t_red_worstLeft h_t_blue_fitting h_t_blue_worstLeft : Nat) (v_latestFinding : Int32) (v_turn : Nat → Int32) (v_phase : Nat → Int32) (v_up : Nat → Int32) : va_W := [(h_t, .inr (6, [.ref h_t_red, .ref h_t_blue, .ref h_t_sky, .ref h_t_diary, .ref h_t_calendar, .ref h_t_awakeIn, .ref h_t_worths, .ref h_t_plants, .ref h_t_sheets, .ref h_t_bestFrom, .int v_latestFinding])), (h_t_red, .inr (5, [.int (v_turn 0), .int (v_phase 0), .int (v_up 0), .ref h_t_red_fitting, .ref h_t_red_worstLeft])), (h_t_blue, .inr (5, [.int (v_turn 1), .int (v_phase 1), .int (v_up 1), .ref h_t_blue_fitting, .ref h_t_blue_worstLeft]))]
abbrev rm_X7_place : Room := { frames := 2, cells := 0, slots := 0, locals := 42 }
def f_X7_place (n : Nat) (v_turn : Nat → Int32) (v_phase : Nat → Int32) (x1 : Int32) (x2 : Int32) : Option (Int32) := if x1 = 0 then bd1_ (f_X7_noHour n x2) (fun (r11_2 : Int32) => if r11_2 = 0 then bd1_ (f_X5_placeIn n (v_turn 0) (v_phase 0) x2) (fun (r24_6 : Int32) => some r24_6) else some (-2)) else if x1 = 1 then bd1_ (f_X7_noHour n x2) (fun (r11_9 : Int32) => if r11_9 = 0 then bd1_ (f_X5_placeIn n (v_turn 1) (v_phase 1) x2) (fun (r24_13 : Int32) => some r24_13) else some (-2)) else some (-2)
set_option maxHeartbeats 4000000 in
set_option maxRecDepth 100000 in
theorem c_X7_place (l : Launch) (dC : Nat → ClassId) (dI : Nat → Nat → Nat) (cI cZ cP cS : ClassId) (h_t h_t_red h_t_blue h_t_sky h_t_diary h_t_calendar h_t_awakeIn h_t_worths h_t_plants h_t_sheets h_t_bestFrom h_t_red_fitting h_t_red_worstLeft h_t_blue_fitting h_t_blue_worstLeft : Nat) (v_latestFinding : Int32) (v_turn : Nat → Int32) (v_phase : Nat → Int32) (v_up : Nat → Int32) (x1 : Int32) (x2 : Int32) (n : Nat) (r : Int32) (hf : f_X7_place n v_turn v_phase x1 x2 = some r) : Met l yX7_place wsX7_place rm_X7_place (RO (dC, dI) (TY cI cZ cP cS) [.ref h_t, .int x1, .int x2] (wd_X7_place cI cZ cP cS h_t h_t_red h_t_blue h_t_sky h_t_diary h_t_calendar h_t_awakeIn h_t_worths h_t_plants h_t_sheets h_t_bestFrom h_t_red_fitting h_t_red_worstLeft h_t_blue_fitting h_t_blue_worstLeft v_latestFinding v_turn v_phase v_up)) (vp_Si (fun x => x = r)) 0 0 NF := by
  refine Met.ofW (cc := cX7_place) (maxL := 4) (ret := (some .int)) (by decide) rfl ?_
  intro p e s m args below meth c s₁ B hml hv
  obtain ⟨rfl, hP, hK⟩ := hv
  have hx := B.exec
  have hb := B.bytes
  have hr := B.returns
  have hts := atoms_spec (ws := wsX7_place) B.pre
  have hown : s.vm.findClass RX7 = some m.cls := findClass_of_methodNamed B.named
  have hlocks := B.notSynchronized
  have hl := lv_entry ([.ref h_t, .int x1, .int x2]) (n := 4) (Nat.le_of_ble_eq_true rfl)
  rw [lg_entry_eq]
  generalize (lg_sl ([.ref h_t, .int x1, .int x2]) ++ List.replicate (4 - (lg_sl ([.ref h_t, .int x1, .int x2])).length) Slot.unset).toArray = ls at hl ⊢
  have hl : lv_has ls 4 [(0, .ref h_t), (1, .int x1), (2, .int x2)] := hl
  unfold f_X7_place at hf
  refine lv_aload_n hx hb dX7_place_0 rfl (lv_at hl 0 rfl) ?_
  refine lv_iload_n hx hb dX7_place_1 rfl (lv_at hl 1 rfl) ?_
  refine va_csq (va_runV (As := [.int x1]) (rest := []) ⟨hx, hb, hml, hown, hts⟩ (c_X7_sunOf l dC dI cI cZ cP cS h_t h_t_red h_t_blue h_t_sky h_t_diary h_t_calendar h_t_awakeIn h_t_worths h_t_plants h_t_sheets h_t_bestFrom v_latestFinding x1) (cwV 1 hts gX7_place_X7_sunOf rfl rfl rfl (by decide +kernel) ⟨Nat.le_of_ble_eq_true rfl, Nat.le_of_ble_eq_true rfl⟩) (pv_ro (ci := 6) (q0 := 0) hK (hP.sub (ws' := (wd_X7_sunOf cI cZ cP cS h_t h_t_red h_t_blue h_t_sky h_t_diary h_t_calendar h_t_awakeIn h_t_worths h_t_plants h_t_sheets h_t_bestFrom v_latestFinding)) [0] rfl) rfl rfl) rfl rfl hl.1 rfl (lv_room (Nat.le_of_ble_eq_true rfl)) dX7_place_2 ⟨Nat.zero_le _, Nat.zero_le _⟩).run (fun x e_1 => ?_)
  by_cases c2_0 : x1 = 0
  · rw [if_pos c2_0] at hf e_1
    subst e_1
    refine W.eq (g2 := F0 m 5 ls [.ref h_t_red]) rfl ?_
    refine lv_astore_n (lv' := [(3, .ref h_t_red), (0, .ref h_t), (1, .int x1), (2, .int x2)]) hx hb dX7_place_5 rfl hl (by decide) rfl (fun ls hl => ?_)
    refine lv_aload_n hx hb dX7_place_6 rfl (lv_at hl 0 rfl) ?_
    refine lv_ifnull hx hb dX7_place_7 ?_
    refine lv_iload_n hx hb dX7_place_10 rfl (lv_at hl 3 rfl) ?_
    obtain ⟨r11_2, hc_3, hf⟩ := bd1_e hf
    refine vp_callSi (va_runS (As := [.int x2]) (rest := []) ⟨hx, hb, hml, hown, hts⟩ (c_X7_noHour l dC dI cI cZ cP cS   x2 n r11_2 hc_3) (va_cwS 1 hts gX7_place_X7_noHour rfl rfl rfl (by decide +kernel) ⟨Nat.le_of_ble_eq_true rfl, Nat.le_of_ble_eq_true rfl⟩) (ps_ro hK (hP.sub (ws' := ([] : va_W)) [] rfl)) rfl rfl hl.1 rfl (lv_room (Nat.le_of_ble_eq_true rfl)) dX7_place_11 ⟨Nat.zero_le _, Nat.zero_le _⟩).run (fun x e_4 => ?_)
    obtain ⟨e_4, hb_5⟩ := e_4
    rw [e_4] at hb_5 ⊢
    refine lv_if_eq (tgt := 22) hx hb dX7_place_14 (by decide) (fun c14 => ?_) (fun c14 => ?_)
    · rw [if_pos c14] at hf
      refine lv_aload_n hx hb dX7_place_22 rfl (lv_at hl 0 rfl) ?_
      refine lv_iload_n hx hb dX7_place_23 rfl (lv_at hl 3 rfl) ?_
      obtain ⟨r24_6, hc_7, hf⟩ := bd1_e hf
      refine vp_callSi (va_runV (As := [.int x2]) (rest := []) ⟨hx, hb, hml, hown, hts⟩ (c_X5_placeIn l dC dI cI cZ cP cS h_t_red h_t_red_fitting h_t_red_worstLeft (v_turn 0) (v_phase 0) (v_up 0) x2 n r24_6 hc_7) (cwV 1 hts gX7_place_X5_placeIn rfl rfl rfl (by decide +kernel) ⟨Nat.le_of_ble_eq_true rfl, Nat.le_of_ble_eq_true rfl⟩) (pv_ro (ci := 5) (q0 := 0) hK (hP.sub (ws' := (wd_X5_placeIn cI cZ cP cS h_t_red h_t_red_fitting h_t_red_worstLeft (v_turn 0) (v_phase 0) (v_up 0))) [1] rfl) rfl rfl) rfl rfl hl.1 rfl (lv_room (Nat.le_of_ble_eq_true rfl)) dX7_place_24 ⟨Nat.zero_le _, Nat.zero_le _⟩).run (fun x e_8 => ?_)
      rw [e_8]
      exact W.iret hx hb hr (fun t ht hW => ⟨_, rfl, Option.some.inj hf, ht⟩) (fun _ h => nomatch h) dX7_place_27
    · rw [if_neg c14] at hf
      refine lv_bipush (v := (-2)) hx hb dX7_place_17 (by decide) ?_
      refine lv_goto (tgt := 27) hx hb dX7_place_19 (by decide) ?_
      exact W.iret hx hb hr (fun t ht hW => ⟨_, rfl, Option.some.inj hf, ht⟩) (fun _ h => nomatch h) dX7_place_27
  · rw [if_neg c2_0] at hf e_1
    by_cases c2_1 : x1 = 1
    · rw [if_pos c2_1] at hf e_1
      subst e_1
      refine W.eq (g2 := F0 m 5 ls [.ref h_t_blue]) rfl ?_
      refine lv_astore_n (lv' := [(3, .ref h_t_blue), (0, .ref h_t), (1, .int x1), (2, .int x2)]) hx hb dX7_place_5 rfl hl (by decide) rfl (fun ls hl => ?_)
      refine lv_aload_n hx hb dX7_place_6 rfl (lv_at hl 0 rfl) ?_
      refine lv_ifnull hx hb dX7_place_7 ?_
      refine lv_iload_n hx hb dX7_place_10 rfl (lv_at hl 3 rfl) ?_
      obtain ⟨r11_9, hc_10, hf⟩ := bd1_e hf
      refine vp_callSi (va_runS (As := [.int x2]) (rest := []) ⟨hx, hb, hml, hown, hts⟩ (c_X7_noHour l dC dI cI cZ cP cS   x2 n r11_9 hc_10) (va_cwS 1 hts gX7_place_X7_noHour rfl rfl rfl (by decide +kernel) ⟨Nat.le_of_ble_eq_true rfl, Nat.le_of_ble_eq_true rfl⟩) (ps_ro hK (hP.sub (ws' := ([] : va_W)) [] rfl)) rfl rfl hl.1 rfl (lv_room (Nat.le_of_ble_eq_true rfl)) dX7_place_11 ⟨Nat.zero_le _, Nat.zero_le _⟩).run (fun x e_11 => ?_)
      obtain ⟨e_11, hb_12⟩ := e_11
      rw [e_11] at hb_12 ⊢
      refine lv_if_eq (tgt := 22) hx hb dX7_place_14 (by decide) (fun c14 => ?_) (fun c14 => ?_)
      · rw [if_pos c14] at hf
        refine lv_aload_n hx hb dX7_place_22 rfl (lv_at hl 0 rfl) ?_
        refine lv_iload_n hx hb dX7_place_23 rfl (lv_at hl 3 rfl) ?_
        obtain ⟨r24_13, hc_14, hf⟩ := bd1_e hf
        refine vp_callSi (va_runV (As := [.int x2]) (rest := []) ⟨hx, hb, hml, hown, hts⟩ (c_X5_placeIn l dC dI cI cZ cP cS h_t_blue h_t_blue_fitting h_t_blue_worstLeft (v_turn 1) (v_phase 1) (v_up 1) x2 n r24_13 hc_14) (cwV 1 hts gX7_place_X5_placeIn rfl rfl rfl (by decide +kernel) ⟨Nat.le_of_ble_eq_true rfl, Nat.le_of_ble_eq_true rfl⟩) (pv_ro (ci := 5) (q0 := 0) hK (hP.sub (ws' := (wd_X5_placeIn cI cZ cP cS h_t_blue h_t_blue_fitting h_t_blue_worstLeft (v_turn 1) (v_phase 1) (v_up 1))) [2] rfl) rfl rfl) rfl rfl hl.1 rfl (lv_room (Nat.le_of_ble_eq_true rfl)) dX7_place_24 ⟨Nat.zero_le _, Nat.zero_le _⟩).run (fun x e_15 => ?_)
        rw [e_15]
        exact W.iret hx hb hr (fun t ht hW => ⟨_, rfl, Option.some.inj hf, ht⟩) (fun _ h => nomatch h) dX7_place_27
      · rw [if_neg c14] at hf
        refine lv_bipush (v := (-2)) hx hb dX7_place_17 (by decide) ?_
        refine lv_goto (tgt := 27) hx hb dX7_place_19 (by decide) ?_
        exact W.iret hx hb hr (fun t ht hW => ⟨_, rfl, Option.some.inj hf, ht⟩) (fun _ h => nomatch h) dX7_place_27
    · rw [if_neg c2_1] at hf e_1
      subst e_1
      refine W.eq (g2 := F0 m 5 ls [.null]) rfl ?_
      refine lv_astore_nN (lv' := [(3, .null), (0, .ref h_t), (1, .int x1), (2, .int x2)]) hx hb dX7_place_5 rfl hl (by decide) rfl (fun ls hl => ?_)
      refine lv_aload_nN hx hb dX7_place_6 rfl (lv_at hl 0 rfl) ?_
      refine lv_ifnullN (tgt := 17) hx hb dX7_place_7 (by decide) ?_
      refine lv_bipush (v := (-2)) hx hb dX7_place_17 (by decide) ?_
      refine lv_goto (tgt := 27) hx hb dX7_place_19 (by decide) ?_
      exact W.iret hx hb hr (fun t ht hW => ⟨_, rfl, Option.some.inj hf, ht⟩) (fun _ h => nomatch h) dX7_place_27

abbrev wd_X7_driftByTwo (cI cZ cP cS : ClassId) (h_a1 h_a1_fitting h_a1_worstLeft : Nat) (v_aturn : Int32) (v_aphase : Int32) (v_aup : Int32) : va_W := [(h_a1, .inr (5, [.int v_aturn, .int v_aphase, .int v_aup, .ref h_a1_fitting, .ref h_a1_worstLeft]))]
abbrev rm_X7_driftByTwo : Room := { frames := 2, cells := 0, slots := 0, locals := 43 }
def L_X7_driftByTwo_8 (n : Nat) (v_aturn : Int32) (v_aphase : Int32) (x1 : Int32) (x2 : Int32) (kx8 : Int32 → Option (Int32)) : Nat → Int32 → Int32 → Int32 → Option (Int32)
  | 0, _, _, _ => none
  | k8 + 1, y8_3, y8_4, y8_5 => if (24 : Int32) ≤ y8_5 then kx8 y8_3 else bd1_ (f_X5_awayFromRise n v_aturn v_aphase y8_4) (fun (r19_1 : Int32) => lt_ ((if (y8_5 &&& 1) = 0 then x1 else x2) : Int32) (fun v40_4 => L_X7_driftByTwo_8 n v_aturn v_aphase x1 x2 kx8 k8 (if y8_3 < r19_1 then r19_1 else y8_3) (y8_4 + v40_4) (y8_5 + 1)))
theorem L_X7_driftByTwo_8_s (n : Nat) (v_aturn : Int32) (v_aphase : Int32) (x1 : Int32) (x2 : Int32) (kx8 : Int32 → Option (Int32)) (k8 : Nat) (y8_3 : Int32) (y8_4 : Int32) (y8_5 : Int32) : L_X7_driftByTwo_8 n v_aturn v_aphase x1 x2 kx8 (k8 + 1) y8_3 y8_4 y8_5 = if (24 : Int32) ≤ y8_5 then kx8 y8_3 else bd1_ (f_X5_awayFromRise n v_aturn v_aphase y8_4) (fun (r19_1 : Int32) => lt_ ((if (y8_5 &&& 1) = 0 then x1 else x2) : Int32) (fun v40_4 => L_X7_driftByTwo_8 n v_aturn v_aphase x1 x2 kx8 k8 (if y8_3 < r19_1 then r19_1 else y8_3) (y8_4 + v40_4) (y8_5 + 1))) := rfl
def f_X7_driftByTwo (n : Nat) (v_aturn : Int32) (v_aphase : Int32) (x1 : Int32) (x2 : Int32) : Option (Int32) := jn1_ (fun (z8_3 : Int32) => some z8_3) (fun kx8 => L_X7_driftByTwo_8 n v_aturn v_aphase x1 x2 kx8 n 0 0 0)
set_option maxHeartbeats 4000000 in
set_option maxRecDepth 100000 in
theorem c_X7_driftByTwo (l : Launch) (dC : Nat → ClassId) (dI : Nat → Nat → Nat) (cI cZ cP cS : ClassId) (h_a1 h_a1_fitting h_a1_worstLeft : Nat) (v_aturn : Int32) (v_aphase : Int32) (v_aup : Int32) (x1 : Int32) (x2 : Int32) (n : Nat) (r : Int32) (hf : f_X7_driftByTwo n v_aturn v_aphase x1 x2 = some r) : Met l yX7_driftByTwo wsX7_driftByTwo rm_X7_driftByTwo (RO (dC, dI) (TY cI cZ cP cS) [.ref h_a1, .int x1, .int x2] (wd_X7_driftByTwo cI cZ cP cS h_a1 h_a1_fitting h_a1_worstLeft v_aturn v_aphase v_aup)) (vp_Si (fun x => x = r)) 0 0 NF := by
  refine Met.ofW (cc := cX7_driftByTwo) (maxL := 6) (ret := (some .int)) (by decide) rfl ?_
  intro p e s m args below meth c s₁ B hml hv
  obtain ⟨rfl, hP, hK⟩ := hv
  have hx := B.exec
  have hb := B.bytes
  have hr := B.returns
  have hts := atoms_spec (ws := wsX7_driftByTwo) B.pre
  have hown : s.vm.findClass RX7 = some m.cls := findClass_of_methodNamed B.named
  have hlocks := B.notSynchronized
  have hl := lv_entry ([.ref h_a1, .int x1, .int x2]) (n := 6) (Nat.le_of_ble_eq_true rfl)
  rw [lg_entry_eq]
  generalize (lg_sl ([.ref h_a1, .int x1, .int x2]) ++ List.replicate (6 - (lg_sl ([.ref h_a1, .int x1, .int x2])).length) Slot.unset).toArray = ls at hl ⊢
  have hl : lv_has ls 6 [(0, .ref h_a1), (1, .int x1), (2, .int x2)] := hl
  unfold f_X7_driftByTwo at hf
  refine lv_iconst (v := 0) hx hb dX7_driftByTwo_0 (by decide) ?_
  refine lv_istore_n (lv' := [(3, .int 0), (0, .ref h_a1), (1, .int x1), (2, .int x2)]) hx hb dX7_driftByTwo_1 rfl hl (by decide) rfl (fun ls hl => ?_)
  refine lv_iconst (v := 0) hx hb dX7_driftByTwo_2 (by decide) ?_
  refine lv_istore (lv' := [(4, .int 0), (3, .int 0), (0, .ref h_a1), (1, .int x1), (2, .int x2)]) hx hb dX7_driftByTwo_3 hl (by decide) rfl (fun ls hl => ?_)
  refine lv_iconst (v := 0) hx hb dX7_driftByTwo_5 (by decide) ?_
  refine lv_istore (lv' := [(5, .int 0), (4, .int 0), (3, .int 0), (0, .ref h_a1), (1, .int x1), (2, .int x2)]) hx hb dX7_driftByTwo_6 hl (by decide) rfl (fun ls hl => ?_)
  obtain ⟨kx8, ekx8, hf⟩ := jn1_e hf
  have hx8 : ∀ (z8_3 : Int32) (ls : Array Slot), lv_has ls 6 [(3, .int z8_3)] → kx8 z8_3 = some r → W p l e (headSpec wsX7_driftByTwo rm_X7_driftByTwo).room s m ([.ref h_a1, .int x1, .int x2] : List Value).toArray below meth c s.heap [] 0 0 (MQ below (vp_Si (fun x => x = r)) ([.ref h_a1, .int x1, .int x2] : List Value).toArray s 0 0 NF) (F0 m 49 ls []) := by
    intro z8_3 ls hl hf
    rw [ekx8] at hf
    refine lv_iload_n hx hb dX7_driftByTwo_49 rfl (lv_at hl 0 rfl) ?_
    exact W.iret hx hb hr (fun t ht hW => ⟨_, rfl, Option.some.inj hf, ht⟩) (fun _ h => nomatch h) dX7_driftByTwo_50
  have hL8 : ∀ (k8 : Nat) (y8_3 : Int32) (y8_4 : Int32) (y8_5 : Int32) (ls : Array Slot), lv_has ls 6 [(0, .ref h_a1), (1, .int x1), (2, .int x2), (3, .int y8_3), (4, .int y8_4), (5, .int y8_5)] → L_X7_driftByTwo_8 n v_aturn v_aphase x1 x2 kx8 k8 y8_3 y8_4 y8_5 = some r → W p l e (headSpec wsX7_driftByTwo rm_X7_driftByTwo).room s m ([.ref h_a1, .int x1, .int x2] : List Value).toArray below meth c s.heap [] 0 0 (MQ below (vp_Si (fun x => x = r)) ([.ref h_a1, .int x1, .int x2] : List Value).toArray s 0 0 NF) (F0 m 8 ls []) := by
    intro k8
    induction k8 with
    | zero =>
      intro y8_3 y8_4 y8_5 ls hl hf
      exact absurd hf (fun h => Option.some_ne_none _ h.symm)
    | succ k8 ih =>
      intro y8_3 y8_4 y8_5 ls hl hf
      rw [L_X7_driftByTwo_8_s] at hf
      refine lv_iload hx hb dX7_driftByTwo_8 (lv_at hl 5 rfl) ?_
      refine lv_bipush (v := 24) hx hb dX7_driftByTwo_10 (by decide) ?_
      refine lv_icmp_ge (tgt := 49) hx hb dX7_driftByTwo_12 (by decide) (fun c12 => ?_) (fun c12 => ?_)
      · rw [if_pos c12] at hf
        exact hx8 y8_3 ls (lv_sub hl [3] rfl) hf
      · rw [if_neg c12] at hf
        refine lv_iload_n hx hb dX7_driftByTwo_15 rfl (lv_at hl 3 rfl) ?_
        refine lv_aload_n hx hb dX7_driftByTwo_16 rfl (lv_at hl 0 rfl) ?_
        refine lv_iload hx hb dX7_driftByTwo_17 (lv_at hl 4 rfl) ?_
        obtain ⟨r19_1, hc_2, hf⟩ := bd1_e hf
        refine vp_callSi (va_runV (As := [.int y8_4]) (rest := [.int y8_3]) ⟨hx, hb, hml, hown, hts⟩ (c_X5_awayFromRise l dC dI cI cZ cP cS h_a1 h_a1_fitting h_a1_worstLeft v_aturn v_aphase v_aup y8_4 n r19_1 hc_2) (cwV 1 hts gX7_driftByTwo_X5_awayFromRise rfl rfl rfl (by decide +kernel) ⟨Nat.le_of_ble_eq_true rfl, Nat.le_of_ble_eq_true rfl⟩) (pv_ro (ci := 5) (q0 := 0) hK (hP.sub (ws' := (wd_X5_awayFromRise cI cZ cP cS h_a1 h_a1_fitting h_a1_worstLeft v_aturn v_aphase v_aup)) [0] rfl) rfl rfl) rfl rfl hl.1 rfl (lv_room (Nat.le_of_ble_eq_true rfl)) dX7_driftByTwo_19 ⟨Nat.zero_le _, Nat.zero_le _⟩).run (fun x e_3 => ?_)
        rw [e_3]
        refine va_mmax hx hb (hml.trans hl.1.symm) hown (hts (.methodLink RX7 366 Lib.Math.max.name) (by decide +kernel)) (hts (.static Lib.Math.max.name) (by decide +kernel)) (hts (.initialized "java/lang/Math") (by decide +kernel)) (hts (.code Lib.Math.max.name Lib.Math.max.code 2 (some .int)) (by decide +kernel)) (Nat.le_of_ble_eq_true rfl) (Nat.le_of_ble_eq_true rfl) (Nat.zero_le _) (Nat.zero_le _) dX7_driftByTwo_22 ?_
        refine lv_istore_n (lv' := [(3, .int (if y8_3 < r19_1 then r19_1 else y8_3)), (0, .ref h_a1), (1, .int x1), (2, .int x2), (4, .int y8_4), (5, .int y8_5)]) hx hb dX7_driftByTwo_25 rfl hl (by decide) rfl (fun ls hl => ?_)
        refine lv_iload hx hb dX7_driftByTwo_26 (lv_at hl 4 rfl) ?_
        refine lv_iload hx hb dX7_driftByTwo_28 (lv_at hl 5 rfl) ?_
        refine lv_iconst (v := 1) hx hb dX7_driftByTwo_30 (by decide) ?_
        refine lv_iand hx hb dX7_driftByTwo_31 ?_
        obtain ⟨v40_4, ev40_4, hf⟩ := lt_e hf
        have hj40_5 : ∀ (ls : Array Slot), lv_has ls 6 [(0, .ref h_a1), (1, .int x1), (2, .int x2), (3, .int (if y8_3 < r19_1 then r19_1 else y8_3)), (5, .int y8_5)] → W p l e (headSpec wsX7_driftByTwo rm_X7_driftByTwo).room s m ([.ref h_a1, .int x1, .int x2] : List Value).toArray below meth c s.heap [] 0 0 (MQ below (vp_Si (fun x => x = r)) ([.ref h_a1, .int x1, .int x2] : List Value).toArray s 0 0 NF) (F0 m 40 ls [.int v40_4, .int y8_4]) := by
          intro ls hl
          refine lv_iadd hx hb dX7_driftByTwo_40 ?_
          refine lv_istore (lv' := [(4, .int (y8_4 + v40_4)), (0, .ref h_a1), (1, .int x1), (2, .int x2), (3, .int (if y8_3 < r19_1 then r19_1 else y8_3)), (5, .int y8_5)]) hx hb dX7_driftByTwo_41 hl (by decide) rfl (fun ls hl => ?_)
          refine lv_iinc (v := (y8_5 + 1)) (lv' := [(5, .int (y8_5 + 1)), (4, .int (y8_4 + v40_4)), (0, .ref h_a1), (1, .int x1), (2, .int x2), (3, .int (if y8_3 < r19_1 then r19_1 else y8_3))]) hx hb dX7_driftByTwo_43 hl (k := 5) rfl rfl (by decide) rfl (fun ls hl => ?_)
          refine lv_goto (tgt := 8) hx hb dX7_driftByTwo_46 (by decide) ?_
          exact ih (if y8_3 < r19_1 then r19_1 else y8_3) (y8_4 + v40_4) (y8_5 + 1) ls (lv_sub hl [2, 3, 4, 5, 1, 0] rfl) hf
        clear hf
        refine lv_if_ne (tgt := 39) hx hb dX7_driftByTwo_32 (by decide) (fun c32 => ?_) (fun c32 => ?_)
        ·
          refine lv_iload_n hx hb dX7_driftByTwo_39 rfl (lv_at hl 3 rfl) ?_
          rw [if_neg c32] at ev40_4
          subst ev40_4
          exact hj40_5 ls (lv_sub hl [1, 2, 3, 0, 5] rfl)
        ·
          refine lv_iload_n hx hb dX7_driftByTwo_35 rfl (lv_at hl 2 rfl) ?_
          refine lv_goto (tgt := 40) hx hb dX7_driftByTwo_36 (by decide) ?_
          rw [if_pos c32] at ev40_4
          subst ev40_4
          exact hj40_5 ls (lv_sub hl [1, 2, 3, 0, 5] rfl)
  exact hL8 n 0 0 0 ls (lv_sub hl [3, 4, 5, 2, 1, 0] rfl) hf

abbrev wd_X7_firstOfTwo (cI cZ cP cS : ClassId) (h_a1 h_a1_fitting h_a1_worstLeft : Nat) (v_aturn : Int32) (v_aphase : Int32) (v_aup : Int32) : va_W := [(h_a1, .inr (5, [.int v_aturn, .int v_aphase, .int v_aup, .ref h_a1_fitting, .ref h_a1_worstLeft]))]
abbrev rm_X7_firstOfTwo : Room := { frames := 3, cells := 0, slots := 0, locals := 68 }
def L_X7_firstOfTwo_22 (n : Nat) (v_aturn : Int32) (v_aphase : Int32) (x1 : Int32) (x2 : Int32) (kx22 : Option (Int32)) : Nat → Int32 → Option (Int32)
  | 0, _ => none
  | k22 + 1, y22_5 => if (if (x2 - 1) < 40 then (x2 - 1) else 40) < y22_5 then kx22 else bd1_ (f_X7_driftByTwo n v_aturn v_aphase y22_5 (x2 - y22_5)) (fun (r36_1 : Int32) => if x1 < r36_1 then L_X7_firstOfTwo_22 n v_aturn v_aphase x1 x2 kx22 k22 (y22_5 + 1) else some y22_5)
theorem L_X7_firstOfTwo_22_s (n : Nat) (v_aturn : Int32) (v_aphase : Int32) (x1 : Int32) (x2 : Int32) (kx22 : Option (Int32)) (k22 : Nat) (y22_5 : Int32) : L_X7_firstOfTwo_22 n v_aturn v_aphase x1 x2 kx22 (k22 + 1) y22_5 = if (if (x2 - 1) < 40 then (x2 - 1) else 40) < y22_5 then kx22 else bd1_ (f_X7_driftByTwo n v_aturn v_aphase y22_5 (x2 - y22_5)) (fun (r36_1 : Int32) => if x1 < r36_1 then L_X7_firstOfTwo_22 n v_aturn v_aphase x1 x2 kx22 k22 (y22_5 + 1) else some y22_5) := rfl
def f_X7_firstOfTwo (n : Nat) (v_aturn : Int32) (v_aphase : Int32) (x1 : Int32) (x2 : Int32) : Option (Int32) := jn0_ (some (-1)) (fun kx22 => L_X7_firstOfTwo_22 n v_aturn v_aphase x1 x2 kx22 n (if (1 : Int32) < (x2 - 40) then (x2 - 40) else 1))
set_option maxHeartbeats 4000000 in
set_option maxRecDepth 100000 in
theorem c_X7_firstOfTwo (l : Launch) (dC : Nat → ClassId) (dI : Nat → Nat → Nat) (cI cZ cP cS : ClassId) (h_a1 h_a1_fitting h_a1_worstLeft : Nat) (v_aturn : Int32) (v_aphase : Int32) (v_aup : Int32) (x1 : Int32) (x2 : Int32) (n : Nat) (r : Int32) (hf : f_X7_firstOfTwo n v_aturn v_aphase x1 x2 = some r) : Met l yX7_firstOfTwo wsX7_firstOfTwo rm_X7_firstOfTwo (RO (dC, dI) (TY cI cZ cP cS) [.ref h_a1, .int x1, .int x2] (wd_X7_firstOfTwo cI cZ cP cS h_a1 h_a1_fitting h_a1_worstLeft v_aturn v_aphase v_aup)) (vp_Si (fun x => x = r)) 0 0 NF := by
  refine Met.ofW (cc := cX7_firstOfTwo) (maxL := 6) (ret := (some .int)) (by decide) rfl ?_
  intro p e s m args below meth c s₁ B hml hv
  obtain ⟨rfl, hP, hK⟩ := hv
  have hx := B.exec
  have hb := B.bytes
  have hr := B.returns
  have hts := atoms_spec (ws := wsX7_firstOfTwo) B.pre
  have hown : s.vm.findClass RX7 = some m.cls := findClass_of_methodNamed B.named
  have hlocks := B.notSynchronized
  have hl := lv_entry ([.ref h_a1, .int x1, .int x2]) (n := 6) (Nat.le_of_ble_eq_true rfl)
  rw [lg_entry_eq]
  generalize (lg_sl ([.ref h_a1, .int x1, .int x2]) ++ List.replicate (6 - (lg_sl ([.ref h_a1, .int x1, .int x2])).length) Slot.unset).toArray = ls at hl ⊢
  have hl : lv_has ls 6 [(0, .ref h_a1), (1, .int x1), (2, .int x2)] := hl
  unfold f_X7_firstOfTwo at hf
  refine lv_iconst (v := 1) hx hb dX7_firstOfTwo_0 (by decide) ?_
  refine lv_iload_n hx hb dX7_firstOfTwo_1 rfl (lv_at hl 2 rfl) ?_
  refine lv_bipush (v := 40) hx hb dX7_firstOfTwo_2 (by decide) ?_
  refine lv_isub hx hb dX7_firstOfTwo_4 ?_
  refine va_mmax hx hb (hml.trans hl.1.symm) hown (hts (.methodLink RX7 366 Lib.Math.max.name) (by decide +kernel)) (hts (.static Lib.Math.max.name) (by decide +kernel)) (hts (.initialized "java/lang/Math") (by decide +kernel)) (hts (.code Lib.Math.max.name Lib.Math.max.code 2 (some .int)) (by decide +kernel)) (Nat.le_of_ble_eq_true rfl) (Nat.le_of_ble_eq_true rfl) (Nat.zero_le _) (Nat.zero_le _) dX7_firstOfTwo_5 ?_
  refine lv_istore_n (lv' := [(3, .int (if (1 : Int32) < (x2 - 40) then (x2 - 40) else 1)), (0, .ref h_a1), (1, .int x1), (2, .int x2)]) hx hb dX7_firstOfTwo_8 rfl hl (by decide) rfl (fun ls hl => ?_)
  refine lv_bipush (v := 40) hx hb dX7_firstOfTwo_9 (by decide) ?_
  refine lv_iload_n hx hb dX7_firstOfTwo_11 rfl (lv_at hl 3 rfl) ?_
  refine lv_iconst (v := 1) hx hb dX7_firstOfTwo_12 (by decide) ?_
  refine lv_isub hx hb dX7_firstOfTwo_13 ?_
  refine va_mmin hx hb (hml.trans hl.1.symm) hown (hts (.methodLink RX7 371 Lib.Math.min.name) (by decide +kernel)) (hts (.static Lib.Math.min.name) (by decide +kernel)) (hts (.initialized "java/lang/Math") (by decide +kernel)) (hts (.code Lib.Math.min.name Lib.Math.min.code 2 (some .int)) (by decide +kernel)) (Nat.le_of_ble_eq_true rfl) (Nat.le_of_ble_eq_true rfl) (Nat.zero_le _) (Nat.zero_le _) dX7_firstOfTwo_14 ?_
  refine lv_istore (lv' := [(4, .int (if (x2 - 1) < 40 then (x2 - 1) else 40)), (3, .int (if (1 : Int32) < (x2 - 40) then (x2 - 40) else 1)), (0, .ref h_a1), (1, .int x1), (2, .int x2)]) hx hb dX7_firstOfTwo_17 hl (by decide) rfl (fun ls hl => ?_)
  refine lv_iload_n hx hb dX7_firstOfTwo_19 rfl (lv_at hl 1 rfl) ?_
  refine lv_istore (lv' := [(5, .int (if (1 : Int32) < (x2 - 40) then (x2 - 40) else 1)), (4, .int (if (x2 - 1) < 40 then (x2 - 1) else 40)), (3, .int (if (1 : Int32) < (x2 - 40) then (x2 - 40) else 1)), (0, .ref h_a1), (1, .int x1), (2, .int x2)]) hx hb dX7_firstOfTwo_20 hl (by decide) rfl (fun ls hl => ?_)
  obtain ⟨kx22, ekx22, hf⟩ := jn0_e hf
  have hx22 : ∀ (ls : Array Slot), lv_has ls 6 [] → kx22 = some r → W p l e (headSpec wsX7_firstOfTwo rm_X7_firstOfTwo).room s m ([.ref h_a1, .int x1, .int x2] : List Value).toArray below meth c s.heap [] 0 0 (MQ below (vp_Si (fun x => x = r)) ([.ref h_a1, .int x1, .int x2] : List Value).toArray s 0 0 NF) (F0 m 52 ls []) := by
    intro ls hl hf
    rw [ekx22] at hf
    refine lv_iconst (v := (-1)) hx hb dX7_firstOfTwo_52 (by decide) ?_
    exact W.iret hx hb hr (fun t ht hW => ⟨_, rfl, Option.some.inj hf, ht⟩) (fun _ h => nomatch h) dX7_firstOfTwo_53
  have hL22 : ∀ (k22 : Nat) (y22_5 : Int32) (ls : Array Slot), lv_has ls 6 [(0, .ref h_a1), (1, .int x1), (2, .int x2), (4, .int (if (x2 - 1) < 40 then (x2 - 1) else 40)), (5, .int y22_5)] → L_X7_firstOfTwo_22 n v_aturn v_aphase x1 x2 kx22 k22 y22_5 = some r → W p l e (headSpec wsX7_firstOfTwo rm_X7_firstOfTwo).room s m ([.ref h_a1, .int x1, .int x2] : List Value).toArray below meth c s.heap [] 0 0 (MQ below (vp_Si (fun x => x = r)) ([.ref h_a1, .int x1, .int x2] : List Value).toArray s 0 0 NF) (F0 m 22 ls []) := by
    intro k22
    induction k22 with
    | zero =>
      intro y22_5 ls hl hf
      exact absurd hf (fun h => Option.some_ne_none _ h.symm)
    | succ k22 ih =>
      intro y22_5 ls hl hf
      rw [L_X7_firstOfTwo_22_s] at hf
      refine lv_iload hx hb dX7_firstOfTwo_22 (lv_at hl 4 rfl) ?_
      refine lv_iload hx hb dX7_firstOfTwo_24 (lv_at hl 3 rfl) ?_
      refine lv_icmp_gt (tgt := 52) hx hb dX7_firstOfTwo_26 (by decide) (fun c26 => ?_) (fun c26 => ?_)
      · rw [if_pos c26] at hf
        exact hx22 ls (lv_sub hl [] rfl) hf
      · rw [if_neg c26] at hf
        refine lv_aload_n hx hb dX7_firstOfTwo_29 rfl (lv_at hl 0 rfl) ?_
        refine lv_iload hx hb dX7_firstOfTwo_30 (lv_at hl 4 rfl) ?_
        refine lv_iload_n hx hb dX7_firstOfTwo_32 rfl (lv_at hl 2 rfl) ?_
        refine lv_iload hx hb dX7_firstOfTwo_33 (lv_at hl 4 rfl) ?_
        refine lv_isub hx hb dX7_firstOfTwo_35 ?_
        obtain ⟨r36_1, hc_2, hf⟩ := bd1_e hf
        refine vp_callSi (va_runS (As := [.ref h_a1, .int y22_5, .int (x2 - y22_5)]) (rest := []) ⟨hx, hb, hml, hown, hts⟩ (c_X7_driftByTwo l dC dI cI cZ cP cS h_a1 h_a1_fitting h_a1_worstLeft v_aturn v_aphase v_aup y22_5 (x2 - y22_5) n r36_1 hc_2) (va_cwS 3 hts gX7_firstOfTwo_X7_driftByTwo rfl rfl rfl (by decide +kernel) ⟨Nat.le_of_ble_eq_true rfl, Nat.le_of_ble_eq_true rfl⟩) (ps_ro hK (hP.sub (ws' := (wd_X7_driftByTwo cI cZ cP cS h_a1 h_a1_fitting h_a1_worstLeft v_aturn v_aphase v_aup)) [0] rfl)) rfl rfl hl.1 rfl (lv_room (Nat.le_of_ble_eq_true rfl)) dX7_firstOfTwo_36 ⟨Nat.zero_le _, Nat.zero_le _⟩).run (fun x e_3 => ?_)
        rw [e_3]
        refine lv_iload_n hx hb dX7_firstOfTwo_39 rfl (lv_at hl 1 rfl) ?_
        refine lv_icmp_gt (tgt := 46) hx hb dX7_firstOfTwo_40 (by decide) (fun c40 => ?_) (fun c40 => ?_)
        · rw [if_pos c40] at hf
          refine lv_iinc (v := (y22_5 + 1)) (lv' := [(5, .int (y22_5 + 1)), (0, .ref h_a1), (1, .int x1), (2, .int x2), (4, .int (if (x2 - 1) < 40 then (x2 - 1) else 40))]) hx hb dX7_firstOfTwo_46 hl (k := 4) rfl rfl (by decide) rfl (fun ls hl => ?_)
          refine lv_goto (tgt := 22) hx hb dX7_firstOfTwo_49 (by decide) ?_
          exact ih (y22_5 + 1) ls (lv_sub hl [1, 2, 3, 4, 0] rfl) hf
        · rw [if_neg c40] at hf
          refine lv_iload hx hb dX7_firstOfTwo_43 (lv_at hl 4 rfl) ?_
          exact W.iret hx hb hr (fun t ht hW => ⟨_, rfl, Option.some.inj hf, ht⟩) (fun _ h => nomatch h) dX7_firstOfTwo_45
  exact hL22 n (if (1 : Int32) < (x2 - 40) then (x2 - 40) else 1) ls (lv_sub hl [3, 4, 5, 1, 0] rfl) hf
