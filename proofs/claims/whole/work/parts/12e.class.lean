abbrev wd_X7_get (cI cZ cP cS : ClassId) (h_t h_t_red h_t_blue h_t_sky h_t_diary h_t_calendar h_t_awakeIn h_t_worths h_t_plants h_t_sheets h_t_bestFrom h_t_s0 h_t_s1 h_t_s2 h_t_s3 h_t_s0_items h_t_s1_items h_t_s2_items h_t_s3_items : Nat) (v_latestFinding : Int32) (v_sform : Nat → Int32) (v_ssize : Nat → Int32) (v_sitems : Nat → Nat → Int32) : va_W := [(h_t, .inr (6, [.ref h_t_red, .ref h_t_blue, .ref h_t_sky, .ref h_t_diary, .ref h_t_calendar, .ref h_t_awakeIn, .ref h_t_worths, .ref h_t_plants, .ref h_t_sheets, .ref h_t_bestFrom, .int v_latestFinding])), (h_t_sheets, .inl (cS, 4, .inr (.inr (.inr (.inr (ar4 h_t_s0 h_t_s1 h_t_s2 h_t_s3)))))), (h_t_s0, .inr (3, [.int (v_sform 0), .int (v_ssize 0), .ref h_t_s0_items])), (h_t_s0_items, .inl (cI, 48, .inl (v_sitems 0))), (h_t_s1, .inr (3, [.int (v_sform 1), .int (v_ssize 1), .ref h_t_s1_items])), (h_t_s1_items, .inl (cI, 48, .inl (v_sitems 1))), (h_t_s2, .inr (3, [.int (v_sform 2), .int (v_ssize 2), .ref h_t_s2_items])), (h_t_s2_items, .inl (cI, 48, .inl (v_sitems 2))), (h_t_s3, .inr (3, [.int (v_sform 3), .int (v_ssize 3), .ref h_t_s3_items])), (h_t_s3_items, .inl (cI, 48, .inl (v_sitems 3)))]
abbrev rm_X7_get : Room := { frames := 2, cells := 0, slots := 0, locals := 43 }
def f_X7_get (n : Nat) (v_latestFinding : Int32) (v_sform : Nat → Int32) (v_ssize : Nat → Int32) (v_sitems : Nat → Nat → Int32) (x1 : Int32) (x2 : Int32) (x3 : Int32) : Option (Int32 × Int32) := if x1 = 0 then bd1_ (f_X7_noForm n x2) (fun (r13_2 : Int32) => if r13_2 = 0 then bd1_ (f_X3_findingOf n (v_sform 0) (v_ssize 0) x2 x3) (fun (r27_6 : Int32) => if r27_6 = 0 then ix_ x3 48 (some (((v_sitems 0) x3.toNatClampNeg), v_latestFinding)) else bd2_ (f_X7_found n v_latestFinding r27_6) (fun (r40_10 : Int32) (o40_11 : Int32) => some ((-2147483648), o40_11))) else some ((-2147483648), v_latestFinding)) else if x1 = 1 then bd1_ (f_X7_noForm n x2) (fun (r13_14 : Int32) => if r13_14 = 0 then bd1_ (f_X3_findingOf n (v_sform 1) (v_ssize 1) x2 x3) (fun (r27_18 : Int32) => if r27_18 = 0 then ix_ x3 48 (some (((v_sitems 1) x3.toNatClampNeg), v_latestFinding)) else bd2_ (f_X7_found n v_latestFinding r27_18) (fun (r40_22 : Int32) (o40_23 : Int32) => some ((-2147483648), o40_23))) else some ((-2147483648), v_latestFinding)) else if x1 = 2 then bd1_ (f_X7_noForm n x2) (fun (r13_26 : Int32) => if r13_26 = 0 then bd1_ (f_X3_findingOf n (v_sform 2) (v_ssize 2) x2 x3) (fun (r27_30 : Int32) => if r27_30 = 0 then ix_ x3 48 (some (((v_sitems 2) x3.toNatClampNeg), v_latestFinding)) else bd2_ (f_X7_found n v_latestFinding r27_30) (fun (r40_34 : Int32) (o40_35 : Int32) => some ((-2147483648), o40_35))) else some ((-2147483648), v_latestFinding)) else if x1 = 3 then bd1_ (f_X7_noForm n x2) (fun (r13_38 : Int32) => if r13_38 = 0 then bd1_ (f_X3_findingOf n (v_sform 3) (v_ssize 3) x2 x3) (fun (r27_42 : Int32) => if r27_42 = 0 then ix_ x3 48 (some (((v_sitems 3) x3.toNatClampNeg), v_latestFinding)) else bd2_ (f_X7_found n v_latestFinding r27_42) (fun (r40_46 : Int32) (o40_47 : Int32) => some ((-2147483648), o40_47))) else some ((-2147483648), v_latestFinding)) else some ((-2147483648), v_latestFinding)
set_option maxHeartbeats 4000000 in
set_option maxRecDepth 100000 in
theorem c_X7_get (l : Launch) (dC : Nat → ClassId) (dI : Nat → Nat → Nat) (cI cZ cP cS : ClassId) (sz : Nat) (h_t h_t_red h_t_blue h_t_sky h_t_diary h_t_calendar h_t_awakeIn h_t_worths h_t_plants h_t_sheets h_t_bestFrom h_t_s0 h_t_s1 h_t_s2 h_t_s3 h_t_s0_items h_t_s1_items h_t_s2_items h_t_s3_items : Nat) (v_latestFinding : Int32) (v_sform : Nat → Int32) (v_ssize : Nat → Int32) (v_sitems : Nat → Nat → Int32) (x1 : Int32) (x2 : Int32) (x3 : Int32) (n : Nat) (r : Int32) (o_latestFinding : Int32) (hf : f_X7_get n v_latestFinding v_sform v_ssize v_sitems x1 x2 x3 = some (r, o_latestFinding)) : Met l yX7_get wsX7_get rm_X7_get (RW (dC, dI) (TY cI cZ cP cS) [.ref h_t, .int x1, .int x2, .int x3] sz (wd_X7_get cI cZ cP cS h_t h_t_red h_t_blue h_t_sky h_t_diary h_t_calendar h_t_awakeIn h_t_worths h_t_plants h_t_sheets h_t_bestFrom h_t_s0 h_t_s1 h_t_s2 h_t_s3 h_t_s0_items h_t_s1_items h_t_s2_items h_t_s3_items v_latestFinding v_sform v_ssize v_sitems)) (RWi (dC, dI) (TY cI cZ cP cS) r sz (wd_X7_get cI cZ cP cS h_t h_t_red h_t_blue h_t_sky h_t_diary h_t_calendar h_t_awakeIn h_t_worths h_t_plants h_t_sheets h_t_bestFrom h_t_s0 h_t_s1 h_t_s2 h_t_s3 h_t_s0_items h_t_s1_items h_t_s2_items h_t_s3_items v_latestFinding v_sform v_ssize v_sitems) (wd_X7_get cI cZ cP cS h_t h_t_red h_t_blue h_t_sky h_t_diary h_t_calendar h_t_awakeIn h_t_worths h_t_plants h_t_sheets h_t_bestFrom h_t_s0 h_t_s1 h_t_s2 h_t_s3 h_t_s0_items h_t_s1_items h_t_s2_items h_t_s3_items o_latestFinding v_sform v_ssize v_sitems)) 0 0 (va_A (wd_X7_get cI cZ cP cS h_t h_t_red h_t_blue h_t_sky h_t_diary h_t_calendar h_t_awakeIn h_t_worths h_t_plants h_t_sheets h_t_bestFrom h_t_s0 h_t_s1 h_t_s2 h_t_s3 h_t_s0_items h_t_s1_items h_t_s2_items h_t_s3_items v_latestFinding v_sform v_ssize v_sitems) sz) := by
  refine Met.ofW (cc := cX7_get) (maxL := 6) (ret := (some .int)) (by decide) rfl ?_
  intro p e s m args below meth c s₁ B hml hv
  obtain ⟨rfl, hsz, hP, hK, hD0⟩ := hv
  have hx := B.exec
  have hb := B.bytes
  have hr := B.returns
  have hts := atoms_spec (ws := wsX7_get) B.pre
  have hown : s.vm.findClass RX7 = some m.cls := findClass_of_methodNamed B.named
  have hlocks := B.notSynchronized
  subst hsz
  have hD := hD0.self (sz := s.heap.size)
  have hA : ∀ q : Nat, s.heap.size ≤ q → (va_A (wd_X7_get cI cZ cP cS h_t h_t_red h_t_blue h_t_sky h_t_diary h_t_calendar h_t_awakeIn h_t_worths h_t_plants h_t_sheets h_t_bestFrom h_t_s0 h_t_s1 h_t_s2 h_t_s3 h_t_s0_items h_t_s1_items h_t_s2_items h_t_s3_items v_latestFinding v_sform v_ssize v_sitems) s.heap.size) q := fun q h => Or.inr h
  have hS : va_S (va_A (wd_X7_get cI cZ cP cS h_t h_t_red h_t_blue h_t_sky h_t_diary h_t_calendar h_t_awakeIn h_t_worths h_t_plants h_t_sheets h_t_bestFrom h_t_s0 h_t_s1 h_t_s2 h_t_s3 h_t_s0_items h_t_s1_items h_t_s2_items h_t_s3_items v_latestFinding v_sform v_ssize v_sitems) s.heap.size) s.heap s.heap [] := va_S.rf
  have hinX3 : ∀ w ∈ wsX30, w ∈ wsX7_get := by decide +kernel
  have hl := lv_entry ([.ref h_t, .int x1, .int x2, .int x3]) (n := 6) (Nat.le_of_ble_eq_true rfl)
  rw [lg_entry_eq]
  generalize (lg_sl ([.ref h_t, .int x1, .int x2, .int x3]) ++ List.replicate (6 - (lg_sl ([.ref h_t, .int x1, .int x2, .int x3])).length) Slot.unset).toArray = ls at hl ⊢
  have hl : lv_has ls 6 [(0, .ref h_t), (1, .int x1), (2, .int x2), (3, .int x3)] := hl
  obtain ⟨H, hH⟩ : ∃ H : Heap, H = s.heap := ⟨_, rfl⟩
  have hP : va_P (dC, dI) vwCl (wd_X7_get cI cZ cP cS h_t h_t_red h_t_blue h_t_sky h_t_diary h_t_calendar h_t_awakeIn h_t_worths h_t_plants h_t_sheets h_t_bestFrom h_t_s0 h_t_s1 h_t_s2 h_t_s3 h_t_s0_items h_t_s1_items h_t_s2_items h_t_s3_items v_latestFinding v_sform v_ssize v_sitems) H := by rw [hH]; exact hP
  have hS : va_S (va_A (wd_X7_get cI cZ cP cS h_t h_t_red h_t_blue h_t_sky h_t_diary h_t_calendar h_t_awakeIn h_t_worths h_t_plants h_t_sheets h_t_bestFrom h_t_s0 h_t_s1 h_t_s2 h_t_s3 h_t_s0_items h_t_s1_items h_t_s2_items h_t_s3_items v_latestFinding v_sform v_ssize v_sitems) s.heap.size) s.heap H [] := by rw [hH]; exact hS
  obtain ⟨locs, hlo⟩ : ∃ L : List Loc, L = [] := ⟨_, rfl⟩
  rw [← hlo] at hS
  suffices hgo : W p l e (headSpec wsX7_get rm_X7_get).room s m ([.ref h_t, .int x1, .int x2, .int x3] : List Value).toArray below meth c H locs 0 0 (MQ below (RWi (dC, dI) (TY cI cZ cP cS) r s.heap.size (wd_X7_get cI cZ cP cS h_t h_t_red h_t_blue h_t_sky h_t_diary h_t_calendar h_t_awakeIn h_t_worths h_t_plants h_t_sheets h_t_bestFrom h_t_s0 h_t_s1 h_t_s2 h_t_s3 h_t_s0_items h_t_s1_items h_t_s2_items h_t_s3_items v_latestFinding v_sform v_ssize v_sitems) (wd_X7_get cI cZ cP cS h_t h_t_red h_t_blue h_t_sky h_t_diary h_t_calendar h_t_awakeIn h_t_worths h_t_plants h_t_sheets h_t_bestFrom h_t_s0 h_t_s1 h_t_s2 h_t_s3 h_t_s0_items h_t_s1_items h_t_s2_items h_t_s3_items o_latestFinding v_sform v_ssize v_sitems)) ([.ref h_t, .int x1, .int x2, .int x3] : List Value).toArray s 0 0 (va_A (wd_X7_get cI cZ cP cS h_t h_t_red h_t_blue h_t_sky h_t_diary h_t_calendar h_t_awakeIn h_t_worths h_t_plants h_t_sheets h_t_bestFrom h_t_s0 h_t_s1 h_t_s2 h_t_s3 h_t_s0_items h_t_s1_items h_t_s2_items h_t_s3_items v_latestFinding v_sform v_ssize v_sitems) s.heap.size)) (F0 m 0 ls []) by rw [hH, hlo] at hgo; exact hgo
  clear hH hlo
  unfold f_X7_get at hf
  refine lv_aload_n hx hb dX7_get_0 rfl (lv_at hl 0 rfl) ?_
  refine lv_iload_n hx hb dX7_get_1 rfl (lv_at hl 1 rfl) ?_
  refine va_csq (va_runV (As := [.int x1]) (rest := []) ⟨hx, hb, hml, hown, hts⟩ (c_X7_sheetOf l dC dI cI cZ cP cS h_t h_t_red h_t_blue h_t_sky h_t_diary h_t_calendar h_t_awakeIn h_t_worths h_t_plants h_t_sheets h_t_bestFrom h_t_s0 h_t_s1 h_t_s2 h_t_s3 v_latestFinding x1) (cwV 1 hts gX7_get_X7_sheetOf rfl rfl rfl (by decide +kernel) ⟨Nat.le_of_ble_eq_true rfl, Nat.le_of_ble_eq_true rfl⟩) (pv_ro (ci := 6) (q0 := 0) hK (hP.sub (ws' := (wd_X7_sheetOf cI cZ cP cS h_t h_t_red h_t_blue h_t_sky h_t_diary h_t_calendar h_t_awakeIn h_t_worths h_t_plants h_t_sheets h_t_bestFrom h_t_s0 h_t_s1 h_t_s2 h_t_s3 v_latestFinding)) [0, 1] rfl) rfl rfl) rfl rfl hl.1 rfl (lv_room (Nat.le_of_ble_eq_true rfl)) dX7_get_2 ⟨Nat.zero_le _, Nat.zero_le _⟩).run (fun x e_1 => ?_)
  by_cases c2_0 : x1 = 0
  · rw [if_pos c2_0] at hf e_1
    subst e_1
    refine W.eq (g2 := F0 m 5 ls [.ref h_t_s0]) rfl ?_
    refine lv_astore (lv' := [(4, .ref h_t_s0), (0, .ref h_t), (1, .int x1), (2, .int x2), (3, .int x3)]) hx hb dX7_get_5 hl (by decide) rfl (fun ls hl => ?_)
    refine lv_aload hx hb dX7_get_7 (lv_at hl 0 rfl) ?_
    refine lv_ifnull hx hb dX7_get_9 ?_
    refine lv_iload_n hx hb dX7_get_12 rfl (lv_at hl 3 rfl) ?_
    obtain ⟨r13_2, hc_3, hf⟩ := bd1_e hf
    refine vp_callSi (va_runS (As := [.int x2]) (rest := []) ⟨hx, hb, hml, hown, hts⟩ (c_X7_noForm l dC dI cI cZ cP cS   x2 n r13_2 hc_3) (va_cwS 1 hts gX7_get_X7_noForm rfl rfl rfl (by decide +kernel) ⟨Nat.le_of_ble_eq_true rfl, Nat.le_of_ble_eq_true rfl⟩) (ps_ro hK (hP.sub (ws' := ([] : va_W)) [] rfl)) rfl rfl hl.1 rfl (lv_room (Nat.le_of_ble_eq_true rfl)) dX7_get_13 ⟨Nat.zero_le _, Nat.zero_le _⟩).run (fun x e_4 => ?_)
    obtain ⟨e_4, hb_5⟩ := e_4
    rw [e_4] at hb_5 ⊢
    refine lv_if_eq (tgt := 23) hx hb dX7_get_16 (by decide) (fun c16 => ?_) (fun c16 => ?_)
    · rw [if_pos c16] at hf
      refine lv_aload hx hb dX7_get_23 (lv_at hl 0 rfl) ?_
      refine lv_iload_n hx hb dX7_get_25 rfl (lv_at hl 3 rfl) ?_
      refine lv_iload_n hx hb dX7_get_26 rfl (lv_at hl 4 rfl) ?_
      obtain ⟨r27_6, hc_7, hf⟩ := bd1_e hf
      refine vp_callSi (va_runV (As := [.int x2, .int x3]) (rest := []) ⟨hx, hb, hml, hown, hts⟩ (c_X3_findingOf l dC dI cI cZ cP cS h_t_s0 h_t_s0_items (v_sform 0) (v_ssize 0) x2 x3 n r27_6 hc_7) (cwV 2 hts gX7_get_X3_findingOf rfl rfl rfl (by decide +kernel) ⟨Nat.le_of_ble_eq_true rfl, Nat.le_of_ble_eq_true rfl⟩) (pv_ro (ci := 3) (q0 := 0) hK (hP.sub (ws' := (wd_X3_findingOf cI cZ cP cS h_t_s0 h_t_s0_items (v_sform 0) (v_ssize 0))) [2] rfl) rfl rfl) rfl rfl hl.1 rfl (lv_room (Nat.le_of_ble_eq_true rfl)) dX7_get_27 ⟨Nat.zero_le _, Nat.zero_le _⟩).run (fun x e_8 => ?_)
      rw [e_8]
      refine lv_istore (lv' := [(5, .int r27_6), (4, .ref h_t_s0), (0, .ref h_t), (1, .int x1), (2, .int x2), (3, .int x3)]) hx hb dX7_get_30 hl (by decide) rfl (fun ls hl => ?_)
      refine lv_iload hx hb dX7_get_32 (lv_at hl 0 rfl) ?_
      refine lv_if_eq (tgt := 48) hx hb dX7_get_34 (by decide) (fun c34 => ?_) (fun c34 => ?_)
      · rw [if_pos c34] at hf
        refine lv_aload hx hb dX7_get_48 (lv_at hl 1 rfl) ?_
        refine va_get (D := (dC, dI)) (ci := 3) (v := .ref h_t_s0_items) (C := RX3) (T := TX3) (N := 3) hx hb hts hinX3 hown hK hP 2 rfl rfl 2 (by decide) (hts (.fieldLink RX7 229 "SecondSunrise$Sheet" "items" "[I") (by decide +kernel)) (fun _ h9 => h9) rfl dX7_get_50 ?_
        refine lv_iload_n hx hb dX7_get_53 rfl (lv_at hl 5 rfl) ?_
        obtain ⟨hi_9, hf⟩ := ix_e hf
        refine va_iald hx hb hK hP 3 0 rfl rfl hi_9 dX7_get_54 ?_
        have hq0 := Option.some.inj hf
        obtain ⟨eq0, hq1⟩ := Prod.mk.inj hq0
        clear hf hq0
        subst eq0
        subst hq1
        exact W.iret hx hb hr (fun t ht hW => ⟨⟨_, (), rfl, rfl, by rw [ht]; exact hP, va_K.moved hW.alike hK, hD⟩, hS.F ht⟩) hS.2.2 dX7_get_55
      · rw [if_neg c34] at hf
        refine lv_aload_n hx hb dX7_get_37 rfl (lv_at hl 2 rfl) ?_
        refine lv_iload hx hb dX7_get_38 (lv_at hl 0 rfl) ?_
        obtain ⟨r40_10, o40_11, hc_12, hf⟩ := bd2_e hf
        refine rwi_call (isC := [0]) (isR := [1, 2, 3, 4, 5, 6, 7, 8, 9]) (perm := [9, 0, 1, 2, 3, 4, 5, 6, 7, 8]) (wr := [(h_t_sheets, .inl (cS, 4, .inr (.inr (.inr (.inr (ar4 h_t_s0 h_t_s1 h_t_s2 h_t_s3)))))), (h_t_s0, .inr (3, [.int (v_sform 0), .int (v_ssize 0), .ref h_t_s0_items])), (h_t_s0_items, .inl (cI, 48, .inl (v_sitems 0))), (h_t_s1, .inr (3, [.int (v_sform 1), .int (v_ssize 1), .ref h_t_s1_items])), (h_t_s1_items, .inl (cI, 48, .inl (v_sitems 1))), (h_t_s2, .inr (3, [.int (v_sform 2), .int (v_ssize 2), .ref h_t_s2_items])), (h_t_s2_items, .inl (cI, 48, .inl (v_sitems 2))), (h_t_s3, .inr (3, [.int (v_sform 3), .int (v_ssize 3), .ref h_t_s3_items])), (h_t_s3_items, .inl (cI, 48, .inl (v_sitems 3)))]) (ws2 := (wd_X7_get cI cZ cP cS h_t h_t_red h_t_blue h_t_sky h_t_diary h_t_calendar h_t_awakeIn h_t_worths h_t_plants h_t_sheets h_t_bestFrom h_t_s0 h_t_s1 h_t_s2 h_t_s3 h_t_s0_items h_t_s1_items h_t_s2_items h_t_s3_items o40_11 v_sform v_ssize v_sitems)) (va_runV (As := [.int r27_6]) (rest := []) ⟨hx, hb, hml, hown, hts⟩ (c_X7_found l dC dI cI cZ cP cS H.size h_t h_t_red h_t_blue h_t_sky h_t_diary h_t_calendar h_t_awakeIn h_t_worths h_t_plants h_t_sheets h_t_bestFrom v_latestFinding r27_6 n r40_10 o40_11 hc_12) (cwV 1 hts gX7_get_X7_found rfl rfl rfl (by decide +kernel) ⟨Nat.le_of_ble_eq_true rfl, Nat.le_of_ble_eq_true rfl⟩) (pv_rw (ci := 6) (q0 := 0) hK (hP.sub (ws' := (wd_X7_found cI cZ cP cS h_t h_t_red h_t_blue h_t_sky h_t_diary h_t_calendar h_t_awakeIn h_t_worths h_t_plants h_t_sheets h_t_bestFrom v_latestFinding)) [0] rfl) (hD.sub (ws' := (wd_X7_found cI cZ cP cS h_t h_t_red h_t_blue h_t_sky h_t_diary h_t_calendar h_t_awakeIn h_t_worths h_t_plants h_t_sheets h_t_bestFrom v_latestFinding)) [0] (by decide) rfl) rfl rfl) rfl rfl hl.1 rfl (lv_room (Nat.le_of_ble_eq_true rfl)) dX7_get_40 ⟨Nat.zero_le _, Nat.zero_le _⟩) hS hA hP hD rfl (by decide) (by decide) rfl (by decide) rfl rfl (fun H locs hP hD hS => ?_)
        refine lv_pop hx hb dX7_get_43 rfl ?_
        refine lv_ldcw (v := (-2147483648)) hx hb hown (hts (.constant RX7 269 (-2147483648)) (by decide +kernel)) dX7_get_44 ?_
        have hq0 := Option.some.inj hf
        obtain ⟨eq0, hq1⟩ := Prod.mk.inj hq0
        clear hf hq0
        subst eq0
        subst hq1
        exact W.iret hx hb hr (fun t ht hW => ⟨⟨_, (), rfl, rfl, by rw [ht]; exact hP, va_K.moved hW.alike hK, hD⟩, hS.F ht⟩) hS.2.2 dX7_get_47
    · rw [if_neg c16] at hf
      refine lv_ldcw (v := (-2147483648)) hx hb hown (hts (.constant RX7 269 (-2147483648)) (by decide +kernel)) dX7_get_19 ?_
      have hq0 := Option.some.inj hf
      obtain ⟨eq0, hq1⟩ := Prod.mk.inj hq0
      clear hf hq0
      subst eq0
      subst hq1
      exact W.iret hx hb hr (fun t ht hW => ⟨⟨_, (), rfl, rfl, by rw [ht]; exact hP, va_K.moved hW.alike hK, hD⟩, hS.F ht⟩) hS.2.2 dX7_get_22
  · rw [if_neg c2_0] at hf e_1
    by_cases c2_1 : x1 = 1
    · rw [if_pos c2_1] at hf e_1
      subst e_1
      refine W.eq (g2 := F0 m 5 ls [.ref h_t_s1]) rfl ?_
      refine lv_astore (lv' := [(4, .ref h_t_s1), (0, .ref h_t), (1, .int x1), (2, .int x2), (3, .int x3)]) hx hb dX7_get_5 hl (by decide) rfl (fun ls hl => ?_)
      refine lv_aload hx hb dX7_get_7 (lv_at hl 0 rfl) ?_
      refine lv_ifnull hx hb dX7_get_9 ?_
      refine lv_iload_n hx hb dX7_get_12 rfl (lv_at hl 3 rfl) ?_
      obtain ⟨r13_14, hc_15, hf⟩ := bd1_e hf
      refine vp_callSi (va_runS (As := [.int x2]) (rest := []) ⟨hx, hb, hml, hown, hts⟩ (c_X7_noForm l dC dI cI cZ cP cS   x2 n r13_14 hc_15) (va_cwS 1 hts gX7_get_X7_noForm rfl rfl rfl (by decide +kernel) ⟨Nat.le_of_ble_eq_true rfl, Nat.le_of_ble_eq_true rfl⟩) (ps_ro hK (hP.sub (ws' := ([] : va_W)) [] rfl)) rfl rfl hl.1 rfl (lv_room (Nat.le_of_ble_eq_true rfl)) dX7_get_13 ⟨Nat.zero_le _, Nat.zero_le _⟩).run (fun x e_16 => ?_)
      obtain ⟨e_16, hb_17⟩ := e_16
      rw [e_16] at hb_17 ⊢
      refine lv_if_eq (tgt := 23) hx hb dX7_get_16 (by decide) (fun c16 => ?_) (fun c16 => ?_)
      · rw [if_pos c16] at hf
        refine lv_aload hx hb dX7_get_23 (lv_at hl 0 rfl) ?_
        refine lv_iload_n hx hb dX7_get_25 rfl (lv_at hl 3 rfl) ?_
        refine lv_iload_n hx hb dX7_get_26 rfl (lv_at hl 4 rfl) ?_
        obtain ⟨r27_18, hc_19, hf⟩ := bd1_e hf
        refine vp_callSi (va_runV (As := [.int x2, .int x3]) (rest := []) ⟨hx, hb, hml, hown, hts⟩ (c_X3_findingOf l dC dI cI cZ cP cS h_t_s1 h_t_s1_items (v_sform 1) (v_ssize 1) x2 x3 n r27_18 hc_19) (cwV 2 hts gX7_get_X3_findingOf rfl rfl rfl (by decide +kernel) ⟨Nat.le_of_ble_eq_true rfl, Nat.le_of_ble_eq_true rfl⟩) (pv_ro (ci := 3) (q0 := 0) hK (hP.sub (ws' := (wd_X3_findingOf cI cZ cP cS h_t_s1 h_t_s1_items (v_sform 1) (v_ssize 1))) [4] rfl) rfl rfl) rfl rfl hl.1 rfl (lv_room (Nat.le_of_ble_eq_true rfl)) dX7_get_27 ⟨Nat.zero_le _, Nat.zero_le _⟩).run (fun x e_20 => ?_)
        rw [e_20]
        refine lv_istore (lv' := [(5, .int r27_18), (4, .ref h_t_s1), (0, .ref h_t), (1, .int x1), (2, .int x2), (3, .int x3)]) hx hb dX7_get_30 hl (by decide) rfl (fun ls hl => ?_)
        refine lv_iload hx hb dX7_get_32 (lv_at hl 0 rfl) ?_
        refine lv_if_eq (tgt := 48) hx hb dX7_get_34 (by decide) (fun c34 => ?_) (fun c34 => ?_)
        · rw [if_pos c34] at hf
          refine lv_aload hx hb dX7_get_48 (lv_at hl 1 rfl) ?_
          refine va_get (D := (dC, dI)) (ci := 3) (v := .ref h_t_s1_items) (C := RX3) (T := TX3) (N := 3) hx hb hts hinX3 hown hK hP 4 rfl rfl 2 (by decide) (hts (.fieldLink RX7 229 "SecondSunrise$Sheet" "items" "[I") (by decide +kernel)) (fun _ h9 => h9) rfl dX7_get_50 ?_
          refine lv_iload_n hx hb dX7_get_53 rfl (lv_at hl 5 rfl) ?_
          obtain ⟨hi_21, hf⟩ := ix_e hf
          refine va_iald hx hb hK hP 5 0 rfl rfl hi_21 dX7_get_54 ?_
          have hq0 := Option.some.inj hf
          obtain ⟨eq0, hq1⟩ := Prod.mk.inj hq0
          clear hf hq0
          subst eq0
          subst hq1
          exact W.iret hx hb hr (fun t ht hW => ⟨⟨_, (), rfl, rfl, by rw [ht]; exact hP, va_K.moved hW.alike hK, hD⟩, hS.F ht⟩) hS.2.2 dX7_get_55
        · rw [if_neg c34] at hf
          refine lv_aload_n hx hb dX7_get_37 rfl (lv_at hl 2 rfl) ?_
          refine lv_iload hx hb dX7_get_38 (lv_at hl 0 rfl) ?_
          obtain ⟨r40_22, o40_23, hc_24, hf⟩ := bd2_e hf
          refine rwi_call (isC := [0]) (isR := [1, 2, 3, 4, 5, 6, 7, 8, 9]) (perm := [9, 0, 1, 2, 3, 4, 5, 6, 7, 8]) (wr := [(h_t_sheets, .inl (cS, 4, .inr (.inr (.inr (.inr (ar4 h_t_s0 h_t_s1 h_t_s2 h_t_s3)))))), (h_t_s0, .inr (3, [.int (v_sform 0), .int (v_ssize 0), .ref h_t_s0_items])), (h_t_s0_items, .inl (cI, 48, .inl (v_sitems 0))), (h_t_s1, .inr (3, [.int (v_sform 1), .int (v_ssize 1), .ref h_t_s1_items])), (h_t_s1_items, .inl (cI, 48, .inl (v_sitems 1))), (h_t_s2, .inr (3, [.int (v_sform 2), .int (v_ssize 2), .ref h_t_s2_items])), (h_t_s2_items, .inl (cI, 48, .inl (v_sitems 2))), (h_t_s3, .inr (3, [.int (v_sform 3), .int (v_ssize 3), .ref h_t_s3_items])), (h_t_s3_items, .inl (cI, 48, .inl (v_sitems 3)))]) (ws2 := (wd_X7_get cI cZ cP cS h_t h_t_red h_t_blue h_t_sky h_t_diary h_t_calendar h_t_awakeIn h_t_worths h_t_plants h_t_sheets h_t_bestFrom h_t_s0 h_t_s1 h_t_s2 h_t_s3 h_t_s0_items h_t_s1_items h_t_s2_items h_t_s3_items o40_23 v_sform v_ssize v_sitems)) (va_runV (As := [.int r27_18]) (rest := []) ⟨hx, hb, hml, hown, hts⟩ (c_X7_found l dC dI cI cZ cP cS H.size h_t h_t_red h_t_blue h_t_sky h_t_diary h_t_calendar h_t_awakeIn h_t_worths h_t_plants h_t_sheets h_t_bestFrom v_latestFinding r27_18 n r40_22 o40_23 hc_24) (cwV 1 hts gX7_get_X7_found rfl rfl rfl (by decide +kernel) ⟨Nat.le_of_ble_eq_true rfl, Nat.le_of_ble_eq_true rfl⟩) (pv_rw (ci := 6) (q0 := 0) hK (hP.sub (ws' := (wd_X7_found cI cZ cP cS h_t h_t_red h_t_blue h_t_sky h_t_diary h_t_calendar h_t_awakeIn h_t_worths h_t_plants h_t_sheets h_t_bestFrom v_latestFinding)) [0] rfl) (hD.sub (ws' := (wd_X7_found cI cZ cP cS h_t h_t_red h_t_blue h_t_sky h_t_diary h_t_calendar h_t_awakeIn h_t_worths h_t_plants h_t_sheets h_t_bestFrom v_latestFinding)) [0] (by decide) rfl) rfl rfl) rfl rfl hl.1 rfl (lv_room (Nat.le_of_ble_eq_true rfl)) dX7_get_40 ⟨Nat.zero_le _, Nat.zero_le _⟩) hS hA hP hD rfl (by decide) (by decide) rfl (by decide) rfl rfl (fun H locs hP hD hS => ?_)
          refine lv_pop hx hb dX7_get_43 rfl ?_
          refine lv_ldcw (v := (-2147483648)) hx hb hown (hts (.constant RX7 269 (-2147483648)) (by decide +kernel)) dX7_get_44 ?_
          have hq0 := Option.some.inj hf
          obtain ⟨eq0, hq1⟩ := Prod.mk.inj hq0
          clear hf hq0
          subst eq0
          subst hq1
          exact W.iret hx hb hr (fun t ht hW => ⟨⟨_, (), rfl, rfl, by rw [ht]; exact hP, va_K.moved hW.alike hK, hD⟩, hS.F ht⟩) hS.2.2 dX7_get_47
      · rw [if_neg c16] at hf
        refine lv_ldcw (v := (-2147483648)) hx hb hown (hts (.constant RX7 269 (-2147483648)) (by decide +kernel)) dX7_get_19 ?_
        have hq0 := Option.some.inj hf
        obtain ⟨eq0, hq1⟩ := Prod.mk.inj hq0
        clear hf hq0
        subst eq0
        subst hq1
        exact W.iret hx hb hr (fun t ht hW => ⟨⟨_, (), rfl, rfl, by rw [ht]; exact hP, va_K.moved hW.alike hK, hD⟩, hS.F ht⟩) hS.2.2 dX7_get_22
    · rw [if_neg c2_1] at hf e_1
      by_cases c2_2 : x1 = 2
      · rw [if_pos c2_2] at hf e_1
        subst e_1
        refine W.eq (g2 := F0 m 5 ls [.ref h_t_s2]) rfl ?_
        refine lv_astore (lv' := [(4, .ref h_t_s2), (0, .ref h_t), (1, .int x1), (2, .int x2), (3, .int x3)]) hx hb dX7_get_5 hl (by decide) rfl (fun ls hl => ?_)
        refine lv_aload hx hb dX7_get_7 (lv_at hl 0 rfl) ?_
        refine lv_ifnull hx hb dX7_get_9 ?_
        refine lv_iload_n hx hb dX7_get_12 rfl (lv_at hl 3 rfl) ?_
        obtain ⟨r13_26, hc_27, hf⟩ := bd1_e hf
        refine vp_callSi (va_runS (As := [.int x2]) (rest := []) ⟨hx, hb, hml, hown, hts⟩ (c_X7_noForm l dC dI cI cZ cP cS   x2 n r13_26 hc_27) (va_cwS 1 hts gX7_get_X7_noForm rfl rfl rfl (by decide +kernel) ⟨Nat.le_of_ble_eq_true rfl, Nat.le_of_ble_eq_true rfl⟩) (ps_ro hK (hP.sub (ws' := ([] : va_W)) [] rfl)) rfl rfl hl.1 rfl (lv_room (Nat.le_of_ble_eq_true rfl)) dX7_get_13 ⟨Nat.zero_le _, Nat.zero_le _⟩).run (fun x e_28 => ?_)
        obtain ⟨e_28, hb_29⟩ := e_28
        rw [e_28] at hb_29 ⊢
        refine lv_if_eq (tgt := 23) hx hb dX7_get_16 (by decide) (fun c16 => ?_) (fun c16 => ?_)
        · rw [if_pos c16] at hf
          refine lv_aload hx hb dX7_get_23 (lv_at hl 0 rfl) ?_
          refine lv_iload_n hx hb dX7_get_25 rfl (lv_at hl 3 rfl) ?_
          refine lv_iload_n hx hb dX7_get_26 rfl (lv_at hl 4 rfl) ?_
          obtain ⟨r27_30, hc_31, hf⟩ := bd1_e hf
          refine vp_callSi (va_runV (As := [.int x2, .int x3]) (rest := []) ⟨hx, hb, hml, hown, hts⟩ (c_X3_findingOf l dC dI cI cZ cP cS h_t_s2 h_t_s2_items (v_sform 2) (v_ssize 2) x2 x3 n r27_30 hc_31) (cwV 2 hts gX7_get_X3_findingOf rfl rfl rfl (by decide +kernel) ⟨Nat.le_of_ble_eq_true rfl, Nat.le_of_ble_eq_true rfl⟩) (pv_ro (ci := 3) (q0 := 0) hK (hP.sub (ws' := (wd_X3_findingOf cI cZ cP cS h_t_s2 h_t_s2_items (v_sform 2) (v_ssize 2))) [6] rfl) rfl rfl) rfl rfl hl.1 rfl (lv_room (Nat.le_of_ble_eq_true rfl)) dX7_get_27 ⟨Nat.zero_le _, Nat.zero_le _⟩).run (fun x e_32 => ?_)
          rw [e_32]
          refine lv_istore (lv' := [(5, .int r27_30), (4, .ref h_t_s2), (0, .ref h_t), (1, .int x1), (2, .int x2), (3, .int x3)]) hx hb dX7_get_30 hl (by decide) rfl (fun ls hl => ?_)
          refine lv_iload hx hb dX7_get_32 (lv_at hl 0 rfl) ?_
          refine lv_if_eq (tgt := 48) hx hb dX7_get_34 (by decide) (fun c34 => ?_) (fun c34 => ?_)
          · rw [if_pos c34] at hf
            refine lv_aload hx hb dX7_get_48 (lv_at hl 1 rfl) ?_
            refine va_get (D := (dC, dI)) (ci := 3) (v := .ref h_t_s2_items) (C := RX3) (T := TX3) (N := 3) hx hb hts hinX3 hown hK hP 6 rfl rfl 2 (by decide) (hts (.fieldLink RX7 229 "SecondSunrise$Sheet" "items" "[I") (by decide +kernel)) (fun _ h9 => h9) rfl dX7_get_50 ?_
            refine lv_iload_n hx hb dX7_get_53 rfl (lv_at hl 5 rfl) ?_
            obtain ⟨hi_33, hf⟩ := ix_e hf
            refine va_iald hx hb hK hP 7 0 rfl rfl hi_33 dX7_get_54 ?_
            have hq0 := Option.some.inj hf
            obtain ⟨eq0, hq1⟩ := Prod.mk.inj hq0
            clear hf hq0
            subst eq0
            subst hq1
            exact W.iret hx hb hr (fun t ht hW => ⟨⟨_, (), rfl, rfl, by rw [ht]; exact hP, va_K.moved hW.alike hK, hD⟩, hS.F ht⟩) hS.2.2 dX7_get_55
          · rw [if_neg c34] at hf
            refine lv_aload_n hx hb dX7_get_37 rfl (lv_at hl 2 rfl) ?_
            refine lv_iload hx hb dX7_get_38 (lv_at hl 0 rfl) ?_
            obtain ⟨r40_34, o40_35, hc_36, hf⟩ := bd2_e hf
            refine rwi_call (isC := [0]) (isR := [1, 2, 3, 4, 5, 6, 7, 8, 9]) (perm := [9, 0, 1, 2, 3, 4, 5, 6, 7, 8]) (wr := [(h_t_sheets, .inl (cS, 4, .inr (.inr (.inr (.inr (ar4 h_t_s0 h_t_s1 h_t_s2 h_t_s3)))))), (h_t_s0, .inr (3, [.int (v_sform 0), .int (v_ssize 0), .ref h_t_s0_items])), (h_t_s0_items, .inl (cI, 48, .inl (v_sitems 0))), (h_t_s1, .inr (3, [.int (v_sform 1), .int (v_ssize 1), .ref h_t_s1_items])), (h_t_s1_items, .inl (cI, 48, .inl (v_sitems 1))), (h_t_s2, .inr (3, [.int (v_sform 2), .int (v_ssize 2), .ref h_t_s2_items])), (h_t_s2_items, .inl (cI, 48, .inl (v_sitems 2))), (h_t_s3, .inr (3, [.int (v_sform 3), .int (v_ssize 3), .ref h_t_s3_items])), (h_t_s3_items, .inl (cI, 48, .inl (v_sitems 3)))]) (ws2 := (wd_X7_get cI cZ cP cS h_t h_t_red h_t_blue h_t_sky h_t_diary h_t_calendar h_t_awakeIn h_t_worths h_t_plants h_t_sheets h_t_bestFrom h_t_s0 h_t_s1 h_t_s2 h_t_s3 h_t_s0_items h_t_s1_items h_t_s2_items h_t_s3_items o40_35 v_sform v_ssize v_sitems)) (va_runV (As := [.int r27_30]) (rest := []) ⟨hx, hb, hml, hown, hts⟩ (c_X7_found l dC dI cI cZ cP cS H.size h_t h_t_red h_t_blue h_t_sky h_t_diary h_t_calendar h_t_awakeIn h_t_worths h_t_plants h_t_sheets h_t_bestFrom v_latestFinding r27_30 n r40_34 o40_35 hc_36) (cwV 1 hts gX7_get_X7_found rfl rfl rfl (by decide +kernel) ⟨Nat.le_of_ble_eq_true rfl, Nat.le_of_ble_eq_true rfl⟩) (pv_rw (ci := 6) (q0 := 0) hK (hP.sub (ws' := (wd_X7_found cI cZ cP cS h_t h_t_red h_t_blue h_t_sky h_t_diary h_t_calendar h_t_awakeIn h_t_worths h_t_plants h_t_sheets h_t_bestFrom v_latestFinding)) [0] rfl) (hD.sub (ws' := (wd_X7_found cI cZ cP cS h_t h_t_red h_t_blue h_t_sky h_t_diary h_t_calendar h_t_awakeIn h_t_worths h_t_plants h_t_sheets h_t_bestFrom v_latestFinding)) [0] (by decide) rfl) rfl rfl) rfl rfl hl.1 rfl (lv_room (Nat.le_of_ble_eq_true rfl)) dX7_get_40 ⟨Nat.zero_le _, Nat.zero_le _⟩) hS hA hP hD rfl (by decide) (by decide) rfl (by decide) rfl rfl (fun H locs hP hD hS => ?_)
            refine lv_pop hx hb dX7_get_43 rfl ?_
            refine lv_ldcw (v := (-2147483648)) hx hb hown (hts (.constant RX7 269 (-2147483648)) (by decide +kernel)) dX7_get_44 ?_
            have hq0 := Option.some.inj hf
            obtain ⟨eq0, hq1⟩ := Prod.mk.inj hq0
            clear hf hq0
            subst eq0
            subst hq1
            exact W.iret hx hb hr (fun t ht hW => ⟨⟨_, (), rfl, rfl, by rw [ht]; exact hP, va_K.moved hW.alike hK, hD⟩, hS.F ht⟩) hS.2.2 dX7_get_47
        · rw [if_neg c16] at hf
          refine lv_ldcw (v := (-2147483648)) hx hb hown (hts (.constant RX7 269 (-2147483648)) (by decide +kernel)) dX7_get_19 ?_
          have hq0 := Option.some.inj hf
          obtain ⟨eq0, hq1⟩ := Prod.mk.inj hq0
          clear hf hq0
          subst eq0
          subst hq1
          exact W.iret hx hb hr (fun t ht hW => ⟨⟨_, (), rfl, rfl, by rw [ht]; exact hP, va_K.moved hW.alike hK, hD⟩, hS.F ht⟩) hS.2.2 dX7_get_22
      · rw [if_neg c2_2] at hf e_1
        by_cases c2_3 : x1 = 3
        · rw [if_pos c2_3] at hf e_1
          subst e_1
          refine W.eq (g2 := F0 m 5 ls [.ref h_t_s3]) rfl ?_
          refine lv_astore (lv' := [(4, .ref h_t_s3), (0, .ref h_t), (1, .int x1), (2, .int x2), (3, .int x3)]) hx hb dX7_get_5 hl (by decide) rfl (fun ls hl => ?_)
          refine lv_aload hx hb dX7_get_7 (lv_at hl 0 rfl) ?_
          refine lv_ifnull hx hb dX7_get_9 ?_
          refine lv_iload_n hx hb dX7_get_12 rfl (lv_at hl 3 rfl) ?_
          obtain ⟨r13_38, hc_39, hf⟩ := bd1_e hf
          refine vp_callSi (va_runS (As := [.int x2]) (rest := []) ⟨hx, hb, hml, hown, hts⟩ (c_X7_noForm l dC dI cI cZ cP cS   x2 n r13_38 hc_39) (va_cwS 1 hts gX7_get_X7_noForm rfl rfl rfl (by decide +kernel) ⟨Nat.le_of_ble_eq_true rfl, Nat.le_of_ble_eq_true rfl⟩) (ps_ro hK (hP.sub (ws' := ([] : va_W)) [] rfl)) rfl rfl hl.1 rfl (lv_room (Nat.le_of_ble_eq_true rfl)) dX7_get_13 ⟨Nat.zero_le _, Nat.zero_le _⟩).run (fun x e_40 => ?_)
          obtain ⟨e_40, hb_41⟩ := e_40
          rw [e_40] at hb_41 ⊢
          refine lv_if_eq (tgt := 23) hx hb dX7_get_16 (by decide) (fun c16 => ?_) (fun c16 => ?_)
          · rw [if_pos c16] at hf
            refine lv_aload hx hb dX7_get_23 (lv_at hl 0 rfl) ?_
            refine lv_iload_n hx hb dX7_get_25 rfl (lv_at hl 3 rfl) ?_
            refine lv_iload_n hx hb dX7_get_26 rfl (lv_at hl 4 rfl) ?_
            obtain ⟨r27_42, hc_43, hf⟩ := bd1_e hf
            refine vp_callSi (va_runV (As := [.int x2, .int x3]) (rest := []) ⟨hx, hb, hml, hown, hts⟩ (c_X3_findingOf l dC dI cI cZ cP cS h_t_s3 h_t_s3_items (v_sform 3) (v_ssize 3) x2 x3 n r27_42 hc_43) (cwV 2 hts gX7_get_X3_findingOf rfl rfl rfl (by decide +kernel) ⟨Nat.le_of_ble_eq_true rfl, Nat.le_of_ble_eq_true rfl⟩) (pv_ro (ci := 3) (q0 := 0) hK (hP.sub (ws' := (wd_X3_findingOf cI cZ cP cS h_t_s3 h_t_s3_items (v_sform 3) (v_ssize 3))) [8] rfl) rfl rfl) rfl rfl hl.1 rfl (lv_room (Nat.le_of_ble_eq_true rfl)) dX7_get_27 ⟨Nat.zero_le _, Nat.zero_le _⟩).run (fun x e_44 => ?_)
            rw [e_44]
            refine lv_istore (lv' := [(5, .int r27_42), (4, .ref h_t_s3), (0, .ref h_t), (1, .int x1), (2, .int x2), (3, .int x3)]) hx hb dX7_get_30 hl (by decide) rfl (fun ls hl => ?_)
            refine lv_iload hx hb dX7_get_32 (lv_at hl 0 rfl) ?_
            refine lv_if_eq (tgt := 48) hx hb dX7_get_34 (by decide) (fun c34 => ?_) (fun c34 => ?_)
            · rw [if_pos c34] at hf
              refine lv_aload hx hb dX7_get_48 (lv_at hl 1 rfl) ?_
              refine va_get (D := (dC, dI)) (ci := 3) (v := .ref h_t_s3_items) (C := RX3) (T := TX3) (N := 3) hx hb hts hinX3 hown hK hP 8 rfl rfl 2 (by decide) (hts (.fieldLink RX7 229 "SecondSunrise$Sheet" "items" "[I") (by decide +kernel)) (fun _ h9 => h9) rfl dX7_get_50 ?_
              refine lv_iload_n hx hb dX7_get_53 rfl (lv_at hl 5 rfl) ?_
              obtain ⟨hi_45, hf⟩ := ix_e hf
              refine va_iald hx hb hK hP 9 0 rfl rfl hi_45 dX7_get_54 ?_
              have hq0 := Option.some.inj hf
              obtain ⟨eq0, hq1⟩ := Prod.mk.inj hq0
              clear hf hq0
              subst eq0
              subst hq1
              exact W.iret hx hb hr (fun t ht hW => ⟨⟨_, (), rfl, rfl, by rw [ht]; exact hP, va_K.moved hW.alike hK, hD⟩, hS.F ht⟩) hS.2.2 dX7_get_55
            · rw [if_neg c34] at hf
              refine lv_aload_n hx hb dX7_get_37 rfl (lv_at hl 2 rfl) ?_
              refine lv_iload hx hb dX7_get_38 (lv_at hl 0 rfl) ?_
              obtain ⟨r40_46, o40_47, hc_48, hf⟩ := bd2_e hf
              refine rwi_call (isC := [0]) (isR := [1, 2, 3, 4, 5, 6, 7, 8, 9]) (perm := [9, 0, 1, 2, 3, 4, 5, 6, 7, 8]) (wr := [(h_t_sheets, .inl (cS, 4, .inr (.inr (.inr (.inr (ar4 h_t_s0 h_t_s1 h_t_s2 h_t_s3)))))), (h_t_s0, .inr (3, [.int (v_sform 0), .int (v_ssize 0), .ref h_t_s0_items])), (h_t_s0_items, .inl (cI, 48, .inl (v_sitems 0))), (h_t_s1, .inr (3, [.int (v_sform 1), .int (v_ssize 1), .ref h_t_s1_items])), (h_t_s1_items, .inl (cI, 48, .inl (v_sitems 1))), (h_t_s2, .inr (3, [.int (v_sform 2), .int (v_ssize 2), .ref h_t_s2_items])), (h_t_s2_items, .inl (cI, 48, .inl (v_sitems 2))), (h_t_s3, .inr (3, [.int (v_sform 3), .int (v_ssize 3), .ref h_t_s3_items])), (h_t_s3_items, .inl (cI, 48, .inl (v_sitems 3)))]) (ws2 := (wd_X7_get cI cZ cP cS h_t h_t_red h_t_blue h_t_sky h_t_diary h_t_calendar h_t_awakeIn h_t_worths h_t_plants h_t_sheets h_t_bestFrom h_t_s0 h_t_s1 h_t_s2 h_t_s3 h_t_s0_items h_t_s1_items h_t_s2_items h_t_s3_items o40_47 v_sform v_ssize v_sitems)) (va_runV (As := [.int r27_42]) (rest := []) ⟨hx, hb, hml, hown, hts⟩ (c_X7_found l dC dI cI cZ cP cS H.size h_t h_t_red h_t_blue h_t_sky h_t_diary h_t_calendar h_t_awakeIn h_t_worths h_t_plants h_t_sheets h_t_bestFrom v_latestFinding r27_42 n r40_46 o40_47 hc_48) (cwV 1 hts gX7_get_X7_found rfl rfl rfl (by decide +kernel) ⟨Nat.le_of_ble_eq_true rfl, Nat.le_of_ble_eq_true rfl⟩) (pv_rw (ci := 6) (q0 := 0) hK (hP.sub (ws' := (wd_X7_found cI cZ cP cS h_t h_t_red h_t_blue h_t_sky h_t_diary h_t_calendar h_t_awakeIn h_t_worths h_t_plants h_t_sheets h_t_bestFrom v_latestFinding)) [0] rfl) (hD.sub (ws' := (wd_X7_found cI cZ cP cS h_t h_t_red h_t_blue h_t_sky h_t_diary h_t_calendar h_t_awakeIn h_t_worths h_t_plants h_t_sheets h_t_bestFrom v_latestFinding)) [0] (by decide) rfl) rfl rfl) rfl rfl hl.1 rfl (lv_room (Nat.le_of_ble_eq_true rfl)) dX7_get_40 ⟨Nat.zero_le _, Nat.zero_le _⟩) hS hA hP hD rfl (by decide) (by decide) rfl (by decide) rfl rfl (fun H locs hP hD hS => ?_)
              refine lv_pop hx hb dX7_get_43 rfl ?_
              refine lv_ldcw (v := (-2147483648)) hx hb hown (hts (.constant RX7 269 (-2147483648)) (by decide +kernel)) dX7_get_44 ?_
              have hq0 := Option.some.inj hf
              obtain ⟨eq0, hq1⟩ := Prod.mk.inj hq0
              clear hf hq0
              subst eq0
              subst hq1
              exact W.iret hx hb hr (fun t ht hW => ⟨⟨_, (), rfl, rfl, by rw [ht]; exact hP, va_K.moved hW.alike hK, hD⟩, hS.F ht⟩) hS.2.2 dX7_get_47
          · rw [if_neg c16] at hf
            refine lv_ldcw (v := (-2147483648)) hx hb hown (hts (.constant RX7 269 (-2147483648)) (by decide +kernel)) dX7_get_19 ?_
            have hq0 := Option.some.inj hf
            obtain ⟨eq0, hq1⟩ := Prod.mk.inj hq0
            clear hf hq0
            subst eq0
            subst hq1
            exact W.iret hx hb hr (fun t ht hW => ⟨⟨_, (), rfl, rfl, by rw [ht]; exact hP, va_K.moved hW.alike hK, hD⟩, hS.F ht⟩) hS.2.2 dX7_get_22
        · rw [if_neg c2_3] at hf e_1
          subst e_1
          refine W.eq (g2 := F0 m 5 ls [.null]) rfl ?_
          refine lv_astoreN (lv' := [(4, .null), (0, .ref h_t), (1, .int x1), (2, .int x2), (3, .int x3)]) hx hb dX7_get_5 hl (by decide) rfl (fun ls hl => ?_)
          refine lv_aloadN hx hb dX7_get_7 (lv_at hl 0 rfl) ?_
          refine lv_ifnullN (tgt := 19) hx hb dX7_get_9 (by decide) ?_
          refine lv_ldcw (v := (-2147483648)) hx hb hown (hts (.constant RX7 269 (-2147483648)) (by decide +kernel)) dX7_get_19 ?_
          have hq0 := Option.some.inj hf
          obtain ⟨eq0, hq1⟩ := Prod.mk.inj hq0
          clear hf hq0
          subst eq0
          subst hq1
          exact W.iret hx hb hr (fun t ht hW => ⟨⟨_, (), rfl, rfl, by rw [ht]; exact hP, va_K.moved hW.alike hK, hD⟩, hS.F ht⟩) hS.2.2 dX7_get_22

abbrev wd_X7_grows (cI cZ cP cS : ClassId) (h_t h_t_red h_t_blue h_t_sky h_t_diary h_t_calendar h_t_awakeIn h_t_worths h_t_plants h_t_sheets h_t_bestFrom h_t_p0 h_t_p1 h_t_p2 h_t_p3 h_t_p0_growth h_t_p1_growth h_t_p2_growth h_t_p3_growth : Nat) (v_latestFinding : Int32) (v_phours : Nat → Int32) (v_pgrowth : Nat → Nat → Int32) : va_W := [(h_t, .inr (6, [.ref h_t_red, .ref h_t_blue, .ref h_t_sky, .ref h_t_diary, .ref h_t_calendar, .ref h_t_awakeIn, .ref h_t_worths, .ref h_t_plants, .ref h_t_sheets, .ref h_t_bestFrom, .int v_latestFinding])), (h_t_plants, .inl (cP, 4, .inr (.inr (.inr (.inr (ar4 h_t_p0 h_t_p1 h_t_p2 h_t_p3)))))), (h_t_p0, .inr (2, [.int (v_phours 0), .ref h_t_p0_growth])), (h_t_p0_growth, .inl (cI, 4, .inl (v_pgrowth 0))), (h_t_p1, .inr (2, [.int (v_phours 1), .ref h_t_p1_growth])), (h_t_p1_growth, .inl (cI, 4, .inl (v_pgrowth 1))), (h_t_p2, .inr (2, [.int (v_phours 2), .ref h_t_p2_growth])), (h_t_p2_growth, .inl (cI, 4, .inl (v_pgrowth 2))), (h_t_p3, .inr (2, [.int (v_phours 3), .ref h_t_p3_growth])), (h_t_p3_growth, .inl (cI, 4, .inl (v_pgrowth 3)))]
abbrev rm_X7_grows : Room := { frames := 2, cells := 0, slots := 0, locals := 43 }
def f_X7_grows (n : Nat) (v_pgrowth : Nat → Nat → Int32) (x1 : Int32) (x2 : Int32) (x3 : Int32) : Option (Int32 × (Nat → Nat → Int32)) := if x1 = 0 then bd1_ (f_X7_noLight n x2) (fun (r13_2 : Int32) => if r13_2 = 0 then bd1_ (f_X7_noGrowth n x3) (fun (r20_6 : Int32) => if r20_6 = 0 then ix_ x2 4 (ix_ x2 4 (some ((((v_pgrowth 0) x2.toNatClampNeg) + 10), (va_up v_pgrowth 0 (upd (v_pgrowth 0) x2.toNatClampNeg x3))))) else some ((-2), v_pgrowth)) else some ((-2), v_pgrowth)) else if x1 = 1 then bd1_ (f_X7_noLight n x2) (fun (r13_12 : Int32) => if r13_12 = 0 then bd1_ (f_X7_noGrowth n x3) (fun (r20_16 : Int32) => if r20_16 = 0 then ix_ x2 4 (ix_ x2 4 (some ((((v_pgrowth 1) x2.toNatClampNeg) + 10), (va_up v_pgrowth 1 (upd (v_pgrowth 1) x2.toNatClampNeg x3))))) else some ((-2), v_pgrowth)) else some ((-2), v_pgrowth)) else if x1 = 2 then bd1_ (f_X7_noLight n x2) (fun (r13_22 : Int32) => if r13_22 = 0 then bd1_ (f_X7_noGrowth n x3) (fun (r20_26 : Int32) => if r20_26 = 0 then ix_ x2 4 (ix_ x2 4 (some ((((v_pgrowth 2) x2.toNatClampNeg) + 10), (va_up v_pgrowth 2 (upd (v_pgrowth 2) x2.toNatClampNeg x3))))) else some ((-2), v_pgrowth)) else some ((-2), v_pgrowth)) else if x1 = 3 then bd1_ (f_X7_noLight n x2) (fun (r13_32 : Int32) => if r13_32 = 0 then bd1_ (f_X7_noGrowth n x3) (fun (r20_36 : Int32) => if r20_36 = 0 then ix_ x2 4 (ix_ x2 4 (some ((((v_pgrowth 3) x2.toNatClampNeg) + 10), (va_up v_pgrowth 3 (upd (v_pgrowth 3) x2.toNatClampNeg x3))))) else some ((-2), v_pgrowth)) else some ((-2), v_pgrowth)) else some ((-2), v_pgrowth)
set_option maxHeartbeats 4000000 in
set_option maxRecDepth 100000 in
theorem c_X7_grows (l : Launch) (dC : Nat → ClassId) (dI : Nat → Nat → Nat) (cI cZ cP cS : ClassId) (sz : Nat) (h_t h_t_red h_t_blue h_t_sky h_t_diary h_t_calendar h_t_awakeIn h_t_worths h_t_plants h_t_sheets h_t_bestFrom h_t_p0 h_t_p1 h_t_p2 h_t_p3 h_t_p0_growth h_t_p1_growth h_t_p2_growth h_t_p3_growth : Nat) (v_latestFinding : Int32) (v_phours : Nat → Int32) (v_pgrowth : Nat → Nat → Int32) (x1 : Int32) (x2 : Int32) (x3 : Int32) (n : Nat) (r : Int32) (o_pgrowth : Nat → Nat → Int32) (hf : f_X7_grows n v_pgrowth x1 x2 x3 = some (r, o_pgrowth)) : Met l yX7_grows wsX7_grows rm_X7_grows (RW (dC, dI) (TY cI cZ cP cS) [.ref h_t, .int x1, .int x2, .int x3] sz (wd_X7_grows cI cZ cP cS h_t h_t_red h_t_blue h_t_sky h_t_diary h_t_calendar h_t_awakeIn h_t_worths h_t_plants h_t_sheets h_t_bestFrom h_t_p0 h_t_p1 h_t_p2 h_t_p3 h_t_p0_growth h_t_p1_growth h_t_p2_growth h_t_p3_growth v_latestFinding v_phours v_pgrowth)) (RWi (dC, dI) (TY cI cZ cP cS) r sz (wd_X7_grows cI cZ cP cS h_t h_t_red h_t_blue h_t_sky h_t_diary h_t_calendar h_t_awakeIn h_t_worths h_t_plants h_t_sheets h_t_bestFrom h_t_p0 h_t_p1 h_t_p2 h_t_p3 h_t_p0_growth h_t_p1_growth h_t_p2_growth h_t_p3_growth v_latestFinding v_phours v_pgrowth) (wd_X7_grows cI cZ cP cS h_t h_t_red h_t_blue h_t_sky h_t_diary h_t_calendar h_t_awakeIn h_t_worths h_t_plants h_t_sheets h_t_bestFrom h_t_p0 h_t_p1 h_t_p2 h_t_p3 h_t_p0_growth h_t_p1_growth h_t_p2_growth h_t_p3_growth v_latestFinding v_phours o_pgrowth)) 0 0 (va_A (wd_X7_grows cI cZ cP cS h_t h_t_red h_t_blue h_t_sky h_t_diary h_t_calendar h_t_awakeIn h_t_worths h_t_plants h_t_sheets h_t_bestFrom h_t_p0 h_t_p1 h_t_p2 h_t_p3 h_t_p0_growth h_t_p1_growth h_t_p2_growth h_t_p3_growth v_latestFinding v_phours v_pgrowth) sz) := by
  refine Met.ofW (cc := cX7_grows) (maxL := 6) (ret := (some .int)) (by decide) rfl ?_
  intro p e s m args below meth c s₁ B hml hv
  obtain ⟨rfl, hsz, hP, hK, hD0⟩ := hv
  have hx := B.exec
  have hb := B.bytes
  have hr := B.returns
  have hts := atoms_spec (ws := wsX7_grows) B.pre
  have hown : s.vm.findClass RX7 = some m.cls := findClass_of_methodNamed B.named
  have hlocks := B.notSynchronized
  subst hsz
  have hD := hD0.self (sz := s.heap.size)
  have hA : ∀ q : Nat, s.heap.size ≤ q → (va_A (wd_X7_grows cI cZ cP cS h_t h_t_red h_t_blue h_t_sky h_t_diary h_t_calendar h_t_awakeIn h_t_worths h_t_plants h_t_sheets h_t_bestFrom h_t_p0 h_t_p1 h_t_p2 h_t_p3 h_t_p0_growth h_t_p1_growth h_t_p2_growth h_t_p3_growth v_latestFinding v_phours v_pgrowth) s.heap.size) q := fun q h => Or.inr h
  have hS : va_S (va_A (wd_X7_grows cI cZ cP cS h_t h_t_red h_t_blue h_t_sky h_t_diary h_t_calendar h_t_awakeIn h_t_worths h_t_plants h_t_sheets h_t_bestFrom h_t_p0 h_t_p1 h_t_p2 h_t_p3 h_t_p0_growth h_t_p1_growth h_t_p2_growth h_t_p3_growth v_latestFinding v_phours v_pgrowth) s.heap.size) s.heap s.heap [] := va_S.rf
  have hinX2 : ∀ w ∈ wsX20, w ∈ wsX7_grows := by decide +kernel
  have hl := lv_entry ([.ref h_t, .int x1, .int x2, .int x3]) (n := 6) (Nat.le_of_ble_eq_true rfl)
  rw [lg_entry_eq]
  generalize (lg_sl ([.ref h_t, .int x1, .int x2, .int x3]) ++ List.replicate (6 - (lg_sl ([.ref h_t, .int x1, .int x2, .int x3])).length) Slot.unset).toArray = ls at hl ⊢
  have hl : lv_has ls 6 [(0, .ref h_t), (1, .int x1), (2, .int x2), (3, .int x3)] := hl
  obtain ⟨H, hH⟩ : ∃ H : Heap, H = s.heap := ⟨_, rfl⟩
  have hP : va_P (dC, dI) vwCl (wd_X7_grows cI cZ cP cS h_t h_t_red h_t_blue h_t_sky h_t_diary h_t_calendar h_t_awakeIn h_t_worths h_t_plants h_t_sheets h_t_bestFrom h_t_p0 h_t_p1 h_t_p2 h_t_p3 h_t_p0_growth h_t_p1_growth h_t_p2_growth h_t_p3_growth v_latestFinding v_phours v_pgrowth) H := by rw [hH]; exact hP
  have hS : va_S (va_A (wd_X7_grows cI cZ cP cS h_t h_t_red h_t_blue h_t_sky h_t_diary h_t_calendar h_t_awakeIn h_t_worths h_t_plants h_t_sheets h_t_bestFrom h_t_p0 h_t_p1 h_t_p2 h_t_p3 h_t_p0_growth h_t_p1_growth h_t_p2_growth h_t_p3_growth v_latestFinding v_phours v_pgrowth) s.heap.size) s.heap H [] := by rw [hH]; exact hS
  obtain ⟨locs, hlo⟩ : ∃ L : List Loc, L = [] := ⟨_, rfl⟩
  rw [← hlo] at hS
  suffices hgo : W p l e (headSpec wsX7_grows rm_X7_grows).room s m ([.ref h_t, .int x1, .int x2, .int x3] : List Value).toArray below meth c H locs 0 0 (MQ below (RWi (dC, dI) (TY cI cZ cP cS) r s.heap.size (wd_X7_grows cI cZ cP cS h_t h_t_red h_t_blue h_t_sky h_t_diary h_t_calendar h_t_awakeIn h_t_worths h_t_plants h_t_sheets h_t_bestFrom h_t_p0 h_t_p1 h_t_p2 h_t_p3 h_t_p0_growth h_t_p1_growth h_t_p2_growth h_t_p3_growth v_latestFinding v_phours v_pgrowth) (wd_X7_grows cI cZ cP cS h_t h_t_red h_t_blue h_t_sky h_t_diary h_t_calendar h_t_awakeIn h_t_worths h_t_plants h_t_sheets h_t_bestFrom h_t_p0 h_t_p1 h_t_p2 h_t_p3 h_t_p0_growth h_t_p1_growth h_t_p2_growth h_t_p3_growth v_latestFinding v_phours o_pgrowth)) ([.ref h_t, .int x1, .int x2, .int x3] : List Value).toArray s 0 0 (va_A (wd_X7_grows cI cZ cP cS h_t h_t_red h_t_blue h_t_sky h_t_diary h_t_calendar h_t_awakeIn h_t_worths h_t_plants h_t_sheets h_t_bestFrom h_t_p0 h_t_p1 h_t_p2 h_t_p3 h_t_p0_growth h_t_p1_growth h_t_p2_growth h_t_p3_growth v_latestFinding v_phours v_pgrowth) s.heap.size)) (F0 m 0 ls []) by rw [hH, hlo] at hgo; exact hgo
  clear hH hlo
  unfold f_X7_grows at hf
  refine lv_aload_n hx hb dX7_grows_0 rfl (lv_at hl 0 rfl) ?_
  refine lv_iload_n hx hb dX7_grows_1 rfl (lv_at hl 1 rfl) ?_
  refine va_csq (va_runV (As := [.int x1]) (rest := []) ⟨hx, hb, hml, hown, hts⟩ (c_X7_plantOf l dC dI cI cZ cP cS h_t h_t_red h_t_blue h_t_sky h_t_diary h_t_calendar h_t_awakeIn h_t_worths h_t_plants h_t_sheets h_t_bestFrom h_t_p0 h_t_p1 h_t_p2 h_t_p3 v_latestFinding x1) (cwV 1 hts gX7_grows_X7_plantOf rfl rfl rfl (by decide +kernel) ⟨Nat.le_of_ble_eq_true rfl, Nat.le_of_ble_eq_true rfl⟩) (pv_ro (ci := 6) (q0 := 0) hK (hP.sub (ws' := (wd_X7_plantOf cI cZ cP cS h_t h_t_red h_t_blue h_t_sky h_t_diary h_t_calendar h_t_awakeIn h_t_worths h_t_plants h_t_sheets h_t_bestFrom h_t_p0 h_t_p1 h_t_p2 h_t_p3 v_latestFinding)) [0, 1] rfl) rfl rfl) rfl rfl hl.1 rfl (lv_room (Nat.le_of_ble_eq_true rfl)) dX7_grows_2 ⟨Nat.zero_le _, Nat.zero_le _⟩).run (fun x e_1 => ?_)
  by_cases c2_0 : x1 = 0
  · rw [if_pos c2_0] at hf e_1
    subst e_1
    refine W.eq (g2 := F0 m 5 ls [.ref h_t_p0]) rfl ?_
    refine lv_astore (lv' := [(4, .ref h_t_p0), (0, .ref h_t), (1, .int x1), (2, .int x2), (3, .int x3)]) hx hb dX7_grows_5 hl (by decide) rfl (fun ls hl => ?_)
    refine lv_aload hx hb dX7_grows_7 (lv_at hl 0 rfl) ?_
    refine lv_ifnull hx hb dX7_grows_9 ?_
    refine lv_iload_n hx hb dX7_grows_12 rfl (lv_at hl 3 rfl) ?_
    obtain ⟨r13_2, hc_3, hf⟩ := bd1_e hf
    refine vp_callSi (va_runS (As := [.int x2]) (rest := []) ⟨hx, hb, hml, hown, hts⟩ (c_X7_noLight l dC dI cI cZ cP cS   x2 n r13_2 hc_3) (va_cwS 1 hts gX7_grows_X7_noLight rfl rfl rfl (by decide +kernel) ⟨Nat.le_of_ble_eq_true rfl, Nat.le_of_ble_eq_true rfl⟩) (ps_ro hK (hP.sub (ws' := ([] : va_W)) [] rfl)) rfl rfl hl.1 rfl (lv_room (Nat.le_of_ble_eq_true rfl)) dX7_grows_13 ⟨Nat.zero_le _, Nat.zero_le _⟩).run (fun x e_4 => ?_)
    obtain ⟨e_4, hb_5⟩ := e_4
    rw [e_4] at hb_5 ⊢
    refine lv_if_ne (tgt := 26) hx hb dX7_grows_16 (by decide) (fun c16 => ?_) (fun c16 => ?_)
    · rw [if_neg c16] at hf
      refine lv_bipush (v := (-2)) hx hb dX7_grows_26 (by decide) ?_
      have hq0 := Option.some.inj hf
      obtain ⟨eq0, hq1⟩ := Prod.mk.inj hq0
      clear hf hq0
      subst eq0
      subst hq1
      exact W.iret hx hb hr (fun t ht hW => ⟨⟨_, (), rfl, rfl, by rw [ht]; exact hP, va_K.moved hW.alike hK, hD⟩, hS.F ht⟩) hS.2.2 dX7_grows_28
    · rw [if_pos c16] at hf
      refine lv_iload_n hx hb dX7_grows_19 rfl (lv_at hl 4 rfl) ?_
      obtain ⟨r20_6, hc_7, hf⟩ := bd1_e hf
      refine vp_callSi (va_runS (As := [.int x3]) (rest := []) ⟨hx, hb, hml, hown, hts⟩ (c_X7_noGrowth l dC dI cI cZ cP cS   x3 n r20_6 hc_7) (va_cwS 1 hts gX7_grows_X7_noGrowth rfl rfl rfl (by decide +kernel) ⟨Nat.le_of_ble_eq_true rfl, Nat.le_of_ble_eq_true rfl⟩) (ps_ro hK (hP.sub (ws' := ([] : va_W)) [] rfl)) rfl rfl hl.1 rfl (lv_room (Nat.le_of_ble_eq_true rfl)) dX7_grows_20 ⟨Nat.zero_le _, Nat.zero_le _⟩).run (fun x e_8 => ?_)
      obtain ⟨e_8, hb_9⟩ := e_8
      rw [e_8] at hb_9 ⊢
      refine lv_if_eq (tgt := 29) hx hb dX7_grows_23 (by decide) (fun c23 => ?_) (fun c23 => ?_)
      · rw [if_pos c23] at hf
        refine lv_aload hx hb dX7_grows_29 (lv_at hl 0 rfl) ?_
        refine va_get (D := (dC, dI)) (ci := 2) (v := .ref h_t_p0_growth) (C := RX2) (T := TX2) (N := 2) hx hb hts hinX2 hown hK hP 2 rfl rfl 1 (by decide) (hts (.fieldLink RX7 215 "SecondSunrise$Plant" "growth" "[I") (by decide +kernel)) (fun _ h9 => h9) rfl dX7_grows_31 ?_
        refine lv_iload_n hx hb dX7_grows_34 rfl (lv_at hl 3 rfl) ?_
        obtain ⟨hi_10, hf⟩ := ix_e hf
        refine va_iald hx hb hK hP 3 0 rfl rfl hi_10 dX7_grows_35 ?_
        refine lv_istore (lv' := [(5, .int ((v_pgrowth 0) x2.toNatClampNeg)), (4, .ref h_t_p0), (0, .ref h_t), (1, .int x1), (2, .int x2), (3, .int x3)]) hx hb dX7_grows_36 hl (by decide) rfl (fun ls hl => ?_)
        refine lv_aload hx hb dX7_grows_38 (lv_at hl 1 rfl) ?_
        refine va_get (D := (dC, dI)) (ci := 2) (v := .ref h_t_p0_growth) (C := RX2) (T := TX2) (N := 2) hx hb hts hinX2 hown hK hP 2 rfl rfl 1 (by decide) (hts (.fieldLink RX7 215 "SecondSunrise$Plant" "growth" "[I") (by decide +kernel)) (fun _ h9 => h9) rfl dX7_grows_40 ?_
        refine lv_iload_n hx hb dX7_grows_43 rfl (lv_at hl 4 rfl) ?_
        refine lv_iload_n hx hb dX7_grows_44 rfl (lv_at hl 5 rfl) ?_
        obtain ⟨hi_11, hf⟩ := ix_e hf
        refine va_iast hx hb hK hP hD hS 3 0 rfl rfl hi_11 dX7_grows_45 (fun H locs hP hD hS => ?_)
        have hP : va_P (dC, dI) vwCl (wd_X7_grows cI cZ cP cS h_t h_t_red h_t_blue h_t_sky h_t_diary h_t_calendar h_t_awakeIn h_t_worths h_t_plants h_t_sheets h_t_bestFrom h_t_p0 h_t_p1 h_t_p2 h_t_p3 h_t_p0_growth h_t_p1_growth h_t_p2_growth h_t_p3_growth v_latestFinding v_phours (va_up v_pgrowth 0 (upd (v_pgrowth 0) x2.toNatClampNeg x3))) H := hP
        have hD : va_D (va_A (wd_X7_grows cI cZ cP cS h_t h_t_red h_t_blue h_t_sky h_t_diary h_t_calendar h_t_awakeIn h_t_worths h_t_plants h_t_sheets h_t_bestFrom h_t_p0 h_t_p1 h_t_p2 h_t_p3 h_t_p0_growth h_t_p1_growth h_t_p2_growth h_t_p3_growth v_latestFinding v_phours v_pgrowth) s.heap.size) (wd_X7_grows cI cZ cP cS h_t h_t_red h_t_blue h_t_sky h_t_diary h_t_calendar h_t_awakeIn h_t_worths h_t_plants h_t_sheets h_t_bestFrom h_t_p0 h_t_p1 h_t_p2 h_t_p3 h_t_p0_growth h_t_p1_growth h_t_p2_growth h_t_p3_growth v_latestFinding v_phours (va_up v_pgrowth 0 (upd (v_pgrowth 0) x2.toNatClampNeg x3))) := hD
        refine lv_iload hx hb dX7_grows_46 (lv_at hl 0 rfl) ?_
        refine lv_bipush (v := 10) hx hb dX7_grows_48 (by decide) ?_
        refine lv_iadd hx hb dX7_grows_50 ?_
        have hq0 := Option.some.inj hf
        obtain ⟨eq0, hq1⟩ := Prod.mk.inj hq0
        clear hf hq0
        subst eq0
        subst hq1
        exact W.iret hx hb hr (fun t ht hW => ⟨⟨_, (), rfl, rfl, by rw [ht]; exact hP, va_K.moved hW.alike hK, hD⟩, hS.F ht⟩) hS.2.2 dX7_grows_51
      · rw [if_neg c23] at hf
        refine lv_bipush (v := (-2)) hx hb dX7_grows_26 (by decide) ?_
        have hq0 := Option.some.inj hf
        obtain ⟨eq0, hq1⟩ := Prod.mk.inj hq0
        clear hf hq0
        subst eq0
        subst hq1
        exact W.iret hx hb hr (fun t ht hW => ⟨⟨_, (), rfl, rfl, by rw [ht]; exact hP, va_K.moved hW.alike hK, hD⟩, hS.F ht⟩) hS.2.2 dX7_grows_28
  · rw [if_neg c2_0] at hf e_1
    by_cases c2_1 : x1 = 1
    · rw [if_pos c2_1] at hf e_1
      subst e_1
      refine W.eq (g2 := F0 m 5 ls [.ref h_t_p1]) rfl ?_
      refine lv_astore (lv' := [(4, .ref h_t_p1), (0, .ref h_t), (1, .int x1), (2, .int x2), (3, .int x3)]) hx hb dX7_grows_5 hl (by decide) rfl (fun ls hl => ?_)
      refine lv_aload hx hb dX7_grows_7 (lv_at hl 0 rfl) ?_
      refine lv_ifnull hx hb dX7_grows_9 ?_
      refine lv_iload_n hx hb dX7_grows_12 rfl (lv_at hl 3 rfl) ?_
      obtain ⟨r13_12, hc_13, hf⟩ := bd1_e hf
      refine vp_callSi (va_runS (As := [.int x2]) (rest := []) ⟨hx, hb, hml, hown, hts⟩ (c_X7_noLight l dC dI cI cZ cP cS   x2 n r13_12 hc_13) (va_cwS 1 hts gX7_grows_X7_noLight rfl rfl rfl (by decide +kernel) ⟨Nat.le_of_ble_eq_true rfl, Nat.le_of_ble_eq_true rfl⟩) (ps_ro hK (hP.sub (ws' := ([] : va_W)) [] rfl)) rfl rfl hl.1 rfl (lv_room (Nat.le_of_ble_eq_true rfl)) dX7_grows_13 ⟨Nat.zero_le _, Nat.zero_le _⟩).run (fun x e_14 => ?_)
      obtain ⟨e_14, hb_15⟩ := e_14
      rw [e_14] at hb_15 ⊢
      refine lv_if_ne (tgt := 26) hx hb dX7_grows_16 (by decide) (fun c16 => ?_) (fun c16 => ?_)
      · rw [if_neg c16] at hf
        refine lv_bipush (v := (-2)) hx hb dX7_grows_26 (by decide) ?_
        have hq0 := Option.some.inj hf
        obtain ⟨eq0, hq1⟩ := Prod.mk.inj hq0
        clear hf hq0
        subst eq0
        subst hq1
        exact W.iret hx hb hr (fun t ht hW => ⟨⟨_, (), rfl, rfl, by rw [ht]; exact hP, va_K.moved hW.alike hK, hD⟩, hS.F ht⟩) hS.2.2 dX7_grows_28
      · rw [if_pos c16] at hf
        refine lv_iload_n hx hb dX7_grows_19 rfl (lv_at hl 4 rfl) ?_
        obtain ⟨r20_16, hc_17, hf⟩ := bd1_e hf
        refine vp_callSi (va_runS (As := [.int x3]) (rest := []) ⟨hx, hb, hml, hown, hts⟩ (c_X7_noGrowth l dC dI cI cZ cP cS   x3 n r20_16 hc_17) (va_cwS 1 hts gX7_grows_X7_noGrowth rfl rfl rfl (by decide +kernel) ⟨Nat.le_of_ble_eq_true rfl, Nat.le_of_ble_eq_true rfl⟩) (ps_ro hK (hP.sub (ws' := ([] : va_W)) [] rfl)) rfl rfl hl.1 rfl (lv_room (Nat.le_of_ble_eq_true rfl)) dX7_grows_20 ⟨Nat.zero_le _, Nat.zero_le _⟩).run (fun x e_18 => ?_)
        obtain ⟨e_18, hb_19⟩ := e_18
        rw [e_18] at hb_19 ⊢
        refine lv_if_eq (tgt := 29) hx hb dX7_grows_23 (by decide) (fun c23 => ?_) (fun c23 => ?_)
        · rw [if_pos c23] at hf
          refine lv_aload hx hb dX7_grows_29 (lv_at hl 0 rfl) ?_
          refine va_get (D := (dC, dI)) (ci := 2) (v := .ref h_t_p1_growth) (C := RX2) (T := TX2) (N := 2) hx hb hts hinX2 hown hK hP 4 rfl rfl 1 (by decide) (hts (.fieldLink RX7 215 "SecondSunrise$Plant" "growth" "[I") (by decide +kernel)) (fun _ h9 => h9) rfl dX7_grows_31 ?_
          refine lv_iload_n hx hb dX7_grows_34 rfl (lv_at hl 3 rfl) ?_
          obtain ⟨hi_20, hf⟩ := ix_e hf
          refine va_iald hx hb hK hP 5 0 rfl rfl hi_20 dX7_grows_35 ?_
          refine lv_istore (lv' := [(5, .int ((v_pgrowth 1) x2.toNatClampNeg)), (4, .ref h_t_p1), (0, .ref h_t), (1, .int x1), (2, .int x2), (3, .int x3)]) hx hb dX7_grows_36 hl (by decide) rfl (fun ls hl => ?_)
          refine lv_aload hx hb dX7_grows_38 (lv_at hl 1 rfl) ?_
          refine va_get (D := (dC, dI)) (ci := 2) (v := .ref h_t_p1_growth) (C := RX2) (T := TX2) (N := 2) hx hb hts hinX2 hown hK hP 4 rfl rfl 1 (by decide) (hts (.fieldLink RX7 215 "SecondSunrise$Plant" "growth" "[I") (by decide +kernel)) (fun _ h9 => h9) rfl dX7_grows_40 ?_
          refine lv_iload_n hx hb dX7_grows_43 rfl (lv_at hl 4 rfl) ?_
          refine lv_iload_n hx hb dX7_grows_44 rfl (lv_at hl 5 rfl) ?_
          obtain ⟨hi_21, hf⟩ := ix_e hf
          refine va_iast hx hb hK hP hD hS 5 0 rfl rfl hi_21 dX7_grows_45 (fun H locs hP hD hS => ?_)
          have hP : va_P (dC, dI) vwCl (wd_X7_grows cI cZ cP cS h_t h_t_red h_t_blue h_t_sky h_t_diary h_t_calendar h_t_awakeIn h_t_worths h_t_plants h_t_sheets h_t_bestFrom h_t_p0 h_t_p1 h_t_p2 h_t_p3 h_t_p0_growth h_t_p1_growth h_t_p2_growth h_t_p3_growth v_latestFinding v_phours (va_up v_pgrowth 1 (upd (v_pgrowth 1) x2.toNatClampNeg x3))) H := hP
          have hD : va_D (va_A (wd_X7_grows cI cZ cP cS h_t h_t_red h_t_blue h_t_sky h_t_diary h_t_calendar h_t_awakeIn h_t_worths h_t_plants h_t_sheets h_t_bestFrom h_t_p0 h_t_p1 h_t_p2 h_t_p3 h_t_p0_growth h_t_p1_growth h_t_p2_growth h_t_p3_growth v_latestFinding v_phours v_pgrowth) s.heap.size) (wd_X7_grows cI cZ cP cS h_t h_t_red h_t_blue h_t_sky h_t_diary h_t_calendar h_t_awakeIn h_t_worths h_t_plants h_t_sheets h_t_bestFrom h_t_p0 h_t_p1 h_t_p2 h_t_p3 h_t_p0_growth h_t_p1_growth h_t_p2_growth h_t_p3_growth v_latestFinding v_phours (va_up v_pgrowth 1 (upd (v_pgrowth 1) x2.toNatClampNeg x3))) := hD
          refine lv_iload hx hb dX7_grows_46 (lv_at hl 0 rfl) ?_
          refine lv_bipush (v := 10) hx hb dX7_grows_48 (by decide) ?_
          refine lv_iadd hx hb dX7_grows_50 ?_
          have hq0 := Option.some.inj hf
          obtain ⟨eq0, hq1⟩ := Prod.mk.inj hq0
          clear hf hq0
          subst eq0
          subst hq1
          exact W.iret hx hb hr (fun t ht hW => ⟨⟨_, (), rfl, rfl, by rw [ht]; exact hP, va_K.moved hW.alike hK, hD⟩, hS.F ht⟩) hS.2.2 dX7_grows_51
        · rw [if_neg c23] at hf
          refine lv_bipush (v := (-2)) hx hb dX7_grows_26 (by decide) ?_
          have hq0 := Option.some.inj hf
          obtain ⟨eq0, hq1⟩ := Prod.mk.inj hq0
          clear hf hq0
          subst eq0
          subst hq1
          exact W.iret hx hb hr (fun t ht hW => ⟨⟨_, (), rfl, rfl, by rw [ht]; exact hP, va_K.moved hW.alike hK, hD⟩, hS.F ht⟩) hS.2.2 dX7_grows_28
    · rw [if_neg c2_1] at hf e_1
      by_cases c2_2 : x1 = 2
      · rw [if_pos c2_2] at hf e_1
        subst e_1
        refine W.eq (g2 := F0 m 5 ls [.ref h_t_p2]) rfl ?_
        refine lv_astore (lv' := [(4, .ref h_t_p2), (0, .ref h_t), (1, .int x1), (2, .int x2), (3, .int x3)]) hx hb dX7_grows_5 hl (by decide) rfl (fun ls hl => ?_)
        refine lv_aload hx hb dX7_grows_7 (lv_at hl 0 rfl) ?_
        refine lv_ifnull hx hb dX7_grows_9 ?_
        refine lv_iload_n hx hb dX7_grows_12 rfl (lv_at hl 3 rfl) ?_
        obtain ⟨r13_22, hc_23, hf⟩ := bd1_e hf
        refine vp_callSi (va_runS (As := [.int x2]) (rest := []) ⟨hx, hb, hml, hown, hts⟩ (c_X7_noLight l dC dI cI cZ cP cS   x2 n r13_22 hc_23) (va_cwS 1 hts gX7_grows_X7_noLight rfl rfl rfl (by decide +kernel) ⟨Nat.le_of_ble_eq_true rfl, Nat.le_of_ble_eq_true rfl⟩) (ps_ro hK (hP.sub (ws' := ([] : va_W)) [] rfl)) rfl rfl hl.1 rfl (lv_room (Nat.le_of_ble_eq_true rfl)) dX7_grows_13 ⟨Nat.zero_le _, Nat.zero_le _⟩).run (fun x e_24 => ?_)
        obtain ⟨e_24, hb_25⟩ := e_24
        rw [e_24] at hb_25 ⊢
        refine lv_if_ne (tgt := 26) hx hb dX7_grows_16 (by decide) (fun c16 => ?_) (fun c16 => ?_)
        · rw [if_neg c16] at hf
          refine lv_bipush (v := (-2)) hx hb dX7_grows_26 (by decide) ?_
          have hq0 := Option.some.inj hf
          obtain ⟨eq0, hq1⟩ := Prod.mk.inj hq0
          clear hf hq0
          subst eq0
          subst hq1
          exact W.iret hx hb hr (fun t ht hW => ⟨⟨_, (), rfl, rfl, by rw [ht]; exact hP, va_K.moved hW.alike hK, hD⟩, hS.F ht⟩) hS.2.2 dX7_grows_28
        · rw [if_pos c16] at hf
          refine lv_iload_n hx hb dX7_grows_19 rfl (lv_at hl 4 rfl) ?_
          obtain ⟨r20_26, hc_27, hf⟩ := bd1_e hf
          refine vp_callSi (va_runS (As := [.int x3]) (rest := []) ⟨hx, hb, hml, hown, hts⟩ (c_X7_noGrowth l dC dI cI cZ cP cS   x3 n r20_26 hc_27) (va_cwS 1 hts gX7_grows_X7_noGrowth rfl rfl rfl (by decide +kernel) ⟨Nat.le_of_ble_eq_true rfl, Nat.le_of_ble_eq_true rfl⟩) (ps_ro hK (hP.sub (ws' := ([] : va_W)) [] rfl)) rfl rfl hl.1 rfl (lv_room (Nat.le_of_ble_eq_true rfl)) dX7_grows_20 ⟨Nat.zero_le _, Nat.zero_le _⟩).run (fun x e_28 => ?_)
          obtain ⟨e_28, hb_29⟩ := e_28
          rw [e_28] at hb_29 ⊢
          refine lv_if_eq (tgt := 29) hx hb dX7_grows_23 (by decide) (fun c23 => ?_) (fun c23 => ?_)
          · rw [if_pos c23] at hf
            refine lv_aload hx hb dX7_grows_29 (lv_at hl 0 rfl) ?_
            refine va_get (D := (dC, dI)) (ci := 2) (v := .ref h_t_p2_growth) (C := RX2) (T := TX2) (N := 2) hx hb hts hinX2 hown hK hP 6 rfl rfl 1 (by decide) (hts (.fieldLink RX7 215 "SecondSunrise$Plant" "growth" "[I") (by decide +kernel)) (fun _ h9 => h9) rfl dX7_grows_31 ?_
            refine lv_iload_n hx hb dX7_grows_34 rfl (lv_at hl 3 rfl) ?_
            obtain ⟨hi_30, hf⟩ := ix_e hf
            refine va_iald hx hb hK hP 7 0 rfl rfl hi_30 dX7_grows_35 ?_
            refine lv_istore (lv' := [(5, .int ((v_pgrowth 2) x2.toNatClampNeg)), (4, .ref h_t_p2), (0, .ref h_t), (1, .int x1), (2, .int x2), (3, .int x3)]) hx hb dX7_grows_36 hl (by decide) rfl (fun ls hl => ?_)
            refine lv_aload hx hb dX7_grows_38 (lv_at hl 1 rfl) ?_
            refine va_get (D := (dC, dI)) (ci := 2) (v := .ref h_t_p2_growth) (C := RX2) (T := TX2) (N := 2) hx hb hts hinX2 hown hK hP 6 rfl rfl 1 (by decide) (hts (.fieldLink RX7 215 "SecondSunrise$Plant" "growth" "[I") (by decide +kernel)) (fun _ h9 => h9) rfl dX7_grows_40 ?_
            refine lv_iload_n hx hb dX7_grows_43 rfl (lv_at hl 4 rfl) ?_
            refine lv_iload_n hx hb dX7_grows_44 rfl (lv_at hl 5 rfl) ?_
            obtain ⟨hi_31, hf⟩ := ix_e hf
            refine va_iast hx hb hK hP hD hS 7 0 rfl rfl hi_31 dX7_grows_45 (fun H locs hP hD hS => ?_)
            have hP : va_P (dC, dI) vwCl (wd_X7_grows cI cZ cP cS h_t h_t_red h_t_blue h_t_sky h_t_diary h_t_calendar h_t_awakeIn h_t_worths h_t_plants h_t_sheets h_t_bestFrom h_t_p0 h_t_p1 h_t_p2 h_t_p3 h_t_p0_growth h_t_p1_growth h_t_p2_growth h_t_p3_growth v_latestFinding v_phours (va_up v_pgrowth 2 (upd (v_pgrowth 2) x2.toNatClampNeg x3))) H := hP
            have hD : va_D (va_A (wd_X7_grows cI cZ cP cS h_t h_t_red h_t_blue h_t_sky h_t_diary h_t_calendar h_t_awakeIn h_t_worths h_t_plants h_t_sheets h_t_bestFrom h_t_p0 h_t_p1 h_t_p2 h_t_p3 h_t_p0_growth h_t_p1_growth h_t_p2_growth h_t_p3_growth v_latestFinding v_phours v_pgrowth) s.heap.size) (wd_X7_grows cI cZ cP cS h_t h_t_red h_t_blue h_t_sky h_t_diary h_t_calendar h_t_awakeIn h_t_worths h_t_plants h_t_sheets h_t_bestFrom h_t_p0 h_t_p1 h_t_p2 h_t_p3 h_t_p0_growth h_t_p1_growth h_t_p2_growth h_t_p3_growth v_latestFinding v_phours (va_up v_pgrowth 2 (upd (v_pgrowth 2) x2.toNatClampNeg x3))) := hD
            refine lv_iload hx hb dX7_grows_46 (lv_at hl 0 rfl) ?_
            refine lv_bipush (v := 10) hx hb dX7_grows_48 (by decide) ?_
            refine lv_iadd hx hb dX7_grows_50 ?_
            have hq0 := Option.some.inj hf
            obtain ⟨eq0, hq1⟩ := Prod.mk.inj hq0
            clear hf hq0
            subst eq0
            subst hq1
            exact W.iret hx hb hr (fun t ht hW => ⟨⟨_, (), rfl, rfl, by rw [ht]; exact hP, va_K.moved hW.alike hK, hD⟩, hS.F ht⟩) hS.2.2 dX7_grows_51
          · rw [if_neg c23] at hf
            refine lv_bipush (v := (-2)) hx hb dX7_grows_26 (by decide) ?_
            have hq0 := Option.some.inj hf
            obtain ⟨eq0, hq1⟩ := Prod.mk.inj hq0
            clear hf hq0
            subst eq0
            subst hq1
            exact W.iret hx hb hr (fun t ht hW => ⟨⟨_, (), rfl, rfl, by rw [ht]; exact hP, va_K.moved hW.alike hK, hD⟩, hS.F ht⟩) hS.2.2 dX7_grows_28
      · rw [if_neg c2_2] at hf e_1
        by_cases c2_3 : x1 = 3
        · rw [if_pos c2_3] at hf e_1
          subst e_1
          refine W.eq (g2 := F0 m 5 ls [.ref h_t_p3]) rfl ?_
          refine lv_astore (lv' := [(4, .ref h_t_p3), (0, .ref h_t), (1, .int x1), (2, .int x2), (3, .int x3)]) hx hb dX7_grows_5 hl (by decide) rfl (fun ls hl => ?_)
          refine lv_aload hx hb dX7_grows_7 (lv_at hl 0 rfl) ?_
          refine lv_ifnull hx hb dX7_grows_9 ?_
          refine lv_iload_n hx hb dX7_grows_12 rfl (lv_at hl 3 rfl) ?_
          obtain ⟨r13_32, hc_33, hf⟩ := bd1_e hf
          refine vp_callSi (va_runS (As := [.int x2]) (rest := []) ⟨hx, hb, hml, hown, hts⟩ (c_X7_noLight l dC dI cI cZ cP cS   x2 n r13_32 hc_33) (va_cwS 1 hts gX7_grows_X7_noLight rfl rfl rfl (by decide +kernel) ⟨Nat.le_of_ble_eq_true rfl, Nat.le_of_ble_eq_true rfl⟩) (ps_ro hK (hP.sub (ws' := ([] : va_W)) [] rfl)) rfl rfl hl.1 rfl (lv_room (Nat.le_of_ble_eq_true rfl)) dX7_grows_13 ⟨Nat.zero_le _, Nat.zero_le _⟩).run (fun x e_34 => ?_)
          obtain ⟨e_34, hb_35⟩ := e_34
          rw [e_34] at hb_35 ⊢
          refine lv_if_ne (tgt := 26) hx hb dX7_grows_16 (by decide) (fun c16 => ?_) (fun c16 => ?_)
          · rw [if_neg c16] at hf
            refine lv_bipush (v := (-2)) hx hb dX7_grows_26 (by decide) ?_
            have hq0 := Option.some.inj hf
            obtain ⟨eq0, hq1⟩ := Prod.mk.inj hq0
            clear hf hq0
            subst eq0
            subst hq1
            exact W.iret hx hb hr (fun t ht hW => ⟨⟨_, (), rfl, rfl, by rw [ht]; exact hP, va_K.moved hW.alike hK, hD⟩, hS.F ht⟩) hS.2.2 dX7_grows_28
          · rw [if_pos c16] at hf
            refine lv_iload_n hx hb dX7_grows_19 rfl (lv_at hl 4 rfl) ?_
            obtain ⟨r20_36, hc_37, hf⟩ := bd1_e hf
            refine vp_callSi (va_runS (As := [.int x3]) (rest := []) ⟨hx, hb, hml, hown, hts⟩ (c_X7_noGrowth l dC dI cI cZ cP cS   x3 n r20_36 hc_37) (va_cwS 1 hts gX7_grows_X7_noGrowth rfl rfl rfl (by decide +kernel) ⟨Nat.le_of_ble_eq_true rfl, Nat.le_of_ble_eq_true rfl⟩) (ps_ro hK (hP.sub (ws' := ([] : va_W)) [] rfl)) rfl rfl hl.1 rfl (lv_room (Nat.le_of_ble_eq_true rfl)) dX7_grows_20 ⟨Nat.zero_le _, Nat.zero_le _⟩).run (fun x e_38 => ?_)
            obtain ⟨e_38, hb_39⟩ := e_38
            rw [e_38] at hb_39 ⊢
            refine lv_if_eq (tgt := 29) hx hb dX7_grows_23 (by decide) (fun c23 => ?_) (fun c23 => ?_)
            · rw [if_pos c23] at hf
              refine lv_aload hx hb dX7_grows_29 (lv_at hl 0 rfl) ?_
              refine va_get (D := (dC, dI)) (ci := 2) (v := .ref h_t_p3_growth) (C := RX2) (T := TX2) (N := 2) hx hb hts hinX2 hown hK hP 8 rfl rfl 1 (by decide) (hts (.fieldLink RX7 215 "SecondSunrise$Plant" "growth" "[I") (by decide +kernel)) (fun _ h9 => h9) rfl dX7_grows_31 ?_
              refine lv_iload_n hx hb dX7_grows_34 rfl (lv_at hl 3 rfl) ?_
              obtain ⟨hi_40, hf⟩ := ix_e hf
              refine va_iald hx hb hK hP 9 0 rfl rfl hi_40 dX7_grows_35 ?_
              refine lv_istore (lv' := [(5, .int ((v_pgrowth 3) x2.toNatClampNeg)), (4, .ref h_t_p3), (0, .ref h_t), (1, .int x1), (2, .int x2), (3, .int x3)]) hx hb dX7_grows_36 hl (by decide) rfl (fun ls hl => ?_)
              refine lv_aload hx hb dX7_grows_38 (lv_at hl 1 rfl) ?_
              refine va_get (D := (dC, dI)) (ci := 2) (v := .ref h_t_p3_growth) (C := RX2) (T := TX2) (N := 2) hx hb hts hinX2 hown hK hP 8 rfl rfl 1 (by decide) (hts (.fieldLink RX7 215 "SecondSunrise$Plant" "growth" "[I") (by decide +kernel)) (fun _ h9 => h9) rfl dX7_grows_40 ?_
              refine lv_iload_n hx hb dX7_grows_43 rfl (lv_at hl 4 rfl) ?_
              refine lv_iload_n hx hb dX7_grows_44 rfl (lv_at hl 5 rfl) ?_
              obtain ⟨hi_41, hf⟩ := ix_e hf
              refine va_iast hx hb hK hP hD hS 9 0 rfl rfl hi_41 dX7_grows_45 (fun H locs hP hD hS => ?_)
              have hP : va_P (dC, dI) vwCl (wd_X7_grows cI cZ cP cS h_t h_t_red h_t_blue h_t_sky h_t_diary h_t_calendar h_t_awakeIn h_t_worths h_t_plants h_t_sheets h_t_bestFrom h_t_p0 h_t_p1 h_t_p2 h_t_p3 h_t_p0_growth h_t_p1_growth h_t_p2_growth h_t_p3_growth v_latestFinding v_phours (va_up v_pgrowth 3 (upd (v_pgrowth 3) x2.toNatClampNeg x3))) H := hP
              have hD : va_D (va_A (wd_X7_grows cI cZ cP cS h_t h_t_red h_t_blue h_t_sky h_t_diary h_t_calendar h_t_awakeIn h_t_worths h_t_plants h_t_sheets h_t_bestFrom h_t_p0 h_t_p1 h_t_p2 h_t_p3 h_t_p0_growth h_t_p1_growth h_t_p2_growth h_t_p3_growth v_latestFinding v_phours v_pgrowth) s.heap.size) (wd_X7_grows cI cZ cP cS h_t h_t_red h_t_blue h_t_sky h_t_diary h_t_calendar h_t_awakeIn h_t_worths h_t_plants h_t_sheets h_t_bestFrom h_t_p0 h_t_p1 h_t_p2 h_t_p3 h_t_p0_growth h_t_p1_growth h_t_p2_growth h_t_p3_growth v_latestFinding v_phours (va_up v_pgrowth 3 (upd (v_pgrowth 3) x2.toNatClampNeg x3))) := hD
              refine lv_iload hx hb dX7_grows_46 (lv_at hl 0 rfl) ?_
              refine lv_bipush (v := 10) hx hb dX7_grows_48 (by decide) ?_
              refine lv_iadd hx hb dX7_grows_50 ?_
              have hq0 := Option.some.inj hf
              obtain ⟨eq0, hq1⟩ := Prod.mk.inj hq0
              clear hf hq0
              subst eq0
              subst hq1
              exact W.iret hx hb hr (fun t ht hW => ⟨⟨_, (), rfl, rfl, by rw [ht]; exact hP, va_K.moved hW.alike hK, hD⟩, hS.F ht⟩) hS.2.2 dX7_grows_51
            · rw [if_neg c23] at hf
              refine lv_bipush (v := (-2)) hx hb dX7_grows_26 (by decide) ?_
              have hq0 := Option.some.inj hf
              obtain ⟨eq0, hq1⟩ := Prod.mk.inj hq0
              clear hf hq0
              subst eq0
              subst hq1
              exact W.iret hx hb hr (fun t ht hW => ⟨⟨_, (), rfl, rfl, by rw [ht]; exact hP, va_K.moved hW.alike hK, hD⟩, hS.F ht⟩) hS.2.2 dX7_grows_28
        · rw [if_neg c2_3] at hf e_1
          subst e_1
          refine W.eq (g2 := F0 m 5 ls [.null]) rfl ?_
          refine lv_astoreN (lv' := [(4, .null), (0, .ref h_t), (1, .int x1), (2, .int x2), (3, .int x3)]) hx hb dX7_grows_5 hl (by decide) rfl (fun ls hl => ?_)
          refine lv_aloadN hx hb dX7_grows_7 (lv_at hl 0 rfl) ?_
          refine lv_ifnullN (tgt := 26) hx hb dX7_grows_9 (by decide) ?_
          refine lv_bipush (v := (-2)) hx hb dX7_grows_26 (by decide) ?_
          have hq0 := Option.some.inj hf
          obtain ⟨eq0, hq1⟩ := Prod.mk.inj hq0
          clear hf hq0
          subst eq0
          subst hq1
          exact W.iret hx hb hr (fun t ht hW => ⟨⟨_, (), rfl, rfl, by rw [ht]; exact hP, va_K.moved hW.alike hK, hD⟩, hS.F ht⟩) hS.2.2 dX7_grows_28

abbrev wd_X7_lose (cI cZ cP cS : ClassId) (h_t h_t_red h_t_blue h_t_sky h_t_diary h_t_calendar h_t_awakeIn h_t_worths h_t_plants h_t_sheets h_t_bestFrom h_t_s0 h_t_s1 h_t_s2 h_t_s3 h_t_s0_items h_t_s1_items h_t_s2_items h_t_s3_items : Nat) (v_latestFinding : Int32) (v_sform : Nat → Int32) (v_ssize : Nat → Int32) : va_W := [(h_t, .inr (6, [.ref h_t_red, .ref h_t_blue, .ref h_t_sky, .ref h_t_diary, .ref h_t_calendar, .ref h_t_awakeIn, .ref h_t_worths, .ref h_t_plants, .ref h_t_sheets, .ref h_t_bestFrom, .int v_latestFinding])), (h_t_sheets, .inl (cS, 4, .inr (.inr (.inr (.inr (ar4 h_t_s0 h_t_s1 h_t_s2 h_t_s3)))))), (h_t_s0, .inr (3, [.int (v_sform 0), .int (v_ssize 0), .ref h_t_s0_items])), (h_t_s1, .inr (3, [.int (v_sform 1), .int (v_ssize 1), .ref h_t_s1_items])), (h_t_s2, .inr (3, [.int (v_sform 2), .int (v_ssize 2), .ref h_t_s2_items])), (h_t_s3, .inr (3, [.int (v_sform 3), .int (v_ssize 3), .ref h_t_s3_items]))]
abbrev rm_X7_lose : Room := { frames := 2, cells := 0, slots := 0, locals := 43 }
def f_X7_lose (n : Nat) (v_latestFinding : Int32) (v_sform : Nat → Int32) (v_ssize : Nat → Int32) (x1 : Int32) : Option (Int32 × Int32 × (Nat → Int32)) := if x1 = 0 then if (v_sform 0) = (-1) then bd2_ (f_X7_found n v_latestFinding 1) (fun (r23_2 : Int32) (o23_3 : Int32) => some (r23_2, o23_3, v_sform)) else some (v_ssize 0, v_latestFinding, (upd v_sform 0 (-1))) else if x1 = 1 then if (v_sform 1) = (-1) then bd2_ (f_X7_found n v_latestFinding 1) (fun (r23_6 : Int32) (o23_7 : Int32) => some (r23_6, o23_7, v_sform)) else some (v_ssize 1, v_latestFinding, (upd v_sform 1 (-1))) else if x1 = 2 then if (v_sform 2) = (-1) then bd2_ (f_X7_found n v_latestFinding 1) (fun (r23_10 : Int32) (o23_11 : Int32) => some (r23_10, o23_11, v_sform)) else some (v_ssize 2, v_latestFinding, (upd v_sform 2 (-1))) else if x1 = 3 then if (v_sform 3) = (-1) then bd2_ (f_X7_found n v_latestFinding 1) (fun (r23_14 : Int32) (o23_15 : Int32) => some (r23_14, o23_15, v_sform)) else some (v_ssize 3, v_latestFinding, (upd v_sform 3 (-1))) else some ((-2), v_latestFinding, v_sform)
set_option maxHeartbeats 4000000 in
set_option maxRecDepth 100000 in
theorem c_X7_lose (l : Launch) (dC : Nat → ClassId) (dI : Nat → Nat → Nat) (cI cZ cP cS : ClassId) (sz : Nat) (h_t h_t_red h_t_blue h_t_sky h_t_diary h_t_calendar h_t_awakeIn h_t_worths h_t_plants h_t_sheets h_t_bestFrom h_t_s0 h_t_s1 h_t_s2 h_t_s3 h_t_s0_items h_t_s1_items h_t_s2_items h_t_s3_items : Nat) (v_latestFinding : Int32) (v_sform : Nat → Int32) (v_ssize : Nat → Int32) (x1 : Int32) (n : Nat) (r : Int32) (o_latestFinding : Int32) (o_sform : Nat → Int32) (hf : f_X7_lose n v_latestFinding v_sform v_ssize x1 = some (r, o_latestFinding, o_sform)) : Met l yX7_lose wsX7_lose rm_X7_lose (RW (dC, dI) (TY cI cZ cP cS) [.ref h_t, .int x1] sz (wd_X7_lose cI cZ cP cS h_t h_t_red h_t_blue h_t_sky h_t_diary h_t_calendar h_t_awakeIn h_t_worths h_t_plants h_t_sheets h_t_bestFrom h_t_s0 h_t_s1 h_t_s2 h_t_s3 h_t_s0_items h_t_s1_items h_t_s2_items h_t_s3_items v_latestFinding v_sform v_ssize)) (RWi (dC, dI) (TY cI cZ cP cS) r sz (wd_X7_lose cI cZ cP cS h_t h_t_red h_t_blue h_t_sky h_t_diary h_t_calendar h_t_awakeIn h_t_worths h_t_plants h_t_sheets h_t_bestFrom h_t_s0 h_t_s1 h_t_s2 h_t_s3 h_t_s0_items h_t_s1_items h_t_s2_items h_t_s3_items v_latestFinding v_sform v_ssize) (wd_X7_lose cI cZ cP cS h_t h_t_red h_t_blue h_t_sky h_t_diary h_t_calendar h_t_awakeIn h_t_worths h_t_plants h_t_sheets h_t_bestFrom h_t_s0 h_t_s1 h_t_s2 h_t_s3 h_t_s0_items h_t_s1_items h_t_s2_items h_t_s3_items o_latestFinding o_sform v_ssize)) 0 0 (va_A (wd_X7_lose cI cZ cP cS h_t h_t_red h_t_blue h_t_sky h_t_diary h_t_calendar h_t_awakeIn h_t_worths h_t_plants h_t_sheets h_t_bestFrom h_t_s0 h_t_s1 h_t_s2 h_t_s3 h_t_s0_items h_t_s1_items h_t_s2_items h_t_s3_items v_latestFinding v_sform v_ssize) sz) := by
  refine Met.ofW (cc := cX7_lose) (maxL := 3) (ret := (some .int)) (by decide) rfl ?_
  intro p e s m args below meth c s₁ B hml hv
  obtain ⟨rfl, hsz, hP, hK, hD0⟩ := hv
  have hx := B.exec
  have hb := B.bytes
  have hr := B.returns
  have hts := atoms_spec (ws := wsX7_lose) B.pre
  have hown : s.vm.findClass RX7 = some m.cls := findClass_of_methodNamed B.named
  have hlocks := B.notSynchronized
  subst hsz
  have hD := hD0.self (sz := s.heap.size)
  have hA : ∀ q : Nat, s.heap.size ≤ q → (va_A (wd_X7_lose cI cZ cP cS h_t h_t_red h_t_blue h_t_sky h_t_diary h_t_calendar h_t_awakeIn h_t_worths h_t_plants h_t_sheets h_t_bestFrom h_t_s0 h_t_s1 h_t_s2 h_t_s3 h_t_s0_items h_t_s1_items h_t_s2_items h_t_s3_items v_latestFinding v_sform v_ssize) s.heap.size) q := fun q h => Or.inr h
  have hS : va_S (va_A (wd_X7_lose cI cZ cP cS h_t h_t_red h_t_blue h_t_sky h_t_diary h_t_calendar h_t_awakeIn h_t_worths h_t_plants h_t_sheets h_t_bestFrom h_t_s0 h_t_s1 h_t_s2 h_t_s3 h_t_s0_items h_t_s1_items h_t_s2_items h_t_s3_items v_latestFinding v_sform v_ssize) s.heap.size) s.heap s.heap [] := va_S.rf
  have hinX3 : ∀ w ∈ wsX30, w ∈ wsX7_lose := by decide +kernel
  have hl := lv_entry ([.ref h_t, .int x1]) (n := 3) (Nat.le_of_ble_eq_true rfl)
  rw [lg_entry_eq]
  generalize (lg_sl ([.ref h_t, .int x1]) ++ List.replicate (3 - (lg_sl ([.ref h_t, .int x1])).length) Slot.unset).toArray = ls at hl ⊢
  have hl : lv_has ls 3 [(0, .ref h_t), (1, .int x1)] := hl
  obtain ⟨H, hH⟩ : ∃ H : Heap, H = s.heap := ⟨_, rfl⟩
  have hP : va_P (dC, dI) vwCl (wd_X7_lose cI cZ cP cS h_t h_t_red h_t_blue h_t_sky h_t_diary h_t_calendar h_t_awakeIn h_t_worths h_t_plants h_t_sheets h_t_bestFrom h_t_s0 h_t_s1 h_t_s2 h_t_s3 h_t_s0_items h_t_s1_items h_t_s2_items h_t_s3_items v_latestFinding v_sform v_ssize) H := by rw [hH]; exact hP
  have hS : va_S (va_A (wd_X7_lose cI cZ cP cS h_t h_t_red h_t_blue h_t_sky h_t_diary h_t_calendar h_t_awakeIn h_t_worths h_t_plants h_t_sheets h_t_bestFrom h_t_s0 h_t_s1 h_t_s2 h_t_s3 h_t_s0_items h_t_s1_items h_t_s2_items h_t_s3_items v_latestFinding v_sform v_ssize) s.heap.size) s.heap H [] := by rw [hH]; exact hS
  obtain ⟨locs, hlo⟩ : ∃ L : List Loc, L = [] := ⟨_, rfl⟩
  rw [← hlo] at hS
  suffices hgo : W p l e (headSpec wsX7_lose rm_X7_lose).room s m ([.ref h_t, .int x1] : List Value).toArray below meth c H locs 0 0 (MQ below (RWi (dC, dI) (TY cI cZ cP cS) r s.heap.size (wd_X7_lose cI cZ cP cS h_t h_t_red h_t_blue h_t_sky h_t_diary h_t_calendar h_t_awakeIn h_t_worths h_t_plants h_t_sheets h_t_bestFrom h_t_s0 h_t_s1 h_t_s2 h_t_s3 h_t_s0_items h_t_s1_items h_t_s2_items h_t_s3_items v_latestFinding v_sform v_ssize) (wd_X7_lose cI cZ cP cS h_t h_t_red h_t_blue h_t_sky h_t_diary h_t_calendar h_t_awakeIn h_t_worths h_t_plants h_t_sheets h_t_bestFrom h_t_s0 h_t_s1 h_t_s2 h_t_s3 h_t_s0_items h_t_s1_items h_t_s2_items h_t_s3_items o_latestFinding o_sform v_ssize)) ([.ref h_t, .int x1] : List Value).toArray s 0 0 (va_A (wd_X7_lose cI cZ cP cS h_t h_t_red h_t_blue h_t_sky h_t_diary h_t_calendar h_t_awakeIn h_t_worths h_t_plants h_t_sheets h_t_bestFrom h_t_s0 h_t_s1 h_t_s2 h_t_s3 h_t_s0_items h_t_s1_items h_t_s2_items h_t_s3_items v_latestFinding v_sform v_ssize) s.heap.size)) (F0 m 0 ls []) by rw [hH, hlo] at hgo; exact hgo
  clear hH hlo
  unfold f_X7_lose at hf
  refine lv_aload_n hx hb dX7_lose_0 rfl (lv_at hl 0 rfl) ?_
  refine lv_iload_n hx hb dX7_lose_1 rfl (lv_at hl 1 rfl) ?_
  refine va_csq (va_runV (As := [.int x1]) (rest := []) ⟨hx, hb, hml, hown, hts⟩ (c_X7_sheetOf l dC dI cI cZ cP cS h_t h_t_red h_t_blue h_t_sky h_t_diary h_t_calendar h_t_awakeIn h_t_worths h_t_plants h_t_sheets h_t_bestFrom h_t_s0 h_t_s1 h_t_s2 h_t_s3 v_latestFinding x1) (cwV 1 hts gX7_lose_X7_sheetOf rfl rfl rfl (by decide +kernel) ⟨Nat.le_of_ble_eq_true rfl, Nat.le_of_ble_eq_true rfl⟩) (pv_ro (ci := 6) (q0 := 0) hK (hP.sub (ws' := (wd_X7_sheetOf cI cZ cP cS h_t h_t_red h_t_blue h_t_sky h_t_diary h_t_calendar h_t_awakeIn h_t_worths h_t_plants h_t_sheets h_t_bestFrom h_t_s0 h_t_s1 h_t_s2 h_t_s3 v_latestFinding)) [0, 1] rfl) rfl rfl) rfl rfl hl.1 rfl (lv_room (Nat.le_of_ble_eq_true rfl)) dX7_lose_2 ⟨Nat.zero_le _, Nat.zero_le _⟩).run (fun x e_1 => ?_)
  by_cases c2_0 : x1 = 0
  · rw [if_pos c2_0] at hf e_1
    subst e_1
    refine W.eq (g2 := F0 m 5 ls [.ref h_t_s0]) rfl ?_
    refine lv_astore_n (lv' := [(2, .ref h_t_s0), (0, .ref h_t), (1, .int x1)]) hx hb dX7_lose_5 rfl hl (by decide) rfl (fun ls hl => ?_)
    refine lv_aload_n hx hb dX7_lose_6 rfl (lv_at hl 0 rfl) ?_
    refine lv_ifnonnull (tgt := 13) hx hb dX7_lose_7 (by decide) ?_
    refine lv_aload_n hx hb dX7_lose_13 rfl (lv_at hl 0 rfl) ?_
    refine va_get (D := (dC, dI)) (ci := 3) (v := .int (v_sform 0)) (C := RX3) (T := TX3) (N := 3) hx hb hts hinX3 hown hK hP 2 rfl rfl 0 (by decide) (hts (.fieldLink RX7 222 "SecondSunrise$Sheet" "form" "I") (by decide +kernel)) (fun _ h9 => h9) rfl dX7_lose_14 ?_
    refine lv_iconst (v := (-1)) hx hb dX7_lose_17 (by decide) ?_
    refine lv_icmp_ne (tgt := 27) hx hb dX7_lose_18 (by decide) (fun c18 => ?_) (fun c18 => ?_)
    · rw [if_neg c18] at hf
      refine lv_aload_n hx hb dX7_lose_27 rfl (lv_at hl 0 rfl) ?_
      refine lv_iconst (v := (-1)) hx hb dX7_lose_28 (by decide) ?_
      refine va_put (D := (dC, dI)) (ci := 3) (v := .int (-1)) (ty := .int) (C := RX3) (T := TX3) (N := 3) hx hb hts hinX3 tyX3 tyX3_ok nmX3 hown hK hP hD hS 2 rfl rfl 0 (by decide) (hts (.fieldLink RX7 222 "SecondSunrise$Sheet" "form" "I") (by decide +kernel)) (fun _ h9 => h9) rfl (by decide +kernel) rfl rfl (Nat.le_of_ble_eq_true rfl) dX7_lose_29 (fun H locs hP hD hS => ?_)
      have hP : va_P (dC, dI) vwCl (wd_X7_lose cI cZ cP cS h_t h_t_red h_t_blue h_t_sky h_t_diary h_t_calendar h_t_awakeIn h_t_worths h_t_plants h_t_sheets h_t_bestFrom h_t_s0 h_t_s1 h_t_s2 h_t_s3 h_t_s0_items h_t_s1_items h_t_s2_items h_t_s3_items v_latestFinding (upd v_sform 0 (-1)) v_ssize) H := hP
      have hD : va_D (va_A (wd_X7_lose cI cZ cP cS h_t h_t_red h_t_blue h_t_sky h_t_diary h_t_calendar h_t_awakeIn h_t_worths h_t_plants h_t_sheets h_t_bestFrom h_t_s0 h_t_s1 h_t_s2 h_t_s3 h_t_s0_items h_t_s1_items h_t_s2_items h_t_s3_items v_latestFinding v_sform v_ssize) s.heap.size) (wd_X7_lose cI cZ cP cS h_t h_t_red h_t_blue h_t_sky h_t_diary h_t_calendar h_t_awakeIn h_t_worths h_t_plants h_t_sheets h_t_bestFrom h_t_s0 h_t_s1 h_t_s2 h_t_s3 h_t_s0_items h_t_s1_items h_t_s2_items h_t_s3_items v_latestFinding (upd v_sform 0 (-1)) v_ssize) := hD
      refine lv_aload_n hx hb dX7_lose_32 rfl (lv_at hl 0 rfl) ?_
      refine va_get (D := (dC, dI)) (ci := 3) (v := .int (v_ssize 0)) (C := RX3) (T := TX3) (N := 3) hx hb hts hinX3 hown hK hP 2 rfl rfl 1 (by decide) (hts (.fieldLink RX7 228 "SecondSunrise$Sheet" "size" "I") (by decide +kernel)) (fun _ h9 => h9) rfl dX7_lose_33 ?_
      have hq0 := Option.some.inj hf
      obtain ⟨eq0, hq1⟩ := Prod.mk.inj hq0
      obtain ⟨eq1, hq2⟩ := Prod.mk.inj hq1
      clear hf hq0 hq1
      subst eq0
      subst eq1
      subst hq2
      exact W.iret hx hb hr (fun t ht hW => ⟨⟨_, (), rfl, rfl, by rw [ht]; exact hP, va_K.moved hW.alike hK, hD⟩, hS.F ht⟩) hS.2.2 dX7_lose_36
    · rw [if_pos c18] at hf
      refine lv_aload_n hx hb dX7_lose_21 rfl (lv_at hl 1 rfl) ?_
      refine lv_iconst (v := 1) hx hb dX7_lose_22 (by decide) ?_
      obtain ⟨r23_2, o23_3, hc_4, hf⟩ := bd2_e hf
      refine rwi_call (isC := [0]) (isR := [1, 2, 3, 4, 5]) (perm := [5, 0, 1, 2, 3, 4]) (wr := [(h_t_sheets, .inl (cS, 4, .inr (.inr (.inr (.inr (ar4 h_t_s0 h_t_s1 h_t_s2 h_t_s3)))))), (h_t_s0, .inr (3, [.int (v_sform 0), .int (v_ssize 0), .ref h_t_s0_items])), (h_t_s1, .inr (3, [.int (v_sform 1), .int (v_ssize 1), .ref h_t_s1_items])), (h_t_s2, .inr (3, [.int (v_sform 2), .int (v_ssize 2), .ref h_t_s2_items])), (h_t_s3, .inr (3, [.int (v_sform 3), .int (v_ssize 3), .ref h_t_s3_items]))]) (ws2 := (wd_X7_lose cI cZ cP cS h_t h_t_red h_t_blue h_t_sky h_t_diary h_t_calendar h_t_awakeIn h_t_worths h_t_plants h_t_sheets h_t_bestFrom h_t_s0 h_t_s1 h_t_s2 h_t_s3 h_t_s0_items h_t_s1_items h_t_s2_items h_t_s3_items o23_3 v_sform v_ssize)) (va_runV (As := [.int 1]) (rest := []) ⟨hx, hb, hml, hown, hts⟩ (c_X7_found l dC dI cI cZ cP cS H.size h_t h_t_red h_t_blue h_t_sky h_t_diary h_t_calendar h_t_awakeIn h_t_worths h_t_plants h_t_sheets h_t_bestFrom v_latestFinding 1 n r23_2 o23_3 hc_4) (cwV 1 hts gX7_lose_X7_found rfl rfl rfl (by decide +kernel) ⟨Nat.le_of_ble_eq_true rfl, Nat.le_of_ble_eq_true rfl⟩) (pv_rw (ci := 6) (q0 := 0) hK (hP.sub (ws' := (wd_X7_found cI cZ cP cS h_t h_t_red h_t_blue h_t_sky h_t_diary h_t_calendar h_t_awakeIn h_t_worths h_t_plants h_t_sheets h_t_bestFrom v_latestFinding)) [0] rfl) (hD.sub (ws' := (wd_X7_found cI cZ cP cS h_t h_t_red h_t_blue h_t_sky h_t_diary h_t_calendar h_t_awakeIn h_t_worths h_t_plants h_t_sheets h_t_bestFrom v_latestFinding)) [0] (by decide) rfl) rfl rfl) rfl rfl hl.1 rfl (lv_room (Nat.le_of_ble_eq_true rfl)) dX7_lose_23 ⟨Nat.zero_le _, Nat.zero_le _⟩) hS hA hP hD rfl (by decide) (by decide) rfl (by decide) rfl rfl (fun H locs hP hD hS => ?_)
      have hq0 := Option.some.inj hf
      obtain ⟨eq0, hq1⟩ := Prod.mk.inj hq0
      obtain ⟨eq1, hq2⟩ := Prod.mk.inj hq1
      clear hf hq0 hq1
      subst eq0
      subst eq1
      subst hq2
      exact W.iret hx hb hr (fun t ht hW => ⟨⟨_, (), rfl, rfl, by rw [ht]; exact hP, va_K.moved hW.alike hK, hD⟩, hS.F ht⟩) hS.2.2 dX7_lose_26
  · rw [if_neg c2_0] at hf e_1
    by_cases c2_1 : x1 = 1
    · rw [if_pos c2_1] at hf e_1
      subst e_1
      refine W.eq (g2 := F0 m 5 ls [.ref h_t_s1]) rfl ?_
      refine lv_astore_n (lv' := [(2, .ref h_t_s1), (0, .ref h_t), (1, .int x1)]) hx hb dX7_lose_5 rfl hl (by decide) rfl (fun ls hl => ?_)
      refine lv_aload_n hx hb dX7_lose_6 rfl (lv_at hl 0 rfl) ?_
      refine lv_ifnonnull (tgt := 13) hx hb dX7_lose_7 (by decide) ?_
      refine lv_aload_n hx hb dX7_lose_13 rfl (lv_at hl 0 rfl) ?_
      refine va_get (D := (dC, dI)) (ci := 3) (v := .int (v_sform 1)) (C := RX3) (T := TX3) (N := 3) hx hb hts hinX3 hown hK hP 3 rfl rfl 0 (by decide) (hts (.fieldLink RX7 222 "SecondSunrise$Sheet" "form" "I") (by decide +kernel)) (fun _ h9 => h9) rfl dX7_lose_14 ?_
      refine lv_iconst (v := (-1)) hx hb dX7_lose_17 (by decide) ?_
      refine lv_icmp_ne (tgt := 27) hx hb dX7_lose_18 (by decide) (fun c18 => ?_) (fun c18 => ?_)
      · rw [if_neg c18] at hf
        refine lv_aload_n hx hb dX7_lose_27 rfl (lv_at hl 0 rfl) ?_
        refine lv_iconst (v := (-1)) hx hb dX7_lose_28 (by decide) ?_
        refine va_put (D := (dC, dI)) (ci := 3) (v := .int (-1)) (ty := .int) (C := RX3) (T := TX3) (N := 3) hx hb hts hinX3 tyX3 tyX3_ok nmX3 hown hK hP hD hS 3 rfl rfl 0 (by decide) (hts (.fieldLink RX7 222 "SecondSunrise$Sheet" "form" "I") (by decide +kernel)) (fun _ h9 => h9) rfl (by decide +kernel) rfl rfl (Nat.le_of_ble_eq_true rfl) dX7_lose_29 (fun H locs hP hD hS => ?_)
        have hP : va_P (dC, dI) vwCl (wd_X7_lose cI cZ cP cS h_t h_t_red h_t_blue h_t_sky h_t_diary h_t_calendar h_t_awakeIn h_t_worths h_t_plants h_t_sheets h_t_bestFrom h_t_s0 h_t_s1 h_t_s2 h_t_s3 h_t_s0_items h_t_s1_items h_t_s2_items h_t_s3_items v_latestFinding (upd v_sform 1 (-1)) v_ssize) H := hP
        have hD : va_D (va_A (wd_X7_lose cI cZ cP cS h_t h_t_red h_t_blue h_t_sky h_t_diary h_t_calendar h_t_awakeIn h_t_worths h_t_plants h_t_sheets h_t_bestFrom h_t_s0 h_t_s1 h_t_s2 h_t_s3 h_t_s0_items h_t_s1_items h_t_s2_items h_t_s3_items v_latestFinding v_sform v_ssize) s.heap.size) (wd_X7_lose cI cZ cP cS h_t h_t_red h_t_blue h_t_sky h_t_diary h_t_calendar h_t_awakeIn h_t_worths h_t_plants h_t_sheets h_t_bestFrom h_t_s0 h_t_s1 h_t_s2 h_t_s3 h_t_s0_items h_t_s1_items h_t_s2_items h_t_s3_items v_latestFinding (upd v_sform 1 (-1)) v_ssize) := hD
        refine lv_aload_n hx hb dX7_lose_32 rfl (lv_at hl 0 rfl) ?_
        refine va_get (D := (dC, dI)) (ci := 3) (v := .int (v_ssize 1)) (C := RX3) (T := TX3) (N := 3) hx hb hts hinX3 hown hK hP 3 rfl rfl 1 (by decide) (hts (.fieldLink RX7 228 "SecondSunrise$Sheet" "size" "I") (by decide +kernel)) (fun _ h9 => h9) rfl dX7_lose_33 ?_
        have hq0 := Option.some.inj hf
        obtain ⟨eq0, hq1⟩ := Prod.mk.inj hq0
        obtain ⟨eq1, hq2⟩ := Prod.mk.inj hq1
        clear hf hq0 hq1
        subst eq0
        subst eq1
        subst hq2
        exact W.iret hx hb hr (fun t ht hW => ⟨⟨_, (), rfl, rfl, by rw [ht]; exact hP, va_K.moved hW.alike hK, hD⟩, hS.F ht⟩) hS.2.2 dX7_lose_36
      · rw [if_pos c18] at hf
        refine lv_aload_n hx hb dX7_lose_21 rfl (lv_at hl 1 rfl) ?_
        refine lv_iconst (v := 1) hx hb dX7_lose_22 (by decide) ?_
        obtain ⟨r23_6, o23_7, hc_8, hf⟩ := bd2_e hf
        refine rwi_call (isC := [0]) (isR := [1, 2, 3, 4, 5]) (perm := [5, 0, 1, 2, 3, 4]) (wr := [(h_t_sheets, .inl (cS, 4, .inr (.inr (.inr (.inr (ar4 h_t_s0 h_t_s1 h_t_s2 h_t_s3)))))), (h_t_s0, .inr (3, [.int (v_sform 0), .int (v_ssize 0), .ref h_t_s0_items])), (h_t_s1, .inr (3, [.int (v_sform 1), .int (v_ssize 1), .ref h_t_s1_items])), (h_t_s2, .inr (3, [.int (v_sform 2), .int (v_ssize 2), .ref h_t_s2_items])), (h_t_s3, .inr (3, [.int (v_sform 3), .int (v_ssize 3), .ref h_t_s3_items]))]) (ws2 := (wd_X7_lose cI cZ cP cS h_t h_t_red h_t_blue h_t_sky h_t_diary h_t_calendar h_t_awakeIn h_t_worths h_t_plants h_t_sheets h_t_bestFrom h_t_s0 h_t_s1 h_t_s2 h_t_s3 h_t_s0_items h_t_s1_items h_t_s2_items h_t_s3_items o23_7 v_sform v_ssize)) (va_runV (As := [.int 1]) (rest := []) ⟨hx, hb, hml, hown, hts⟩ (c_X7_found l dC dI cI cZ cP cS H.size h_t h_t_red h_t_blue h_t_sky h_t_diary h_t_calendar h_t_awakeIn h_t_worths h_t_plants h_t_sheets h_t_bestFrom v_latestFinding 1 n r23_6 o23_7 hc_8) (cwV 1 hts gX7_lose_X7_found rfl rfl rfl (by decide +kernel) ⟨Nat.le_of_ble_eq_true rfl, Nat.le_of_ble_eq_true rfl⟩) (pv_rw (ci := 6) (q0 := 0) hK (hP.sub (ws' := (wd_X7_found cI cZ cP cS h_t h_t_red h_t_blue h_t_sky h_t_diary h_t_calendar h_t_awakeIn h_t_worths h_t_plants h_t_sheets h_t_bestFrom v_latestFinding)) [0] rfl) (hD.sub (ws' := (wd_X7_found cI cZ cP cS h_t h_t_red h_t_blue h_t_sky h_t_diary h_t_calendar h_t_awakeIn h_t_worths h_t_plants h_t_sheets h_t_bestFrom v_latestFinding)) [0] (by decide) rfl) rfl rfl) rfl rfl hl.1 rfl (lv_room (Nat.le_of_ble_eq_true rfl)) dX7_lose_23 ⟨Nat.zero_le _, Nat.zero_le _⟩) hS hA hP hD rfl (by decide) (by decide) rfl (by decide) rfl rfl (fun H locs hP hD hS => ?_)
        have hq0 := Option.some.inj hf
        obtain ⟨eq0, hq1⟩ := Prod.mk.inj hq0
        obtain ⟨eq1, hq2⟩ := Prod.mk.inj hq1
        clear hf hq0 hq1
        subst eq0
        subst eq1
        subst hq2
        exact W.iret hx hb hr (fun t ht hW => ⟨⟨_, (), rfl, rfl, by rw [ht]; exact hP, va_K.moved hW.alike hK, hD⟩, hS.F ht⟩) hS.2.2 dX7_lose_26
    · rw [if_neg c2_1] at hf e_1
      by_cases c2_2 : x1 = 2
      · rw [if_pos c2_2] at hf e_1
        subst e_1
        refine W.eq (g2 := F0 m 5 ls [.ref h_t_s2]) rfl ?_
        refine lv_astore_n (lv' := [(2, .ref h_t_s2), (0, .ref h_t), (1, .int x1)]) hx hb dX7_lose_5 rfl hl (by decide) rfl (fun ls hl => ?_)
        refine lv_aload_n hx hb dX7_lose_6 rfl (lv_at hl 0 rfl) ?_
        refine lv_ifnonnull (tgt := 13) hx hb dX7_lose_7 (by decide) ?_
        refine lv_aload_n hx hb dX7_lose_13 rfl (lv_at hl 0 rfl) ?_
        refine va_get (D := (dC, dI)) (ci := 3) (v := .int (v_sform 2)) (C := RX3) (T := TX3) (N := 3) hx hb hts hinX3 hown hK hP 4 rfl rfl 0 (by decide) (hts (.fieldLink RX7 222 "SecondSunrise$Sheet" "form" "I") (by decide +kernel)) (fun _ h9 => h9) rfl dX7_lose_14 ?_
        refine lv_iconst (v := (-1)) hx hb dX7_lose_17 (by decide) ?_
        refine lv_icmp_ne (tgt := 27) hx hb dX7_lose_18 (by decide) (fun c18 => ?_) (fun c18 => ?_)
        · rw [if_neg c18] at hf
          refine lv_aload_n hx hb dX7_lose_27 rfl (lv_at hl 0 rfl) ?_
          refine lv_iconst (v := (-1)) hx hb dX7_lose_28 (by decide) ?_
          refine va_put (D := (dC, dI)) (ci := 3) (v := .int (-1)) (ty := .int) (C := RX3) (T := TX3) (N := 3) hx hb hts hinX3 tyX3 tyX3_ok nmX3 hown hK hP hD hS 4 rfl rfl 0 (by decide) (hts (.fieldLink RX7 222 "SecondSunrise$Sheet" "form" "I") (by decide +kernel)) (fun _ h9 => h9) rfl (by decide +kernel) rfl rfl (Nat.le_of_ble_eq_true rfl) dX7_lose_29 (fun H locs hP hD hS => ?_)
          have hP : va_P (dC, dI) vwCl (wd_X7_lose cI cZ cP cS h_t h_t_red h_t_blue h_t_sky h_t_diary h_t_calendar h_t_awakeIn h_t_worths h_t_plants h_t_sheets h_t_bestFrom h_t_s0 h_t_s1 h_t_s2 h_t_s3 h_t_s0_items h_t_s1_items h_t_s2_items h_t_s3_items v_latestFinding (upd v_sform 2 (-1)) v_ssize) H := hP
          have hD : va_D (va_A (wd_X7_lose cI cZ cP cS h_t h_t_red h_t_blue h_t_sky h_t_diary h_t_calendar h_t_awakeIn h_t_worths h_t_plants h_t_sheets h_t_bestFrom h_t_s0 h_t_s1 h_t_s2 h_t_s3 h_t_s0_items h_t_s1_items h_t_s2_items h_t_s3_items v_latestFinding v_sform v_ssize) s.heap.size) (wd_X7_lose cI cZ cP cS h_t h_t_red h_t_blue h_t_sky h_t_diary h_t_calendar h_t_awakeIn h_t_worths h_t_plants h_t_sheets h_t_bestFrom h_t_s0 h_t_s1 h_t_s2 h_t_s3 h_t_s0_items h_t_s1_items h_t_s2_items h_t_s3_items v_latestFinding (upd v_sform 2 (-1)) v_ssize) := hD
          refine lv_aload_n hx hb dX7_lose_32 rfl (lv_at hl 0 rfl) ?_
          refine va_get (D := (dC, dI)) (ci := 3) (v := .int (v_ssize 2)) (C := RX3) (T := TX3) (N := 3) hx hb hts hinX3 hown hK hP 4 rfl rfl 1 (by decide) (hts (.fieldLink RX7 228 "SecondSunrise$Sheet" "size" "I") (by decide +kernel)) (fun _ h9 => h9) rfl dX7_lose_33 ?_
          have hq0 := Option.some.inj hf
          obtain ⟨eq0, hq1⟩ := Prod.mk.inj hq0
          obtain ⟨eq1, hq2⟩ := Prod.mk.inj hq1
          clear hf hq0 hq1
          subst eq0
          subst eq1
          subst hq2
          exact W.iret hx hb hr (fun t ht hW => ⟨⟨_, (), rfl, rfl, by rw [ht]; exact hP, va_K.moved hW.alike hK, hD⟩, hS.F ht⟩) hS.2.2 dX7_lose_36
        · rw [if_pos c18] at hf
          refine lv_aload_n hx hb dX7_lose_21 rfl (lv_at hl 1 rfl) ?_
          refine lv_iconst (v := 1) hx hb dX7_lose_22 (by decide) ?_
          obtain ⟨r23_10, o23_11, hc_12, hf⟩ := bd2_e hf
          refine rwi_call (isC := [0]) (isR := [1, 2, 3, 4, 5]) (perm := [5, 0, 1, 2, 3, 4]) (wr := [(h_t_sheets, .inl (cS, 4, .inr (.inr (.inr (.inr (ar4 h_t_s0 h_t_s1 h_t_s2 h_t_s3)))))), (h_t_s0, .inr (3, [.int (v_sform 0), .int (v_ssize 0), .ref h_t_s0_items])), (h_t_s1, .inr (3, [.int (v_sform 1), .int (v_ssize 1), .ref h_t_s1_items])), (h_t_s2, .inr (3, [.int (v_sform 2), .int (v_ssize 2), .ref h_t_s2_items])), (h_t_s3, .inr (3, [.int (v_sform 3), .int (v_ssize 3), .ref h_t_s3_items]))]) (ws2 := (wd_X7_lose cI cZ cP cS h_t h_t_red h_t_blue h_t_sky h_t_diary h_t_calendar h_t_awakeIn h_t_worths h_t_plants h_t_sheets h_t_bestFrom h_t_s0 h_t_s1 h_t_s2 h_t_s3 h_t_s0_items h_t_s1_items h_t_s2_items h_t_s3_items o23_11 v_sform v_ssize)) (va_runV (As := [.int 1]) (rest := []) ⟨hx, hb, hml, hown, hts⟩ (c_X7_found l dC dI cI cZ cP cS H.size h_t h_t_red h_t_blue h_t_sky h_t_diary h_t_calendar h_t_awakeIn h_t_worths h_t_plants h_t_sheets h_t_bestFrom v_latestFinding 1 n r23_10 o23_11 hc_12) (cwV 1 hts gX7_lose_X7_found rfl rfl rfl (by decide +kernel) ⟨Nat.le_of_ble_eq_true rfl, Nat.le_of_ble_eq_true rfl⟩) (pv_rw (ci := 6) (q0 := 0) hK (hP.sub (ws' := (wd_X7_found cI cZ cP cS h_t h_t_red h_t_blue h_t_sky h_t_diary h_t_calendar h_t_awakeIn h_t_worths h_t_plants h_t_sheets h_t_bestFrom v_latestFinding)) [0] rfl) (hD.sub (ws' := (wd_X7_found cI cZ cP cS h_t h_t_red h_t_blue h_t_sky h_t_diary h_t_calendar h_t_awakeIn h_t_worths h_t_plants h_t_sheets h_t_bestFrom v_latestFinding)) [0] (by decide) rfl) rfl rfl) rfl rfl hl.1 rfl (lv_room (Nat.le_of_ble_eq_true rfl)) dX7_lose_23 ⟨Nat.zero_le _, Nat.zero_le _⟩) hS hA hP hD rfl (by decide) (by decide) rfl (by decide) rfl rfl (fun H locs hP hD hS => ?_)
          have hq0 := Option.some.inj hf
          obtain ⟨eq0, hq1⟩ := Prod.mk.inj hq0
          obtain ⟨eq1, hq2⟩ := Prod.mk.inj hq1
          clear hf hq0 hq1
          subst eq0
          subst eq1
          subst hq2
          exact W.iret hx hb hr (fun t ht hW => ⟨⟨_, (), rfl, rfl, by rw [ht]; exact hP, va_K.moved hW.alike hK, hD⟩, hS.F ht⟩) hS.2.2 dX7_lose_26
      · rw [if_neg c2_2] at hf e_1
        by_cases c2_3 : x1 = 3
        · rw [if_pos c2_3] at hf e_1
          subst e_1
          refine W.eq (g2 := F0 m 5 ls [.ref h_t_s3]) rfl ?_
          refine lv_astore_n (lv' := [(2, .ref h_t_s3), (0, .ref h_t), (1, .int x1)]) hx hb dX7_lose_5 rfl hl (by decide) rfl (fun ls hl => ?_)
          refine lv_aload_n hx hb dX7_lose_6 rfl (lv_at hl 0 rfl) ?_
          refine lv_ifnonnull (tgt := 13) hx hb dX7_lose_7 (by decide) ?_
          refine lv_aload_n hx hb dX7_lose_13 rfl (lv_at hl 0 rfl) ?_
          refine va_get (D := (dC, dI)) (ci := 3) (v := .int (v_sform 3)) (C := RX3) (T := TX3) (N := 3) hx hb hts hinX3 hown hK hP 5 rfl rfl 0 (by decide) (hts (.fieldLink RX7 222 "SecondSunrise$Sheet" "form" "I") (by decide +kernel)) (fun _ h9 => h9) rfl dX7_lose_14 ?_
          refine lv_iconst (v := (-1)) hx hb dX7_lose_17 (by decide) ?_
          refine lv_icmp_ne (tgt := 27) hx hb dX7_lose_18 (by decide) (fun c18 => ?_) (fun c18 => ?_)
          · rw [if_neg c18] at hf
            refine lv_aload_n hx hb dX7_lose_27 rfl (lv_at hl 0 rfl) ?_
            refine lv_iconst (v := (-1)) hx hb dX7_lose_28 (by decide) ?_
            refine va_put (D := (dC, dI)) (ci := 3) (v := .int (-1)) (ty := .int) (C := RX3) (T := TX3) (N := 3) hx hb hts hinX3 tyX3 tyX3_ok nmX3 hown hK hP hD hS 5 rfl rfl 0 (by decide) (hts (.fieldLink RX7 222 "SecondSunrise$Sheet" "form" "I") (by decide +kernel)) (fun _ h9 => h9) rfl (by decide +kernel) rfl rfl (Nat.le_of_ble_eq_true rfl) dX7_lose_29 (fun H locs hP hD hS => ?_)
            have hP : va_P (dC, dI) vwCl (wd_X7_lose cI cZ cP cS h_t h_t_red h_t_blue h_t_sky h_t_diary h_t_calendar h_t_awakeIn h_t_worths h_t_plants h_t_sheets h_t_bestFrom h_t_s0 h_t_s1 h_t_s2 h_t_s3 h_t_s0_items h_t_s1_items h_t_s2_items h_t_s3_items v_latestFinding (upd v_sform 3 (-1)) v_ssize) H := hP
            have hD : va_D (va_A (wd_X7_lose cI cZ cP cS h_t h_t_red h_t_blue h_t_sky h_t_diary h_t_calendar h_t_awakeIn h_t_worths h_t_plants h_t_sheets h_t_bestFrom h_t_s0 h_t_s1 h_t_s2 h_t_s3 h_t_s0_items h_t_s1_items h_t_s2_items h_t_s3_items v_latestFinding v_sform v_ssize) s.heap.size) (wd_X7_lose cI cZ cP cS h_t h_t_red h_t_blue h_t_sky h_t_diary h_t_calendar h_t_awakeIn h_t_worths h_t_plants h_t_sheets h_t_bestFrom h_t_s0 h_t_s1 h_t_s2 h_t_s3 h_t_s0_items h_t_s1_items h_t_s2_items h_t_s3_items v_latestFinding (upd v_sform 3 (-1)) v_ssize) := hD
            refine lv_aload_n hx hb dX7_lose_32 rfl (lv_at hl 0 rfl) ?_
            refine va_get (D := (dC, dI)) (ci := 3) (v := .int (v_ssize 3)) (C := RX3) (T := TX3) (N := 3) hx hb hts hinX3 hown hK hP 5 rfl rfl 1 (by decide) (hts (.fieldLink RX7 228 "SecondSunrise$Sheet" "size" "I") (by decide +kernel)) (fun _ h9 => h9) rfl dX7_lose_33 ?_
            have hq0 := Option.some.inj hf
            obtain ⟨eq0, hq1⟩ := Prod.mk.inj hq0
            obtain ⟨eq1, hq2⟩ := Prod.mk.inj hq1
            clear hf hq0 hq1
            subst eq0
            subst eq1
            subst hq2
            exact W.iret hx hb hr (fun t ht hW => ⟨⟨_, (), rfl, rfl, by rw [ht]; exact hP, va_K.moved hW.alike hK, hD⟩, hS.F ht⟩) hS.2.2 dX7_lose_36
          · rw [if_pos c18] at hf
            refine lv_aload_n hx hb dX7_lose_21 rfl (lv_at hl 1 rfl) ?_
            refine lv_iconst (v := 1) hx hb dX7_lose_22 (by decide) ?_
            obtain ⟨r23_14, o23_15, hc_16, hf⟩ := bd2_e hf
            refine rwi_call (isC := [0]) (isR := [1, 2, 3, 4, 5]) (perm := [5, 0, 1, 2, 3, 4]) (wr := [(h_t_sheets, .inl (cS, 4, .inr (.inr (.inr (.inr (ar4 h_t_s0 h_t_s1 h_t_s2 h_t_s3)))))), (h_t_s0, .inr (3, [.int (v_sform 0), .int (v_ssize 0), .ref h_t_s0_items])), (h_t_s1, .inr (3, [.int (v_sform 1), .int (v_ssize 1), .ref h_t_s1_items])), (h_t_s2, .inr (3, [.int (v_sform 2), .int (v_ssize 2), .ref h_t_s2_items])), (h_t_s3, .inr (3, [.int (v_sform 3), .int (v_ssize 3), .ref h_t_s3_items]))]) (ws2 := (wd_X7_lose cI cZ cP cS h_t h_t_red h_t_blue h_t_sky h_t_diary h_t_calendar h_t_awakeIn h_t_worths h_t_plants h_t_sheets h_t_bestFrom h_t_s0 h_t_s1 h_t_s2 h_t_s3 h_t_s0_items h_t_s1_items h_t_s2_items h_t_s3_items o23_15 v_sform v_ssize)) (va_runV (As := [.int 1]) (rest := []) ⟨hx, hb, hml, hown, hts⟩ (c_X7_found l dC dI cI cZ cP cS H.size h_t h_t_red h_t_blue h_t_sky h_t_diary h_t_calendar h_t_awakeIn h_t_worths h_t_plants h_t_sheets h_t_bestFrom v_latestFinding 1 n r23_14 o23_15 hc_16) (cwV 1 hts gX7_lose_X7_found rfl rfl rfl (by decide +kernel) ⟨Nat.le_of_ble_eq_true rfl, Nat.le_of_ble_eq_true rfl⟩) (pv_rw (ci := 6) (q0 := 0) hK (hP.sub (ws' := (wd_X7_found cI cZ cP cS h_t h_t_red h_t_blue h_t_sky h_t_diary h_t_calendar h_t_awakeIn h_t_worths h_t_plants h_t_sheets h_t_bestFrom v_latestFinding)) [0] rfl) (hD.sub (ws' := (wd_X7_found cI cZ cP cS h_t h_t_red h_t_blue h_t_sky h_t_diary h_t_calendar h_t_awakeIn h_t_worths h_t_plants h_t_sheets h_t_bestFrom v_latestFinding)) [0] (by decide) rfl) rfl rfl) rfl rfl hl.1 rfl (lv_room (Nat.le_of_ble_eq_true rfl)) dX7_lose_23 ⟨Nat.zero_le _, Nat.zero_le _⟩) hS hA hP hD rfl (by decide) (by decide) rfl (by decide) rfl rfl (fun H locs hP hD hS => ?_)
            have hq0 := Option.some.inj hf
            obtain ⟨eq0, hq1⟩ := Prod.mk.inj hq0
            obtain ⟨eq1, hq2⟩ := Prod.mk.inj hq1
            clear hf hq0 hq1
            subst eq0
            subst eq1
            subst hq2
            exact W.iret hx hb hr (fun t ht hW => ⟨⟨_, (), rfl, rfl, by rw [ht]; exact hP, va_K.moved hW.alike hK, hD⟩, hS.F ht⟩) hS.2.2 dX7_lose_26
        · rw [if_neg c2_3] at hf e_1
          subst e_1
          refine W.eq (g2 := F0 m 5 ls [.null]) rfl ?_
          refine lv_astore_nN (lv' := [(2, .null), (0, .ref h_t), (1, .int x1)]) hx hb dX7_lose_5 rfl hl (by decide) rfl (fun ls hl => ?_)
          refine lv_aload_nN hx hb dX7_lose_6 rfl (lv_at hl 0 rfl) ?_
          refine lv_ifnonnullN hx hb dX7_lose_7 ?_
          refine lv_bipush (v := (-2)) hx hb dX7_lose_10 (by decide) ?_
          have hq0 := Option.some.inj hf
          obtain ⟨eq0, hq1⟩ := Prod.mk.inj hq0
          obtain ⟨eq1, hq2⟩ := Prod.mk.inj hq1
          clear hf hq0 hq1
          subst eq0
          subst eq1
          subst hq2
          exact W.iret hx hb hr (fun t ht hW => ⟨⟨_, (), rfl, rfl, by rw [ht]; exact hP, va_K.moved hW.alike hK, hD⟩, hS.F ht⟩) hS.2.2 dX7_lose_12

abbrev wd_X7_month (cI cZ cP cS : ClassId) (h_t h_t_red h_t_blue h_t_sky h_t_diary h_t_calendar h_t_awakeIn h_t_worths h_t_plants h_t_sheets h_t_bestFrom h_t_calendar_bytes : Nat) (v_latestFinding : Int32) (v_csize : Int32) (v_cbytes : Nat → Int32) : va_W := [(h_t, .inr (6, [.ref h_t_red, .ref h_t_blue, .ref h_t_sky, .ref h_t_diary, .ref h_t_calendar, .ref h_t_awakeIn, .ref h_t_worths, .ref h_t_plants, .ref h_t_sheets, .ref h_t_bestFrom, .int v_latestFinding])), (h_t_calendar, .inr (0, [.ref h_t_calendar_bytes, .int v_csize])), (h_t_calendar_bytes, .inl (cI, 20, .inl v_cbytes))]
abbrev rm_X7_month : Room := { frames := 4, cells := 0, slots := 0, locals := 84 }
def f_X7_month (n : Nat) (v_csize : Int32) (v_cbytes : Nat → Int32) (x1 : Int32) : Option (Int32) := bd1_ (f_X0_months n v_csize v_cbytes) (fun (r6_1 : Int32) => bd1_ (f_X7_outside n x1 0 (r6_1 - 1)) (fun (r11_4 : Int32) => if r11_4 = 0 then bd1_ (f_X0_lengthOf n v_csize v_cbytes x1) (fun (r27_8 : Int32) => some r27_8) else some (-2)))
set_option maxHeartbeats 4000000 in
set_option maxRecDepth 100000 in
theorem c_X7_month (l : Launch) (dC : Nat → ClassId) (dI : Nat → Nat → Nat) (cI cZ cP cS : ClassId) (h_t h_t_red h_t_blue h_t_sky h_t_diary h_t_calendar h_t_awakeIn h_t_worths h_t_plants h_t_sheets h_t_bestFrom h_t_calendar_bytes : Nat) (v_latestFinding : Int32) (v_csize : Int32) (v_cbytes : Nat → Int32) (x1 : Int32) (n : Nat) (r : Int32) (hf : f_X7_month n v_csize v_cbytes x1 = some r) : Met l yX7_month wsX7_month rm_X7_month (RO (dC, dI) (TY cI cZ cP cS) [.ref h_t, .int x1] (wd_X7_month cI cZ cP cS h_t h_t_red h_t_blue h_t_sky h_t_diary h_t_calendar h_t_awakeIn h_t_worths h_t_plants h_t_sheets h_t_bestFrom h_t_calendar_bytes v_latestFinding v_csize v_cbytes)) (vp_Si (fun x => x = r)) 0 0 NF := by
  refine Met.ofW (cc := cX7_month) (maxL := 2) (ret := (some .int)) (by decide) rfl ?_
  intro p e s m args below meth c s₁ B hml hv
  obtain ⟨rfl, hP, hK⟩ := hv
  have hx := B.exec
  have hb := B.bytes
  have hr := B.returns
  have hts := atoms_spec (ws := wsX7_month) B.pre
  have hown : s.vm.findClass RX7 = some m.cls := findClass_of_methodNamed B.named
  have hlocks := B.notSynchronized
  have hinX7 : ∀ w ∈ wsX70, w ∈ wsX7_month := by decide +kernel
  have hl := lv_entry ([.ref h_t, .int x1]) (n := 2) (Nat.le_of_ble_eq_true rfl)
  rw [lg_entry_eq]
  generalize (lg_sl ([.ref h_t, .int x1]) ++ List.replicate (2 - (lg_sl ([.ref h_t, .int x1])).length) Slot.unset).toArray = ls at hl ⊢
  have hl : lv_has ls 2 [(0, .ref h_t), (1, .int x1)] := hl
  unfold f_X7_month at hf
  refine lv_iload_n hx hb dX7_month_0 rfl (lv_at hl 1 rfl) ?_
  refine lv_iconst (v := 0) hx hb dX7_month_1 (by decide) ?_
  refine lv_aload_n hx hb dX7_month_2 rfl (lv_at hl 0 rfl) ?_
  refine va_get (D := (dC, dI)) (ci := 6) (v := .ref h_t_calendar) (C := RX7) (T := TX7) (N := 11) hx hb hts hinX7 hown hK hP 0 rfl rfl 4 (by decide) (hts (.fieldLink RX7 40 "SecondSunrise" "calendar" "LSecondSunrise$Calendar;") (by decide +kernel)) (fun _ h9 => h9) rfl dX7_month_3 ?_
  obtain ⟨r6_1, hc_2, hf⟩ := bd1_e hf
  refine vp_callSi (va_runV (As := []) (rest := [.int 0, .int x1]) ⟨hx, hb, hml, hown, hts⟩ (c_X0_months l dC dI cI cZ cP cS h_t_calendar h_t_calendar_bytes v_csize v_cbytes  n r6_1 hc_2) (cwV 0 hts gX7_month_X0_months rfl rfl rfl (by decide +kernel) ⟨Nat.le_of_ble_eq_true rfl, Nat.le_of_ble_eq_true rfl⟩) (pv_ro (ci := 0) (q0 := 0) hK (hP.sub (ws' := (wd_X0_months cI cZ cP cS h_t_calendar h_t_calendar_bytes v_csize v_cbytes)) [1, 2] rfl) rfl rfl) rfl rfl hl.1 rfl (lv_room (Nat.le_of_ble_eq_true rfl)) dX7_month_6 ⟨Nat.zero_le _, Nat.zero_le _⟩).run (fun x e_3 => ?_)
  rw [e_3]
  refine lv_iconst (v := 1) hx hb dX7_month_9 (by decide) ?_
  refine lv_isub hx hb dX7_month_10 ?_
  obtain ⟨r11_4, hc_5, hf⟩ := bd1_e hf
  refine vp_callSi (va_runS (As := [.int x1, .int 0, .int (r6_1 - 1)]) (rest := []) ⟨hx, hb, hml, hown, hts⟩ (c_X7_outside l dC dI cI cZ cP cS   x1 0 (r6_1 - 1) n r11_4 hc_5) (va_cwS 3 hts gX7_month_X7_outside rfl rfl rfl (by decide +kernel) ⟨Nat.le_of_ble_eq_true rfl, Nat.le_of_ble_eq_true rfl⟩) (ps_ro hK (hP.sub (ws' := ([] : va_W)) [] rfl)) rfl rfl hl.1 rfl (lv_room (Nat.le_of_ble_eq_true rfl)) dX7_month_11 ⟨Nat.zero_le _, Nat.zero_le _⟩).run (fun x e_6 => ?_)
  obtain ⟨e_6, hb_7⟩ := e_6
  rw [e_6] at hb_7 ⊢
  refine lv_if_eq (tgt := 22) hx hb dX7_month_14 (by decide) (fun c14 => ?_) (fun c14 => ?_)
  · rw [if_pos c14] at hf
    refine lv_aload_n hx hb dX7_month_22 rfl (lv_at hl 0 rfl) ?_
    refine va_get (D := (dC, dI)) (ci := 6) (v := .ref h_t_calendar) (C := RX7) (T := TX7) (N := 11) hx hb hts hinX7 hown hK hP 0 rfl rfl 4 (by decide) (hts (.fieldLink RX7 40 "SecondSunrise" "calendar" "LSecondSunrise$Calendar;") (by decide +kernel)) (fun _ h9 => h9) rfl dX7_month_23 ?_
    refine lv_iload_n hx hb dX7_month_26 rfl (lv_at hl 1 rfl) ?_
    obtain ⟨r27_8, hc_9, hf⟩ := bd1_e hf
    refine vp_callSi (va_runV (As := [.int x1]) (rest := []) ⟨hx, hb, hml, hown, hts⟩ (c_X0_lengthOf l dC dI cI cZ cP cS h_t_calendar h_t_calendar_bytes v_csize v_cbytes x1 n r27_8 hc_9) (cwV 1 hts gX7_month_X0_lengthOf rfl rfl rfl (by decide +kernel) ⟨Nat.le_of_ble_eq_true rfl, Nat.le_of_ble_eq_true rfl⟩) (pv_ro (ci := 0) (q0 := 0) hK (hP.sub (ws' := (wd_X0_lengthOf cI cZ cP cS h_t_calendar h_t_calendar_bytes v_csize v_cbytes)) [1, 2] rfl) rfl rfl) rfl rfl hl.1 rfl (lv_room (Nat.le_of_ble_eq_true rfl)) dX7_month_27 ⟨Nat.zero_le _, Nat.zero_le _⟩).run (fun x e_10 => ?_)
    rw [e_10]
    exact W.iret hx hb hr (fun t ht hW => ⟨_, rfl, Option.some.inj hf, ht⟩) (fun _ h => nomatch h) dX7_month_30
  · rw [if_neg c14] at hf
    refine lv_bipush (v := (-2)) hx hb dX7_month_17 (by decide) ?_
    refine lv_goto (tgt := 30) hx hb dX7_month_19 (by decide) ?_
    exact W.iret hx hb hr (fun t ht hW => ⟨_, rfl, Option.some.inj hf, ht⟩) (fun _ h => nomatch h) dX7_month_30

abbrev wd_X7_plant (cI cZ cP cS : ClassId) (h_t h_t_red h_t_blue h_t_sky h_t_diary h_t_calendar h_t_awakeIn h_t_worths h_t_plants h_t_sheets h_t_bestFrom h_t_p0 h_t_p1 h_t_p2 h_t_p3 h_t_p0_growth h_t_p1_growth h_t_p2_growth h_t_p3_growth : Nat) (v_latestFinding : Int32) (v_phours : Nat → Int32) : va_W := [(h_t, .inr (6, [.ref h_t_red, .ref h_t_blue, .ref h_t_sky, .ref h_t_diary, .ref h_t_calendar, .ref h_t_awakeIn, .ref h_t_worths, .ref h_t_plants, .ref h_t_sheets, .ref h_t_bestFrom, .int v_latestFinding])), (h_t_plants, .inl (cP, 4, .inr (.inr (.inr (.inr (ar4 h_t_p0 h_t_p1 h_t_p2 h_t_p3)))))), (h_t_p0, .inr (2, [.int (v_phours 0), .ref h_t_p0_growth])), (h_t_p1, .inr (2, [.int (v_phours 1), .ref h_t_p1_growth])), (h_t_p2, .inr (2, [.int (v_phours 2), .ref h_t_p2_growth])), (h_t_p3, .inr (2, [.int (v_phours 3), .ref h_t_p3_growth]))]
abbrev rm_X7_plant : Room := { frames := 2, cells := 0, slots := 0, locals := 43 }
def f_X7_plant (n : Nat) (v_phours : Nat → Int32) (x1 : Int32) (x2 : Int32) : Option (Int32 × (Nat → Int32)) := if x1 = 0 then bd1_ (f_X7_outside n x2 1 20) (fun (r14_2 : Int32) => if r14_2 = 0 then some (v_phours 0, (upd v_phours 0 x2)) else some ((-2), v_phours)) else if x1 = 1 then bd1_ (f_X7_outside n x2 1 20) (fun (r14_6 : Int32) => if r14_6 = 0 then some (v_phours 1, (upd v_phours 1 x2)) else some ((-2), v_phours)) else if x1 = 2 then bd1_ (f_X7_outside n x2 1 20) (fun (r14_10 : Int32) => if r14_10 = 0 then some (v_phours 2, (upd v_phours 2 x2)) else some ((-2), v_phours)) else if x1 = 3 then bd1_ (f_X7_outside n x2 1 20) (fun (r14_14 : Int32) => if r14_14 = 0 then some (v_phours 3, (upd v_phours 3 x2)) else some ((-2), v_phours)) else some ((-2), v_phours)
set_option maxHeartbeats 4000000 in
set_option maxRecDepth 100000 in
theorem c_X7_plant (l : Launch) (dC : Nat → ClassId) (dI : Nat → Nat → Nat) (cI cZ cP cS : ClassId) (sz : Nat) (h_t h_t_red h_t_blue h_t_sky h_t_diary h_t_calendar h_t_awakeIn h_t_worths h_t_plants h_t_sheets h_t_bestFrom h_t_p0 h_t_p1 h_t_p2 h_t_p3 h_t_p0_growth h_t_p1_growth h_t_p2_growth h_t_p3_growth : Nat) (v_latestFinding : Int32) (v_phours : Nat → Int32) (x1 : Int32) (x2 : Int32) (n : Nat) (r : Int32) (o_phours : Nat → Int32) (hf : f_X7_plant n v_phours x1 x2 = some (r, o_phours)) : Met l yX7_plant wsX7_plant rm_X7_plant (RW (dC, dI) (TY cI cZ cP cS) [.ref h_t, .int x1, .int x2] sz (wd_X7_plant cI cZ cP cS h_t h_t_red h_t_blue h_t_sky h_t_diary h_t_calendar h_t_awakeIn h_t_worths h_t_plants h_t_sheets h_t_bestFrom h_t_p0 h_t_p1 h_t_p2 h_t_p3 h_t_p0_growth h_t_p1_growth h_t_p2_growth h_t_p3_growth v_latestFinding v_phours)) (RWi (dC, dI) (TY cI cZ cP cS) r sz (wd_X7_plant cI cZ cP cS h_t h_t_red h_t_blue h_t_sky h_t_diary h_t_calendar h_t_awakeIn h_t_worths h_t_plants h_t_sheets h_t_bestFrom h_t_p0 h_t_p1 h_t_p2 h_t_p3 h_t_p0_growth h_t_p1_growth h_t_p2_growth h_t_p3_growth v_latestFinding v_phours) (wd_X7_plant cI cZ cP cS h_t h_t_red h_t_blue h_t_sky h_t_diary h_t_calendar h_t_awakeIn h_t_worths h_t_plants h_t_sheets h_t_bestFrom h_t_p0 h_t_p1 h_t_p2 h_t_p3 h_t_p0_growth h_t_p1_growth h_t_p2_growth h_t_p3_growth v_latestFinding o_phours)) 0 0 (va_A (wd_X7_plant cI cZ cP cS h_t h_t_red h_t_blue h_t_sky h_t_diary h_t_calendar h_t_awakeIn h_t_worths h_t_plants h_t_sheets h_t_bestFrom h_t_p0 h_t_p1 h_t_p2 h_t_p3 h_t_p0_growth h_t_p1_growth h_t_p2_growth h_t_p3_growth v_latestFinding v_phours) sz) := by
  refine Met.ofW (cc := cX7_plant) (maxL := 5) (ret := (some .int)) (by decide) rfl ?_
  intro p e s m args below meth c s₁ B hml hv
  obtain ⟨rfl, hsz, hP, hK, hD0⟩ := hv
  have hx := B.exec
  have hb := B.bytes
  have hr := B.returns
  have hts := atoms_spec (ws := wsX7_plant) B.pre
  have hown : s.vm.findClass RX7 = some m.cls := findClass_of_methodNamed B.named
  have hlocks := B.notSynchronized
  subst hsz
  have hD := hD0.self (sz := s.heap.size)
  have hA : ∀ q : Nat, s.heap.size ≤ q → (va_A (wd_X7_plant cI cZ cP cS h_t h_t_red h_t_blue h_t_sky h_t_diary h_t_calendar h_t_awakeIn h_t_worths h_t_plants h_t_sheets h_t_bestFrom h_t_p0 h_t_p1 h_t_p2 h_t_p3 h_t_p0_growth h_t_p1_growth h_t_p2_growth h_t_p3_growth v_latestFinding v_phours) s.heap.size) q := fun q h => Or.inr h
  have hS : va_S (va_A (wd_X7_plant cI cZ cP cS h_t h_t_red h_t_blue h_t_sky h_t_diary h_t_calendar h_t_awakeIn h_t_worths h_t_plants h_t_sheets h_t_bestFrom h_t_p0 h_t_p1 h_t_p2 h_t_p3 h_t_p0_growth h_t_p1_growth h_t_p2_growth h_t_p3_growth v_latestFinding v_phours) s.heap.size) s.heap s.heap [] := va_S.rf
  have hinX2 : ∀ w ∈ wsX20, w ∈ wsX7_plant := by decide +kernel
  have hl := lv_entry ([.ref h_t, .int x1, .int x2]) (n := 5) (Nat.le_of_ble_eq_true rfl)
  rw [lg_entry_eq]
  generalize (lg_sl ([.ref h_t, .int x1, .int x2]) ++ List.replicate (5 - (lg_sl ([.ref h_t, .int x1, .int x2])).length) Slot.unset).toArray = ls at hl ⊢
  have hl : lv_has ls 5 [(0, .ref h_t), (1, .int x1), (2, .int x2)] := hl
  obtain ⟨H, hH⟩ : ∃ H : Heap, H = s.heap := ⟨_, rfl⟩
  have hP : va_P (dC, dI) vwCl (wd_X7_plant cI cZ cP cS h_t h_t_red h_t_blue h_t_sky h_t_diary h_t_calendar h_t_awakeIn h_t_worths h_t_plants h_t_sheets h_t_bestFrom h_t_p0 h_t_p1 h_t_p2 h_t_p3 h_t_p0_growth h_t_p1_growth h_t_p2_growth h_t_p3_growth v_latestFinding v_phours) H := by rw [hH]; exact hP
  have hS : va_S (va_A (wd_X7_plant cI cZ cP cS h_t h_t_red h_t_blue h_t_sky h_t_diary h_t_calendar h_t_awakeIn h_t_worths h_t_plants h_t_sheets h_t_bestFrom h_t_p0 h_t_p1 h_t_p2 h_t_p3 h_t_p0_growth h_t_p1_growth h_t_p2_growth h_t_p3_growth v_latestFinding v_phours) s.heap.size) s.heap H [] := by rw [hH]; exact hS
  obtain ⟨locs, hlo⟩ : ∃ L : List Loc, L = [] := ⟨_, rfl⟩
  rw [← hlo] at hS
  suffices hgo : W p l e (headSpec wsX7_plant rm_X7_plant).room s m ([.ref h_t, .int x1, .int x2] : List Value).toArray below meth c H locs 0 0 (MQ below (RWi (dC, dI) (TY cI cZ cP cS) r s.heap.size (wd_X7_plant cI cZ cP cS h_t h_t_red h_t_blue h_t_sky h_t_diary h_t_calendar h_t_awakeIn h_t_worths h_t_plants h_t_sheets h_t_bestFrom h_t_p0 h_t_p1 h_t_p2 h_t_p3 h_t_p0_growth h_t_p1_growth h_t_p2_growth h_t_p3_growth v_latestFinding v_phours) (wd_X7_plant cI cZ cP cS h_t h_t_red h_t_blue h_t_sky h_t_diary h_t_calendar h_t_awakeIn h_t_worths h_t_plants h_t_sheets h_t_bestFrom h_t_p0 h_t_p1 h_t_p2 h_t_p3 h_t_p0_growth h_t_p1_growth h_t_p2_growth h_t_p3_growth v_latestFinding o_phours)) ([.ref h_t, .int x1, .int x2] : List Value).toArray s 0 0 (va_A (wd_X7_plant cI cZ cP cS h_t h_t_red h_t_blue h_t_sky h_t_diary h_t_calendar h_t_awakeIn h_t_worths h_t_plants h_t_sheets h_t_bestFrom h_t_p0 h_t_p1 h_t_p2 h_t_p3 h_t_p0_growth h_t_p1_growth h_t_p2_growth h_t_p3_growth v_latestFinding v_phours) s.heap.size)) (F0 m 0 ls []) by rw [hH, hlo] at hgo; exact hgo
  clear hH hlo
  unfold f_X7_plant at hf
  refine lv_aload_n hx hb dX7_plant_0 rfl (lv_at hl 0 rfl) ?_
  refine lv_iload_n hx hb dX7_plant_1 rfl (lv_at hl 1 rfl) ?_
  refine va_csq (va_runV (As := [.int x1]) (rest := []) ⟨hx, hb, hml, hown, hts⟩ (c_X7_plantOf l dC dI cI cZ cP cS h_t h_t_red h_t_blue h_t_sky h_t_diary h_t_calendar h_t_awakeIn h_t_worths h_t_plants h_t_sheets h_t_bestFrom h_t_p0 h_t_p1 h_t_p2 h_t_p3 v_latestFinding x1) (cwV 1 hts gX7_plant_X7_plantOf rfl rfl rfl (by decide +kernel) ⟨Nat.le_of_ble_eq_true rfl, Nat.le_of_ble_eq_true rfl⟩) (pv_ro (ci := 6) (q0 := 0) hK (hP.sub (ws' := (wd_X7_plantOf cI cZ cP cS h_t h_t_red h_t_blue h_t_sky h_t_diary h_t_calendar h_t_awakeIn h_t_worths h_t_plants h_t_sheets h_t_bestFrom h_t_p0 h_t_p1 h_t_p2 h_t_p3 v_latestFinding)) [0, 1] rfl) rfl rfl) rfl rfl hl.1 rfl (lv_room (Nat.le_of_ble_eq_true rfl)) dX7_plant_2 ⟨Nat.zero_le _, Nat.zero_le _⟩).run (fun x e_1 => ?_)
  by_cases c2_0 : x1 = 0
  · rw [if_pos c2_0] at hf e_1
    subst e_1
    refine W.eq (g2 := F0 m 5 ls [.ref h_t_p0]) rfl ?_
    refine lv_astore_n (lv' := [(3, .ref h_t_p0), (0, .ref h_t), (1, .int x1), (2, .int x2)]) hx hb dX7_plant_5 rfl hl (by decide) rfl (fun ls hl => ?_)
    refine lv_aload_n hx hb dX7_plant_6 rfl (lv_at hl 0 rfl) ?_
    refine lv_ifnull hx hb dX7_plant_7 ?_
    refine lv_iload_n hx hb dX7_plant_10 rfl (lv_at hl 3 rfl) ?_
    refine lv_iconst (v := 1) hx hb dX7_plant_11 (by decide) ?_
    refine lv_bipush (v := 20) hx hb dX7_plant_12 (by decide) ?_
    obtain ⟨r14_2, hc_3, hf⟩ := bd1_e hf
    refine vp_callSi (va_runS (As := [.int x2, .int 1, .int 20]) (rest := []) ⟨hx, hb, hml, hown, hts⟩ (c_X7_outside l dC dI cI cZ cP cS   x2 1 20 n r14_2 hc_3) (va_cwS 3 hts gX7_plant_X7_outside rfl rfl rfl (by decide +kernel) ⟨Nat.le_of_ble_eq_true rfl, Nat.le_of_ble_eq_true rfl⟩) (ps_ro hK (hP.sub (ws' := ([] : va_W)) [] rfl)) rfl rfl hl.1 rfl (lv_room (Nat.le_of_ble_eq_true rfl)) dX7_plant_14 ⟨Nat.zero_le _, Nat.zero_le _⟩).run (fun x e_4 => ?_)
    obtain ⟨e_4, hb_5⟩ := e_4
    rw [e_4] at hb_5 ⊢
    refine lv_if_eq (tgt := 23) hx hb dX7_plant_17 (by decide) (fun c17 => ?_) (fun c17 => ?_)
    · rw [if_pos c17] at hf
      refine lv_aload_n hx hb dX7_plant_23 rfl (lv_at hl 0 rfl) ?_
      refine va_get (D := (dC, dI)) (ci := 2) (v := .int (v_phours 0)) (C := RX2) (T := TX2) (N := 2) hx hb hts hinX2 hown hK hP 2 rfl rfl 0 (by decide) (hts (.fieldLink RX7 210 "SecondSunrise$Plant" "hours" "I") (by decide +kernel)) (fun _ h9 => h9) rfl dX7_plant_24 ?_
      refine lv_istore (lv' := [(4, .int (v_phours 0)), (3, .ref h_t_p0), (0, .ref h_t), (1, .int x1), (2, .int x2)]) hx hb dX7_plant_27 hl (by decide) rfl (fun ls hl => ?_)
      refine lv_aload_n hx hb dX7_plant_29 rfl (lv_at hl 1 rfl) ?_
      refine lv_iload_n hx hb dX7_plant_30 rfl (lv_at hl 4 rfl) ?_
      refine va_put (D := (dC, dI)) (ci := 2) (v := .int x2) (ty := .int) (C := RX2) (T := TX2) (N := 2) hx hb hts hinX2 tyX2 tyX2_ok nmX2 hown hK hP hD hS 2 rfl rfl 0 (by decide) (hts (.fieldLink RX7 210 "SecondSunrise$Plant" "hours" "I") (by decide +kernel)) (fun _ h9 => h9) rfl (by decide +kernel) rfl rfl (Nat.le_of_ble_eq_true rfl) dX7_plant_31 (fun H locs hP hD hS => ?_)
      have hP : va_P (dC, dI) vwCl (wd_X7_plant cI cZ cP cS h_t h_t_red h_t_blue h_t_sky h_t_diary h_t_calendar h_t_awakeIn h_t_worths h_t_plants h_t_sheets h_t_bestFrom h_t_p0 h_t_p1 h_t_p2 h_t_p3 h_t_p0_growth h_t_p1_growth h_t_p2_growth h_t_p3_growth v_latestFinding (upd v_phours 0 x2)) H := hP
      have hD : va_D (va_A (wd_X7_plant cI cZ cP cS h_t h_t_red h_t_blue h_t_sky h_t_diary h_t_calendar h_t_awakeIn h_t_worths h_t_plants h_t_sheets h_t_bestFrom h_t_p0 h_t_p1 h_t_p2 h_t_p3 h_t_p0_growth h_t_p1_growth h_t_p2_growth h_t_p3_growth v_latestFinding v_phours) s.heap.size) (wd_X7_plant cI cZ cP cS h_t h_t_red h_t_blue h_t_sky h_t_diary h_t_calendar h_t_awakeIn h_t_worths h_t_plants h_t_sheets h_t_bestFrom h_t_p0 h_t_p1 h_t_p2 h_t_p3 h_t_p0_growth h_t_p1_growth h_t_p2_growth h_t_p3_growth v_latestFinding (upd v_phours 0 x2)) := hD
      refine lv_iload hx hb dX7_plant_34 (lv_at hl 0 rfl) ?_
      have hq0 := Option.some.inj hf
      obtain ⟨eq0, hq1⟩ := Prod.mk.inj hq0
      clear hf hq0
      subst eq0
      subst hq1
      exact W.iret hx hb hr (fun t ht hW => ⟨⟨_, (), rfl, rfl, by rw [ht]; exact hP, va_K.moved hW.alike hK, hD⟩, hS.F ht⟩) hS.2.2 dX7_plant_36
    · rw [if_neg c17] at hf
      refine lv_bipush (v := (-2)) hx hb dX7_plant_20 (by decide) ?_
      have hq0 := Option.some.inj hf
      obtain ⟨eq0, hq1⟩ := Prod.mk.inj hq0
      clear hf hq0
      subst eq0
      subst hq1
      exact W.iret hx hb hr (fun t ht hW => ⟨⟨_, (), rfl, rfl, by rw [ht]; exact hP, va_K.moved hW.alike hK, hD⟩, hS.F ht⟩) hS.2.2 dX7_plant_22
  · rw [if_neg c2_0] at hf e_1
    by_cases c2_1 : x1 = 1
    · rw [if_pos c2_1] at hf e_1
      subst e_1
      refine W.eq (g2 := F0 m 5 ls [.ref h_t_p1]) rfl ?_
      refine lv_astore_n (lv' := [(3, .ref h_t_p1), (0, .ref h_t), (1, .int x1), (2, .int x2)]) hx hb dX7_plant_5 rfl hl (by decide) rfl (fun ls hl => ?_)
      refine lv_aload_n hx hb dX7_plant_6 rfl (lv_at hl 0 rfl) ?_
      refine lv_ifnull hx hb dX7_plant_7 ?_
      refine lv_iload_n hx hb dX7_plant_10 rfl (lv_at hl 3 rfl) ?_
      refine lv_iconst (v := 1) hx hb dX7_plant_11 (by decide) ?_
      refine lv_bipush (v := 20) hx hb dX7_plant_12 (by decide) ?_
      obtain ⟨r14_6, hc_7, hf⟩ := bd1_e hf
      refine vp_callSi (va_runS (As := [.int x2, .int 1, .int 20]) (rest := []) ⟨hx, hb, hml, hown, hts⟩ (c_X7_outside l dC dI cI cZ cP cS   x2 1 20 n r14_6 hc_7) (va_cwS 3 hts gX7_plant_X7_outside rfl rfl rfl (by decide +kernel) ⟨Nat.le_of_ble_eq_true rfl, Nat.le_of_ble_eq_true rfl⟩) (ps_ro hK (hP.sub (ws' := ([] : va_W)) [] rfl)) rfl rfl hl.1 rfl (lv_room (Nat.le_of_ble_eq_true rfl)) dX7_plant_14 ⟨Nat.zero_le _, Nat.zero_le _⟩).run (fun x e_8 => ?_)
      obtain ⟨e_8, hb_9⟩ := e_8
      rw [e_8] at hb_9 ⊢
      refine lv_if_eq (tgt := 23) hx hb dX7_plant_17 (by decide) (fun c17 => ?_) (fun c17 => ?_)
      · rw [if_pos c17] at hf
        refine lv_aload_n hx hb dX7_plant_23 rfl (lv_at hl 0 rfl) ?_
        refine va_get (D := (dC, dI)) (ci := 2) (v := .int (v_phours 1)) (C := RX2) (T := TX2) (N := 2) hx hb hts hinX2 hown hK hP 3 rfl rfl 0 (by decide) (hts (.fieldLink RX7 210 "SecondSunrise$Plant" "hours" "I") (by decide +kernel)) (fun _ h9 => h9) rfl dX7_plant_24 ?_
        refine lv_istore (lv' := [(4, .int (v_phours 1)), (3, .ref h_t_p1), (0, .ref h_t), (1, .int x1), (2, .int x2)]) hx hb dX7_plant_27 hl (by decide) rfl (fun ls hl => ?_)
        refine lv_aload_n hx hb dX7_plant_29 rfl (lv_at hl 1 rfl) ?_
        refine lv_iload_n hx hb dX7_plant_30 rfl (lv_at hl 4 rfl) ?_
        refine va_put (D := (dC, dI)) (ci := 2) (v := .int x2) (ty := .int) (C := RX2) (T := TX2) (N := 2) hx hb hts hinX2 tyX2 tyX2_ok nmX2 hown hK hP hD hS 3 rfl rfl 0 (by decide) (hts (.fieldLink RX7 210 "SecondSunrise$Plant" "hours" "I") (by decide +kernel)) (fun _ h9 => h9) rfl (by decide +kernel) rfl rfl (Nat.le_of_ble_eq_true rfl) dX7_plant_31 (fun H locs hP hD hS => ?_)
        have hP : va_P (dC, dI) vwCl (wd_X7_plant cI cZ cP cS h_t h_t_red h_t_blue h_t_sky h_t_diary h_t_calendar h_t_awakeIn h_t_worths h_t_plants h_t_sheets h_t_bestFrom h_t_p0 h_t_p1 h_t_p2 h_t_p3 h_t_p0_growth h_t_p1_growth h_t_p2_growth h_t_p3_growth v_latestFinding (upd v_phours 1 x2)) H := hP
        have hD : va_D (va_A (wd_X7_plant cI cZ cP cS h_t h_t_red h_t_blue h_t_sky h_t_diary h_t_calendar h_t_awakeIn h_t_worths h_t_plants h_t_sheets h_t_bestFrom h_t_p0 h_t_p1 h_t_p2 h_t_p3 h_t_p0_growth h_t_p1_growth h_t_p2_growth h_t_p3_growth v_latestFinding v_phours) s.heap.size) (wd_X7_plant cI cZ cP cS h_t h_t_red h_t_blue h_t_sky h_t_diary h_t_calendar h_t_awakeIn h_t_worths h_t_plants h_t_sheets h_t_bestFrom h_t_p0 h_t_p1 h_t_p2 h_t_p3 h_t_p0_growth h_t_p1_growth h_t_p2_growth h_t_p3_growth v_latestFinding (upd v_phours 1 x2)) := hD
        refine lv_iload hx hb dX7_plant_34 (lv_at hl 0 rfl) ?_
        have hq0 := Option.some.inj hf
        obtain ⟨eq0, hq1⟩ := Prod.mk.inj hq0
        clear hf hq0
        subst eq0
        subst hq1
        exact W.iret hx hb hr (fun t ht hW => ⟨⟨_, (), rfl, rfl, by rw [ht]; exact hP, va_K.moved hW.alike hK, hD⟩, hS.F ht⟩) hS.2.2 dX7_plant_36
      · rw [if_neg c17] at hf
        refine lv_bipush (v := (-2)) hx hb dX7_plant_20 (by decide) ?_
        have hq0 := Option.some.inj hf
        obtain ⟨eq0, hq1⟩ := Prod.mk.inj hq0
        clear hf hq0
        subst eq0
        subst hq1
        exact W.iret hx hb hr (fun t ht hW => ⟨⟨_, (), rfl, rfl, by rw [ht]; exact hP, va_K.moved hW.alike hK, hD⟩, hS.F ht⟩) hS.2.2 dX7_plant_22
    · rw [if_neg c2_1] at hf e_1
      by_cases c2_2 : x1 = 2
      · rw [if_pos c2_2] at hf e_1
        subst e_1
        refine W.eq (g2 := F0 m 5 ls [.ref h_t_p2]) rfl ?_
        refine lv_astore_n (lv' := [(3, .ref h_t_p2), (0, .ref h_t), (1, .int x1), (2, .int x2)]) hx hb dX7_plant_5 rfl hl (by decide) rfl (fun ls hl => ?_)
        refine lv_aload_n hx hb dX7_plant_6 rfl (lv_at hl 0 rfl) ?_
        refine lv_ifnull hx hb dX7_plant_7 ?_
        refine lv_iload_n hx hb dX7_plant_10 rfl (lv_at hl 3 rfl) ?_
        refine lv_iconst (v := 1) hx hb dX7_plant_11 (by decide) ?_
        refine lv_bipush (v := 20) hx hb dX7_plant_12 (by decide) ?_
        obtain ⟨r14_10, hc_11, hf⟩ := bd1_e hf
        refine vp_callSi (va_runS (As := [.int x2, .int 1, .int 20]) (rest := []) ⟨hx, hb, hml, hown, hts⟩ (c_X7_outside l dC dI cI cZ cP cS   x2 1 20 n r14_10 hc_11) (va_cwS 3 hts gX7_plant_X7_outside rfl rfl rfl (by decide +kernel) ⟨Nat.le_of_ble_eq_true rfl, Nat.le_of_ble_eq_true rfl⟩) (ps_ro hK (hP.sub (ws' := ([] : va_W)) [] rfl)) rfl rfl hl.1 rfl (lv_room (Nat.le_of_ble_eq_true rfl)) dX7_plant_14 ⟨Nat.zero_le _, Nat.zero_le _⟩).run (fun x e_12 => ?_)
        obtain ⟨e_12, hb_13⟩ := e_12
        rw [e_12] at hb_13 ⊢
        refine lv_if_eq (tgt := 23) hx hb dX7_plant_17 (by decide) (fun c17 => ?_) (fun c17 => ?_)
        · rw [if_pos c17] at hf
          refine lv_aload_n hx hb dX7_plant_23 rfl (lv_at hl 0 rfl) ?_
          refine va_get (D := (dC, dI)) (ci := 2) (v := .int (v_phours 2)) (C := RX2) (T := TX2) (N := 2) hx hb hts hinX2 hown hK hP 4 rfl rfl 0 (by decide) (hts (.fieldLink RX7 210 "SecondSunrise$Plant" "hours" "I") (by decide +kernel)) (fun _ h9 => h9) rfl dX7_plant_24 ?_
          refine lv_istore (lv' := [(4, .int (v_phours 2)), (3, .ref h_t_p2), (0, .ref h_t), (1, .int x1), (2, .int x2)]) hx hb dX7_plant_27 hl (by decide) rfl (fun ls hl => ?_)
          refine lv_aload_n hx hb dX7_plant_29 rfl (lv_at hl 1 rfl) ?_
          refine lv_iload_n hx hb dX7_plant_30 rfl (lv_at hl 4 rfl) ?_
          refine va_put (D := (dC, dI)) (ci := 2) (v := .int x2) (ty := .int) (C := RX2) (T := TX2) (N := 2) hx hb hts hinX2 tyX2 tyX2_ok nmX2 hown hK hP hD hS 4 rfl rfl 0 (by decide) (hts (.fieldLink RX7 210 "SecondSunrise$Plant" "hours" "I") (by decide +kernel)) (fun _ h9 => h9) rfl (by decide +kernel) rfl rfl (Nat.le_of_ble_eq_true rfl) dX7_plant_31 (fun H locs hP hD hS => ?_)
          have hP : va_P (dC, dI) vwCl (wd_X7_plant cI cZ cP cS h_t h_t_red h_t_blue h_t_sky h_t_diary h_t_calendar h_t_awakeIn h_t_worths h_t_plants h_t_sheets h_t_bestFrom h_t_p0 h_t_p1 h_t_p2 h_t_p3 h_t_p0_growth h_t_p1_growth h_t_p2_growth h_t_p3_growth v_latestFinding (upd v_phours 2 x2)) H := hP
          have hD : va_D (va_A (wd_X7_plant cI cZ cP cS h_t h_t_red h_t_blue h_t_sky h_t_diary h_t_calendar h_t_awakeIn h_t_worths h_t_plants h_t_sheets h_t_bestFrom h_t_p0 h_t_p1 h_t_p2 h_t_p3 h_t_p0_growth h_t_p1_growth h_t_p2_growth h_t_p3_growth v_latestFinding v_phours) s.heap.size) (wd_X7_plant cI cZ cP cS h_t h_t_red h_t_blue h_t_sky h_t_diary h_t_calendar h_t_awakeIn h_t_worths h_t_plants h_t_sheets h_t_bestFrom h_t_p0 h_t_p1 h_t_p2 h_t_p3 h_t_p0_growth h_t_p1_growth h_t_p2_growth h_t_p3_growth v_latestFinding (upd v_phours 2 x2)) := hD
          refine lv_iload hx hb dX7_plant_34 (lv_at hl 0 rfl) ?_
          have hq0 := Option.some.inj hf
          obtain ⟨eq0, hq1⟩ := Prod.mk.inj hq0
          clear hf hq0
          subst eq0
          subst hq1
          exact W.iret hx hb hr (fun t ht hW => ⟨⟨_, (), rfl, rfl, by rw [ht]; exact hP, va_K.moved hW.alike hK, hD⟩, hS.F ht⟩) hS.2.2 dX7_plant_36
        · rw [if_neg c17] at hf
          refine lv_bipush (v := (-2)) hx hb dX7_plant_20 (by decide) ?_
          have hq0 := Option.some.inj hf
          obtain ⟨eq0, hq1⟩ := Prod.mk.inj hq0
          clear hf hq0
          subst eq0
          subst hq1
          exact W.iret hx hb hr (fun t ht hW => ⟨⟨_, (), rfl, rfl, by rw [ht]; exact hP, va_K.moved hW.alike hK, hD⟩, hS.F ht⟩) hS.2.2 dX7_plant_22
      · rw [if_neg c2_2] at hf e_1
        by_cases c2_3 : x1 = 3
        · rw [if_pos c2_3] at hf e_1
          subst e_1
          refine W.eq (g2 := F0 m 5 ls [.ref h_t_p3]) rfl ?_
          refine lv_astore_n (lv' := [(3, .ref h_t_p3), (0, .ref h_t), (1, .int x1), (2, .int x2)]) hx hb dX7_plant_5 rfl hl (by decide) rfl (fun ls hl => ?_)
          refine lv_aload_n hx hb dX7_plant_6 rfl (lv_at hl 0 rfl) ?_
          refine lv_ifnull hx hb dX7_plant_7 ?_
          refine lv_iload_n hx hb dX7_plant_10 rfl (lv_at hl 3 rfl) ?_
          refine lv_iconst (v := 1) hx hb dX7_plant_11 (by decide) ?_
          refine lv_bipush (v := 20) hx hb dX7_plant_12 (by decide) ?_
          obtain ⟨r14_14, hc_15, hf⟩ := bd1_e hf
          refine vp_callSi (va_runS (As := [.int x2, .int 1, .int 20]) (rest := []) ⟨hx, hb, hml, hown, hts⟩ (c_X7_outside l dC dI cI cZ cP cS   x2 1 20 n r14_14 hc_15) (va_cwS 3 hts gX7_plant_X7_outside rfl rfl rfl (by decide +kernel) ⟨Nat.le_of_ble_eq_true rfl, Nat.le_of_ble_eq_true rfl⟩) (ps_ro hK (hP.sub (ws' := ([] : va_W)) [] rfl)) rfl rfl hl.1 rfl (lv_room (Nat.le_of_ble_eq_true rfl)) dX7_plant_14 ⟨Nat.zero_le _, Nat.zero_le _⟩).run (fun x e_16 => ?_)
          obtain ⟨e_16, hb_17⟩ := e_16
          rw [e_16] at hb_17 ⊢
          refine lv_if_eq (tgt := 23) hx hb dX7_plant_17 (by decide) (fun c17 => ?_) (fun c17 => ?_)
          · rw [if_pos c17] at hf
            refine lv_aload_n hx hb dX7_plant_23 rfl (lv_at hl 0 rfl) ?_
            refine va_get (D := (dC, dI)) (ci := 2) (v := .int (v_phours 3)) (C := RX2) (T := TX2) (N := 2) hx hb hts hinX2 hown hK hP 5 rfl rfl 0 (by decide) (hts (.fieldLink RX7 210 "SecondSunrise$Plant" "hours" "I") (by decide +kernel)) (fun _ h9 => h9) rfl dX7_plant_24 ?_
            refine lv_istore (lv' := [(4, .int (v_phours 3)), (3, .ref h_t_p3), (0, .ref h_t), (1, .int x1), (2, .int x2)]) hx hb dX7_plant_27 hl (by decide) rfl (fun ls hl => ?_)
            refine lv_aload_n hx hb dX7_plant_29 rfl (lv_at hl 1 rfl) ?_
            refine lv_iload_n hx hb dX7_plant_30 rfl (lv_at hl 4 rfl) ?_
            refine va_put (D := (dC, dI)) (ci := 2) (v := .int x2) (ty := .int) (C := RX2) (T := TX2) (N := 2) hx hb hts hinX2 tyX2 tyX2_ok nmX2 hown hK hP hD hS 5 rfl rfl 0 (by decide) (hts (.fieldLink RX7 210 "SecondSunrise$Plant" "hours" "I") (by decide +kernel)) (fun _ h9 => h9) rfl (by decide +kernel) rfl rfl (Nat.le_of_ble_eq_true rfl) dX7_plant_31 (fun H locs hP hD hS => ?_)
            have hP : va_P (dC, dI) vwCl (wd_X7_plant cI cZ cP cS h_t h_t_red h_t_blue h_t_sky h_t_diary h_t_calendar h_t_awakeIn h_t_worths h_t_plants h_t_sheets h_t_bestFrom h_t_p0 h_t_p1 h_t_p2 h_t_p3 h_t_p0_growth h_t_p1_growth h_t_p2_growth h_t_p3_growth v_latestFinding (upd v_phours 3 x2)) H := hP
            have hD : va_D (va_A (wd_X7_plant cI cZ cP cS h_t h_t_red h_t_blue h_t_sky h_t_diary h_t_calendar h_t_awakeIn h_t_worths h_t_plants h_t_sheets h_t_bestFrom h_t_p0 h_t_p1 h_t_p2 h_t_p3 h_t_p0_growth h_t_p1_growth h_t_p2_growth h_t_p3_growth v_latestFinding v_phours) s.heap.size) (wd_X7_plant cI cZ cP cS h_t h_t_red h_t_blue h_t_sky h_t_diary h_t_calendar h_t_awakeIn h_t_worths h_t_plants h_t_sheets h_t_bestFrom h_t_p0 h_t_p1 h_t_p2 h_t_p3 h_t_p0_growth h_t_p1_growth h_t_p2_growth h_t_p3_growth v_latestFinding (upd v_phours 3 x2)) := hD
            refine lv_iload hx hb dX7_plant_34 (lv_at hl 0 rfl) ?_
            have hq0 := Option.some.inj hf
            obtain ⟨eq0, hq1⟩ := Prod.mk.inj hq0
            clear hf hq0
            subst eq0
            subst hq1
            exact W.iret hx hb hr (fun t ht hW => ⟨⟨_, (), rfl, rfl, by rw [ht]; exact hP, va_K.moved hW.alike hK, hD⟩, hS.F ht⟩) hS.2.2 dX7_plant_36
          · rw [if_neg c17] at hf
            refine lv_bipush (v := (-2)) hx hb dX7_plant_20 (by decide) ?_
            have hq0 := Option.some.inj hf
            obtain ⟨eq0, hq1⟩ := Prod.mk.inj hq0
            clear hf hq0
            subst eq0
            subst hq1
            exact W.iret hx hb hr (fun t ht hW => ⟨⟨_, (), rfl, rfl, by rw [ht]; exact hP, va_K.moved hW.alike hK, hD⟩, hS.F ht⟩) hS.2.2 dX7_plant_22
        · rw [if_neg c2_3] at hf e_1
          subst e_1
          refine W.eq (g2 := F0 m 5 ls [.null]) rfl ?_
          refine lv_astore_nN (lv' := [(3, .null), (0, .ref h_t), (1, .int x1), (2, .int x2)]) hx hb dX7_plant_5 rfl hl (by decide) rfl (fun ls hl => ?_)
          refine lv_aload_nN hx hb dX7_plant_6 rfl (lv_at hl 0 rfl) ?_
          refine lv_ifnullN (tgt := 20) hx hb dX7_plant_7 (by decide) ?_
          refine lv_bipush (v := (-2)) hx hb dX7_plant_20 (by decide) ?_
          have hq0 := Option.some.inj hf
          obtain ⟨eq0, hq1⟩ := Prod.mk.inj hq0
          clear hf hq0
          subst eq0
          subst hq1
          exact W.iret hx hb hr (fun t ht hW => ⟨⟨_, (), rfl, rfl, by rw [ht]; exact hP, va_K.moved hW.alike hK, hD⟩, hS.F ht⟩) hS.2.2 dX7_plant_22
