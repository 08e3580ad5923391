abbrev wd_X8_plant (cI cZ cP cS : ClassId) (h_t h_t_turns h_t_phases h_t_ups h_t_typed h_t_texts h_t_diary h_t_longs h_t_awakes h_t_fit h_t_counts h_t_worths h_t_ripes h_t_growths h_t_gains h_t_isThere h_t_forms h_t_sizes h_t_items h_t_moved : Nat) (v_m_hours : Int32) (v_m_months : Int32) (v_m_fitMany : Int32) (v_m_fitFirst : Int32) (v_m_finding : Int32) (v_m_ripes : Nat → Int32) : va_W := [(h_t, .inr (7, [.ref h_t_turns, .ref h_t_phases, .ref h_t_ups, .ref h_t_typed, .ref h_t_texts, .int v_m_hours, .ref h_t_diary, .int v_m_months, .ref h_t_longs, .ref h_t_awakes, .ref h_t_fit, .int v_m_fitMany, .int v_m_fitFirst, .ref h_t_counts, .ref h_t_worths, .ref h_t_ripes, .ref h_t_growths, .ref h_t_gains, .ref h_t_isThere, .ref h_t_forms, .ref h_t_sizes, .ref h_t_items, .ref h_t_moved, .int v_m_finding])), (h_t_ripes, .inl (cI, 4, .inl v_m_ripes))]
abbrev rm_X8_plant : Room := { frames := 2, cells := 0, slots := 0, locals := 42 }
def f_X8_plant (n : Nat) (v_m_ripes : Nat → Int32) (x1 : Int32) (x2 : Int32) : Option (Int32 × (Nat → Int32)) := bd1_ (f_X8_isPlant n x1) (fun (r1_1 : Int32) => if r1_1 = 0 then some ((-2), v_m_ripes) else bd1_ (f_X8_in n x2 1 20) (fun (r11_5 : Int32) => if r11_5 = 0 then some ((-2), v_m_ripes) else ix_ x1 4 (ix_ x1 4 (some ((v_m_ripes x1.toNatClampNeg), (upd v_m_ripes x1.toNatClampNeg x2))))))
set_option maxHeartbeats 4000000 in
set_option maxRecDepth 100000 in
theorem c_X8_plant (l : Launch) (dC : Nat → ClassId) (dI : Nat → Nat → Nat) (cI cZ cP cS : ClassId) (sz : Nat) (h_t h_t_turns h_t_phases h_t_ups h_t_typed h_t_texts h_t_diary h_t_longs h_t_awakes h_t_fit h_t_counts h_t_worths h_t_ripes h_t_growths h_t_gains h_t_isThere h_t_forms h_t_sizes h_t_items h_t_moved : Nat) (v_m_hours : Int32) (v_m_months : Int32) (v_m_fitMany : Int32) (v_m_fitFirst : Int32) (v_m_finding : Int32) (v_m_ripes : Nat → Int32) (x1 : Int32) (x2 : Int32) (n : Nat) (r : Int32) (o_m_ripes : Nat → Int32) (hf : f_X8_plant n v_m_ripes x1 x2 = some (r, o_m_ripes)) : Met l yX8_plant wsX8_plant rm_X8_plant (RW (dC, dI) (TY cI cZ cP cS) [.ref h_t, .int x1, .int x2] sz (wd_X8_plant cI cZ cP cS h_t h_t_turns h_t_phases h_t_ups h_t_typed h_t_texts h_t_diary h_t_longs h_t_awakes h_t_fit h_t_counts h_t_worths h_t_ripes h_t_growths h_t_gains h_t_isThere h_t_forms h_t_sizes h_t_items h_t_moved v_m_hours v_m_months v_m_fitMany v_m_fitFirst v_m_finding v_m_ripes)) (RWi (dC, dI) (TY cI cZ cP cS) r sz (wd_X8_plant cI cZ cP cS h_t h_t_turns h_t_phases h_t_ups h_t_typed h_t_texts h_t_diary h_t_longs h_t_awakes h_t_fit h_t_counts h_t_worths h_t_ripes h_t_growths h_t_gains h_t_isThere h_t_forms h_t_sizes h_t_items h_t_moved v_m_hours v_m_months v_m_fitMany v_m_fitFirst v_m_finding v_m_ripes) (wd_X8_plant cI cZ cP cS h_t h_t_turns h_t_phases h_t_ups h_t_typed h_t_texts h_t_diary h_t_longs h_t_awakes h_t_fit h_t_counts h_t_worths h_t_ripes h_t_growths h_t_gains h_t_isThere h_t_forms h_t_sizes h_t_items h_t_moved v_m_hours v_m_months v_m_fitMany v_m_fitFirst v_m_finding o_m_ripes)) 0 0 (va_A (wd_X8_plant cI cZ cP cS h_t h_t_turns h_t_phases h_t_ups h_t_typed h_t_texts h_t_diary h_t_longs h_t_awakes h_t_fit h_t_counts h_t_worths h_t_ripes h_t_growths h_t_gains h_t_isThere h_t_forms h_t_sizes h_t_items h_t_moved v_m_hours v_m_months v_m_fitMany v_m_fitFirst v_m_finding v_m_ripes) sz) := by
  refine Met.ofW (cc := cX8_plant) (maxL := 4) (ret := (some .int)) (by decide) rfl ?_
  intro p e s m args below meth c s₁ B hml hv
  obtain ⟨rfl, hsz, hP, hK, hD0⟩ := hv
  have hx := B.exec
  have hb := B.bytes
  have hr := B.returns
  have hts := atoms_spec (ws := wsX8_plant) B.pre
  have hown : s.vm.findClass RX8 = some m.cls := findClass_of_methodNamed B.named
  have hlocks := B.notSynchronized
  subst hsz
  have hD := hD0.self (sz := s.heap.size)
  have hA : ∀ q : Nat, s.heap.size ≤ q → (va_A (wd_X8_plant cI cZ cP cS h_t h_t_turns h_t_phases h_t_ups h_t_typed h_t_texts h_t_diary h_t_longs h_t_awakes h_t_fit h_t_counts h_t_worths h_t_ripes h_t_growths h_t_gains h_t_isThere h_t_forms h_t_sizes h_t_items h_t_moved v_m_hours v_m_months v_m_fitMany v_m_fitFirst v_m_finding v_m_ripes) s.heap.size) q := fun q h => Or.inr h
  have hS : va_S (va_A (wd_X8_plant cI cZ cP cS h_t h_t_turns h_t_phases h_t_ups h_t_typed h_t_texts h_t_diary h_t_longs h_t_awakes h_t_fit h_t_counts h_t_worths h_t_ripes h_t_growths h_t_gains h_t_isThere h_t_forms h_t_sizes h_t_items h_t_moved v_m_hours v_m_months v_m_fitMany v_m_fitFirst v_m_finding v_m_ripes) s.heap.size) s.heap s.heap [] := va_S.rf
  have hinX8 : ∀ w ∈ wsX80, w ∈ wsX8_plant := by decide +kernel
  have hl := lv_entry ([.ref h_t, .int x1, .int x2]) (n := 4) (Nat.le_of_ble_eq_true rfl)
  rw [lg_entry_eq]
  generalize (lg_sl ([.ref h_t, .int x1, .int x2]) ++ List.replicate (4 - (lg_sl ([.ref h_t, .int x1, .int x2])).length) Slot.unset).toArray = ls at hl ⊢
  have hl : lv_has ls 4 [(0, .ref h_t), (1, .int x1), (2, .int x2)] := hl
  obtain ⟨H, hH⟩ : ∃ H : Heap, H = s.heap := ⟨_, rfl⟩
  have hP : va_P (dC, dI) vwCl (wd_X8_plant cI cZ cP cS h_t h_t_turns h_t_phases h_t_ups h_t_typed h_t_texts h_t_diary h_t_longs h_t_awakes h_t_fit h_t_counts h_t_worths h_t_ripes h_t_growths h_t_gains h_t_isThere h_t_forms h_t_sizes h_t_items h_t_moved v_m_hours v_m_months v_m_fitMany v_m_fitFirst v_m_finding v_m_ripes) H := by rw [hH]; exact hP
  have hS : va_S (va_A (wd_X8_plant cI cZ cP cS h_t h_t_turns h_t_phases h_t_ups h_t_typed h_t_texts h_t_diary h_t_longs h_t_awakes h_t_fit h_t_counts h_t_worths h_t_ripes h_t_growths h_t_gains h_t_isThere h_t_forms h_t_sizes h_t_items h_t_moved v_m_hours v_m_months v_m_fitMany v_m_fitFirst v_m_finding v_m_ripes) s.heap.size) s.heap H [] := by rw [hH]; exact hS
  obtain ⟨locs, hlo⟩ : ∃ L : List Loc, L = [] := ⟨_, rfl⟩
  rw [← hlo] at hS
  suffices hgo : W p l e (headSpec wsX8_plant rm_X8_plant).room s m ([.ref h_t, .int x1, .int x2] : List Value).toArray below meth c H locs 0 0 (MQ below (RWi (dC, dI) (TY cI cZ cP cS) r s.heap.size (wd_X8_plant cI cZ cP cS h_t h_t_turns h_t_phases h_t_ups h_t_typed h_t_texts h_t_diary h_t_longs h_t_awakes h_t_fit h_t_counts h_t_worths h_t_ripes h_t_growths h_t_gains h_t_isThere h_t_forms h_t_sizes h_t_items h_t_moved v_m_hours v_m_months v_m_fitMany v_m_fitFirst v_m_finding v_m_ripes) (wd_X8_plant cI cZ cP cS h_t h_t_turns h_t_phases h_t_ups h_t_typed h_t_texts h_t_diary h_t_longs h_t_awakes h_t_fit h_t_counts h_t_worths h_t_ripes h_t_growths h_t_gains h_t_isThere h_t_forms h_t_sizes h_t_items h_t_moved v_m_hours v_m_months v_m_fitMany v_m_fitFirst v_m_finding o_m_ripes)) ([.ref h_t, .int x1, .int x2] : List Value).toArray s 0 0 (va_A (wd_X8_plant cI cZ cP cS h_t h_t_turns h_t_phases h_t_ups h_t_typed h_t_texts h_t_diary h_t_longs h_t_awakes h_t_fit h_t_counts h_t_worths h_t_ripes h_t_growths h_t_gains h_t_isThere h_t_forms h_t_sizes h_t_items h_t_moved v_m_hours v_m_months v_m_fitMany v_m_fitFirst v_m_finding v_m_ripes) s.heap.size)) (F0 m 0 ls []) by rw [hH, hlo] at hgo; exact hgo
  clear hH hlo
  unfold f_X8_plant at hf
  refine lv_iload_n hx hb dX8_plant_0 rfl (lv_at hl 1 rfl) ?_
  obtain ⟨r1_1, hc_2, hf⟩ := bd1_e hf
  refine vp_callSi (va_runS (As := [.int x1]) (rest := []) ⟨hx, hb, hml, hown, hts⟩ (c_X8_isPlant l dC dI cI cZ cP cS   x1 n r1_1 hc_2) (va_cwS 1 hts gX8_plant_X8_isPlant rfl rfl rfl (by decide +kernel) ⟨Nat.le_of_ble_eq_true rfl, Nat.le_of_ble_eq_true rfl⟩) (ps_ro hK (hP.sub (ws' := ([] : va_W)) [] rfl)) rfl rfl hl.1 rfl (lv_room (Nat.le_of_ble_eq_true rfl)) dX8_plant_1 ⟨Nat.zero_le _, Nat.zero_le _⟩).run (fun x e_3 => ?_)
  obtain ⟨e_3, hb_4⟩ := e_3
  rw [e_3] at hb_4 ⊢
  refine lv_if_eq (tgt := 17) hx hb dX8_plant_4 (by decide) (fun c4 => ?_) (fun c4 => ?_)
  · rw [if_pos c4] at hf
    refine lv_bipush (v := (-2)) hx hb dX8_plant_17 (by decide) ?_
    have hq0 := Option.some.inj hf
    obtain ⟨eq0, hq1⟩ := Prod.mk.inj hq0
    clear hf hq0
    subst eq0
    subst hq1
    exact W.iret hx hb hr (fun t ht hW => ⟨⟨_, (), rfl, rfl, by rw [ht]; exact hP, va_K.moved hW.alike hK, hD⟩, hS.F ht⟩) hS.2.2 dX8_plant_19
  · rw [if_neg c4] at hf
    refine lv_iload_n hx hb dX8_plant_7 rfl (lv_at hl 2 rfl) ?_
    refine lv_iconst (v := 1) hx hb dX8_plant_8 (by decide) ?_
    refine lv_bipush (v := 20) hx hb dX8_plant_9 (by decide) ?_
    obtain ⟨r11_5, hc_6, hf⟩ := bd1_e hf
    refine vp_callSi (va_runS (As := [.int x2, .int 1, .int 20]) (rest := []) ⟨hx, hb, hml, hown, hts⟩ (c_X8_in l dC dI cI cZ cP cS   x2 1 20 n r11_5 hc_6) (va_cwS 3 hts gX8_plant_X8_in rfl rfl rfl (by decide +kernel) ⟨Nat.le_of_ble_eq_true rfl, Nat.le_of_ble_eq_true rfl⟩) (ps_ro hK (hP.sub (ws' := ([] : va_W)) [] rfl)) rfl rfl hl.1 rfl (lv_room (Nat.le_of_ble_eq_true rfl)) dX8_plant_11 ⟨Nat.zero_le _, Nat.zero_le _⟩).run (fun x e_7 => ?_)
    obtain ⟨e_7, hb_8⟩ := e_7
    rw [e_7] at hb_8 ⊢
    refine lv_if_ne (tgt := 20) hx hb dX8_plant_14 (by decide) (fun c14 => ?_) (fun c14 => ?_)
    · rw [if_neg c14] at hf
      refine lv_aload_n hx hb dX8_plant_20 rfl (lv_at hl 0 rfl) ?_
      refine va_get (D := (dC, dI)) (ci := 7) (v := .ref h_t_ripes) (C := RX8) (T := TX8) (N := 24) hx hb hts hinX8 hown hK hP 0 rfl rfl 15 (by decide) (hts (.fieldLink RX8 44 "SecondSunriseModel" "ripes" "[I") (by decide +kernel)) (fun _ h9 => h9) rfl dX8_plant_21 ?_
      refine lv_iload_n hx hb dX8_plant_24 rfl (lv_at hl 1 rfl) ?_
      obtain ⟨hi_9, hf⟩ := ix_e hf
      refine va_iald hx hb hK hP 1 0 rfl rfl hi_9 dX8_plant_25 ?_
      refine lv_istore_n (lv' := [(3, .int (v_m_ripes x1.toNatClampNeg)), (0, .ref h_t), (1, .int x1), (2, .int x2)]) hx hb dX8_plant_26 rfl hl (by decide) rfl (fun ls hl => ?_)
      refine lv_aload_n hx hb dX8_plant_27 rfl (lv_at hl 1 rfl) ?_
      refine va_get (D := (dC, dI)) (ci := 7) (v := .ref h_t_ripes) (C := RX8) (T := TX8) (N := 24) hx hb hts hinX8 hown hK hP 0 rfl rfl 15 (by decide) (hts (.fieldLink RX8 44 "SecondSunriseModel" "ripes" "[I") (by decide +kernel)) (fun _ h9 => h9) rfl dX8_plant_28 ?_
      refine lv_iload_n hx hb dX8_plant_31 rfl (lv_at hl 2 rfl) ?_
      refine lv_iload_n hx hb dX8_plant_32 rfl (lv_at hl 3 rfl) ?_
      obtain ⟨hi_10, hf⟩ := ix_e hf
      refine va_iast hx hb hK hP hD hS 1 0 rfl rfl hi_10 dX8_plant_33 (fun H locs hP hD hS => ?_)
      have hP : va_P (dC, dI) vwCl (wd_X8_plant cI cZ cP cS h_t h_t_turns h_t_phases h_t_ups h_t_typed h_t_texts h_t_diary h_t_longs h_t_awakes h_t_fit h_t_counts h_t_worths h_t_ripes h_t_growths h_t_gains h_t_isThere h_t_forms h_t_sizes h_t_items h_t_moved v_m_hours v_m_months v_m_fitMany v_m_fitFirst v_m_finding (upd v_m_ripes x1.toNatClampNeg x2)) H := hP
      have hD : va_D (va_A (wd_X8_plant cI cZ cP cS h_t h_t_turns h_t_phases h_t_ups h_t_typed h_t_texts h_t_diary h_t_longs h_t_awakes h_t_fit h_t_counts h_t_worths h_t_ripes h_t_growths h_t_gains h_t_isThere h_t_forms h_t_sizes h_t_items h_t_moved v_m_hours v_m_months v_m_fitMany v_m_fitFirst v_m_finding v_m_ripes) s.heap.size) (wd_X8_plant cI cZ cP cS h_t h_t_turns h_t_phases h_t_ups h_t_typed h_t_texts h_t_diary h_t_longs h_t_awakes h_t_fit h_t_counts h_t_worths h_t_ripes h_t_growths h_t_gains h_t_isThere h_t_forms h_t_sizes h_t_items h_t_moved v_m_hours v_m_months v_m_fitMany v_m_fitFirst v_m_finding (upd v_m_ripes x1.toNatClampNeg x2)) := hD
      refine lv_iload_n hx hb dX8_plant_34 rfl (lv_at hl 0 rfl) ?_
      have hq0 := Option.some.inj hf
      obtain ⟨eq0, hq1⟩ := Prod.mk.inj hq0
      clear hf hq0
      subst eq0
      subst hq1
      exact W.iret hx hb hr (fun t ht hW => ⟨⟨_, (), rfl, rfl, by rw [ht]; exact hP, va_K.moved hW.alike hK, hD⟩, hS.F ht⟩) hS.2.2 dX8_plant_35
    · rw [if_pos c14] at hf
      refine lv_bipush (v := (-2)) hx hb dX8_plant_17 (by decide) ?_
      have hq0 := Option.some.inj hf
      obtain ⟨eq0, hq1⟩ := Prod.mk.inj hq0
      clear hf hq0
      subst eq0
      subst hq1
      exact W.iret hx hb hr (fun t ht hW => ⟨⟨_, (), rfl, rfl, by rw [ht]; exact hP, va_K.moved hW.alike hK, hD⟩, hS.F ht⟩) hS.2.2 dX8_plant_19

abbrev wd_X8_planting (cI cZ cP cS : ClassId) (h_t h_t_turns h_t_phases h_t_ups h_t_typed h_t_texts h_t_diary h_t_longs h_t_awakes h_t_fit h_t_counts h_t_worths h_t_ripes h_t_growths h_t_gains h_t_isThere h_t_forms h_t_sizes h_t_items h_t_moved : Nat) (v_m_hours : Int32) (v_m_months : Int32) (v_m_fitMany : Int32) (v_m_fitFirst : Int32) (v_m_finding : Int32) (v_m_turns : Nat → Int32) (v_m_phases : Nat → Int32) (v_m_ups : Nat → Int32) (v_m_ripes : Nat → Int32) (v_m_growths : Nat → Int32) (v_m_gains : Nat → Int32) : va_W := [(h_t, .inr (7, [.ref h_t_turns, .ref h_t_phases, .ref h_t_ups, .ref h_t_typed, .ref h_t_texts, .int v_m_hours, .ref h_t_diary, .int v_m_months, .ref h_t_longs, .ref h_t_awakes, .ref h_t_fit, .int v_m_fitMany, .int v_m_fitFirst, .ref h_t_counts, .ref h_t_worths, .ref h_t_ripes, .ref h_t_growths, .ref h_t_gains, .ref h_t_isThere, .ref h_t_forms, .ref h_t_sizes, .ref h_t_items, .ref h_t_moved, .int v_m_finding])), (h_t_turns, .inl (cI, 2, .inl v_m_turns)), (h_t_phases, .inl (cI, 2, .inl v_m_phases)), (h_t_ups, .inl (cI, 2, .inl v_m_ups)), (h_t_ripes, .inl (cI, 4, .inl v_m_ripes)), (h_t_growths, .inl (cI, 16, .inl v_m_growths)), (h_t_gains, .inl (cI, 62, .inl v_m_gains))]
abbrev rm_X8_planting : Room := { frames := 5, cells := 0, slots := 0, locals := 116 }
def f_X8_planting (n : Nat) (v_m_turns : Nat → Int32) (v_m_phases : Nat → Int32) (v_m_ups : Nat → Int32) (v_m_ripes : Nat → Int32) (v_m_growths : Nat → Int32) (v_m_gains : Nat → Int32) (x1 : Int32) (x2 : Int32) (x3 : Int32) : Option (Int32 × (Nat → Int32)) := bd1_ (f_X8_isHour n x1) (fun (r1_1 : Int32) => jn0_ (some ((-2), v_m_gains)) (fun k36 => if r1_1 = 0 then k36 else bd1_ (f_X8_in n x2 0 60) (fun (r11_5 : Int32) => if r11_5 = 0 then k36 else bd1_ (f_X8_in n x3 0 1) (fun (r20_9 : Int32) => if r20_9 = 0 then k36 else bd2_ (f_X8_plantingOf n v_m_turns v_m_phases v_m_ups v_m_ripes v_m_growths v_m_gains x1 x2 x3) (fun (r30_13 : Int32) (o30_14 : Nat → Int32) => some (r30_13, o30_14))))))
set_option maxHeartbeats 4000000 in
set_option maxRecDepth 100000 in
theorem c_X8_planting (l : Launch) (dC : Nat → ClassId) (dI : Nat → Nat → Nat) (cI cZ cP cS : ClassId) (sz : Nat) (h_t h_t_turns h_t_phases h_t_ups h_t_typed h_t_texts h_t_diary h_t_longs h_t_awakes h_t_fit h_t_counts h_t_worths h_t_ripes h_t_growths h_t_gains h_t_isThere h_t_forms h_t_sizes h_t_items h_t_moved : Nat) (v_m_hours : Int32) (v_m_months : Int32) (v_m_fitMany : Int32) (v_m_fitFirst : Int32) (v_m_finding : Int32) (v_m_turns : Nat → Int32) (v_m_phases : Nat → Int32) (v_m_ups : Nat → Int32) (v_m_ripes : Nat → Int32) (v_m_growths : Nat → Int32) (v_m_gains : Nat → Int32) (x1 : Int32) (x2 : Int32) (x3 : Int32) (n : Nat) (r : Int32) (o_m_gains : Nat → Int32) (hf : f_X8_planting n v_m_turns v_m_phases v_m_ups v_m_ripes v_m_growths v_m_gains x1 x2 x3 = some (r, o_m_gains)) : Met l yX8_planting wsX8_planting rm_X8_planting (RW (dC, dI) (TY cI cZ cP cS) [.ref h_t, .int x1, .int x2, .int x3] sz (wd_X8_planting cI cZ cP cS h_t h_t_turns h_t_phases h_t_ups h_t_typed h_t_texts h_t_diary h_t_longs h_t_awakes h_t_fit h_t_counts h_t_worths h_t_ripes h_t_growths h_t_gains h_t_isThere h_t_forms h_t_sizes h_t_items h_t_moved v_m_hours v_m_months v_m_fitMany v_m_fitFirst v_m_finding v_m_turns v_m_phases v_m_ups v_m_ripes v_m_growths v_m_gains)) (RWi (dC, dI) (TY cI cZ cP cS) r sz (wd_X8_planting cI cZ cP cS h_t h_t_turns h_t_phases h_t_ups h_t_typed h_t_texts h_t_diary h_t_longs h_t_awakes h_t_fit h_t_counts h_t_worths h_t_ripes h_t_growths h_t_gains h_t_isThere h_t_forms h_t_sizes h_t_items h_t_moved v_m_hours v_m_months v_m_fitMany v_m_fitFirst v_m_finding v_m_turns v_m_phases v_m_ups v_m_ripes v_m_growths v_m_gains) (wd_X8_planting cI cZ cP cS h_t h_t_turns h_t_phases h_t_ups h_t_typed h_t_texts h_t_diary h_t_longs h_t_awakes h_t_fit h_t_counts h_t_worths h_t_ripes h_t_growths h_t_gains h_t_isThere h_t_forms h_t_sizes h_t_items h_t_moved v_m_hours v_m_months v_m_fitMany v_m_fitFirst v_m_finding v_m_turns v_m_phases v_m_ups v_m_ripes v_m_growths o_m_gains)) 0 0 (va_A (wd_X8_planting cI cZ cP cS h_t h_t_turns h_t_phases h_t_ups h_t_typed h_t_texts h_t_diary h_t_longs h_t_awakes h_t_fit h_t_counts h_t_worths h_t_ripes h_t_growths h_t_gains h_t_isThere h_t_forms h_t_sizes h_t_items h_t_moved v_m_hours v_m_months v_m_fitMany v_m_fitFirst v_m_finding v_m_turns v_m_phases v_m_ups v_m_ripes v_m_growths v_m_gains) sz) := by
  refine Met.ofW (cc := cX8_planting) (maxL := 4) (ret := (some .int)) (by decide) rfl ?_
  intro p e s m args below meth c s₁ B hml hv
  obtain ⟨rfl, hsz, hP, hK, hD0⟩ := hv
  have hx := B.exec
  have hb := B.bytes
  have hr := B.returns
  have hts := atoms_spec (ws := wsX8_planting) B.pre
  have hown : s.vm.findClass RX8 = some m.cls := findClass_of_methodNamed B.named
  have hlocks := B.notSynchronized
  subst hsz
  have hD := hD0.self (sz := s.heap.size)
  have hA : ∀ q : Nat, s.heap.size ≤ q → (va_A (wd_X8_planting cI cZ cP cS h_t h_t_turns h_t_phases h_t_ups h_t_typed h_t_texts h_t_diary h_t_longs h_t_awakes h_t_fit h_t_counts h_t_worths h_t_ripes h_t_growths h_t_gains h_t_isThere h_t_forms h_t_sizes h_t_items h_t_moved v_m_hours v_m_months v_m_fitMany v_m_fitFirst v_m_finding v_m_turns v_m_phases v_m_ups v_m_ripes v_m_growths v_m_gains) s.heap.size) q := fun q h => Or.inr h
  have hS : va_S (va_A (wd_X8_planting cI cZ cP cS h_t h_t_turns h_t_phases h_t_ups h_t_typed h_t_texts h_t_diary h_t_longs h_t_awakes h_t_fit h_t_counts h_t_worths h_t_ripes h_t_growths h_t_gains h_t_isThere h_t_forms h_t_sizes h_t_items h_t_moved v_m_hours v_m_months v_m_fitMany v_m_fitFirst v_m_finding v_m_turns v_m_phases v_m_ups v_m_ripes v_m_growths v_m_gains) s.heap.size) s.heap s.heap [] := va_S.rf
  have hl := lv_entry ([.ref h_t, .int x1, .int x2, .int x3]) (n := 4) (Nat.le_of_ble_eq_true rfl)
  rw [lg_entry_eq]
  generalize (lg_sl ([.ref h_t, .int x1, .int x2, .int x3]) ++ List.replicate (4 - (lg_sl ([.ref h_t, .int x1, .int x2, .int x3])).length) Slot.unset).toArray = ls at hl ⊢
  have hl : lv_has ls 4 [(0, .ref h_t), (1, .int x1), (2, .int x2), (3, .int x3)] := hl
  obtain ⟨H, hH⟩ : ∃ H : Heap, H = s.heap := ⟨_, rfl⟩
  have hP : va_P (dC, dI) vwCl (wd_X8_planting cI cZ cP cS h_t h_t_turns h_t_phases h_t_ups h_t_typed h_t_texts h_t_diary h_t_longs h_t_awakes h_t_fit h_t_counts h_t_worths h_t_ripes h_t_growths h_t_gains h_t_isThere h_t_forms h_t_sizes h_t_items h_t_moved v_m_hours v_m_months v_m_fitMany v_m_fitFirst v_m_finding v_m_turns v_m_phases v_m_ups v_m_ripes v_m_growths v_m_gains) H := by rw [hH]; exact hP
  have hS : va_S (va_A (wd_X8_planting cI cZ cP cS h_t h_t_turns h_t_phases h_t_ups h_t_typed h_t_texts h_t_diary h_t_longs h_t_awakes h_t_fit h_t_counts h_t_worths h_t_ripes h_t_growths h_t_gains h_t_isThere h_t_forms h_t_sizes h_t_items h_t_moved v_m_hours v_m_months v_m_fitMany v_m_fitFirst v_m_finding v_m_turns v_m_phases v_m_ups v_m_ripes v_m_growths v_m_gains) s.heap.size) s.heap H [] := by rw [hH]; exact hS
  obtain ⟨locs, hlo⟩ : ∃ L : List Loc, L = [] := ⟨_, rfl⟩
  rw [← hlo] at hS
  suffices hgo : W p l e (headSpec wsX8_planting rm_X8_planting).room s m ([.ref h_t, .int x1, .int x2, .int x3] : List Value).toArray below meth c H locs 0 0 (MQ below (RWi (dC, dI) (TY cI cZ cP cS) r s.heap.size (wd_X8_planting cI cZ cP cS h_t h_t_turns h_t_phases h_t_ups h_t_typed h_t_texts h_t_diary h_t_longs h_t_awakes h_t_fit h_t_counts h_t_worths h_t_ripes h_t_growths h_t_gains h_t_isThere h_t_forms h_t_sizes h_t_items h_t_moved v_m_hours v_m_months v_m_fitMany v_m_fitFirst v_m_finding v_m_turns v_m_phases v_m_ups v_m_ripes v_m_growths v_m_gains) (wd_X8_planting cI cZ cP cS h_t h_t_turns h_t_phases h_t_ups h_t_typed h_t_texts h_t_diary h_t_longs h_t_awakes h_t_fit h_t_counts h_t_worths h_t_ripes h_t_growths h_t_gains h_t_isThere h_t_forms h_t_sizes h_t_items h_t_moved v_m_hours v_m_months v_m_fitMany v_m_fitFirst v_m_finding v_m_turns v_m_phases v_m_ups v_m_ripes v_m_growths o_m_gains)) ([.ref h_t, .int x1, .int x2, .int x3] : List Value).toArray s 0 0 (va_A (wd_X8_planting cI cZ cP cS h_t h_t_turns h_t_phases h_t_ups h_t_typed h_t_texts h_t_diary h_t_longs h_t_awakes h_t_fit h_t_counts h_t_worths h_t_ripes h_t_growths h_t_gains h_t_isThere h_t_forms h_t_sizes h_t_items h_t_moved v_m_hours v_m_months v_m_fitMany v_m_fitFirst v_m_finding v_m_turns v_m_phases v_m_ups v_m_ripes v_m_growths v_m_gains) s.heap.size)) (F0 m 0 ls []) by rw [hH, hlo] at hgo; exact hgo
  clear hH hlo
  unfold f_X8_planting at hf
  refine lv_iload_n hx hb dX8_planting_0 rfl (lv_at hl 1 rfl) ?_
  obtain ⟨r1_1, hc_2, hf⟩ := bd1_e hf
  refine vp_callSi (va_runS (As := [.int x1]) (rest := []) ⟨hx, hb, hml, hown, hts⟩ (c_X8_isHour l dC dI cI cZ cP cS   x1 n r1_1 hc_2) (va_cwS 1 hts gX8_planting_X8_isHour rfl rfl rfl (by decide +kernel) ⟨Nat.le_of_ble_eq_true rfl, Nat.le_of_ble_eq_true rfl⟩) (ps_ro hK (hP.sub (ws' := ([] : va_W)) [] rfl)) rfl rfl hl.1 rfl (lv_room (Nat.le_of_ble_eq_true rfl)) dX8_planting_1 ⟨Nat.zero_le _, Nat.zero_le _⟩).run (fun x e_3 => ?_)
  obtain ⟨e_3, hb_4⟩ := e_3
  rw [e_3] at hb_4 ⊢
  obtain ⟨k36, ek36, hf⟩ := jn0_e hf
  have hj36 : ∀ (ls : Array Slot), lv_has ls 4 [] → k36 = some (r, o_m_gains) → W p l e (headSpec wsX8_planting rm_X8_planting).room s m ([.ref h_t, .int x1, .int x2, .int x3] : List Value).toArray below meth c H locs 0 0 (MQ below (RWi (dC, dI) (TY cI cZ cP cS) r s.heap.size (wd_X8_planting cI cZ cP cS h_t h_t_turns h_t_phases h_t_ups h_t_typed h_t_texts h_t_diary h_t_longs h_t_awakes h_t_fit h_t_counts h_t_worths h_t_ripes h_t_growths h_t_gains h_t_isThere h_t_forms h_t_sizes h_t_items h_t_moved v_m_hours v_m_months v_m_fitMany v_m_fitFirst v_m_finding v_m_turns v_m_phases v_m_ups v_m_ripes v_m_growths v_m_gains) (wd_X8_planting cI cZ cP cS h_t h_t_turns h_t_phases h_t_ups h_t_typed h_t_texts h_t_diary h_t_longs h_t_awakes h_t_fit h_t_counts h_t_worths h_t_ripes h_t_growths h_t_gains h_t_isThere h_t_forms h_t_sizes h_t_items h_t_moved v_m_hours v_m_months v_m_fitMany v_m_fitFirst v_m_finding v_m_turns v_m_phases v_m_ups v_m_ripes v_m_growths o_m_gains)) ([.ref h_t, .int x1, .int x2, .int x3] : List Value).toArray s 0 0 (va_A (wd_X8_planting cI cZ cP cS h_t h_t_turns h_t_phases h_t_ups h_t_typed h_t_texts h_t_diary h_t_longs h_t_awakes h_t_fit h_t_counts h_t_worths h_t_ripes h_t_growths h_t_gains h_t_isThere h_t_forms h_t_sizes h_t_items h_t_moved v_m_hours v_m_months v_m_fitMany v_m_fitFirst v_m_finding v_m_turns v_m_phases v_m_ups v_m_ripes v_m_growths v_m_gains) s.heap.size)) (F0 m 36 ls []) := by
    intro ls hl hf
    rw [ek36] at hf
    refine lv_bipush (v := (-2)) hx hb dX8_planting_36 (by decide) ?_
    have hq0 := Option.some.inj hf
    obtain ⟨eq0, hq1⟩ := Prod.mk.inj hq0
    clear hf hq0
    subst eq0
    subst hq1
    exact W.iret hx hb hr (fun t ht hW => ⟨⟨_, (), rfl, rfl, by rw [ht]; exact hP, va_K.moved hW.alike hK, hD⟩, hS.F ht⟩) hS.2.2 dX8_planting_38
  refine lv_if_eq (tgt := 36) hx hb dX8_planting_4 (by decide) (fun c4 => ?_) (fun c4 => ?_)
  · rw [if_pos c4] at hf
    exact hj36 ls (lv_sub hl [] rfl) hf
  · rw [if_neg c4] at hf
    refine lv_iload_n hx hb dX8_planting_7 rfl (lv_at hl 2 rfl) ?_
    refine lv_iconst (v := 0) hx hb dX8_planting_8 (by decide) ?_
    refine lv_bipush (v := 60) hx hb dX8_planting_9 (by decide) ?_
    obtain ⟨r11_5, hc_6, hf⟩ := bd1_e hf
    refine vp_callSi (va_runS (As := [.int x2, .int 0, .int 60]) (rest := []) ⟨hx, hb, hml, hown, hts⟩ (c_X8_in l dC dI cI cZ cP cS   x2 0 60 n r11_5 hc_6) (va_cwS 3 hts gX8_planting_X8_in rfl rfl rfl (by decide +kernel) ⟨Nat.le_of_ble_eq_true rfl, Nat.le_of_ble_eq_true rfl⟩) (ps_ro hK (hP.sub (ws' := ([] : va_W)) [] rfl)) rfl rfl hl.1 rfl (lv_room (Nat.le_of_ble_eq_true rfl)) dX8_planting_11 ⟨Nat.zero_le _, Nat.zero_le _⟩).run (fun x e_7 => ?_)
    obtain ⟨e_7, hb_8⟩ := e_7
    rw [e_7] at hb_8 ⊢
    refine lv_if_eq (tgt := 36) hx hb dX8_planting_14 (by decide) (fun c14 => ?_) (fun c14 => ?_)
    · rw [if_pos c14] at hf
      exact hj36 ls (lv_sub hl [] rfl) hf
    · rw [if_neg c14] at hf
      refine lv_iload_n hx hb dX8_planting_17 rfl (lv_at hl 3 rfl) ?_
      refine lv_iconst (v := 0) hx hb dX8_planting_18 (by decide) ?_
      refine lv_iconst (v := 1) hx hb dX8_planting_19 (by decide) ?_
      obtain ⟨r20_9, hc_10, hf⟩ := bd1_e hf
      refine vp_callSi (va_runS (As := [.int x3, .int 0, .int 1]) (rest := []) ⟨hx, hb, hml, hown, hts⟩ (c_X8_in l dC dI cI cZ cP cS   x3 0 1 n r20_9 hc_10) (va_cwS 3 hts gX8_planting_X8_in rfl rfl rfl (by decide +kernel) ⟨Nat.le_of_ble_eq_true rfl, Nat.le_of_ble_eq_true rfl⟩) (ps_ro hK (hP.sub (ws' := ([] : va_W)) [] rfl)) rfl rfl hl.1 rfl (lv_room (Nat.le_of_ble_eq_true rfl)) dX8_planting_20 ⟨Nat.zero_le _, Nat.zero_le _⟩).run (fun x e_11 => ?_)
      obtain ⟨e_11, hb_12⟩ := e_11
      rw [e_11] at hb_12 ⊢
      refine lv_if_eq (tgt := 36) hx hb dX8_planting_23 (by decide) (fun c23 => ?_) (fun c23 => ?_)
      · rw [if_pos c23] at hf
        exact hj36 ls (lv_sub hl [] rfl) hf
      · rw [if_neg c23] at hf
        refine lv_aload_n hx hb dX8_planting_26 rfl (lv_at hl 0 rfl) ?_
        refine lv_iload_n hx hb dX8_planting_27 rfl (lv_at hl 1 rfl) ?_
        refine lv_iload_n hx hb dX8_planting_28 rfl (lv_at hl 2 rfl) ?_
        refine lv_iload_n hx hb dX8_planting_29 rfl (lv_at hl 3 rfl) ?_
        obtain ⟨r30_13, o30_14, hc_15, hf⟩ := bd2_e hf
        refine rwi_call (isC := [0, 1, 2, 3, 4, 5, 6]) (isR := []) (perm := [0, 1, 2, 3, 4, 5, 6]) (wr := []) (ws2 := (wd_X8_planting cI cZ cP cS h_t h_t_turns h_t_phases h_t_ups h_t_typed h_t_texts h_t_diary h_t_longs h_t_awakes h_t_fit h_t_counts h_t_worths h_t_ripes h_t_growths h_t_gains h_t_isThere h_t_forms h_t_sizes h_t_items h_t_moved v_m_hours v_m_months v_m_fitMany v_m_fitFirst v_m_finding v_m_turns v_m_phases v_m_ups v_m_ripes v_m_growths o30_14)) (va_runV (As := [.int x1, .int x2, .int x3]) (rest := []) ⟨hx, hb, hml, hown, hts⟩ (c_X8_plantingOf l dC dI cI cZ cP cS H.size h_t h_t_turns h_t_phases h_t_ups h_t_typed h_t_texts h_t_diary h_t_longs h_t_awakes h_t_fit h_t_counts h_t_worths h_t_ripes h_t_growths h_t_gains h_t_isThere h_t_forms h_t_sizes h_t_items h_t_moved v_m_hours v_m_months v_m_fitMany v_m_fitFirst v_m_finding v_m_turns v_m_phases v_m_ups v_m_ripes v_m_growths v_m_gains x1 x2 x3 n r30_13 o30_14 hc_15) (cwV 3 hts gX8_planting_X8_plantingOf rfl rfl rfl (by decide +kernel) ⟨Nat.le_of_ble_eq_true rfl, Nat.le_of_ble_eq_true rfl⟩) (pv_rw (ci := 7) (q0 := 0) hK (hP.sub (ws' := (wd_X8_plantingOf cI cZ cP cS h_t h_t_turns h_t_phases h_t_ups h_t_typed h_t_texts h_t_diary h_t_longs h_t_awakes h_t_fit h_t_counts h_t_worths h_t_ripes h_t_growths h_t_gains h_t_isThere h_t_forms h_t_sizes h_t_items h_t_moved v_m_hours v_m_months v_m_fitMany v_m_fitFirst v_m_finding v_m_turns v_m_phases v_m_ups v_m_ripes v_m_growths v_m_gains)) [0, 1, 2, 3, 4, 5, 6] rfl) (hD.sub (ws' := (wd_X8_plantingOf cI cZ cP cS h_t h_t_turns h_t_phases h_t_ups h_t_typed h_t_texts h_t_diary h_t_longs h_t_awakes h_t_fit h_t_counts h_t_worths h_t_ripes h_t_growths h_t_gains h_t_isThere h_t_forms h_t_sizes h_t_items h_t_moved v_m_hours v_m_months v_m_fitMany v_m_fitFirst v_m_finding v_m_turns v_m_phases v_m_ups v_m_ripes v_m_growths v_m_gains)) [0, 1, 2, 3, 4, 5, 6] (by decide) rfl) rfl rfl) rfl rfl hl.1 rfl (lv_room (Nat.le_of_ble_eq_true rfl)) dX8_planting_30 ⟨Nat.zero_le _, Nat.zero_le _⟩) hS hA hP hD rfl (by decide) (by decide) rfl (by decide) rfl rfl (fun H locs hP hD hS => ?_)
        refine lv_goto (tgt := 38) hx hb dX8_planting_33 (by decide) ?_
        have hq0 := Option.some.inj hf
        obtain ⟨eq0, hq1⟩ := Prod.mk.inj hq0
        clear hf hq0
        subst eq0
        subst hq1
        exact W.iret hx hb hr (fun t ht hW => ⟨⟨_, (), rfl, rfl, by rw [ht]; exact hP, va_K.moved hW.alike hK, hD⟩, hS.F ht⟩) hS.2.2 dX8_planting_38

abbrev wd_X8_price (cI cZ cP cS : ClassId) (h_t h_t_turns h_t_phases h_t_ups h_t_typed h_t_texts h_t_diary h_t_longs h_t_awakes h_t_fit h_t_counts h_t_worths h_t_ripes h_t_growths h_t_gains h_t_isThere h_t_forms h_t_sizes h_t_items h_t_moved : Nat) (v_m_hours : Int32) (v_m_months : Int32) (v_m_fitMany : Int32) (v_m_fitFirst : Int32) (v_m_finding : Int32) (v_m_awakes : Nat → Int32) (v_m_worths : Nat → Int32) : va_W := [(h_t, .inr (7, [.ref h_t_turns, .ref h_t_phases, .ref h_t_ups, .ref h_t_typed, .ref h_t_texts, .int v_m_hours, .ref h_t_diary, .int v_m_months, .ref h_t_longs, .ref h_t_awakes, .ref h_t_fit, .int v_m_fitMany, .int v_m_fitFirst, .ref h_t_counts, .ref h_t_worths, .ref h_t_ripes, .ref h_t_growths, .ref h_t_gains, .ref h_t_isThere, .ref h_t_forms, .ref h_t_sizes, .ref h_t_items, .ref h_t_moved, .int v_m_finding])), (h_t_awakes, .inl (cI, 6, .inl v_m_awakes)), (h_t_worths, .inl (cI, 6, .inl v_m_worths))]
abbrev rm_X8_price : Room := { frames := 2, cells := 0, slots := 0, locals := 47 }
def f_X8_price (n : Nat) (v_m_awakes : Nat → Int32) (v_m_worths : Nat → Int32) (x1 : Int32) : Option (Int32) := bd1_ (f_X8_in n x1 0 6) (fun (r4_1 : Int32) => if r4_1 = 0 then some (-2) else bd1_ (f_X8_priceOf n v_m_awakes v_m_worths x1) (fun (r12_5 : Int32) => some r12_5))
set_option maxHeartbeats 4000000 in
set_option maxRecDepth 100000 in
theorem c_X8_price (l : Launch) (dC : Nat → ClassId) (dI : Nat → Nat → Nat) (cI cZ cP cS : ClassId) (h_t h_t_turns h_t_phases h_t_ups h_t_typed h_t_texts h_t_diary h_t_longs h_t_awakes h_t_fit h_t_counts h_t_worths h_t_ripes h_t_growths h_t_gains h_t_isThere h_t_forms h_t_sizes h_t_items h_t_moved : Nat) (v_m_hours : Int32) (v_m_months : Int32) (v_m_fitMany : Int32) (v_m_fitFirst : Int32) (v_m_finding : Int32) (v_m_awakes : Nat → Int32) (v_m_worths : Nat → Int32) (x1 : Int32) (n : Nat) (r : Int32) (hf : f_X8_price n v_m_awakes v_m_worths x1 = some r) : Met l yX8_price wsX8_price rm_X8_price (RO (dC, dI) (TY cI cZ cP cS) [.ref h_t, .int x1] (wd_X8_price cI cZ cP cS h_t h_t_turns h_t_phases h_t_ups h_t_typed h_t_texts h_t_diary h_t_longs h_t_awakes h_t_fit h_t_counts h_t_worths h_t_ripes h_t_growths h_t_gains h_t_isThere h_t_forms h_t_sizes h_t_items h_t_moved v_m_hours v_m_months v_m_fitMany v_m_fitFirst v_m_finding v_m_awakes v_m_worths)) (vp_Si (fun x => x = r)) 0 0 NF := by
  refine Met.ofW (cc := cX8_price) (maxL := 2) (ret := (some .int)) (by decide) rfl ?_
  intro p e s m args below meth c s₁ B hml hv
  obtain ⟨rfl, hP, hK⟩ := hv
  have hx := B.exec
  have hb := B.bytes
  have hr := B.returns
  have hts := atoms_spec (ws := wsX8_price) B.pre
  have hown : s.vm.findClass RX8 = some m.cls := findClass_of_methodNamed B.named
  have hlocks := B.notSynchronized
  have hl := lv_entry ([.ref h_t, .int x1]) (n := 2) (Nat.le_of_ble_eq_true rfl)
  rw [lg_entry_eq]
  generalize (lg_sl ([.ref h_t, .int x1]) ++ List.replicate (2 - (lg_sl ([.ref h_t, .int x1])).length) Slot.unset).toArray = ls at hl ⊢
  have hl : lv_has ls 2 [(0, .ref h_t), (1, .int x1)] := hl
  unfold f_X8_price at hf
  refine lv_iload_n hx hb dX8_price_0 rfl (lv_at hl 1 rfl) ?_
  refine lv_iconst (v := 0) hx hb dX8_price_1 (by decide) ?_
  refine lv_bipush (v := 6) hx hb dX8_price_2 (by decide) ?_
  obtain ⟨r4_1, hc_2, hf⟩ := bd1_e hf
  refine vp_callSi (va_runS (As := [.int x1, .int 0, .int 6]) (rest := []) ⟨hx, hb, hml, hown, hts⟩ (c_X8_in l dC dI cI cZ cP cS   x1 0 6 n r4_1 hc_2) (va_cwS 3 hts gX8_price_X8_in rfl rfl rfl (by decide +kernel) ⟨Nat.le_of_ble_eq_true rfl, Nat.le_of_ble_eq_true rfl⟩) (ps_ro hK (hP.sub (ws' := ([] : va_W)) [] rfl)) rfl rfl hl.1 rfl (lv_room (Nat.le_of_ble_eq_true rfl)) dX8_price_4 ⟨Nat.zero_le _, Nat.zero_le _⟩).run (fun x e_3 => ?_)
  obtain ⟨e_3, hb_4⟩ := e_3
  rw [e_3] at hb_4 ⊢
  refine lv_if_eq (tgt := 18) hx hb dX8_price_7 (by decide) (fun c7 => ?_) (fun c7 => ?_)
  · rw [if_pos c7] at hf
    refine lv_bipush (v := (-2)) hx hb dX8_price_18 (by decide) ?_
    exact W.iret hx hb hr (fun t ht hW => ⟨_, rfl, Option.some.inj hf, ht⟩) (fun _ h => nomatch h) dX8_price_20
  · rw [if_neg c7] at hf
    refine lv_aload_n hx hb dX8_price_10 rfl (lv_at hl 0 rfl) ?_
    refine lv_iload_n hx hb dX8_price_11 rfl (lv_at hl 1 rfl) ?_
    obtain ⟨r12_5, hc_6, hf⟩ := bd1_e hf
    refine vp_callSi (va_runV (As := [.int x1]) (rest := []) ⟨hx, hb, hml, hown, hts⟩ (c_X8_priceOf l dC dI cI cZ cP cS h_t h_t_turns h_t_phases h_t_ups h_t_typed h_t_texts h_t_diary h_t_longs h_t_awakes h_t_fit h_t_counts h_t_worths h_t_ripes h_t_growths h_t_gains h_t_isThere h_t_forms h_t_sizes h_t_items h_t_moved v_m_hours v_m_months v_m_fitMany v_m_fitFirst v_m_finding v_m_awakes v_m_worths x1 n r12_5 hc_6) (cwV 1 hts gX8_price_X8_priceOf rfl rfl rfl (by decide +kernel) ⟨Nat.le_of_ble_eq_true rfl, Nat.le_of_ble_eq_true rfl⟩) (pv_ro (ci := 7) (q0 := 0) hK (hP.sub (ws' := (wd_X8_priceOf cI cZ cP cS h_t h_t_turns h_t_phases h_t_ups h_t_typed h_t_texts h_t_diary h_t_longs h_t_awakes h_t_fit h_t_counts h_t_worths h_t_ripes h_t_growths h_t_gains h_t_isThere h_t_forms h_t_sizes h_t_items h_t_moved v_m_hours v_m_months v_m_fitMany v_m_fitFirst v_m_finding v_m_awakes v_m_worths)) [0, 1, 2] rfl) rfl rfl) rfl rfl hl.1 rfl (lv_room (Nat.le_of_ble_eq_true rfl)) dX8_price_12 ⟨Nat.zero_le _, Nat.zero_le _⟩).run (fun x e_7 => ?_)
    rw [e_7]
    refine lv_goto (tgt := 20) hx hb dX8_price_15 (by decide) ?_
    exact W.iret hx hb hr (fun t ht hW => ⟨_, rfl, Option.some.inj hf, ht⟩) (fun _ h => nomatch h) dX8_price_20

abbrev wd_X8_put (cI cZ cP cS : ClassId) (h_t h_t_turns h_t_phases h_t_ups h_t_typed h_t_texts h_t_diary h_t_longs h_t_awakes h_t_fit h_t_counts h_t_worths h_t_ripes h_t_growths h_t_gains h_t_isThere h_t_forms h_t_sizes h_t_items h_t_moved : Nat) (v_m_hours : Int32) (v_m_months : Int32) (v_m_fitMany : Int32) (v_m_fitFirst : Int32) (v_m_finding : Int32) (v_m_isThere : Nat → Int32) (v_m_forms : Nat → Int32) (v_m_sizes : Nat → Int32) (v_m_items : Nat → Int32) : va_W := [(h_t, .inr (7, [.ref h_t_turns, .ref h_t_phases, .ref h_t_ups, .ref h_t_typed, .ref h_t_texts, .int v_m_hours, .ref h_t_diary, .int v_m_months, .ref h_t_longs, .ref h_t_awakes, .ref h_t_fit, .int v_m_fitMany, .int v_m_fitFirst, .ref h_t_counts, .ref h_t_worths, .ref h_t_ripes, .ref h_t_growths, .ref h_t_gains, .ref h_t_isThere, .ref h_t_forms, .ref h_t_sizes, .ref h_t_items, .ref h_t_moved, .int v_m_finding])), (h_t_isThere, .inl (cZ, 4, .inl v_m_isThere)), (h_t_forms, .inl (cI, 4, .inl v_m_forms)), (h_t_sizes, .inl (cI, 4, .inl v_m_sizes)), (h_t_items, .inl (cI, 192, .inl v_m_items))]
abbrev rm_X8_put : Room := { frames := 2, cells := 0, slots := 0, locals := 45 }
def f_X8_put (n : Nat) (v_m_finding : Int32) (v_m_isThere : Nat → Int32) (v_m_forms : Nat → Int32) (v_m_sizes : Nat → Int32) (v_m_items : Nat → Int32) (x1 : Int32) (x2 : Int32) (x3 : Int32) (x4 : Int32) : Option (Int32 × Int32 × (Nat → Int32)) := bd1_ (f_X8_isSheet n x1) (fun (r1_1 : Int32) => if r1_1 = 0 then some ((-2), v_m_finding, v_m_items) else bd1_ (f_X8_in n x2 0 2) (fun (r10_5 : Int32) => if r10_5 = 0 then some ((-2), v_m_finding, v_m_items) else bd1_ (f_X8_lacks n v_m_isThere v_m_forms v_m_sizes x1 x2 x3) (fun (r23_9 : Int32) => if r23_9 ≤ 0 then bd1_ (f_X8_keep n v_m_forms v_m_items x1 x3 x4) (fun (o45_12 : Nat → Int32) => some (1, v_m_finding, o45_12)) else bd2_ (f_X8_meets n v_m_finding r23_9) (fun (r36_15 : Int32) (o36_16 : Int32) => some (r36_15, o36_16, v_m_items)))))
set_option maxHeartbeats 4000000 in
set_option maxRecDepth 100000 in
theorem c_X8_put (l : Launch) (dC : Nat → ClassId) (dI : Nat → Nat → Nat) (cI cZ cP cS : ClassId) (sz : Nat) (h_t h_t_turns h_t_phases h_t_ups h_t_typed h_t_texts h_t_diary h_t_longs h_t_awakes h_t_fit h_t_counts h_t_worths h_t_ripes h_t_growths h_t_gains h_t_isThere h_t_forms h_t_sizes h_t_items h_t_moved : Nat) (v_m_hours : Int32) (v_m_months : Int32) (v_m_fitMany : Int32) (v_m_fitFirst : Int32) (v_m_finding : Int32) (v_m_isThere : Nat → Int32) (v_m_forms : Nat → Int32) (v_m_sizes : Nat → Int32) (v_m_items : Nat → Int32) (x1 : Int32) (x2 : Int32) (x3 : Int32) (x4 : Int32) (n : Nat) (r : Int32) (o_m_finding : Int32) (o_m_items : Nat → Int32) (hf : f_X8_put n v_m_finding v_m_isThere v_m_forms v_m_sizes v_m_items x1 x2 x3 x4 = some (r, o_m_finding, o_m_items)) : Met l yX8_put wsX8_put rm_X8_put (RW (dC, dI) (TY cI cZ cP cS) [.ref h_t, .int x1, .int x2, .int x3, .int x4] sz (wd_X8_put cI cZ cP cS h_t h_t_turns h_t_phases h_t_ups h_t_typed h_t_texts h_t_diary h_t_longs h_t_awakes h_t_fit h_t_counts h_t_worths h_t_ripes h_t_growths h_t_gains h_t_isThere h_t_forms h_t_sizes h_t_items h_t_moved v_m_hours v_m_months v_m_fitMany v_m_fitFirst v_m_finding v_m_isThere v_m_forms v_m_sizes v_m_items)) (RWi (dC, dI) (TY cI cZ cP cS) r sz (wd_X8_put cI cZ cP cS h_t h_t_turns h_t_phases h_t_ups h_t_typed h_t_texts h_t_diary h_t_longs h_t_awakes h_t_fit h_t_counts h_t_worths h_t_ripes h_t_growths h_t_gains h_t_isThere h_t_forms h_t_sizes h_t_items h_t_moved v_m_hours v_m_months v_m_fitMany v_m_fitFirst v_m_finding v_m_isThere v_m_forms v_m_sizes v_m_items) (wd_X8_put cI cZ cP cS h_t h_t_turns h_t_phases h_t_ups h_t_typed h_t_texts h_t_diary h_t_longs h_t_awakes h_t_fit h_t_counts h_t_worths h_t_ripes h_t_growths h_t_gains h_t_isThere h_t_forms h_t_sizes h_t_items h_t_moved v_m_hours v_m_months v_m_fitMany v_m_fitFirst o_m_finding v_m_isThere v_m_forms v_m_sizes o_m_items)) 0 0 (va_A (wd_X8_put cI cZ cP cS h_t h_t_turns h_t_phases h_t_ups h_t_typed h_t_texts h_t_diary h_t_longs h_t_awakes h_t_fit h_t_counts h_t_worths h_t_ripes h_t_growths h_t_gains h_t_isThere h_t_forms h_t_sizes h_t_items h_t_moved v_m_hours v_m_months v_m_fitMany v_m_fitFirst v_m_finding v_m_isThere v_m_forms v_m_sizes v_m_items) sz) := by
  refine Met.ofW (cc := cX8_put) (maxL := 6) (ret := (some .int)) (by decide) rfl ?_
  intro p e s m args below meth c s₁ B hml hv
  obtain ⟨rfl, hsz, hP, hK, hD0⟩ := hv
  have hx := B.exec
  have hb := B.bytes
  have hr := B.returns
  have hts := atoms_spec (ws := wsX8_put) B.pre
  have hown : s.vm.findClass RX8 = some m.cls := findClass_of_methodNamed B.named
  have hlocks := B.notSynchronized
  subst hsz
  have hD := hD0.self (sz := s.heap.size)
  have hA : ∀ q : Nat, s.heap.size ≤ q → (va_A (wd_X8_put cI cZ cP cS h_t h_t_turns h_t_phases h_t_ups h_t_typed h_t_texts h_t_diary h_t_longs h_t_awakes h_t_fit h_t_counts h_t_worths h_t_ripes h_t_growths h_t_gains h_t_isThere h_t_forms h_t_sizes h_t_items h_t_moved v_m_hours v_m_months v_m_fitMany v_m_fitFirst v_m_finding v_m_isThere v_m_forms v_m_sizes v_m_items) s.heap.size) q := fun q h => Or.inr h
  have hS : va_S (va_A (wd_X8_put cI cZ cP cS h_t h_t_turns h_t_phases h_t_ups h_t_typed h_t_texts h_t_diary h_t_longs h_t_awakes h_t_fit h_t_counts h_t_worths h_t_ripes h_t_growths h_t_gains h_t_isThere h_t_forms h_t_sizes h_t_items h_t_moved v_m_hours v_m_months v_m_fitMany v_m_fitFirst v_m_finding v_m_isThere v_m_forms v_m_sizes v_m_items) s.heap.size) s.heap s.heap [] := va_S.rf
  have hl := lv_entry ([.ref h_t, .int x1, .int x2, .int x3, .int x4]) (n := 6) (Nat.le_of_ble_eq_true rfl)
  rw [lg_entry_eq]
  generalize (lg_sl ([.ref h_t, .int x1, .int x2, .int x3, .int x4]) ++ List.replicate (6 - (lg_sl ([.ref h_t, .int x1, .int x2, .int x3, .int x4])).length) Slot.unset).toArray = ls at hl ⊢
  have hl : lv_has ls 6 [(0, .ref h_t), (1, .int x1), (2, .int x2), (3, .int x3), (4, .int x4)] := hl
  obtain ⟨H, hH⟩ : ∃ H : Heap, H = s.heap := ⟨_, rfl⟩
  have hP : va_P (dC, dI) vwCl (wd_X8_put cI cZ cP cS h_t h_t_turns h_t_phases h_t_ups h_t_typed h_t_texts h_t_diary h_t_longs h_t_awakes h_t_fit h_t_counts h_t_worths h_t_ripes h_t_growths h_t_gains h_t_isThere h_t_forms h_t_sizes h_t_items h_t_moved v_m_hours v_m_months v_m_fitMany v_m_fitFirst v_m_finding v_m_isThere v_m_forms v_m_sizes v_m_items) H := by rw [hH]; exact hP
  have hS : va_S (va_A (wd_X8_put cI cZ cP cS h_t h_t_turns h_t_phases h_t_ups h_t_typed h_t_texts h_t_diary h_t_longs h_t_awakes h_t_fit h_t_counts h_t_worths h_t_ripes h_t_growths h_t_gains h_t_isThere h_t_forms h_t_sizes h_t_items h_t_moved v_m_hours v_m_months v_m_fitMany v_m_fitFirst v_m_finding v_m_isThere v_m_forms v_m_sizes v_m_items) s.heap.size) s.heap H [] := by rw [hH]; exact hS
  obtain ⟨locs, hlo⟩ : ∃ L : List Loc, L = [] := ⟨_, rfl⟩
  rw [← hlo] at hS
  suffices hgo : W p l e (headSpec wsX8_put rm_X8_put).room s m ([.ref h_t, .int x1, .int x2, .int x3, .int x4] : List Value).toArray below meth c H locs 0 0 (MQ below (RWi (dC, dI) (TY cI cZ cP cS) r s.heap.size (wd_X8_put cI cZ cP cS h_t h_t_turns h_t_phases h_t_ups h_t_typed h_t_texts h_t_diary h_t_longs h_t_awakes h_t_fit h_t_counts h_t_worths h_t_ripes h_t_growths h_t_gains h_t_isThere h_t_forms h_t_sizes h_t_items h_t_moved v_m_hours v_m_months v_m_fitMany v_m_fitFirst v_m_finding v_m_isThere v_m_forms v_m_sizes v_m_items) (wd_X8_put cI cZ cP cS h_t h_t_turns h_t_phases h_t_ups h_t_typed h_t_texts h_t_diary h_t_longs h_t_awakes h_t_fit h_t_counts h_t_worths h_t_ripes h_t_growths h_t_gains h_t_isThere h_t_forms h_t_sizes h_t_items h_t_moved v_m_hours v_m_months v_m_fitMany v_m_fitFirst o_m_finding v_m_isThere v_m_forms v_m_sizes o_m_items)) ([.ref h_t, .int x1, .int x2, .int x3, .int x4] : List Value).toArray s 0 0 (va_A (wd_X8_put cI cZ cP cS h_t h_t_turns h_t_phases h_t_ups h_t_typed h_t_texts h_t_diary h_t_longs h_t_awakes h_t_fit h_t_counts h_t_worths h_t_ripes h_t_growths h_t_gains h_t_isThere h_t_forms h_t_sizes h_t_items h_t_moved v_m_hours v_m_months v_m_fitMany v_m_fitFirst v_m_finding v_m_isThere v_m_forms v_m_sizes v_m_items) s.heap.size)) (F0 m 0 ls []) by rw [hH, hlo] at hgo; exact hgo
  clear hH hlo
  unfold f_X8_put at hf
  refine lv_iload_n hx hb dX8_put_0 rfl (lv_at hl 1 rfl) ?_
  obtain ⟨r1_1, hc_2, hf⟩ := bd1_e hf
  refine vp_callSi (va_runS (As := [.int x1]) (rest := []) ⟨hx, hb, hml, hown, hts⟩ (c_X8_isSheet l dC dI cI cZ cP cS   x1 n r1_1 hc_2) (va_cwS 1 hts gX8_put_X8_isSheet rfl rfl rfl (by decide +kernel) ⟨Nat.le_of_ble_eq_true rfl, Nat.le_of_ble_eq_true rfl⟩) (ps_ro hK (hP.sub (ws' := ([] : va_W)) [] rfl)) rfl rfl hl.1 rfl (lv_room (Nat.le_of_ble_eq_true rfl)) dX8_put_1 ⟨Nat.zero_le _, Nat.zero_le _⟩).run (fun x e_3 => ?_)
  obtain ⟨e_3, hb_4⟩ := e_3
  rw [e_3] at hb_4 ⊢
  refine lv_if_eq (tgt := 16) hx hb dX8_put_4 (by decide) (fun c4 => ?_) (fun c4 => ?_)
  · rw [if_pos c4] at hf
    refine lv_bipush (v := (-2)) hx hb dX8_put_16 (by decide) ?_
    have hq0 := Option.some.inj hf
    obtain ⟨eq0, hq1⟩ := Prod.mk.inj hq0
    obtain ⟨eq1, hq2⟩ := Prod.mk.inj hq1
    clear hf hq0 hq1
    subst eq0
    subst eq1
    subst hq2
    exact W.iret hx hb hr (fun t ht hW => ⟨⟨_, (), rfl, rfl, by rw [ht]; exact hP, va_K.moved hW.alike hK, hD⟩, hS.F ht⟩) hS.2.2 dX8_put_18
  · rw [if_neg c4] at hf
    refine lv_iload_n hx hb dX8_put_7 rfl (lv_at hl 2 rfl) ?_
    refine lv_iconst (v := 0) hx hb dX8_put_8 (by decide) ?_
    refine lv_iconst (v := 2) hx hb dX8_put_9 (by decide) ?_
    obtain ⟨r10_5, hc_6, hf⟩ := bd1_e hf
    refine vp_callSi (va_runS (As := [.int x2, .int 0, .int 2]) (rest := []) ⟨hx, hb, hml, hown, hts⟩ (c_X8_in l dC dI cI cZ cP cS   x2 0 2 n r10_5 hc_6) (va_cwS 3 hts gX8_put_X8_in rfl rfl rfl (by decide +kernel) ⟨Nat.le_of_ble_eq_true rfl, Nat.le_of_ble_eq_true rfl⟩) (ps_ro hK (hP.sub (ws' := ([] : va_W)) [] rfl)) rfl rfl hl.1 rfl (lv_room (Nat.le_of_ble_eq_true rfl)) dX8_put_10 ⟨Nat.zero_le _, Nat.zero_le _⟩).run (fun x e_7 => ?_)
    obtain ⟨e_7, hb_8⟩ := e_7
    rw [e_7] at hb_8 ⊢
    refine lv_if_ne (tgt := 19) hx hb dX8_put_13 (by decide) (fun c13 => ?_) (fun c13 => ?_)
    · rw [if_neg c13] at hf
      refine lv_aload_n hx hb dX8_put_19 rfl (lv_at hl 0 rfl) ?_
      refine lv_iload_n hx hb dX8_put_20 rfl (lv_at hl 1 rfl) ?_
      refine lv_iload_n hx hb dX8_put_21 rfl (lv_at hl 2 rfl) ?_
      refine lv_iload_n hx hb dX8_put_22 rfl (lv_at hl 3 rfl) ?_
      obtain ⟨r23_9, hc_10, hf⟩ := bd1_e hf
      refine vp_callSi (va_runV (As := [.int x1, .int x2, .int x3]) (rest := []) ⟨hx, hb, hml, hown, hts⟩ (c_X8_lacks l dC dI cI cZ cP cS h_t h_t_turns h_t_phases h_t_ups h_t_typed h_t_texts h_t_diary h_t_longs h_t_awakes h_t_fit h_t_counts h_t_worths h_t_ripes h_t_growths h_t_gains h_t_isThere h_t_forms h_t_sizes h_t_items h_t_moved v_m_hours v_m_months v_m_fitMany v_m_fitFirst v_m_finding v_m_isThere v_m_forms v_m_sizes x1 x2 x3 n r23_9 hc_10) (cwV 3 hts gX8_put_X8_lacks rfl rfl rfl (by decide +kernel) ⟨Nat.le_of_ble_eq_true rfl, Nat.le_of_ble_eq_true rfl⟩) (pv_ro (ci := 7) (q0 := 0) hK (hP.sub (ws' := (wd_X8_lacks cI cZ cP cS h_t h_t_turns h_t_phases h_t_ups h_t_typed h_t_texts h_t_diary h_t_longs h_t_awakes h_t_fit h_t_counts h_t_worths h_t_ripes h_t_growths h_t_gains h_t_isThere h_t_forms h_t_sizes h_t_items h_t_moved v_m_hours v_m_months v_m_fitMany v_m_fitFirst v_m_finding v_m_isThere v_m_forms v_m_sizes)) [0, 1, 2, 3] rfl) rfl rfl) rfl rfl hl.1 rfl (lv_room (Nat.le_of_ble_eq_true rfl)) dX8_put_23 ⟨Nat.zero_le _, Nat.zero_le _⟩).run (fun x e_11 => ?_)
      rw [e_11]
      refine lv_istore (lv' := [(5, .int r23_9), (0, .ref h_t), (1, .int x1), (2, .int x2), (3, .int x3), (4, .int x4)]) hx hb dX8_put_26 hl (by decide) rfl (fun ls hl => ?_)
      refine lv_iload hx hb dX8_put_28 (lv_at hl 0 rfl) ?_
      refine lv_if_le (tgt := 40) hx hb dX8_put_30 (by decide) (fun c30 => ?_) (fun c30 => ?_)
      · rw [if_pos c30] at hf
        refine lv_aload_n hx hb dX8_put_40 rfl (lv_at hl 1 rfl) ?_
        refine lv_iload_n hx hb dX8_put_41 rfl (lv_at hl 2 rfl) ?_
        refine lv_iload_n hx hb dX8_put_42 rfl (lv_at hl 4 rfl) ?_
        refine lv_iload hx hb dX8_put_43 (lv_at hl 5 rfl) ?_
        obtain ⟨o45_12, hc_13, hf⟩ := bd1_e hf
        refine rwv_call (isC := [0, 2, 4]) (isR := [1, 3]) (perm := [2, 0, 3, 1, 4]) (wr := [(h_t_isThere, .inl (cZ, 4, .inl v_m_isThere)), (h_t_sizes, .inl (cI, 4, .inl v_m_sizes))]) (ws2 := (wd_X8_put cI cZ cP cS h_t h_t_turns h_t_phases h_t_ups h_t_typed h_t_texts h_t_diary h_t_longs h_t_awakes h_t_fit h_t_counts h_t_worths h_t_ripes h_t_growths h_t_gains h_t_isThere h_t_forms h_t_sizes h_t_items h_t_moved v_m_hours v_m_months v_m_fitMany v_m_fitFirst v_m_finding v_m_isThere v_m_forms v_m_sizes o45_12)) (va_runV (As := [.int x1, .int x3, .int x4]) (rest := []) ⟨hx, hb, hml, hown, hts⟩ (c_X8_keep l dC dI cI cZ cP cS H.size h_t h_t_turns h_t_phases h_t_ups h_t_typed h_t_texts h_t_diary h_t_longs h_t_awakes h_t_fit h_t_counts h_t_worths h_t_ripes h_t_growths h_t_gains h_t_isThere h_t_forms h_t_sizes h_t_items h_t_moved v_m_hours v_m_months v_m_fitMany v_m_fitFirst v_m_finding v_m_forms v_m_items x1 x3 x4 n o45_12 hc_13) (cwV 3 hts gX8_put_X8_keep rfl rfl rfl (by decide +kernel) ⟨Nat.le_of_ble_eq_true rfl, Nat.le_of_ble_eq_true rfl⟩) (pv_rw (ci := 7) (q0 := 0) hK (hP.sub (ws' := (wd_X8_keep cI cZ cP cS h_t h_t_turns h_t_phases h_t_ups h_t_typed h_t_texts h_t_diary h_t_longs h_t_awakes h_t_fit h_t_counts h_t_worths h_t_ripes h_t_growths h_t_gains h_t_isThere h_t_forms h_t_sizes h_t_items h_t_moved v_m_hours v_m_months v_m_fitMany v_m_fitFirst v_m_finding v_m_forms v_m_items)) [0, 2, 4] rfl) (hD.sub (ws' := (wd_X8_keep cI cZ cP cS h_t h_t_turns h_t_phases h_t_ups h_t_typed h_t_texts h_t_diary h_t_longs h_t_awakes h_t_fit h_t_counts h_t_worths h_t_ripes h_t_growths h_t_gains h_t_isThere h_t_forms h_t_sizes h_t_items h_t_moved v_m_hours v_m_months v_m_fitMany v_m_fitFirst v_m_finding v_m_forms v_m_items)) [0, 2, 4] (by decide) rfl) rfl rfl) rfl rfl hl.1 rfl (lv_room (Nat.le_of_ble_eq_true rfl)) dX8_put_45 ⟨Nat.zero_le _, Nat.zero_le _⟩) hS hA hP hD rfl (by decide) (by decide) rfl (by decide) rfl rfl (fun H locs hP hD hS => ?_)
        refine lv_iconst (v := 1) hx hb dX8_put_48 (by decide) ?_
        have hq0 := Option.some.inj hf
        obtain ⟨eq0, hq1⟩ := Prod.mk.inj hq0
        obtain ⟨eq1, hq2⟩ := Prod.mk.inj hq1
        clear hf hq0 hq1
        subst eq0
        subst eq1
        subst hq2
        exact W.iret hx hb hr (fun t ht hW => ⟨⟨_, (), rfl, rfl, by rw [ht]; exact hP, va_K.moved hW.alike hK, hD⟩, hS.F ht⟩) hS.2.2 dX8_put_49
      · rw [if_neg c30] at hf
        refine lv_aload_n hx hb dX8_put_33 rfl (lv_at hl 1 rfl) ?_
        refine lv_iload hx hb dX8_put_34 (lv_at hl 0 rfl) ?_
        obtain ⟨r36_15, o36_16, hc_17, hf⟩ := bd2_e hf
        refine rwi_call (isC := [0]) (isR := [1, 2, 3, 4]) (perm := [4, 0, 1, 2, 3]) (wr := [(h_t_isThere, .inl (cZ, 4, .inl v_m_isThere)), (h_t_forms, .inl (cI, 4, .inl v_m_forms)), (h_t_sizes, .inl (cI, 4, .inl v_m_sizes)), (h_t_items, .inl (cI, 192, .inl v_m_items))]) (ws2 := (wd_X8_put cI cZ cP cS h_t h_t_turns h_t_phases h_t_ups h_t_typed h_t_texts h_t_diary h_t_longs h_t_awakes h_t_fit h_t_counts h_t_worths h_t_ripes h_t_growths h_t_gains h_t_isThere h_t_forms h_t_sizes h_t_items h_t_moved v_m_hours v_m_months v_m_fitMany v_m_fitFirst o36_16 v_m_isThere v_m_forms v_m_sizes v_m_items)) (va_runV (As := [.int r23_9]) (rest := []) ⟨hx, hb, hml, hown, hts⟩ (c_X8_meets l dC dI cI cZ cP cS H.size h_t h_t_turns h_t_phases h_t_ups h_t_typed h_t_texts h_t_diary h_t_longs h_t_awakes h_t_fit h_t_counts h_t_worths h_t_ripes h_t_growths h_t_gains h_t_isThere h_t_forms h_t_sizes h_t_items h_t_moved v_m_hours v_m_months v_m_fitMany v_m_fitFirst v_m_finding r23_9 n r36_15 o36_16 hc_17) (cwV 1 hts gX8_put_X8_meets rfl rfl rfl (by decide +kernel) ⟨Nat.le_of_ble_eq_true rfl, Nat.le_of_ble_eq_true rfl⟩) (pv_rw (ci := 7) (q0 := 0) hK (hP.sub (ws' := (wd_X8_meets cI cZ cP cS h_t h_t_turns h_t_phases h_t_ups h_t_typed h_t_texts h_t_diary h_t_longs h_t_awakes h_t_fit h_t_counts h_t_worths h_t_ripes h_t_growths h_t_gains h_t_isThere h_t_forms h_t_sizes h_t_items h_t_moved v_m_hours v_m_months v_m_fitMany v_m_fitFirst v_m_finding)) [0] rfl) (hD.sub (ws' := (wd_X8_meets cI cZ cP cS h_t h_t_turns h_t_phases h_t_ups h_t_typed h_t_texts h_t_diary h_t_longs h_t_awakes h_t_fit h_t_counts h_t_worths h_t_ripes h_t_growths h_t_gains h_t_isThere h_t_forms h_t_sizes h_t_items h_t_moved v_m_hours v_m_months v_m_fitMany v_m_fitFirst v_m_finding)) [0] (by decide) rfl) rfl rfl) rfl rfl hl.1 rfl (lv_room (Nat.le_of_ble_eq_true rfl)) dX8_put_36 ⟨Nat.zero_le _, Nat.zero_le _⟩) hS hA hP hD rfl (by decide) (by decide) rfl (by decide) rfl rfl (fun H locs hP hD hS => ?_)
        have hq0 := Option.some.inj hf
        obtain ⟨eq0, hq1⟩ := Prod.mk.inj hq0
        obtain ⟨eq1, hq2⟩ := Prod.mk.inj hq1
        clear hf hq0 hq1
        subst eq0
        subst eq1
        subst hq2
        exact W.iret hx hb hr (fun t ht hW => ⟨⟨_, (), rfl, rfl, by rw [ht]; exact hP, va_K.moved hW.alike hK, hD⟩, hS.F ht⟩) hS.2.2 dX8_put_39
    · rw [if_pos c13] at hf
      refine lv_bipush (v := (-2)) hx hb dX8_put_16 (by decide) ?_
      have hq0 := Option.some.inj hf
      obtain ⟨eq0, hq1⟩ := Prod.mk.inj hq0
      obtain ⟨eq1, hq2⟩ := Prod.mk.inj hq1
      clear hf hq0 hq1
      subst eq0
      subst eq1
      subst hq2
      exact W.iret hx hb hr (fun t ht hW => ⟨⟨_, (), rfl, rfl, by rw [ht]; exact hP, va_K.moved hW.alike hK, hD⟩, hS.F ht⟩) hS.2.2 dX8_put_18

abbrev wd_X8_read (cI cZ cP cS : ClassId) (h_t h_t_turns h_t_phases h_t_ups h_t_typed h_t_texts h_t_diary h_t_longs h_t_awakes h_t_fit h_t_counts h_t_worths h_t_ripes h_t_growths h_t_gains h_t_isThere h_t_forms h_t_sizes h_t_items h_t_moved : Nat) (v_m_hours : Int32) (v_m_months : Int32) (v_m_fitMany : Int32) (v_m_fitFirst : Int32) (v_m_finding : Int32) (v_m_growths : Nat → Int32) (v_m_isThere : Nat → Int32) (v_m_sizes : Nat → Int32) (v_m_items : Nat → Int32) : va_W := [(h_t, .inr (7, [.ref h_t_turns, .ref h_t_phases, .ref h_t_ups, .ref h_t_typed, .ref h_t_texts, .int v_m_hours, .ref h_t_diary, .int v_m_months, .ref h_t_longs, .ref h_t_awakes, .ref h_t_fit, .int v_m_fitMany, .int v_m_fitFirst, .ref h_t_counts, .ref h_t_worths, .ref h_t_ripes, .ref h_t_growths, .ref h_t_gains, .ref h_t_isThere, .ref h_t_forms, .ref h_t_sizes, .ref h_t_items, .ref h_t_moved, .int v_m_finding])), (h_t_growths, .inl (cI, 16, .inl v_m_growths)), (h_t_isThere, .inl (cZ, 4, .inl v_m_isThere)), (h_t_sizes, .inl (cI, 4, .inl v_m_sizes)), (h_t_items, .inl (cI, 192, .inl v_m_items))]
abbrev rm_X8_read : Room := { frames := 2, cells := 0, slots := 0, locals := 42 }
def L_X8_read_34 (n : Nat) (v_m_sizes : Nat → Int32) (v_m_items : Nat → Int32) (x1 : Int32) (x2 : Int32) (kx34 : Int32 → (Nat → Int32) → Option (Int32 × Int32 × (Nat → Int32))) : Nat → Int32 → (Nat → Int32) → Option (Int32 × Int32 × (Nat → Int32))
  | 0, _, _ => none
  | k34 + 1, y34_3, w34_m_growths => ix_ x1 4 (if (v_m_sizes x1.toNatClampNeg) ≤ y34_3 then kx34 y34_3 w34_m_growths else if (4 : Int32) ≤ y34_3 then kx34 y34_3 w34_m_growths else ix_ ((48 * x1) + y34_3) 192 (bd1_ (f_X8_in n (v_m_items ((48 * x1) + y34_3).toNatClampNeg) (-9) 9) (fun (r64_12 : Int32) => if r64_12 = 0 then kx34 y34_3 w34_m_growths else ix_ ((48 * x1) + y34_3) 192 (ix_ ((4 * x2) + y34_3) 16 (L_X8_read_34 n v_m_sizes v_m_items x1 x2 kx34 k34 (y34_3 + 1) (upd w34_m_growths ((4 * x2) + y34_3).toNatClampNeg (v_m_items ((48 * x1) + y34_3).toNatClampNeg)))))))
theorem L_X8_read_34_s (n : Nat) (v_m_sizes : Nat → Int32) (v_m_items : Nat → Int32) (x1 : Int32) (x2 : Int32) (kx34 : Int32 → (Nat → Int32) → Option (Int32 × Int32 × (Nat → Int32))) (k34 : Nat) (y34_3 : Int32) (w34_m_growths : Nat → Int32) : L_X8_read_34 n v_m_sizes v_m_items x1 x2 kx34 (k34 + 1) y34_3 w34_m_growths = ix_ x1 4 (if (v_m_sizes x1.toNatClampNeg) ≤ y34_3 then kx34 y34_3 w34_m_growths else if (4 : Int32) ≤ y34_3 then kx34 y34_3 w34_m_growths else ix_ ((48 * x1) + y34_3) 192 (bd1_ (f_X8_in n (v_m_items ((48 * x1) + y34_3).toNatClampNeg) (-9) 9) (fun (r64_12 : Int32) => if r64_12 = 0 then kx34 y34_3 w34_m_growths else ix_ ((48 * x1) + y34_3) 192 (ix_ ((4 * x2) + y34_3) 16 (L_X8_read_34 n v_m_sizes v_m_items x1 x2 kx34 k34 (y34_3 + 1) (upd w34_m_growths ((4 * x2) + y34_3).toNatClampNeg (v_m_items ((48 * x1) + y34_3).toNatClampNeg))))))) := rfl
def f_X8_read (n : Nat) (v_m_finding : Int32) (v_m_growths : Nat → Int32) (v_m_isThere : Nat → Int32) (v_m_sizes : Nat → Int32) (v_m_items : Nat → Int32) (x1 : Int32) (x2 : Int32) : Option (Int32 × Int32 × (Nat → Int32)) := bd1_ (f_X8_isSheet n x1) (fun (r1_1 : Int32) => if r1_1 = 0 then some ((-2), v_m_finding, v_m_growths) else bd1_ (f_X8_isPlant n x2) (fun (r8_5 : Int32) => if r8_5 = 0 then some ((-2), v_m_finding, v_m_growths) else ix_ x1 4 (if (v_m_isThere x1.toNatClampNeg) = 0 then bd2_ (f_X8_meets n v_m_finding 1) (fun (r28_18 : Int32) (o28_19 : Int32) => some (r28_18, o28_19, v_m_growths)) else jn2_ (fun (z34_3 : Int32) (u34_m_growths : Nat → Int32) => some (z34_3, v_m_finding, u34_m_growths)) (fun kx34 => L_X8_read_34 n v_m_sizes v_m_items x1 x2 kx34 n 0 v_m_growths))))
set_option maxHeartbeats 4000000 in
set_option maxRecDepth 100000 in
theorem c_X8_read (l : Launch) (dC : Nat → ClassId) (dI : Nat → Nat → Nat) (cI cZ cP cS : ClassId) (sz : Nat) (h_t h_t_turns h_t_phases h_t_ups h_t_typed h_t_texts h_t_diary h_t_longs h_t_awakes h_t_fit h_t_counts h_t_worths h_t_ripes h_t_growths h_t_gains h_t_isThere h_t_forms h_t_sizes h_t_items h_t_moved : Nat) (v_m_hours : Int32) (v_m_months : Int32) (v_m_fitMany : Int32) (v_m_fitFirst : Int32) (v_m_finding : Int32) (v_m_growths : Nat → Int32) (v_m_isThere : Nat → Int32) (v_m_sizes : Nat → Int32) (v_m_items : Nat → Int32) (x1 : Int32) (x2 : Int32) (n : Nat) (r : Int32) (o_m_finding : Int32) (o_m_growths : Nat → Int32) (hf : f_X8_read n v_m_finding v_m_growths v_m_isThere v_m_sizes v_m_items x1 x2 = some (r, o_m_finding, o_m_growths)) : Met l yX8_read wsX8_read rm_X8_read (RW (dC, dI) (TY cI cZ cP cS) [.ref h_t, .int x1, .int x2] sz (wd_X8_read cI cZ cP cS h_t h_t_turns h_t_phases h_t_ups h_t_typed h_t_texts h_t_diary h_t_longs h_t_awakes h_t_fit h_t_counts h_t_worths h_t_ripes h_t_growths h_t_gains h_t_isThere h_t_forms h_t_sizes h_t_items h_t_moved v_m_hours v_m_months v_m_fitMany v_m_fitFirst v_m_finding v_m_growths v_m_isThere v_m_sizes v_m_items)) (RWi (dC, dI) (TY cI cZ cP cS) r sz (wd_X8_read cI cZ cP cS h_t h_t_turns h_t_phases h_t_ups h_t_typed h_t_texts h_t_diary h_t_longs h_t_awakes h_t_fit h_t_counts h_t_worths h_t_ripes h_t_growths h_t_gains h_t_isThere h_t_forms h_t_sizes h_t_items h_t_moved v_m_hours v_m_months v_m_fitMany v_m_fitFirst v_m_finding v_m_growths v_m_isThere v_m_sizes v_m_items) (wd_X8_read cI cZ cP cS h_t h_t_turns h_t_phases h_t_ups h_t_typed h_t_texts h_t_diary h_t_longs h_t_awakes h_t_fit h_t_counts h_t_worths h_t_ripes h_t_growths h_t_gains h_t_isThere h_t_forms h_t_sizes h_t_items h_t_moved v_m_hours v_m_months v_m_fitMany v_m_fitFirst o_m_finding o_m_growths v_m_isThere v_m_sizes v_m_items)) 0 0 (va_A (wd_X8_read cI cZ cP cS h_t h_t_turns h_t_phases h_t_ups h_t_typed h_t_texts h_t_diary h_t_longs h_t_awakes h_t_fit h_t_counts h_t_worths h_t_ripes h_t_growths h_t_gains h_t_isThere h_t_forms h_t_sizes h_t_items h_t_moved v_m_hours v_m_months v_m_fitMany v_m_fitFirst v_m_finding v_m_growths v_m_isThere v_m_sizes v_m_items) sz) := by
  refine Met.ofW (cc := cX8_read) (maxL := 4) (ret := (some .int)) (by decide) rfl ?_
  intro p e s m args below meth c s₁ B hml hv
  obtain ⟨rfl, hsz, hP, hK, hD0⟩ := hv
  have hx := B.exec
  have hb := B.bytes
  have hr := B.returns
  have hts := atoms_spec (ws := wsX8_read) B.pre
  have hown : s.vm.findClass RX8 = some m.cls := findClass_of_methodNamed B.named
  have hlocks := B.notSynchronized
  subst hsz
  have hD := hD0.self (sz := s.heap.size)
  have hA : ∀ q : Nat, s.heap.size ≤ q → (va_A (wd_X8_read cI cZ cP cS h_t h_t_turns h_t_phases h_t_ups h_t_typed h_t_texts h_t_diary h_t_longs h_t_awakes h_t_fit h_t_counts h_t_worths h_t_ripes h_t_growths h_t_gains h_t_isThere h_t_forms h_t_sizes h_t_items h_t_moved v_m_hours v_m_months v_m_fitMany v_m_fitFirst v_m_finding v_m_growths v_m_isThere v_m_sizes v_m_items) s.heap.size) q := fun q h => Or.inr h
  have hS : va_S (va_A (wd_X8_read cI cZ cP cS h_t h_t_turns h_t_phases h_t_ups h_t_typed h_t_texts h_t_diary h_t_longs h_t_awakes h_t_fit h_t_counts h_t_worths h_t_ripes h_t_growths h_t_gains h_t_isThere h_t_forms h_t_sizes h_t_items h_t_moved v_m_hours v_m_months v_m_fitMany v_m_fitFirst v_m_finding v_m_growths v_m_isThere v_m_sizes v_m_items) s.heap.size) s.heap s.heap [] := va_S.rf
  have hinX8 : ∀ w ∈ wsX80, w ∈ wsX8_read := by decide +kernel
  have hl := lv_entry ([.ref h_t, .int x1, .int x2]) (n := 4) (Nat.le_of_ble_eq_true rfl)
  rw [lg_entry_eq]
  generalize (lg_sl ([.ref h_t, .int x1, .int x2]) ++ List.replicate (4 - (lg_sl ([.ref h_t, .int x1, .int x2])).length) Slot.unset).toArray = ls at hl ⊢
  have hl : lv_has ls 4 [(0, .ref h_t), (1, .int x1), (2, .int x2)] := hl
  obtain ⟨H, hH⟩ : ∃ H : Heap, H = s.heap := ⟨_, rfl⟩
  have hP : va_P (dC, dI) vwCl (wd_X8_read cI cZ cP cS h_t h_t_turns h_t_phases h_t_ups h_t_typed h_t_texts h_t_diary h_t_longs h_t_awakes h_t_fit h_t_counts h_t_worths h_t_ripes h_t_growths h_t_gains h_t_isThere h_t_forms h_t_sizes h_t_items h_t_moved v_m_hours v_m_months v_m_fitMany v_m_fitFirst v_m_finding v_m_growths v_m_isThere v_m_sizes v_m_items) H := by rw [hH]; exact hP
  have hS : va_S (va_A (wd_X8_read cI cZ cP cS h_t h_t_turns h_t_phases h_t_ups h_t_typed h_t_texts h_t_diary h_t_longs h_t_awakes h_t_fit h_t_counts h_t_worths h_t_ripes h_t_growths h_t_gains h_t_isThere h_t_forms h_t_sizes h_t_items h_t_moved v_m_hours v_m_months v_m_fitMany v_m_fitFirst v_m_finding v_m_growths v_m_isThere v_m_sizes v_m_items) s.heap.size) s.heap H [] := by rw [hH]; exact hS
  obtain ⟨locs, hlo⟩ : ∃ L : List Loc, L = [] := ⟨_, rfl⟩
  rw [← hlo] at hS
  suffices hgo : W p l e (headSpec wsX8_read rm_X8_read).room s m ([.ref h_t, .int x1, .int x2] : List Value).toArray below meth c H locs 0 0 (MQ below (RWi (dC, dI) (TY cI cZ cP cS) r s.heap.size (wd_X8_read cI cZ cP cS h_t h_t_turns h_t_phases h_t_ups h_t_typed h_t_texts h_t_diary h_t_longs h_t_awakes h_t_fit h_t_counts h_t_worths h_t_ripes h_t_growths h_t_gains h_t_isThere h_t_forms h_t_sizes h_t_items h_t_moved v_m_hours v_m_months v_m_fitMany v_m_fitFirst v_m_finding v_m_growths v_m_isThere v_m_sizes v_m_items) (wd_X8_read cI cZ cP cS h_t h_t_turns h_t_phases h_t_ups h_t_typed h_t_texts h_t_diary h_t_longs h_t_awakes h_t_fit h_t_counts h_t_worths h_t_ripes h_t_growths h_t_gains h_t_isThere h_t_forms h_t_sizes h_t_items h_t_moved v_m_hours v_m_months v_m_fitMany v_m_fitFirst o_m_finding o_m_growths v_m_isThere v_m_sizes v_m_items)) ([.ref h_t, .int x1, .int x2] : List Value).toArray s 0 0 (va_A (wd_X8_read cI cZ cP cS h_t h_t_turns h_t_phases h_t_ups h_t_typed h_t_texts h_t_diary h_t_longs h_t_awakes h_t_fit h_t_counts h_t_worths h_t_ripes h_t_growths h_t_gains h_t_isThere h_t_forms h_t_sizes h_t_items h_t_moved v_m_hours v_m_months v_m_fitMany v_m_fitFirst v_m_finding v_m_growths v_m_isThere v_m_sizes v_m_items) s.heap.size)) (F0 m 0 ls []) by rw [hH, hlo] at hgo; exact hgo
  clear hH hlo
  unfold f_X8_read at hf
  refine lv_iload_n hx hb dX8_read_0 rfl (lv_at hl 1 rfl) ?_
  obtain ⟨r1_1, hc_2, hf⟩ := bd1_e hf
  refine vp_callSi (va_runS (As := [.int x1]) (rest := []) ⟨hx, hb, hml, hown, hts⟩ (c_X8_isSheet l dC dI cI cZ cP cS   x1 n r1_1 hc_2) (va_cwS 1 hts gX8_read_X8_isSheet rfl rfl rfl (by decide +kernel) ⟨Nat.le_of_ble_eq_true rfl, Nat.le_of_ble_eq_true rfl⟩) (ps_ro hK (hP.sub (ws' := ([] : va_W)) [] rfl)) rfl rfl hl.1 rfl (lv_room (Nat.le_of_ble_eq_true rfl)) dX8_read_1 ⟨Nat.zero_le _, Nat.zero_le _⟩).run (fun x e_3 => ?_)
  obtain ⟨e_3, hb_4⟩ := e_3
  rw [e_3] at hb_4 ⊢
  refine lv_if_eq (tgt := 14) hx hb dX8_read_4 (by decide) (fun c4 => ?_) (fun c4 => ?_)
  · rw [if_pos c4] at hf
    refine lv_bipush (v := (-2)) hx hb dX8_read_14 (by decide) ?_
    have hq0 := Option.some.inj hf
    obtain ⟨eq0, hq1⟩ := Prod.mk.inj hq0
    obtain ⟨eq1, hq2⟩ := Prod.mk.inj hq1
    clear hf hq0 hq1
    subst eq0
    subst eq1
    subst hq2
    exact W.iret hx hb hr (fun t ht hW => ⟨⟨_, (), rfl, rfl, by rw [ht]; exact hP, va_K.moved hW.alike hK, hD⟩, hS.F ht⟩) hS.2.2 dX8_read_16
  · rw [if_neg c4] at hf
    refine lv_iload_n hx hb dX8_read_7 rfl (lv_at hl 2 rfl) ?_
    obtain ⟨r8_5, hc_6, hf⟩ := bd1_e hf
    refine vp_callSi (va_runS (As := [.int x2]) (rest := []) ⟨hx, hb, hml, hown, hts⟩ (c_X8_isPlant l dC dI cI cZ cP cS   x2 n r8_5 hc_6) (va_cwS 1 hts gX8_read_X8_isPlant rfl rfl rfl (by decide +kernel) ⟨Nat.le_of_ble_eq_true rfl, Nat.le_of_ble_eq_true rfl⟩) (ps_ro hK (hP.sub (ws' := ([] : va_W)) [] rfl)) rfl rfl hl.1 rfl (lv_room (Nat.le_of_ble_eq_true rfl)) dX8_read_8 ⟨Nat.zero_le _, Nat.zero_le _⟩).run (fun x e_7 => ?_)
    obtain ⟨e_7, hb_8⟩ := e_7
    rw [e_7] at hb_8 ⊢
    refine lv_if_ne (tgt := 17) hx hb dX8_read_11 (by decide) (fun c11 => ?_) (fun c11 => ?_)
    · rw [if_neg c11] at hf
      refine lv_aload_n hx hb dX8_read_17 rfl (lv_at hl 0 rfl) ?_
      refine va_get (D := (dC, dI)) (ci := 7) (v := .ref h_t_isThere) (C := RX8) (T := TX8) (N := 24) hx hb hts hinX8 hown hK hP 0 rfl rfl 18 (by decide) (hts (.fieldLink RX8 53 "SecondSunriseModel" "isThere" "[Z") (by decide +kernel)) (fun _ h9 => h9) rfl dX8_read_18 ?_
      refine lv_iload_n hx hb dX8_read_21 rfl (lv_at hl 1 rfl) ?_
      obtain ⟨hi_9, hf⟩ := ix_e hf
      refine va_zald hx hb hK hP 2 1 rfl rfl hi_9 dX8_read_22 ?_
      refine lv_if_ne (tgt := 32) hx hb dX8_read_23 (by decide) (fun c23 => ?_) (fun c23 => ?_)
      · rw [if_neg c23] at hf
        refine lv_iconst (v := 0) hx hb dX8_read_32 (by decide) ?_
        refine lv_istore_n (lv' := [(3, .int 0), (0, .ref h_t), (1, .int x1), (2, .int x2)]) hx hb dX8_read_33 rfl hl (by decide) rfl (fun ls hl => ?_)
        obtain ⟨kx34, ekx34, hf⟩ := jn2_e hf
        have hx34 : ∀ (z34_3 : Int32) (u34_m_growths : Nat → Int32) (H : Heap) (locs : List Loc) (ls : Array Slot), lv_has ls 4 [(3, .int z34_3)] → va_P (dC, dI) vwCl (wd_X8_read cI cZ cP cS h_t h_t_turns h_t_phases h_t_ups h_t_typed h_t_texts h_t_diary h_t_longs h_t_awakes h_t_fit h_t_counts h_t_worths h_t_ripes h_t_growths h_t_gains h_t_isThere h_t_forms h_t_sizes h_t_items h_t_moved v_m_hours v_m_months v_m_fitMany v_m_fitFirst v_m_finding u34_m_growths v_m_isThere v_m_sizes v_m_items) H → va_D (va_A (wd_X8_read cI cZ cP cS h_t h_t_turns h_t_phases h_t_ups h_t_typed h_t_texts h_t_diary h_t_longs h_t_awakes h_t_fit h_t_counts h_t_worths h_t_ripes h_t_growths h_t_gains h_t_isThere h_t_forms h_t_sizes h_t_items h_t_moved v_m_hours v_m_months v_m_fitMany v_m_fitFirst v_m_finding v_m_growths v_m_isThere v_m_sizes v_m_items) s.heap.size) (wd_X8_read cI cZ cP cS h_t h_t_turns h_t_phases h_t_ups h_t_typed h_t_texts h_t_diary h_t_longs h_t_awakes h_t_fit h_t_counts h_t_worths h_t_ripes h_t_growths h_t_gains h_t_isThere h_t_forms h_t_sizes h_t_items h_t_moved v_m_hours v_m_months v_m_fitMany v_m_fitFirst v_m_finding u34_m_growths v_m_isThere v_m_sizes v_m_items) → va_S (va_A (wd_X8_read cI cZ cP cS h_t h_t_turns h_t_phases h_t_ups h_t_typed h_t_texts h_t_diary h_t_longs h_t_awakes h_t_fit h_t_counts h_t_worths h_t_ripes h_t_growths h_t_gains h_t_isThere h_t_forms h_t_sizes h_t_items h_t_moved v_m_hours v_m_months v_m_fitMany v_m_fitFirst v_m_finding v_m_growths v_m_isThere v_m_sizes v_m_items) s.heap.size) s.heap H locs → kx34 z34_3 u34_m_growths = some (r, o_m_finding, o_m_growths) → W p l e (headSpec wsX8_read rm_X8_read).room s m ([.ref h_t, .int x1, .int x2] : List Value).toArray below meth c H locs 0 0 (MQ below (RWi (dC, dI) (TY cI cZ cP cS) r s.heap.size (wd_X8_read cI cZ cP cS h_t h_t_turns h_t_phases h_t_ups h_t_typed h_t_texts h_t_diary h_t_longs h_t_awakes h_t_fit h_t_counts h_t_worths h_t_ripes h_t_growths h_t_gains h_t_isThere h_t_forms h_t_sizes h_t_items h_t_moved v_m_hours v_m_months v_m_fitMany v_m_fitFirst v_m_finding v_m_growths v_m_isThere v_m_sizes v_m_items) (wd_X8_read cI cZ cP cS h_t h_t_turns h_t_phases h_t_ups h_t_typed h_t_texts h_t_diary h_t_longs h_t_awakes h_t_fit h_t_counts h_t_worths h_t_ripes h_t_growths h_t_gains h_t_isThere h_t_forms h_t_sizes h_t_items h_t_moved v_m_hours v_m_months v_m_fitMany v_m_fitFirst o_m_finding o_m_growths v_m_isThere v_m_sizes v_m_items)) ([.ref h_t, .int x1, .int x2] : List Value).toArray s 0 0 (va_A (wd_X8_read cI cZ cP cS h_t h_t_turns h_t_phases h_t_ups h_t_typed h_t_texts h_t_diary h_t_longs h_t_awakes h_t_fit h_t_counts h_t_worths h_t_ripes h_t_growths h_t_gains h_t_isThere h_t_forms h_t_sizes h_t_items h_t_moved v_m_hours v_m_months v_m_fitMany v_m_fitFirst v_m_finding v_m_growths v_m_isThere v_m_sizes v_m_items) s.heap.size)) (F0 m 97 ls []) := by
          intro z34_3 u34_m_growths H locs ls hl hP hD hS hf
          rw [ekx34] at hf
          refine lv_iload_n hx hb dX8_read_97 rfl (lv_at hl 0 rfl) ?_
          have hq0 := Option.some.inj hf
          obtain ⟨eq0, hq1⟩ := Prod.mk.inj hq0
          obtain ⟨eq1, hq2⟩ := Prod.mk.inj hq1
          clear hf hq0 hq1
          subst eq0
          subst eq1
          subst hq2
          exact W.iret hx hb hr (fun t ht hW => ⟨⟨_, (), rfl, rfl, by rw [ht]; exact hP, va_K.moved hW.alike hK, hD⟩, hS.F ht⟩) hS.2.2 dX8_read_98
        have hL34 : ∀ (k34 : Nat) (y34_3 : Int32) (w34_m_growths : Nat → Int32) (H : Heap) (locs : List Loc) (ls : Array Slot), lv_has ls 4 [(0, .ref h_t), (1, .int x1), (2, .int x2), (3, .int y34_3)] → va_P (dC, dI) vwCl (wd_X8_read cI cZ cP cS h_t h_t_turns h_t_phases h_t_ups h_t_typed h_t_texts h_t_diary h_t_longs h_t_awakes h_t_fit h_t_counts h_t_worths h_t_ripes h_t_growths h_t_gains h_t_isThere h_t_forms h_t_sizes h_t_items h_t_moved v_m_hours v_m_months v_m_fitMany v_m_fitFirst v_m_finding w34_m_growths v_m_isThere v_m_sizes v_m_items) H → va_D (va_A (wd_X8_read cI cZ cP cS h_t h_t_turns h_t_phases h_t_ups h_t_typed h_t_texts h_t_diary h_t_longs h_t_awakes h_t_fit h_t_counts h_t_worths h_t_ripes h_t_growths h_t_gains h_t_isThere h_t_forms h_t_sizes h_t_items h_t_moved v_m_hours v_m_months v_m_fitMany v_m_fitFirst v_m_finding v_m_growths v_m_isThere v_m_sizes v_m_items) s.heap.size) (wd_X8_read cI cZ cP cS h_t h_t_turns h_t_phases h_t_ups h_t_typed h_t_texts h_t_diary h_t_longs h_t_awakes h_t_fit h_t_counts h_t_worths h_t_ripes h_t_growths h_t_gains h_t_isThere h_t_forms h_t_sizes h_t_items h_t_moved v_m_hours v_m_months v_m_fitMany v_m_fitFirst v_m_finding w34_m_growths v_m_isThere v_m_sizes v_m_items) → va_S (va_A (wd_X8_read cI cZ cP cS h_t h_t_turns h_t_phases h_t_ups h_t_typed h_t_texts h_t_diary h_t_longs h_t_awakes h_t_fit h_t_counts h_t_worths h_t_ripes h_t_growths h_t_gains h_t_isThere h_t_forms h_t_sizes h_t_items h_t_moved v_m_hours v_m_months v_m_fitMany v_m_fitFirst v_m_finding v_m_growths v_m_isThere v_m_sizes v_m_items) s.heap.size) s.heap H locs → L_X8_read_34 n v_m_sizes v_m_items x1 x2 kx34 k34 y34_3 w34_m_growths = some (r, o_m_finding, o_m_growths) → W p l e (headSpec wsX8_read rm_X8_read).room s m ([.ref h_t, .int x1, .int x2] : List Value).toArray below meth c H locs 0 0 (MQ below (RWi (dC, dI) (TY cI cZ cP cS) r s.heap.size (wd_X8_read cI cZ cP cS h_t h_t_turns h_t_phases h_t_ups h_t_typed h_t_texts h_t_diary h_t_longs h_t_awakes h_t_fit h_t_counts h_t_worths h_t_ripes h_t_growths h_t_gains h_t_isThere h_t_forms h_t_sizes h_t_items h_t_moved v_m_hours v_m_months v_m_fitMany v_m_fitFirst v_m_finding v_m_growths v_m_isThere v_m_sizes v_m_items) (wd_X8_read cI cZ cP cS h_t h_t_turns h_t_phases h_t_ups h_t_typed h_t_texts h_t_diary h_t_longs h_t_awakes h_t_fit h_t_counts h_t_worths h_t_ripes h_t_growths h_t_gains h_t_isThere h_t_forms h_t_sizes h_t_items h_t_moved v_m_hours v_m_months v_m_fitMany v_m_fitFirst o_m_finding o_m_growths v_m_isThere v_m_sizes v_m_items)) ([.ref h_t, .int x1, .int x2] : List Value).toArray s 0 0 (va_A (wd_X8_read cI cZ cP cS h_t h_t_turns h_t_phases h_t_ups h_t_typed h_t_texts h_t_diary h_t_longs h_t_awakes h_t_fit h_t_counts h_t_worths h_t_ripes h_t_growths h_t_gains h_t_isThere h_t_forms h_t_sizes h_t_items h_t_moved v_m_hours v_m_months v_m_fitMany v_m_fitFirst v_m_finding v_m_growths v_m_isThere v_m_sizes v_m_items) s.heap.size)) (F0 m 34 ls []) := by
          intro k34
          induction k34 with
          | zero =>
            intro y34_3 w34_m_growths H locs ls hl hP hD hS hf
            exact absurd hf (fun h => Option.some_ne_none _ h.symm)
          | succ k34 ih =>
            intro y34_3 w34_m_growths H locs ls hl hP hD hS hf
            rw [L_X8_read_34_s] at hf
            refine lv_iload_n hx hb dX8_read_34 rfl (lv_at hl 3 rfl) ?_
            refine lv_aload_n hx hb dX8_read_35 rfl (lv_at hl 0 rfl) ?_
            refine va_get (D := (dC, dI)) (ci := 7) (v := .ref h_t_sizes) (C := RX8) (T := TX8) (N := 24) hx hb hts hinX8 hown hK hP 0 rfl rfl 20 (by decide) (hts (.fieldLink RX8 59 "SecondSunriseModel" "sizes" "[I") (by decide +kernel)) (fun _ h9 => h9) rfl dX8_read_36 ?_
            refine lv_iload_n hx hb dX8_read_39 rfl (lv_at hl 1 rfl) ?_
            obtain ⟨hi_10, hf⟩ := ix_e hf
            refine va_iald hx hb hK hP 3 0 rfl rfl hi_10 dX8_read_40 ?_
            refine lv_icmp_ge (tgt := 97) hx hb dX8_read_41 (by decide) (fun c41 => ?_) (fun c41 => ?_)
            · rw [if_pos c41] at hf
              exact hx34 y34_3 w34_m_growths H locs ls (lv_sub hl [3] rfl) hP hD hS hf
            · rw [if_neg c41] at hf
              refine lv_iload_n hx hb dX8_read_44 rfl (lv_at hl 3 rfl) ?_
              refine lv_iconst (v := 4) hx hb dX8_read_45 (by decide) ?_
              refine lv_icmp_ge (tgt := 97) hx hb dX8_read_46 (by decide) (fun c46 => ?_) (fun c46 => ?_)
              · rw [if_pos c46] at hf
                exact hx34 y34_3 w34_m_growths H locs ls (lv_sub hl [3] rfl) hP hD hS hf
              · rw [if_neg c46] at hf
                refine lv_aload_n hx hb dX8_read_49 rfl (lv_at hl 0 rfl) ?_
                refine va_get (D := (dC, dI)) (ci := 7) (v := .ref h_t_items) (C := RX8) (T := TX8) (N := 24) hx hb hts hinX8 hown hK hP 0 rfl rfl 21 (by decide) (hts (.fieldLink RX8 62 "SecondSunriseModel" "items" "[I") (by decide +kernel)) (fun _ h9 => h9) rfl dX8_read_50 ?_
                refine lv_bipush (v := 48) hx hb dX8_read_53 (by decide) ?_
                refine lv_iload_n hx hb dX8_read_55 rfl (lv_at hl 1 rfl) ?_
                refine lv_imul hx hb dX8_read_56 ?_
                refine lv_iload_n hx hb dX8_read_57 rfl (lv_at hl 3 rfl) ?_
                refine lv_iadd hx hb dX8_read_58 ?_
                obtain ⟨hi_11, hf⟩ := ix_e hf
                refine va_iald hx hb hK hP 4 0 rfl rfl hi_11 dX8_read_59 ?_
                refine lv_bipush (v := (-9)) hx hb dX8_read_60 (by decide) ?_
                refine lv_bipush (v := 9) hx hb dX8_read_62 (by decide) ?_
                obtain ⟨r64_12, hc_13, hf⟩ := bd1_e hf
                refine vp_callSi (va_runS (As := [.int (v_m_items ((48 * x1) + y34_3).toNatClampNeg), .int (-9), .int 9]) (rest := []) ⟨hx, hb, hml, hown, hts⟩ (c_X8_in l dC dI cI cZ cP cS   (v_m_items ((48 * x1) + y34_3).toNatClampNeg) (-9) 9 n r64_12 hc_13) (va_cwS 3 hts gX8_read_X8_in rfl rfl rfl (by decide +kernel) ⟨Nat.le_of_ble_eq_true rfl, Nat.le_of_ble_eq_true rfl⟩) (ps_ro hK (hP.sub (ws' := ([] : va_W)) [] rfl)) rfl rfl hl.1 rfl (lv_room (Nat.le_of_ble_eq_true rfl)) dX8_read_64 ⟨Nat.zero_le _, Nat.zero_le _⟩).run (fun x e_14 => ?_)
                obtain ⟨e_14, hb_15⟩ := e_14
                rw [e_14] at hb_15 ⊢
                refine lv_if_eq (tgt := 97) hx hb dX8_read_67 (by decide) (fun c67 => ?_) (fun c67 => ?_)
                · rw [if_pos c67] at hf
                  exact hx34 y34_3 w34_m_growths H locs ls (lv_sub hl [3] rfl) hP hD hS hf
                · rw [if_neg c67] at hf
                  refine lv_aload_n hx hb dX8_read_70 rfl (lv_at hl 0 rfl) ?_
                  refine va_get (D := (dC, dI)) (ci := 7) (v := .ref h_t_growths) (C := RX8) (T := TX8) (N := 24) hx hb hts hinX8 hown hK hP 0 rfl rfl 16 (by decide) (hts (.fieldLink RX8 47 "SecondSunriseModel" "growths" "[I") (by decide +kernel)) (fun _ h9 => h9) rfl dX8_read_71 ?_
                  refine lv_iconst (v := 4) hx hb dX8_read_74 (by decide) ?_
                  refine lv_iload_n hx hb dX8_read_75 rfl (lv_at hl 2 rfl) ?_
                  refine lv_imul hx hb dX8_read_76 ?_
                  refine lv_iload_n hx hb dX8_read_77 rfl (lv_at hl 3 rfl) ?_
                  refine lv_iadd hx hb dX8_read_78 ?_
                  refine lv_aload_n hx hb dX8_read_79 rfl (lv_at hl 0 rfl) ?_
                  refine va_get (D := (dC, dI)) (ci := 7) (v := .ref h_t_items) (C := RX8) (T := TX8) (N := 24) hx hb hts hinX8 hown hK hP 0 rfl rfl 21 (by decide) (hts (.fieldLink RX8 62 "SecondSunriseModel" "items" "[I") (by decide +kernel)) (fun _ h9 => h9) rfl dX8_read_80 ?_
                  refine lv_bipush (v := 48) hx hb dX8_read_83 (by decide) ?_
                  refine lv_iload_n hx hb dX8_read_85 rfl (lv_at hl 1 rfl) ?_
                  refine lv_imul hx hb dX8_read_86 ?_
                  refine lv_iload_n hx hb dX8_read_87 rfl (lv_at hl 3 rfl) ?_
                  refine lv_iadd hx hb dX8_read_88 ?_
                  obtain ⟨hi_16, hf⟩ := ix_e hf
                  refine va_iald hx hb hK hP 4 0 rfl rfl hi_16 dX8_read_89 ?_
                  obtain ⟨hi_17, hf⟩ := ix_e hf
                  refine va_iast hx hb hK hP hD hS 1 0 rfl rfl hi_17 dX8_read_90 (fun H locs hP hD hS => ?_)
                  have hP : va_P (dC, dI) vwCl (wd_X8_read cI cZ cP cS h_t h_t_turns h_t_phases h_t_ups h_t_typed h_t_texts h_t_diary h_t_longs h_t_awakes h_t_fit h_t_counts h_t_worths h_t_ripes h_t_growths h_t_gains h_t_isThere h_t_forms h_t_sizes h_t_items h_t_moved v_m_hours v_m_months v_m_fitMany v_m_fitFirst v_m_finding (upd w34_m_growths ((4 * x2) + y34_3).toNatClampNeg (v_m_items ((48 * x1) + y34_3).toNatClampNeg)) v_m_isThere v_m_sizes v_m_items) H := hP
                  have hD : va_D (va_A (wd_X8_read cI cZ cP cS h_t h_t_turns h_t_phases h_t_ups h_t_typed h_t_texts h_t_diary h_t_longs h_t_awakes h_t_fit h_t_counts h_t_worths h_t_ripes h_t_growths h_t_gains h_t_isThere h_t_forms h_t_sizes h_t_items h_t_moved v_m_hours v_m_months v_m_fitMany v_m_fitFirst v_m_finding v_m_growths v_m_isThere v_m_sizes v_m_items) s.heap.size) (wd_X8_read cI cZ cP cS h_t h_t_turns h_t_phases h_t_ups h_t_typed h_t_texts h_t_diary h_t_longs h_t_awakes h_t_fit h_t_counts h_t_worths h_t_ripes h_t_growths h_t_gains h_t_isThere h_t_forms h_t_sizes h_t_items h_t_moved v_m_hours v_m_months v_m_fitMany v_m_fitFirst v_m_finding (upd w34_m_growths ((4 * x2) + y34_3).toNatClampNeg (v_m_items ((48 * x1) + y34_3).toNatClampNeg)) v_m_isThere v_m_sizes v_m_items) := hD
                  refine lv_iinc (v := (y34_3 + 1)) (lv' := [(3, .int (y34_3 + 1)), (0, .ref h_t), (1, .int x1), (2, .int x2)]) hx hb dX8_read_91 hl (k := 3) rfl rfl (by decide) rfl (fun ls hl => ?_)
                  refine lv_goto (tgt := 34) hx hb dX8_read_94 (by decide) ?_
                  exact ih (y34_3 + 1) (upd w34_m_growths ((4 * x2) + y34_3).toNatClampNeg (v_m_items ((48 * x1) + y34_3).toNatClampNeg)) H locs ls (lv_sub hl [1, 2, 3, 0] rfl) hP hD hS hf
        exact hL34 n 0 v_m_growths H locs ls (lv_sub hl [1, 2, 3, 0] rfl) hP hD hS hf
      · rw [if_pos c23] at hf
        refine lv_aload_n hx hb dX8_read_26 rfl (lv_at hl 0 rfl) ?_
        refine lv_iconst (v := 1) hx hb dX8_read_27 (by decide) ?_
        obtain ⟨r28_18, o28_19, hc_20, hf⟩ := bd2_e hf
        refine rwi_call (isC := [0]) (isR := [1, 2, 3, 4]) (perm := [4, 0, 1, 2, 3]) (wr := [(h_t_growths, .inl (cI, 16, .inl v_m_growths)), (h_t_isThere, .inl (cZ, 4, .inl v_m_isThere)), (h_t_sizes, .inl (cI, 4, .inl v_m_sizes)), (h_t_items, .inl (cI, 192, .inl v_m_items))]) (ws2 := (wd_X8_read cI cZ cP cS h_t h_t_turns h_t_phases h_t_ups h_t_typed h_t_texts h_t_diary h_t_longs h_t_awakes h_t_fit h_t_counts h_t_worths h_t_ripes h_t_growths h_t_gains h_t_isThere h_t_forms h_t_sizes h_t_items h_t_moved v_m_hours v_m_months v_m_fitMany v_m_fitFirst o28_19 v_m_growths v_m_isThere v_m_sizes v_m_items)) (va_runV (As := [.int 1]) (rest := []) ⟨hx, hb, hml, hown, hts⟩ (c_X8_meets l dC dI cI cZ cP cS H.size h_t h_t_turns h_t_phases h_t_ups h_t_typed h_t_texts h_t_diary h_t_longs h_t_awakes h_t_fit h_t_counts h_t_worths h_t_ripes h_t_growths h_t_gains h_t_isThere h_t_forms h_t_sizes h_t_items h_t_moved v_m_hours v_m_months v_m_fitMany v_m_fitFirst v_m_finding 1 n r28_18 o28_19 hc_20) (cwV 1 hts gX8_read_X8_meets rfl rfl rfl (by decide +kernel) ⟨Nat.le_of_ble_eq_true rfl, Nat.le_of_ble_eq_true rfl⟩) (pv_rw (ci := 7) (q0 := 0) hK (hP.sub (ws' := (wd_X8_meets cI cZ cP cS h_t h_t_turns h_t_phases h_t_ups h_t_typed h_t_texts h_t_diary h_t_longs h_t_awakes h_t_fit h_t_counts h_t_worths h_t_ripes h_t_growths h_t_gains h_t_isThere h_t_forms h_t_sizes h_t_items h_t_moved v_m_hours v_m_months v_m_fitMany v_m_fitFirst v_m_finding)) [0] rfl) (hD.sub (ws' := (wd_X8_meets cI cZ cP cS h_t h_t_turns h_t_phases h_t_ups h_t_typed h_t_texts h_t_diary h_t_longs h_t_awakes h_t_fit h_t_counts h_t_worths h_t_ripes h_t_growths h_t_gains h_t_isThere h_t_forms h_t_sizes h_t_items h_t_moved v_m_hours v_m_months v_m_fitMany v_m_fitFirst v_m_finding)) [0] (by decide) rfl) rfl rfl) rfl rfl hl.1 rfl (lv_room (Nat.le_of_ble_eq_true rfl)) dX8_read_28 ⟨Nat.zero_le _, Nat.zero_le _⟩) hS hA hP hD rfl (by decide) (by decide) rfl (by decide) rfl rfl (fun H locs hP hD hS => ?_)
        have hq0 := Option.some.inj hf
        obtain ⟨eq0, hq1⟩ := Prod.mk.inj hq0
        obtain ⟨eq1, hq2⟩ := Prod.mk.inj hq1
        clear hf hq0 hq1
        subst eq0
        subst eq1
        subst hq2
        exact W.iret hx hb hr (fun t ht hW => ⟨⟨_, (), rfl, rfl, by rw [ht]; exact hP, va_K.moved hW.alike hK, hD⟩, hS.F ht⟩) hS.2.2 dX8_read_31
    · rw [if_pos c11] at hf
      refine lv_bipush (v := (-2)) hx hb dX8_read_14 (by decide) ?_
      have hq0 := Option.some.inj hf
      obtain ⟨eq0, hq1⟩ := Prod.mk.inj hq0
      obtain ⟨eq1, hq2⟩ := Prod.mk.inj hq1
      clear hf hq0 hq1
      subst eq0
      subst eq1
      subst hq2
      exact W.iret hx hb hr (fun t ht hW => ⟨⟨_, (), rfl, rfl, by rw [ht]; exact hP, va_K.moved hW.alike hK, hD⟩, hS.F ht⟩) hS.2.2 dX8_read_16

abbrev wd_X8_round (cI cZ cP cS : ClassId) (h_t h_t_turns h_t_phases h_t_ups h_t_typed h_t_texts h_t_diary h_t_longs h_t_awakes h_t_fit h_t_counts h_t_worths h_t_ripes h_t_growths h_t_gains h_t_isThere h_t_forms h_t_sizes h_t_items h_t_moved : Nat) (v_m_hours : Int32) (v_m_months : Int32) (v_m_fitMany : Int32) (v_m_fitFirst : Int32) (v_m_finding : Int32) (v_m_turns : Nat → Int32) : va_W := [(h_t, .inr (7, [.ref h_t_turns, .ref h_t_phases, .ref h_t_ups, .ref h_t_typed, .ref h_t_texts, .int v_m_hours, .ref h_t_diary, .int v_m_months, .ref h_t_longs, .ref h_t_awakes, .ref h_t_fit, .int v_m_fitMany, .int v_m_fitFirst, .ref h_t_counts, .ref h_t_worths, .ref h_t_ripes, .ref h_t_growths, .ref h_t_gains, .ref h_t_isThere, .ref h_t_forms, .ref h_t_sizes, .ref h_t_items, .ref h_t_moved, .int v_m_finding])), (h_t_turns, .inl (cI, 2, .inl v_m_turns))]
abbrev rm_X8_round : Room := { frames := 1, cells := 0, slots := 0, locals := 21 }
def f_X8_round (n : Nat) (v_m_turns : Nat → Int32) : Option (Int32) := bd1_ (f_X8_roundNow n v_m_turns) (fun (r1_1 : Int32) => some r1_1)
set_option maxHeartbeats 4000000 in
set_option maxRecDepth 100000 in
theorem c_X8_round (l : Launch) (dC : Nat → ClassId) (dI : Nat → Nat → Nat) (cI cZ cP cS : ClassId) (h_t h_t_turns h_t_phases h_t_ups h_t_typed h_t_texts h_t_diary h_t_longs h_t_awakes h_t_fit h_t_counts h_t_worths h_t_ripes h_t_growths h_t_gains h_t_isThere h_t_forms h_t_sizes h_t_items h_t_moved : Nat) (v_m_hours : Int32) (v_m_months : Int32) (v_m_fitMany : Int32) (v_m_fitFirst : Int32) (v_m_finding : Int32) (v_m_turns : Nat → Int32) (n : Nat) (r : Int32) (hf : f_X8_round n v_m_turns = some r) : Met l yX8_round wsX8_round rm_X8_round (RO (dC, dI) (TY cI cZ cP cS) [.ref h_t] (wd_X8_round cI cZ cP cS h_t h_t_turns h_t_phases h_t_ups h_t_typed h_t_texts h_t_diary h_t_longs h_t_awakes h_t_fit h_t_counts h_t_worths h_t_ripes h_t_growths h_t_gains h_t_isThere h_t_forms h_t_sizes h_t_items h_t_moved v_m_hours v_m_months v_m_fitMany v_m_fitFirst v_m_finding v_m_turns)) (vp_Si (fun x => x = r)) 0 0 NF := by
  refine Met.ofW (cc := cX8_round) (maxL := 1) (ret := (some .int)) (by decide) rfl ?_
  intro p e s m args below meth c s₁ B hml hv
  obtain ⟨rfl, hP, hK⟩ := hv
  have hx := B.exec
  have hb := B.bytes
  have hr := B.returns
  have hts := atoms_spec (ws := wsX8_round) B.pre
  have hown : s.vm.findClass RX8 = some m.cls := findClass_of_methodNamed B.named
  have hlocks := B.notSynchronized
  have hl := lv_entry ([.ref h_t]) (n := 1) (Nat.le_of_ble_eq_true rfl)
  rw [lg_entry_eq]
  generalize (lg_sl ([.ref h_t]) ++ List.replicate (1 - (lg_sl ([.ref h_t])).length) Slot.unset).toArray = ls at hl ⊢
  have hl : lv_has ls 1 [(0, .ref h_t)] := hl
  unfold f_X8_round at hf
  refine lv_aload_n hx hb dX8_round_0 rfl (lv_at hl 0 rfl) ?_
  obtain ⟨r1_1, hc_2, hf⟩ := bd1_e hf
  refine vp_callSi (va_runV (As := []) (rest := []) ⟨hx, hb, hml, hown, hts⟩ (c_X8_roundNow l dC dI cI cZ cP cS h_t h_t_turns h_t_phases h_t_ups h_t_typed h_t_texts h_t_diary h_t_longs h_t_awakes h_t_fit h_t_counts h_t_worths h_t_ripes h_t_growths h_t_gains h_t_isThere h_t_forms h_t_sizes h_t_items h_t_moved v_m_hours v_m_months v_m_fitMany v_m_fitFirst v_m_finding v_m_turns  n r1_1 hc_2) (cwV 0 hts gX8_round_X8_roundNow rfl rfl rfl (by decide +kernel) ⟨Nat.le_of_ble_eq_true rfl, Nat.le_of_ble_eq_true rfl⟩) (pv_ro (ci := 7) (q0 := 0) hK (hP.sub (ws' := (wd_X8_roundNow cI cZ cP cS h_t h_t_turns h_t_phases h_t_ups h_t_typed h_t_texts h_t_diary h_t_longs h_t_awakes h_t_fit h_t_counts h_t_worths h_t_ripes h_t_growths h_t_gains h_t_isThere h_t_forms h_t_sizes h_t_items h_t_moved v_m_hours v_m_months v_m_fitMany v_m_fitFirst v_m_finding v_m_turns)) [0, 1] rfl) rfl rfl) rfl rfl hl.1 rfl (lv_room (Nat.le_of_ble_eq_true rfl)) dX8_round_1 ⟨Nat.zero_le _, Nat.zero_le _⟩).run (fun x e_3 => ?_)
  rw [e_3]
  exact W.iret hx hb hr (fun t ht hW => ⟨_, rfl, Option.some.inj hf, ht⟩) (fun _ h => nomatch h) dX8_round_4

abbrev wd_X8_sheet (cI cZ cP cS : ClassId) (h_t h_t_turns h_t_phases h_t_ups h_t_typed h_t_texts h_t_diary h_t_longs h_t_awakes h_t_fit h_t_counts h_t_worths h_t_ripes h_t_growths h_t_gains h_t_isThere h_t_forms h_t_sizes h_t_items h_t_moved : Nat) (v_m_hours : Int32) (v_m_months : Int32) (v_m_fitMany : Int32) (v_m_fitFirst : Int32) (v_m_finding : Int32) (v_m_isThere : Nat → Int32) (v_m_forms : Nat → Int32) (v_m_sizes : Nat → Int32) (v_m_items : Nat → Int32) : va_W := [(h_t, .inr (7, [.ref h_t_turns, .ref h_t_phases, .ref h_t_ups, .ref h_t_typed, .ref h_t_texts, .int v_m_hours, .ref h_t_diary, .int v_m_months, .ref h_t_longs, .ref h_t_awakes, .ref h_t_fit, .int v_m_fitMany, .int v_m_fitFirst, .ref h_t_counts, .ref h_t_worths, .ref h_t_ripes, .ref h_t_growths, .ref h_t_gains, .ref h_t_isThere, .ref h_t_forms, .ref h_t_sizes, .ref h_t_items, .ref h_t_moved, .int v_m_finding])), (h_t_isThere, .inl (cZ, 4, .inl v_m_isThere)), (h_t_forms, .inl (cI, 4, .inl v_m_forms)), (h_t_sizes, .inl (cI, 4, .inl v_m_sizes)), (h_t_items, .inl (cI, 192, .inl v_m_items))]
abbrev rm_X8_sheet : Room := { frames := 2, cells := 0, slots := 0, locals := 42 }
def L_X8_sheet_59 (x1 : Int32) (kx59 : (Nat → Int32) → Option (Int32 × Int32 × (Nat → Int32) × (Nat → Int32) × (Nat → Int32) × (Nat → Int32))) : Nat → Int32 → (Nat → Int32) → Option (Int32 × Int32 × (Nat → Int32) × (Nat → Int32) × (Nat → Int32) × (Nat → Int32))
  | 0, _, _ => none
  | k59 + 1, y59_4, w59_m_items => if (48 : Int32) ≤ y59_4 then kx59 w59_m_items else ix_ ((48 * x1) + y59_4) 192 (L_X8_sheet_59 x1 kx59 k59 (y59_4 + 1) (upd w59_m_items ((48 * x1) + y59_4).toNatClampNeg 0))
theorem L_X8_sheet_59_s (x1 : Int32) (kx59 : (Nat → Int32) → Option (Int32 × Int32 × (Nat → Int32) × (Nat → Int32) × (Nat → Int32) × (Nat → Int32))) (k59 : Nat) (y59_4 : Int32) (w59_m_items : Nat → Int32) : L_X8_sheet_59 x1 kx59 (k59 + 1) y59_4 w59_m_items = if (48 : Int32) ≤ y59_4 then kx59 w59_m_items else ix_ ((48 * x1) + y59_4) 192 (L_X8_sheet_59 x1 kx59 k59 (y59_4 + 1) (upd w59_m_items ((48 * x1) + y59_4).toNatClampNeg 0)) := rfl
def f_X8_sheet (n : Nat) (v_m_finding : Int32) (v_m_isThere : Nat → Int32) (v_m_forms : Nat → Int32) (v_m_sizes : Nat → Int32) (v_m_items : Nat → Int32) (x1 : Int32) (x2 : Int32) (x3 : Int32) : Option (Int32 × Int32 × (Nat → Int32) × (Nat → Int32) × (Nat → Int32) × (Nat → Int32)) := bd1_ (f_X8_isSheet n x1) (fun (r1_1 : Int32) => if r1_1 = 0 then some ((-2), v_m_finding, v_m_isThere, v_m_forms, v_m_sizes, v_m_items) else bd1_ (f_X8_in n x2 0 2) (fun (r10_5 : Int32) => if r10_5 = 0 then some ((-2), v_m_finding, v_m_isThere, v_m_forms, v_m_sizes, v_m_items) else if x3 ≤ 48 then if (0 : Int32) ≤ x3 then ix_ x1 4 (ix_ x1 4 (ix_ x1 4 (jn1_ (fun (u59_m_items : Nat → Int32) => some (x3, v_m_finding, (upd v_m_isThere x1.toNatClampNeg (vp_nar .boolean 1)), (upd v_m_forms x1.toNatClampNeg x2), (upd v_m_sizes x1.toNatClampNeg x3), u59_m_items)) (fun kx59 => L_X8_sheet_59 x1 kx59 n 0 v_m_items)))) else bd2_ (f_X8_meets n v_m_finding 5) (fun (r31_13 : Int32) (o31_14 : Int32) => some (r31_13, o31_14, v_m_isThere, v_m_forms, v_m_sizes, v_m_items)) else some ((-2), v_m_finding, v_m_isThere, v_m_forms, v_m_sizes, v_m_items)))
set_option maxHeartbeats 4000000 in
set_option maxRecDepth 100000 in
theorem c_X8_sheet (l : Launch) (dC : Nat → ClassId) (dI : Nat → Nat → Nat) (cI cZ cP cS : ClassId) (sz : Nat) (h_t h_t_turns h_t_phases h_t_ups h_t_typed h_t_texts h_t_diary h_t_longs h_t_awakes h_t_fit h_t_counts h_t_worths h_t_ripes h_t_growths h_t_gains h_t_isThere h_t_forms h_t_sizes h_t_items h_t_moved : Nat) (v_m_hours : Int32) (v_m_months : Int32) (v_m_fitMany : Int32) (v_m_fitFirst : Int32) (v_m_finding : Int32) (v_m_isThere : Nat → Int32) (v_m_forms : Nat → Int32) (v_m_sizes : Nat → Int32) (v_m_items : Nat → Int32) (x1 : Int32) (x2 : Int32) (x3 : Int32) (n : Nat) (r : Int32) (o_m_finding : Int32) (o_m_isThere : Nat → Int32) (o_m_forms : Nat → Int32) (o_m_sizes : Nat → Int32) (o_m_items : Nat → Int32) (hf : f_X8_sheet n v_m_finding v_m_isThere v_m_forms v_m_sizes v_m_items x1 x2 x3 = some (r, o_m_finding, o_m_isThere, o_m_forms, o_m_sizes, o_m_items)) : Met l yX8_sheet wsX8_sheet rm_X8_sheet (RW (dC, dI) (TY cI cZ cP cS) [.ref h_t, .int x1, .int x2, .int x3] sz (wd_X8_sheet cI cZ cP cS h_t h_t_turns h_t_phases h_t_ups h_t_typed h_t_texts h_t_diary h_t_longs h_t_awakes h_t_fit h_t_counts h_t_worths h_t_ripes h_t_growths h_t_gains h_t_isThere h_t_forms h_t_sizes h_t_items h_t_moved v_m_hours v_m_months v_m_fitMany v_m_fitFirst v_m_finding v_m_isThere v_m_forms v_m_sizes v_m_items)) (RWi (dC, dI) (TY cI cZ cP cS) r sz (wd_X8_sheet cI cZ cP cS h_t h_t_turns h_t_phases h_t_ups h_t_typed h_t_texts h_t_diary h_t_longs h_t_awakes h_t_fit h_t_counts h_t_worths h_t_ripes h_t_growths h_t_gains h_t_isThere h_t_forms h_t_sizes h_t_items h_t_moved v_m_hours v_m_months v_m_fitMany v_m_fitFirst v_m_finding v_m_isThere v_m_forms v_m_sizes v_m_items) (wd_X8_sheet cI cZ cP cS h_t h_t_turns h_t_phases h_t_ups h_t_typed h_t_texts h_t_diary h_t_longs h_t_awakes h_t_fit h_t_counts h_t_worths h_t_ripes h_t_growths h_t_gains h_t_isThere h_t_forms h_t_sizes h_t_items h_t_moved v_m_hours v_m_months v_m_fitMany v_m_fitFirst o_m_finding o_m_isThere o_m_forms o_m_sizes o_m_items)) 0 0 (va_A (wd_X8_sheet cI cZ cP cS h_t h_t_turns h_t_phases h_t_ups h_t_typed h_t_texts h_t_diary h_t_longs h_t_awakes h_t_fit h_t_counts h_t_worths h_t_ripes h_t_growths h_t_gains h_t_isThere h_t_forms h_t_sizes h_t_items h_t_moved v_m_hours v_m_months v_m_fitMany v_m_fitFirst v_m_finding v_m_isThere v_m_forms v_m_sizes v_m_items) sz) := by
  refine Met.ofW (cc := cX8_sheet) (maxL := 5) (ret := (some .int)) (by decide) rfl ?_
  intro p e s m args below meth c s₁ B hml hv
  obtain ⟨rfl, hsz, hP, hK, hD0⟩ := hv
  have hx := B.exec
  have hb := B.bytes
  have hr := B.returns
  have hts := atoms_spec (ws := wsX8_sheet) B.pre
  have hown : s.vm.findClass RX8 = some m.cls := findClass_of_methodNamed B.named
  have hlocks := B.notSynchronized
  subst hsz
  have hD := hD0.self (sz := s.heap.size)
  have hA : ∀ q : Nat, s.heap.size ≤ q → (va_A (wd_X8_sheet cI cZ cP cS h_t h_t_turns h_t_phases h_t_ups h_t_typed h_t_texts h_t_diary h_t_longs h_t_awakes h_t_fit h_t_counts h_t_worths h_t_ripes h_t_growths h_t_gains h_t_isThere h_t_forms h_t_sizes h_t_items h_t_moved v_m_hours v_m_months v_m_fitMany v_m_fitFirst v_m_finding v_m_isThere v_m_forms v_m_sizes v_m_items) s.heap.size) q := fun q h => Or.inr h
  have hS : va_S (va_A (wd_X8_sheet cI cZ cP cS h_t h_t_turns h_t_phases h_t_ups h_t_typed h_t_texts h_t_diary h_t_longs h_t_awakes h_t_fit h_t_counts h_t_worths h_t_ripes h_t_growths h_t_gains h_t_isThere h_t_forms h_t_sizes h_t_items h_t_moved v_m_hours v_m_months v_m_fitMany v_m_fitFirst v_m_finding v_m_isThere v_m_forms v_m_sizes v_m_items) s.heap.size) s.heap s.heap [] := va_S.rf
  have hinX8 : ∀ w ∈ wsX80, w ∈ wsX8_sheet := by decide +kernel
  have hl := lv_entry ([.ref h_t, .int x1, .int x2, .int x3]) (n := 5) (Nat.le_of_ble_eq_true rfl)
  rw [lg_entry_eq]
  generalize (lg_sl ([.ref h_t, .int x1, .int x2, .int x3]) ++ List.replicate (5 - (lg_sl ([.ref h_t, .int x1, .int x2, .int x3])).length) Slot.unset).toArray = ls at hl ⊢
  have hl : lv_has ls 5 [(0, .ref h_t), (1, .int x1), (2, .int x2), (3, .int x3)] := hl
  obtain ⟨H, hH⟩ : ∃ H : Heap, H = s.heap := ⟨_, rfl⟩
  have hP : va_P (dC, dI) vwCl (wd_X8_sheet cI cZ cP cS h_t h_t_turns h_t_phases h_t_ups h_t_typed h_t_texts h_t_diary h_t_longs h_t_awakes h_t_fit h_t_counts h_t_worths h_t_ripes h_t_growths h_t_gains h_t_isThere h_t_forms h_t_sizes h_t_items h_t_moved v_m_hours v_m_months v_m_fitMany v_m_fitFirst v_m_finding v_m_isThere v_m_forms v_m_sizes v_m_items) H := by rw [hH]; exact hP
  have hS : va_S (va_A (wd_X8_sheet cI cZ cP cS h_t h_t_turns h_t_phases h_t_ups h_t_typed h_t_texts h_t_diary h_t_longs h_t_awakes h_t_fit h_t_counts h_t_worths h_t_ripes h_t_growths h_t_gains h_t_isThere h_t_forms h_t_sizes h_t_items h_t_moved v_m_hours v_m_months v_m_fitMany v_m_fitFirst v_m_finding v_m_isThere v_m_forms v_m_sizes v_m_items) s.heap.size) s.heap H [] := by rw [hH]; exact hS
  obtain ⟨locs, hlo⟩ : ∃ L : List Loc, L = [] := ⟨_, rfl⟩
  rw [← hlo] at hS
  suffices hgo : W p l e (headSpec wsX8_sheet rm_X8_sheet).room s m ([.ref h_t, .int x1, .int x2, .int x3] : List Value).toArray below meth c H locs 0 0 (MQ below (RWi (dC, dI) (TY cI cZ cP cS) r s.heap.size (wd_X8_sheet cI cZ cP cS h_t h_t_turns h_t_phases h_t_ups h_t_typed h_t_texts h_t_diary h_t_longs h_t_awakes h_t_fit h_t_counts h_t_worths h_t_ripes h_t_growths h_t_gains h_t_isThere h_t_forms h_t_sizes h_t_items h_t_moved v_m_hours v_m_months v_m_fitMany v_m_fitFirst v_m_finding v_m_isThere v_m_forms v_m_sizes v_m_items) (wd_X8_sheet cI cZ cP cS h_t h_t_turns h_t_phases h_t_ups h_t_typed h_t_texts h_t_diary h_t_longs h_t_awakes h_t_fit h_t_counts h_t_worths h_t_ripes h_t_growths h_t_gains h_t_isThere h_t_forms h_t_sizes h_t_items h_t_moved v_m_hours v_m_months v_m_fitMany v_m_fitFirst o_m_finding o_m_isThere o_m_forms o_m_sizes o_m_items)) ([.ref h_t, .int x1, .int x2, .int x3] : List Value).toArray s 0 0 (va_A (wd_X8_sheet cI cZ cP cS h_t h_t_turns h_t_phases h_t_ups h_t_typed h_t_texts h_t_diary h_t_longs h_t_awakes h_t_fit h_t_counts h_t_worths h_t_ripes h_t_growths h_t_gains h_t_isThere h_t_forms h_t_sizes h_t_items h_t_moved v_m_hours v_m_months v_m_fitMany v_m_fitFirst v_m_finding v_m_isThere v_m_forms v_m_sizes v_m_items) s.heap.size)) (F0 m 0 ls []) by rw [hH, hlo] at hgo; exact hgo
  clear hH hlo
  unfold f_X8_sheet at hf
  refine lv_iload_n hx hb dX8_sheet_0 rfl (lv_at hl 1 rfl) ?_
  obtain ⟨r1_1, hc_2, hf⟩ := bd1_e hf
  refine vp_callSi (va_runS (As := [.int x1]) (rest := []) ⟨hx, hb, hml, hown, hts⟩ (c_X8_isSheet l dC dI cI cZ cP cS   x1 n r1_1 hc_2) (va_cwS 1 hts gX8_sheet_X8_isSheet rfl rfl rfl (by decide +kernel) ⟨Nat.le_of_ble_eq_true rfl, Nat.le_of_ble_eq_true rfl⟩) (ps_ro hK (hP.sub (ws' := ([] : va_W)) [] rfl)) rfl rfl hl.1 rfl (lv_room (Nat.le_of_ble_eq_true rfl)) dX8_sheet_1 ⟨Nat.zero_le _, Nat.zero_le _⟩).run (fun x e_3 => ?_)
  obtain ⟨e_3, hb_4⟩ := e_3
  rw [e_3] at hb_4 ⊢
  refine lv_if_eq (tgt := 22) hx hb dX8_sheet_4 (by decide) (fun c4 => ?_) (fun c4 => ?_)
  · rw [if_pos c4] at hf
    refine lv_bipush (v := (-2)) hx hb dX8_sheet_22 (by decide) ?_
    have hq0 := Option.some.inj hf
    obtain ⟨eq0, hq1⟩ := Prod.mk.inj hq0
    obtain ⟨eq1, hq2⟩ := Prod.mk.inj hq1
    obtain ⟨eq2, hq3⟩ := Prod.mk.inj hq2
    obtain ⟨eq3, hq4⟩ := Prod.mk.inj hq3
    obtain ⟨eq4, hq5⟩ := Prod.mk.inj hq4
    clear hf hq0 hq1 hq2 hq3 hq4
    subst eq0
    subst eq1
    subst eq2
    subst eq3
    subst eq4
    subst hq5
    exact W.iret hx hb hr (fun t ht hW => ⟨⟨_, (), rfl, rfl, by rw [ht]; exact hP, va_K.moved hW.alike hK, hD⟩, hS.F ht⟩) hS.2.2 dX8_sheet_24
  · rw [if_neg c4] at hf
    refine lv_iload_n hx hb dX8_sheet_7 rfl (lv_at hl 2 rfl) ?_
    refine lv_iconst (v := 0) hx hb dX8_sheet_8 (by decide) ?_
    refine lv_iconst (v := 2) hx hb dX8_sheet_9 (by decide) ?_
    obtain ⟨r10_5, hc_6, hf⟩ := bd1_e hf
    refine vp_callSi (va_runS (As := [.int x2, .int 0, .int 2]) (rest := []) ⟨hx, hb, hml, hown, hts⟩ (c_X8_in l dC dI cI cZ cP cS   x2 0 2 n r10_5 hc_6) (va_cwS 3 hts gX8_sheet_X8_in rfl rfl rfl (by decide +kernel) ⟨Nat.le_of_ble_eq_true rfl, Nat.le_of_ble_eq_true rfl⟩) (ps_ro hK (hP.sub (ws' := ([] : va_W)) [] rfl)) rfl rfl hl.1 rfl (lv_room (Nat.le_of_ble_eq_true rfl)) dX8_sheet_10 ⟨Nat.zero_le _, Nat.zero_le _⟩).run (fun x e_7 => ?_)
    obtain ⟨e_7, hb_8⟩ := e_7
    rw [e_7] at hb_8 ⊢
    refine lv_if_eq (tgt := 22) hx hb dX8_sheet_13 (by decide) (fun c13 => ?_) (fun c13 => ?_)
    · rw [if_pos c13] at hf
      refine lv_bipush (v := (-2)) hx hb dX8_sheet_22 (by decide) ?_
      have hq0 := Option.some.inj hf
      obtain ⟨eq0, hq1⟩ := Prod.mk.inj hq0
      obtain ⟨eq1, hq2⟩ := Prod.mk.inj hq1
      obtain ⟨eq2, hq3⟩ := Prod.mk.inj hq2
      obtain ⟨eq3, hq4⟩ := Prod.mk.inj hq3
      obtain ⟨eq4, hq5⟩ := Prod.mk.inj hq4
      clear hf hq0 hq1 hq2 hq3 hq4
      subst eq0
      subst eq1
      subst eq2
      subst eq3
      subst eq4
      subst hq5
      exact W.iret hx hb hr (fun t ht hW => ⟨⟨_, (), rfl, rfl, by rw [ht]; exact hP, va_K.moved hW.alike hK, hD⟩, hS.F ht⟩) hS.2.2 dX8_sheet_24
    · rw [if_neg c13] at hf
      refine lv_iload_n hx hb dX8_sheet_16 rfl (lv_at hl 3 rfl) ?_
      refine lv_bipush (v := 48) hx hb dX8_sheet_17 (by decide) ?_
      refine lv_icmp_le (tgt := 25) hx hb dX8_sheet_19 (by decide) (fun c19 => ?_) (fun c19 => ?_)
      · rw [if_pos c19] at hf
        refine lv_iload_n hx hb dX8_sheet_25 rfl (lv_at hl 3 rfl) ?_
        refine lv_if_ge (tgt := 35) hx hb dX8_sheet_26 (by decide) (fun c26 => ?_) (fun c26 => ?_)
        · rw [if_pos c26] at hf
          refine lv_aload_n hx hb dX8_sheet_35 rfl (lv_at hl 0 rfl) ?_
          refine va_get (D := (dC, dI)) (ci := 7) (v := .ref h_t_isThere) (C := RX8) (T := TX8) (N := 24) hx hb hts hinX8 hown hK hP 0 rfl rfl 18 (by decide) (hts (.fieldLink RX8 53 "SecondSunriseModel" "isThere" "[Z") (by decide +kernel)) (fun _ h9 => h9) rfl dX8_sheet_36 ?_
          refine lv_iload_n hx hb dX8_sheet_39 rfl (lv_at hl 1 rfl) ?_
          refine lv_iconst (v := 1) hx hb dX8_sheet_40 (by decide) ?_
          obtain ⟨hi_9, hf⟩ := ix_e hf
          refine va_zast hx hb hK hP hD hS 1 1 rfl rfl hi_9 dX8_sheet_41 (fun H locs hP hD hS => ?_)
          have hP : va_P (dC, dI) vwCl (wd_X8_sheet cI cZ cP cS h_t h_t_turns h_t_phases h_t_ups h_t_typed h_t_texts h_t_diary h_t_longs h_t_awakes h_t_fit h_t_counts h_t_worths h_t_ripes h_t_growths h_t_gains h_t_isThere h_t_forms h_t_sizes h_t_items h_t_moved v_m_hours v_m_months v_m_fitMany v_m_fitFirst v_m_finding (upd v_m_isThere x1.toNatClampNeg (vp_nar .boolean 1)) v_m_forms v_m_sizes v_m_items) H := hP
          have hD : va_D (va_A (wd_X8_sheet cI cZ cP cS h_t h_t_turns h_t_phases h_t_ups h_t_typed h_t_texts h_t_diary h_t_longs h_t_awakes h_t_fit h_t_counts h_t_worths h_t_ripes h_t_growths h_t_gains h_t_isThere h_t_forms h_t_sizes h_t_items h_t_moved v_m_hours v_m_months v_m_fitMany v_m_fitFirst v_m_finding v_m_isThere v_m_forms v_m_sizes v_m_items) s.heap.size) (wd_X8_sheet cI cZ cP cS h_t h_t_turns h_t_phases h_t_ups h_t_typed h_t_texts h_t_diary h_t_longs h_t_awakes h_t_fit h_t_counts h_t_worths h_t_ripes h_t_growths h_t_gains h_t_isThere h_t_forms h_t_sizes h_t_items h_t_moved v_m_hours v_m_months v_m_fitMany v_m_fitFirst v_m_finding (upd v_m_isThere x1.toNatClampNeg (vp_nar .boolean 1)) v_m_forms v_m_sizes v_m_items) := hD
          refine lv_aload_n hx hb dX8_sheet_42 rfl (lv_at hl 0 rfl) ?_
          refine va_get (D := (dC, dI)) (ci := 7) (v := .ref h_t_forms) (C := RX8) (T := TX8) (N := 24) hx hb hts hinX8 hown hK hP 0 rfl rfl 19 (by decide) (hts (.fieldLink RX8 56 "SecondSunriseModel" "forms" "[I") (by decide +kernel)) (fun _ h9 => h9) rfl dX8_sheet_43 ?_
          refine lv_iload_n hx hb dX8_sheet_46 rfl (lv_at hl 1 rfl) ?_
          refine lv_iload_n hx hb dX8_sheet_47 rfl (lv_at hl 2 rfl) ?_
          obtain ⟨hi_10, hf⟩ := ix_e hf
          refine va_iast hx hb hK hP hD hS 2 0 rfl rfl hi_10 dX8_sheet_48 (fun H locs hP hD hS => ?_)
          have hP : va_P (dC, dI) vwCl (wd_X8_sheet cI cZ cP cS h_t h_t_turns h_t_phases h_t_ups h_t_typed h_t_texts h_t_diary h_t_longs h_t_awakes h_t_fit h_t_counts h_t_worths h_t_ripes h_t_growths h_t_gains h_t_isThere h_t_forms h_t_sizes h_t_items h_t_moved v_m_hours v_m_months v_m_fitMany v_m_fitFirst v_m_finding (upd v_m_isThere x1.toNatClampNeg (vp_nar .boolean 1)) (upd v_m_forms x1.toNatClampNeg x2) v_m_sizes v_m_items) H := hP
          have hD : va_D (va_A (wd_X8_sheet cI cZ cP cS h_t h_t_turns h_t_phases h_t_ups h_t_typed h_t_texts h_t_diary h_t_longs h_t_awakes h_t_fit h_t_counts h_t_worths h_t_ripes h_t_growths h_t_gains h_t_isThere h_t_forms h_t_sizes h_t_items h_t_moved v_m_hours v_m_months v_m_fitMany v_m_fitFirst v_m_finding v_m_isThere v_m_forms v_m_sizes v_m_items) s.heap.size) (wd_X8_sheet cI cZ cP cS h_t h_t_turns h_t_phases h_t_ups h_t_typed h_t_texts h_t_diary h_t_longs h_t_awakes h_t_fit h_t_counts h_t_worths h_t_ripes h_t_growths h_t_gains h_t_isThere h_t_forms h_t_sizes h_t_items h_t_moved v_m_hours v_m_months v_m_fitMany v_m_fitFirst v_m_finding (upd v_m_isThere x1.toNatClampNeg (vp_nar .boolean 1)) (upd v_m_forms x1.toNatClampNeg x2) v_m_sizes v_m_items) := hD
          refine lv_aload_n hx hb dX8_sheet_49 rfl (lv_at hl 0 rfl) ?_
          refine va_get (D := (dC, dI)) (ci := 7) (v := .ref h_t_sizes) (C := RX8) (T := TX8) (N := 24) hx hb hts hinX8 hown hK hP 0 rfl rfl 20 (by decide) (hts (.fieldLink RX8 59 "SecondSunriseModel" "sizes" "[I") (by decide +kernel)) (fun _ h9 => h9) rfl dX8_sheet_50 ?_
          refine lv_iload_n hx hb dX8_sheet_53 rfl (lv_at hl 1 rfl) ?_
          refine lv_iload_n hx hb dX8_sheet_54 rfl (lv_at hl 3 rfl) ?_
          obtain ⟨hi_11, hf⟩ := ix_e hf
          refine va_iast hx hb hK hP hD hS 3 0 rfl rfl hi_11 dX8_sheet_55 (fun H locs hP hD hS => ?_)
          have hP : va_P (dC, dI) vwCl (wd_X8_sheet cI cZ cP cS h_t h_t_turns h_t_phases h_t_ups h_t_typed h_t_texts h_t_diary h_t_longs h_t_awakes h_t_fit h_t_counts h_t_worths h_t_ripes h_t_growths h_t_gains h_t_isThere h_t_forms h_t_sizes h_t_items h_t_moved v_m_hours v_m_months v_m_fitMany v_m_fitFirst v_m_finding (upd v_m_isThere x1.toNatClampNeg (vp_nar .boolean 1)) (upd v_m_forms x1.toNatClampNeg x2) (upd v_m_sizes x1.toNatClampNeg x3) v_m_items) H := hP
          have hD : va_D (va_A (wd_X8_sheet cI cZ cP cS h_t h_t_turns h_t_phases h_t_ups h_t_typed h_t_texts h_t_diary h_t_longs h_t_awakes h_t_fit h_t_counts h_t_worths h_t_ripes h_t_growths h_t_gains h_t_isThere h_t_forms h_t_sizes h_t_items h_t_moved v_m_hours v_m_months v_m_fitMany v_m_fitFirst v_m_finding v_m_isThere v_m_forms v_m_sizes v_m_items) s.heap.size) (wd_X8_sheet cI cZ cP cS h_t h_t_turns h_t_phases h_t_ups h_t_typed h_t_texts h_t_diary h_t_longs h_t_awakes h_t_fit h_t_counts h_t_worths h_t_ripes h_t_growths h_t_gains h_t_isThere h_t_forms h_t_sizes h_t_items h_t_moved v_m_hours v_m_months v_m_fitMany v_m_fitFirst v_m_finding (upd v_m_isThere x1.toNatClampNeg (vp_nar .boolean 1)) (upd v_m_forms x1.toNatClampNeg x2) (upd v_m_sizes x1.toNatClampNeg x3) v_m_items) := hD
          refine lv_iconst (v := 0) hx hb dX8_sheet_56 (by decide) ?_
          refine lv_istore (lv' := [(4, .int 0), (0, .ref h_t), (1, .int x1), (2, .int x2), (3, .int x3)]) hx hb dX8_sheet_57 hl (by decide) rfl (fun ls hl => ?_)
          obtain ⟨kx59, ekx59, hf⟩ := jn1_e hf
          have hx59 : ∀ (u59_m_items : Nat → Int32) (H : Heap) (locs : List Loc) (ls : Array Slot), lv_has ls 5 [(3, .int x3)] → va_P (dC, dI) vwCl (wd_X8_sheet cI cZ cP cS h_t h_t_turns h_t_phases h_t_ups h_t_typed h_t_texts h_t_diary h_t_longs h_t_awakes h_t_fit h_t_counts h_t_worths h_t_ripes h_t_growths h_t_gains h_t_isThere h_t_forms h_t_sizes h_t_items h_t_moved v_m_hours v_m_months v_m_fitMany v_m_fitFirst v_m_finding (upd v_m_isThere x1.toNatClampNeg (vp_nar .boolean 1)) (upd v_m_forms x1.toNatClampNeg x2) (upd v_m_sizes x1.toNatClampNeg x3) u59_m_items) H → va_D (va_A (wd_X8_sheet cI cZ cP cS h_t h_t_turns h_t_phases h_t_ups h_t_typed h_t_texts h_t_diary h_t_longs h_t_awakes h_t_fit h_t_counts h_t_worths h_t_ripes h_t_growths h_t_gains h_t_isThere h_t_forms h_t_sizes h_t_items h_t_moved v_m_hours v_m_months v_m_fitMany v_m_fitFirst v_m_finding v_m_isThere v_m_forms v_m_sizes v_m_items) s.heap.size) (wd_X8_sheet cI cZ cP cS h_t h_t_turns h_t_phases h_t_ups h_t_typed h_t_texts h_t_diary h_t_longs h_t_awakes h_t_fit h_t_counts h_t_worths h_t_ripes h_t_growths h_t_gains h_t_isThere h_t_forms h_t_sizes h_t_items h_t_moved v_m_hours v_m_months v_m_fitMany v_m_fitFirst v_m_finding (upd v_m_isThere x1.toNatClampNeg (vp_nar .boolean 1)) (upd v_m_forms x1.toNatClampNeg x2) (upd v_m_sizes x1.toNatClampNeg x3) u59_m_items) → va_S (va_A (wd_X8_sheet cI cZ cP cS h_t h_t_turns h_t_phases h_t_ups h_t_typed h_t_texts h_t_diary h_t_longs h_t_awakes h_t_fit h_t_counts h_t_worths h_t_ripes h_t_growths h_t_gains h_t_isThere h_t_forms h_t_sizes h_t_items h_t_moved v_m_hours v_m_months v_m_fitMany v_m_fitFirst v_m_finding v_m_isThere v_m_forms v_m_sizes v_m_items) s.heap.size) s.heap H locs → kx59 u59_m_items = some (r, o_m_finding, o_m_isThere, o_m_forms, o_m_sizes, o_m_items) → W p l e (headSpec wsX8_sheet rm_X8_sheet).room s m ([.ref h_t, .int x1, .int x2, .int x3] : List Value).toArray below meth c H locs 0 0 (MQ below (RWi (dC, dI) (TY cI cZ cP cS) r s.heap.size (wd_X8_sheet cI cZ cP cS h_t h_t_turns h_t_phases h_t_ups h_t_typed h_t_texts h_t_diary h_t_longs h_t_awakes h_t_fit h_t_counts h_t_worths h_t_ripes h_t_growths h_t_gains h_t_isThere h_t_forms h_t_sizes h_t_items h_t_moved v_m_hours v_m_months v_m_fitMany v_m_fitFirst v_m_finding v_m_isThere v_m_forms v_m_sizes v_m_items) (wd_X8_sheet cI cZ cP cS h_t h_t_turns h_t_phases h_t_ups h_t_typed h_t_texts h_t_diary h_t_longs h_t_awakes h_t_fit h_t_counts h_t_worths h_t_ripes h_t_growths h_t_gains h_t_isThere h_t_forms h_t_sizes h_t_items h_t_moved v_m_hours v_m_months v_m_fitMany v_m_fitFirst o_m_finding o_m_isThere o_m_forms o_m_sizes o_m_items)) ([.ref h_t, .int x1, .int x2, .int x3] : List Value).toArray s 0 0 (va_A (wd_X8_sheet cI cZ cP cS h_t h_t_turns h_t_phases h_t_ups h_t_typed h_t_texts h_t_diary h_t_longs h_t_awakes h_t_fit h_t_counts h_t_worths h_t_ripes h_t_growths h_t_gains h_t_isThere h_t_forms h_t_sizes h_t_items h_t_moved v_m_hours v_m_months v_m_fitMany v_m_fitFirst v_m_finding v_m_isThere v_m_forms v_m_sizes v_m_items) s.heap.size)) (F0 m 85 ls []) := by
            intro u59_m_items H locs ls hl hP hD hS hf
            rw [ekx59] at hf
            refine lv_iload_n hx hb dX8_sheet_85 rfl (lv_at hl 0 rfl) ?_
            have hq0 := Option.some.inj hf
            obtain ⟨eq0, hq1⟩ := Prod.mk.inj hq0
            obtain ⟨eq1, hq2⟩ := Prod.mk.inj hq1
            obtain ⟨eq2, hq3⟩ := Prod.mk.inj hq2
            obtain ⟨eq3, hq4⟩ := Prod.mk.inj hq3
            obtain ⟨eq4, hq5⟩ := Prod.mk.inj hq4
            clear hf hq0 hq1 hq2 hq3 hq4
            subst eq0
            subst eq1
            subst eq2
            subst eq3
            subst eq4
            subst hq5
            exact W.iret hx hb hr (fun t ht hW => ⟨⟨_, (), rfl, rfl, by rw [ht]; exact hP, va_K.moved hW.alike hK, hD⟩, hS.F ht⟩) hS.2.2 dX8_sheet_86
          have hL59 : ∀ (k59 : Nat) (y59_4 : Int32) (w59_m_items : Nat → Int32) (H : Heap) (locs : List Loc) (ls : Array Slot), lv_has ls 5 [(0, .ref h_t), (1, .int x1), (3, .int x3), (4, .int y59_4)] → va_P (dC, dI) vwCl (wd_X8_sheet cI cZ cP cS h_t h_t_turns h_t_phases h_t_ups h_t_typed h_t_texts h_t_diary h_t_longs h_t_awakes h_t_fit h_t_counts h_t_worths h_t_ripes h_t_growths h_t_gains h_t_isThere h_t_forms h_t_sizes h_t_items h_t_moved v_m_hours v_m_months v_m_fitMany v_m_fitFirst v_m_finding (upd v_m_isThere x1.toNatClampNeg (vp_nar .boolean 1)) (upd v_m_forms x1.toNatClampNeg x2) (upd v_m_sizes x1.toNatClampNeg x3) w59_m_items) H → va_D (va_A (wd_X8_sheet cI cZ cP cS h_t h_t_turns h_t_phases h_t_ups h_t_typed h_t_texts h_t_diary h_t_longs h_t_awakes h_t_fit h_t_counts h_t_worths h_t_ripes h_t_growths h_t_gains h_t_isThere h_t_forms h_t_sizes h_t_items h_t_moved v_m_hours v_m_months v_m_fitMany v_m_fitFirst v_m_finding v_m_isThere v_m_forms v_m_sizes v_m_items) s.heap.size) (wd_X8_sheet cI cZ cP cS h_t h_t_turns h_t_phases h_t_ups h_t_typed h_t_texts h_t_diary h_t_longs h_t_awakes h_t_fit h_t_counts h_t_worths h_t_ripes h_t_growths h_t_gains h_t_isThere h_t_forms h_t_sizes h_t_items h_t_moved v_m_hours v_m_months v_m_fitMany v_m_fitFirst v_m_finding (upd v_m_isThere x1.toNatClampNeg (vp_nar .boolean 1)) (upd v_m_forms x1.toNatClampNeg x2) (upd v_m_sizes x1.toNatClampNeg x3) w59_m_items) → va_S (va_A (wd_X8_sheet cI cZ cP cS h_t h_t_turns h_t_phases h_t_ups h_t_typed h_t_texts h_t_diary h_t_longs h_t_awakes h_t_fit h_t_counts h_t_worths h_t_ripes h_t_growths h_t_gains h_t_isThere h_t_forms h_t_sizes h_t_items h_t_moved v_m_hours v_m_months v_m_fitMany v_m_fitFirst v_m_finding v_m_isThere v_m_forms v_m_sizes v_m_items) s.heap.size) s.heap H locs → L_X8_sheet_59 x1 kx59 k59 y59_4 w59_m_items = some (r, o_m_finding, o_m_isThere, o_m_forms, o_m_sizes, o_m_items) → W p l e (headSpec wsX8_sheet rm_X8_sheet).room s m ([.ref h_t, .int x1, .int x2, .int x3] : List Value).toArray below meth c H locs 0 0 (MQ below (RWi (dC, dI) (TY cI cZ cP cS) r s.heap.size (wd_X8_sheet cI cZ cP cS h_t h_t_turns h_t_phases h_t_ups h_t_typed h_t_texts h_t_diary h_t_longs h_t_awakes h_t_fit h_t_counts h_t_worths h_t_ripes h_t_growths h_t_gains h_t_isThere h_t_forms h_t_sizes h_t_items h_t_moved v_m_hours v_m_months v_m_fitMany v_m_fitFirst v_m_finding v_m_isThere v_m_forms v_m_sizes v_m_items) (wd_X8_sheet cI cZ cP cS h_t h_t_turns h_t_phases h_t_ups h_t_typed h_t_texts h_t_diary h_t_longs h_t_awakes h_t_fit h_t_counts h_t_worths h_t_ripes h_t_growths h_t_gains h_t_isThere h_t_forms h_t_sizes h_t_items h_t_moved v_m_hours v_m_months v_m_fitMany v_m_fitFirst o_m_finding o_m_isThere o_m_forms o_m_sizes o_m_items)) ([.ref h_t, .int x1, .int x2, .int x3] : List Value).toArray s 0 0 (va_A (wd_X8_sheet cI cZ cP cS h_t h_t_turns h_t_phases h_t_ups h_t_typed h_t_texts h_t_diary h_t_longs h_t_awakes h_t_fit h_t_counts h_t_worths h_t_ripes h_t_growths h_t_gains h_t_isThere h_t_forms h_t_sizes h_t_items h_t_moved v_m_hours v_m_months v_m_fitMany v_m_fitFirst v_m_finding v_m_isThere v_m_forms v_m_sizes v_m_items) s.heap.size)) (F0 m 59 ls []) := by
            intro k59
            induction k59 with
            | zero =>
              intro y59_4 w59_m_items H locs ls hl hP hD hS hf
              exact absurd hf (fun h => Option.some_ne_none _ h.symm)
            | succ k59 ih =>
              intro y59_4 w59_m_items H locs ls hl hP hD hS hf
              rw [L_X8_sheet_59_s] at hf
              refine lv_iload hx hb dX8_sheet_59 (lv_at hl 3 rfl) ?_
              refine lv_bipush (v := 48) hx hb dX8_sheet_61 (by decide) ?_
              refine lv_icmp_ge (tgt := 85) hx hb dX8_sheet_63 (by decide) (fun c63 => ?_) (fun c63 => ?_)
              · rw [if_pos c63] at hf
                exact hx59 w59_m_items H locs ls (lv_sub hl [2] rfl) hP hD hS hf
              · rw [if_neg c63] at hf
                refine lv_aload_n hx hb dX8_sheet_66 rfl (lv_at hl 0 rfl) ?_
                refine va_get (D := (dC, dI)) (ci := 7) (v := .ref h_t_items) (C := RX8) (T := TX8) (N := 24) hx hb hts hinX8 hown hK hP 0 rfl rfl 21 (by decide) (hts (.fieldLink RX8 62 "SecondSunriseModel" "items" "[I") (by decide +kernel)) (fun _ h9 => h9) rfl dX8_sheet_67 ?_
                refine lv_bipush (v := 48) hx hb dX8_sheet_70 (by decide) ?_
                refine lv_iload_n hx hb dX8_sheet_72 rfl (lv_at hl 1 rfl) ?_
                refine lv_imul hx hb dX8_sheet_73 ?_
                refine lv_iload hx hb dX8_sheet_74 (lv_at hl 3 rfl) ?_
                refine lv_iadd hx hb dX8_sheet_76 ?_
                refine lv_iconst (v := 0) hx hb dX8_sheet_77 (by decide) ?_
                obtain ⟨hi_12, hf⟩ := ix_e hf
                refine va_iast hx hb hK hP hD hS 4 0 rfl rfl hi_12 dX8_sheet_78 (fun H locs hP hD hS => ?_)
                have hP : va_P (dC, dI) vwCl (wd_X8_sheet cI cZ cP cS h_t h_t_turns h_t_phases h_t_ups h_t_typed h_t_texts h_t_diary h_t_longs h_t_awakes h_t_fit h_t_counts h_t_worths h_t_ripes h_t_growths h_t_gains h_t_isThere h_t_forms h_t_sizes h_t_items h_t_moved v_m_hours v_m_months v_m_fitMany v_m_fitFirst v_m_finding (upd v_m_isThere x1.toNatClampNeg (vp_nar .boolean 1)) (upd v_m_forms x1.toNatClampNeg x2) (upd v_m_sizes x1.toNatClampNeg x3) (upd w59_m_items ((48 * x1) + y59_4).toNatClampNeg 0)) H := hP
                have hD : va_D (va_A (wd_X8_sheet cI cZ cP cS h_t h_t_turns h_t_phases h_t_ups h_t_typed h_t_texts h_t_diary h_t_longs h_t_awakes h_t_fit h_t_counts h_t_worths h_t_ripes h_t_growths h_t_gains h_t_isThere h_t_forms h_t_sizes h_t_items h_t_moved v_m_hours v_m_months v_m_fitMany v_m_fitFirst v_m_finding v_m_isThere v_m_forms v_m_sizes v_m_items) s.heap.size) (wd_X8_sheet cI cZ cP cS h_t h_t_turns h_t_phases h_t_ups h_t_typed h_t_texts h_t_diary h_t_longs h_t_awakes h_t_fit h_t_counts h_t_worths h_t_ripes h_t_growths h_t_gains h_t_isThere h_t_forms h_t_sizes h_t_items h_t_moved v_m_hours v_m_months v_m_fitMany v_m_fitFirst v_m_finding (upd v_m_isThere x1.toNatClampNeg (vp_nar .boolean 1)) (upd v_m_forms x1.toNatClampNeg x2) (upd v_m_sizes x1.toNatClampNeg x3) (upd w59_m_items ((48 * x1) + y59_4).toNatClampNeg 0)) := hD
                refine lv_iinc (v := (y59_4 + 1)) (lv' := [(4, .int (y59_4 + 1)), (0, .ref h_t), (1, .int x1), (3, .int x3)]) hx hb dX8_sheet_79 hl (k := 3) rfl rfl (by decide) rfl (fun ls hl => ?_)
                refine lv_goto (tgt := 59) hx hb dX8_sheet_82 (by decide) ?_
                exact ih (y59_4 + 1) (upd w59_m_items ((48 * x1) + y59_4).toNatClampNeg 0) H locs ls (lv_sub hl [1, 2, 3, 0] rfl) hP hD hS hf
          exact hL59 n 0 v_m_items H locs ls (lv_sub hl [1, 2, 4, 0] rfl) hP hD hS hf
        · rw [if_neg c26] at hf
          refine lv_aload_n hx hb dX8_sheet_29 rfl (lv_at hl 0 rfl) ?_
          refine lv_iconst (v := 5) hx hb dX8_sheet_30 (by decide) ?_
          obtain ⟨r31_13, o31_14, hc_15, hf⟩ := bd2_e hf
          refine rwi_call (isC := [0]) (isR := [1, 2, 3, 4]) (perm := [4, 0, 1, 2, 3]) (wr := [(h_t_isThere, .inl (cZ, 4, .inl v_m_isThere)), (h_t_forms, .inl (cI, 4, .inl v_m_forms)), (h_t_sizes, .inl (cI, 4, .inl v_m_sizes)), (h_t_items, .inl (cI, 192, .inl v_m_items))]) (ws2 := (wd_X8_sheet cI cZ cP cS h_t h_t_turns h_t_phases h_t_ups h_t_typed h_t_texts h_t_diary h_t_longs h_t_awakes h_t_fit h_t_counts h_t_worths h_t_ripes h_t_growths h_t_gains h_t_isThere h_t_forms h_t_sizes h_t_items h_t_moved v_m_hours v_m_months v_m_fitMany v_m_fitFirst o31_14 v_m_isThere v_m_forms v_m_sizes v_m_items)) (va_runV (As := [.int 5]) (rest := []) ⟨hx, hb, hml, hown, hts⟩ (c_X8_meets l dC dI cI cZ cP cS H.size h_t h_t_turns h_t_phases h_t_ups h_t_typed h_t_texts h_t_diary h_t_longs h_t_awakes h_t_fit h_t_counts h_t_worths h_t_ripes h_t_growths h_t_gains h_t_isThere h_t_forms h_t_sizes h_t_items h_t_moved v_m_hours v_m_months v_m_fitMany v_m_fitFirst v_m_finding 5 n r31_13 o31_14 hc_15) (cwV 1 hts gX8_sheet_X8_meets rfl rfl rfl (by decide +kernel) ⟨Nat.le_of_ble_eq_true rfl, Nat.le_of_ble_eq_true rfl⟩) (pv_rw (ci := 7) (q0 := 0) hK (hP.sub (ws' := (wd_X8_meets cI cZ cP cS h_t h_t_turns h_t_phases h_t_ups h_t_typed h_t_texts h_t_diary h_t_longs h_t_awakes h_t_fit h_t_counts h_t_worths h_t_ripes h_t_growths h_t_gains h_t_isThere h_t_forms h_t_sizes h_t_items h_t_moved v_m_hours v_m_months v_m_fitMany v_m_fitFirst v_m_finding)) [0] rfl) (hD.sub (ws' := (wd_X8_meets cI cZ cP cS h_t h_t_turns h_t_phases h_t_ups h_t_typed h_t_texts h_t_diary h_t_longs h_t_awakes h_t_fit h_t_counts h_t_worths h_t_ripes h_t_growths h_t_gains h_t_isThere h_t_forms h_t_sizes h_t_items h_t_moved v_m_hours v_m_months v_m_fitMany v_m_fitFirst v_m_finding)) [0] (by decide) rfl) rfl rfl) rfl rfl hl.1 rfl (lv_room (Nat.le_of_ble_eq_true rfl)) dX8_sheet_31 ⟨Nat.zero_le _, Nat.zero_le _⟩) hS hA hP hD rfl (by decide) (by decide) rfl (by decide) rfl rfl (fun H locs hP hD hS => ?_)
          have hq0 := Option.some.inj hf
          obtain ⟨eq0, hq1⟩ := Prod.mk.inj hq0
          obtain ⟨eq1, hq2⟩ := Prod.mk.inj hq1
          obtain ⟨eq2, hq3⟩ := Prod.mk.inj hq2
          obtain ⟨eq3, hq4⟩ := Prod.mk.inj hq3
          obtain ⟨eq4, hq5⟩ := Prod.mk.inj hq4
          clear hf hq0 hq1 hq2 hq3 hq4
          subst eq0
          subst eq1
          subst eq2
          subst eq3
          subst eq4
          subst hq5
          exact W.iret hx hb hr (fun t ht hW => ⟨⟨_, (), rfl, rfl, by rw [ht]; exact hP, va_K.moved hW.alike hK, hD⟩, hS.F ht⟩) hS.2.2 dX8_sheet_34
      · rw [if_neg c19] at hf
        refine lv_bipush (v := (-2)) hx hb dX8_sheet_22 (by decide) ?_
        have hq0 := Option.some.inj hf
        obtain ⟨eq0, hq1⟩ := Prod.mk.inj hq0
        obtain ⟨eq1, hq2⟩ := Prod.mk.inj hq1
        obtain ⟨eq2, hq3⟩ := Prod.mk.inj hq2
        obtain ⟨eq3, hq4⟩ := Prod.mk.inj hq3
        obtain ⟨eq4, hq5⟩ := Prod.mk.inj hq4
        clear hf hq0 hq1 hq2 hq3 hq4
        subst eq0
        subst eq1
        subst eq2
        subst eq3
        subst eq4
        subst hq5
        exact W.iret hx hb hr (fun t ht hW => ⟨⟨_, (), rfl, rfl, by rw [ht]; exact hP, va_K.moved hW.alike hK, hD⟩, hS.F ht⟩) hS.2.2 dX8_sheet_24

abbrev wd_X8_shortest (cI cZ cP cS : ClassId) (h_t h_t_turns h_t_phases h_t_ups h_t_typed h_t_texts h_t_diary h_t_longs h_t_awakes h_t_fit h_t_counts h_t_worths h_t_ripes h_t_growths h_t_gains h_t_isThere h_t_forms h_t_sizes h_t_items h_t_moved : Nat) (v_m_hours : Int32) (v_m_months : Int32) (v_m_fitMany : Int32) (v_m_fitFirst : Int32) (v_m_finding : Int32) (v_m_turns : Nat → Int32) (v_m_phases : Nat → Int32) (v_m_ups : Nat → Int32) : va_W := [(h_t, .inr (7, [.ref h_t_turns, .ref h_t_phases, .ref h_t_ups, .ref h_t_typed, .ref h_t_texts, .int v_m_hours, .ref h_t_diary, .int v_m_months, .ref h_t_longs, .ref h_t_awakes, .ref h_t_fit, .int v_m_fitMany, .int v_m_fitFirst, .ref h_t_counts, .ref h_t_worths, .ref h_t_ripes, .ref h_t_growths, .ref h_t_gains, .ref h_t_isThere, .ref h_t_forms, .ref h_t_sizes, .ref h_t_items, .ref h_t_moved, .int v_m_finding])), (h_t_turns, .inl (cI, 2, .inl v_m_turns)), (h_t_phases, .inl (cI, 2, .inl v_m_phases)), (h_t_ups, .inl (cI, 2, .inl v_m_ups))]
abbrev rm_X8_shortest : Room := { frames := 4, cells := 0, slots := 0, locals := 98 }
def f_X8_shortest (n : Nat) (v_m_turns : Nat → Int32) (v_m_phases : Nat → Int32) (v_m_ups : Nat → Int32) (x1 : Int32) (x2 : Int32) (x3 : Int32) (x4 : Int32) : Option (Int32) := bd1_ (f_X8_isSun n x1) (fun (r1_1 : Int32) => jn0_ (some (-2)) (fun k49 => if r1_1 = 0 then k49 else bd1_ (f_X8_in n x2 0 20) (fun (r11_5 : Int32) => if r11_5 = 0 then k49 else bd1_ (f_X8_in n x3 2 80) (fun (r21_9 : Int32) => if r21_9 = 0 then k49 else bd1_ (f_X8_in n x4 0 1) (fun (r31_13 : Int32) => if r31_13 = 0 then k49 else bd1_ (f_X8_shortestOf n v_m_turns v_m_phases v_m_ups x1 x2 x3 x4) (fun (r43_17 : Int32) => some r43_17))))))
set_option maxHeartbeats 4000000 in
set_option maxRecDepth 100000 in
theorem c_X8_shortest (l : Launch) (dC : Nat → ClassId) (dI : Nat → Nat → Nat) (cI cZ cP cS : ClassId) (h_t h_t_turns h_t_phases h_t_ups h_t_typed h_t_texts h_t_diary h_t_longs h_t_awakes h_t_fit h_t_counts h_t_worths h_t_ripes h_t_growths h_t_gains h_t_isThere h_t_forms h_t_sizes h_t_items h_t_moved : Nat) (v_m_hours : Int32) (v_m_months : Int32) (v_m_fitMany : Int32) (v_m_fitFirst : Int32) (v_m_finding : Int32) (v_m_turns : Nat → Int32) (v_m_phases : Nat → Int32) (v_m_ups : Nat → Int32) (x1 : Int32) (x2 : Int32) (x3 : Int32) (x4 : Int32) (n : Nat) (r : Int32) (hf : f_X8_shortest n v_m_turns v_m_phases v_m_ups x1 x2 x3 x4 = some r) : Met l yX8_shortest wsX8_shortest rm_X8_shortest (RO (dC, dI) (TY cI cZ cP cS) [.ref h_t, .int x1, .int x2, .int x3, .int x4] (wd_X8_shortest cI cZ cP cS h_t h_t_turns h_t_phases h_t_ups h_t_typed h_t_texts h_t_diary h_t_longs h_t_awakes h_t_fit h_t_counts h_t_worths h_t_ripes h_t_growths h_t_gains h_t_isThere h_t_forms h_t_sizes h_t_items h_t_moved v_m_hours v_m_months v_m_fitMany v_m_fitFirst v_m_finding v_m_turns v_m_phases v_m_ups)) (vp_Si (fun x => x = r)) 0 0 NF := by
  refine Met.ofW (cc := cX8_shortest) (maxL := 5) (ret := (some .int)) (by decide) rfl ?_
  intro p e s m args below meth c s₁ B hml hv
  obtain ⟨rfl, hP, hK⟩ := hv
  have hx := B.exec
  have hb := B.bytes
  have hr := B.returns
  have hts := atoms_spec (ws := wsX8_shortest) B.pre
  have hown : s.vm.findClass RX8 = some m.cls := findClass_of_methodNamed B.named
  have hlocks := B.notSynchronized
  have hl := lv_entry ([.ref h_t, .int x1, .int x2, .int x3, .int x4]) (n := 5) (Nat.le_of_ble_eq_true rfl)
  rw [lg_entry_eq]
  generalize (lg_sl ([.ref h_t, .int x1, .int x2, .int x3, .int x4]) ++ List.replicate (5 - (lg_sl ([.ref h_t, .int x1, .int x2, .int x3, .int x4])).length) Slot.unset).toArray = ls at hl ⊢
  have hl : lv_has ls 5 [(0, .ref h_t), (1, .int x1), (2, .int x2), (3, .int x3), (4, .int x4)] := hl
  unfold f_X8_shortest at hf
  refine lv_iload_n hx hb dX8_shortest_0 rfl (lv_at hl 1 rfl) ?_
  obtain ⟨r1_1, hc_2, hf⟩ := bd1_e hf
  refine vp_callSi (va_runS (As := [.int x1]) (rest := []) ⟨hx, hb, hml, hown, hts⟩ (c_X8_isSun l dC dI cI cZ cP cS   x1 n r1_1 hc_2) (va_cwS 1 hts gX8_shortest_X8_isSun rfl rfl rfl (by decide +kernel) ⟨Nat.le_of_ble_eq_true rfl, Nat.le_of_ble_eq_true rfl⟩) (ps_ro hK (hP.sub (ws' := ([] : va_W)) [] rfl)) rfl rfl hl.1 rfl (lv_room (Nat.le_of_ble_eq_true rfl)) dX8_shortest_1 ⟨Nat.zero_le _, Nat.zero_le _⟩).run (fun x e_3 => ?_)
  obtain ⟨e_3, hb_4⟩ := e_3
  rw [e_3] at hb_4 ⊢
  obtain ⟨k49, ek49, hf⟩ := jn0_e hf
  have hj49 : ∀ (ls : Array Slot), lv_has ls 5 [] → k49 = some r → W p l e (headSpec wsX8_shortest rm_X8_shortest).room s m ([.ref h_t, .int x1, .int x2, .int x3, .int x4] : List Value).toArray below meth c s.heap [] 0 0 (MQ below (vp_Si (fun x => x = r)) ([.ref h_t, .int x1, .int x2, .int x3, .int x4] : List Value).toArray s 0 0 NF) (F0 m 49 ls []) := by
    intro ls hl hf
    rw [ek49] at hf
    refine lv_bipush (v := (-2)) hx hb dX8_shortest_49 (by decide) ?_
    exact W.iret hx hb hr (fun t ht hW => ⟨_, rfl, Option.some.inj hf, ht⟩) (fun _ h => nomatch h) dX8_shortest_51
  refine lv_if_eq (tgt := 49) hx hb dX8_shortest_4 (by decide) (fun c4 => ?_) (fun c4 => ?_)
  · rw [if_pos c4] at hf
    exact hj49 ls (lv_sub hl [] rfl) hf
  · rw [if_neg c4] at hf
    refine lv_iload_n hx hb dX8_shortest_7 rfl (lv_at hl 2 rfl) ?_
    refine lv_iconst (v := 0) hx hb dX8_shortest_8 (by decide) ?_
    refine lv_bipush (v := 20) hx hb dX8_shortest_9 (by decide) ?_
    obtain ⟨r11_5, hc_6, hf⟩ := bd1_e hf
    refine vp_callSi (va_runS (As := [.int x2, .int 0, .int 20]) (rest := []) ⟨hx, hb, hml, hown, hts⟩ (c_X8_in l dC dI cI cZ cP cS   x2 0 20 n r11_5 hc_6) (va_cwS 3 hts gX8_shortest_X8_in rfl rfl rfl (by decide +kernel) ⟨Nat.le_of_ble_eq_true rfl, Nat.le_of_ble_eq_true rfl⟩) (ps_ro hK (hP.sub (ws' := ([] : va_W)) [] rfl)) rfl rfl hl.1 rfl (lv_room (Nat.le_of_ble_eq_true rfl)) dX8_shortest_11 ⟨Nat.zero_le _, Nat.zero_le _⟩).run (fun x e_7 => ?_)
    obtain ⟨e_7, hb_8⟩ := e_7
    rw [e_7] at hb_8 ⊢
    refine lv_if_eq (tgt := 49) hx hb dX8_shortest_14 (by decide) (fun c14 => ?_) (fun c14 => ?_)
    · rw [if_pos c14] at hf
      exact hj49 ls (lv_sub hl [] rfl) hf
    · rw [if_neg c14] at hf
      refine lv_iload_n hx hb dX8_shortest_17 rfl (lv_at hl 3 rfl) ?_
      refine lv_iconst (v := 2) hx hb dX8_shortest_18 (by decide) ?_
      refine lv_bipush (v := 80) hx hb dX8_shortest_19 (by decide) ?_
      obtain ⟨r21_9, hc_10, hf⟩ := bd1_e hf
      refine vp_callSi (va_runS (As := [.int x3, .int 2, .int 80]) (rest := []) ⟨hx, hb, hml, hown, hts⟩ (c_X8_in l dC dI cI cZ cP cS   x3 2 80 n r21_9 hc_10) (va_cwS 3 hts gX8_shortest_X8_in rfl rfl rfl (by decide +kernel) ⟨Nat.le_of_ble_eq_true rfl, Nat.le_of_ble_eq_true rfl⟩) (ps_ro hK (hP.sub (ws' := ([] : va_W)) [] rfl)) rfl rfl hl.1 rfl (lv_room (Nat.le_of_ble_eq_true rfl)) dX8_shortest_21 ⟨Nat.zero_le _, Nat.zero_le _⟩).run (fun x e_11 => ?_)
      obtain ⟨e_11, hb_12⟩ := e_11
      rw [e_11] at hb_12 ⊢
      refine lv_if_eq (tgt := 49) hx hb dX8_shortest_24 (by decide) (fun c24 => ?_) (fun c24 => ?_)
      · rw [if_pos c24] at hf
        exact hj49 ls (lv_sub hl [] rfl) hf
      · rw [if_neg c24] at hf
        refine lv_iload hx hb dX8_shortest_27 (lv_at hl 4 rfl) ?_
        refine lv_iconst (v := 0) hx hb dX8_shortest_29 (by decide) ?_
        refine lv_iconst (v := 1) hx hb dX8_shortest_30 (by decide) ?_
        obtain ⟨r31_13, hc_14, hf⟩ := bd1_e hf
        refine vp_callSi (va_runS (As := [.int x4, .int 0, .int 1]) (rest := []) ⟨hx, hb, hml, hown, hts⟩ (c_X8_in l dC dI cI cZ cP cS   x4 0 1 n r31_13 hc_14) (va_cwS 3 hts gX8_shortest_X8_in rfl rfl rfl (by decide +kernel) ⟨Nat.le_of_ble_eq_true rfl, Nat.le_of_ble_eq_true rfl⟩) (ps_ro hK (hP.sub (ws' := ([] : va_W)) [] rfl)) rfl rfl hl.1 rfl (lv_room (Nat.le_of_ble_eq_true rfl)) dX8_shortest_31 ⟨Nat.zero_le _, Nat.zero_le _⟩).run (fun x e_15 => ?_)
        obtain ⟨e_15, hb_16⟩ := e_15
        rw [e_15] at hb_16 ⊢
        refine lv_if_eq (tgt := 49) hx hb dX8_shortest_34 (by decide) (fun c34 => ?_) (fun c34 => ?_)
        · rw [if_pos c34] at hf
          exact hj49 ls (lv_sub hl [] rfl) hf
        · rw [if_neg c34] at hf
          refine lv_aload_n hx hb dX8_shortest_37 rfl (lv_at hl 0 rfl) ?_
          refine lv_iload_n hx hb dX8_shortest_38 rfl (lv_at hl 1 rfl) ?_
          refine lv_iload_n hx hb dX8_shortest_39 rfl (lv_at hl 2 rfl) ?_
          refine lv_iload_n hx hb dX8_shortest_40 rfl (lv_at hl 3 rfl) ?_
          refine lv_iload hx hb dX8_shortest_41 (lv_at hl 4 rfl) ?_
          obtain ⟨r43_17, hc_18, hf⟩ := bd1_e hf
          refine vp_callSi (va_runV (As := [.int x1, .int x2, .int x3, .int x4]) (rest := []) ⟨hx, hb, hml, hown, hts⟩ (c_X8_shortestOf l dC dI cI cZ cP cS h_t h_t_turns h_t_phases h_t_ups h_t_typed h_t_texts h_t_diary h_t_longs h_t_awakes h_t_fit h_t_counts h_t_worths h_t_ripes h_t_growths h_t_gains h_t_isThere h_t_forms h_t_sizes h_t_items h_t_moved v_m_hours v_m_months v_m_fitMany v_m_fitFirst v_m_finding v_m_turns v_m_phases v_m_ups x1 x2 x3 x4 n r43_17 hc_18) (cwV 4 hts gX8_shortest_X8_shortestOf rfl rfl rfl (by decide +kernel) ⟨Nat.le_of_ble_eq_true rfl, Nat.le_of_ble_eq_true rfl⟩) (pv_ro (ci := 7) (q0 := 0) hK (hP.sub (ws' := (wd_X8_shortestOf cI cZ cP cS h_t h_t_turns h_t_phases h_t_ups h_t_typed h_t_texts h_t_diary h_t_longs h_t_awakes h_t_fit h_t_counts h_t_worths h_t_ripes h_t_growths h_t_gains h_t_isThere h_t_forms h_t_sizes h_t_items h_t_moved v_m_hours v_m_months v_m_fitMany v_m_fitFirst v_m_finding v_m_turns v_m_phases v_m_ups)) [0, 1, 2, 3] rfl) rfl rfl) rfl rfl hl.1 rfl (lv_room (Nat.le_of_ble_eq_true rfl)) dX8_shortest_43 ⟨Nat.zero_le _, Nat.zero_le _⟩).run (fun x e_19 => ?_)
          rw [e_19]
          refine lv_goto (tgt := 51) hx hb dX8_shortest_46 (by decide) ?_
          exact W.iret hx hb hr (fun t ht hW => ⟨_, rfl, Option.some.inj hf, ht⟩) (fun _ h => nomatch h) dX8_shortest_51

abbrev wd_X8_spells (cI cZ cP cS : ClassId) (h_t h_t_turns h_t_phases h_t_ups h_t_typed h_t_texts h_t_diary h_t_longs h_t_awakes h_t_fit h_t_counts h_t_worths h_t_ripes h_t_growths h_t_gains h_t_isThere h_t_forms h_t_sizes h_t_items h_t_moved : Nat) (v_m_hours : Int32) (v_m_months : Int32) (v_m_fitMany : Int32) (v_m_fitFirst : Int32) (v_m_finding : Int32) (v_m_turns : Nat → Int32) (v_m_phases : Nat → Int32) (v_m_ups : Nat → Int32) : va_W := [(h_t, .inr (7, [.ref h_t_turns, .ref h_t_phases, .ref h_t_ups, .ref h_t_typed, .ref h_t_texts, .int v_m_hours, .ref h_t_diary, .int v_m_months, .ref h_t_longs, .ref h_t_awakes, .ref h_t_fit, .int v_m_fitMany, .int v_m_fitFirst, .ref h_t_counts, .ref h_t_worths, .ref h_t_ripes, .ref h_t_growths, .ref h_t_gains, .ref h_t_isThere, .ref h_t_forms, .ref h_t_sizes, .ref h_t_items, .ref h_t_moved, .int v_m_finding])), (h_t_turns, .inl (cI, 2, .inl v_m_turns)), (h_t_phases, .inl (cI, 2, .inl v_m_phases)), (h_t_ups, .inl (cI, 2, .inl v_m_ups))]
abbrev rm_X8_spells : Room := { frames := 5, cells := 0, slots := 0, locals := 118 }
def f_X8_spells (n : Nat) (v_m_turns : Nat → Int32) (v_m_phases : Nat → Int32) (v_m_ups : Nat → Int32) (x1 : Int32) (x2 : Int32) : Option (Int32) := bd1_ (f_X8_isLight n x1) (fun (r1_1 : Int32) => jn0_ (some (-2)) (fun k25 => if r1_1 = 0 then k25 else bd1_ (f_X8_in n x2 0 2) (fun (r10_5 : Int32) => if r10_5 = 0 then k25 else bd1_ (f_X8_spellsOf n v_m_turns v_m_phases v_m_ups x1 x2) (fun (r19_9 : Int32) => some r19_9))))
set_option maxHeartbeats 4000000 in
set_option maxRecDepth 100000 in
theorem c_X8_spells (l : Launch) (dC : Nat → ClassId) (dI : Nat → Nat → Nat) (cI cZ cP cS : ClassId) (h_t h_t_turns h_t_phases h_t_ups h_t_typed h_t_texts h_t_diary h_t_longs h_t_awakes h_t_fit h_t_counts h_t_worths h_t_ripes h_t_growths h_t_gains h_t_isThere h_t_forms h_t_sizes h_t_items h_t_moved : Nat) (v_m_hours : Int32) (v_m_months : Int32) (v_m_fitMany : Int32) (v_m_fitFirst : Int32) (v_m_finding : Int32) (v_m_turns : Nat → Int32) (v_m_phases : Nat → Int32) (v_m_ups : Nat → Int32) (x1 : Int32) (x2 : Int32) (n : Nat) (r : Int32) (hf : f_X8_spells n v_m_turns v_m_phases v_m_ups x1 x2 = some r) : Met l yX8_spells wsX8_spells rm_X8_spells (RO (dC, dI) (TY cI cZ cP cS) [.ref h_t, .int x1, .int x2] (wd_X8_spells cI cZ cP cS h_t h_t_turns h_t_phases h_t_ups h_t_typed h_t_texts h_t_diary h_t_longs h_t_awakes h_t_fit h_t_counts h_t_worths h_t_ripes h_t_growths h_t_gains h_t_isThere h_t_forms h_t_sizes h_t_items h_t_moved v_m_hours v_m_months v_m_fitMany v_m_fitFirst v_m_finding v_m_turns v_m_phases v_m_ups)) (vp_Si (fun x => x = r)) 0 0 NF := by
  refine Met.ofW (cc := cX8_spells) (maxL := 3) (ret := (some .int)) (by decide) rfl ?_
  intro p e s m args below meth c s₁ B hml hv
  obtain ⟨rfl, hP, hK⟩ := hv
  have hx := B.exec
  have hb := B.bytes
  have hr := B.returns
  have hts := atoms_spec (ws := wsX8_spells) B.pre
  have hown : s.vm.findClass RX8 = some m.cls := findClass_of_methodNamed B.named
  have hlocks := B.notSynchronized
  have hl := lv_entry ([.ref h_t, .int x1, .int x2]) (n := 3) (Nat.le_of_ble_eq_true rfl)
  rw [lg_entry_eq]
  generalize (lg_sl ([.ref h_t, .int x1, .int x2]) ++ List.replicate (3 - (lg_sl ([.ref h_t, .int x1, .int x2])).length) Slot.unset).toArray = ls at hl ⊢
  have hl : lv_has ls 3 [(0, .ref h_t), (1, .int x1), (2, .int x2)] := hl
  unfold f_X8_spells at hf
  refine lv_iload_n hx hb dX8_spells_0 rfl (lv_at hl 1 rfl) ?_
  obtain ⟨r1_1, hc_2, hf⟩ := bd1_e hf
  refine vp_callSi (va_runS (As := [.int x1]) (rest := []) ⟨hx, hb, hml, hown, hts⟩ (c_X8_isLight l dC dI cI cZ cP cS   x1 n r1_1 hc_2) (va_cwS 1 hts gX8_spells_X8_isLight rfl rfl rfl (by decide +kernel) ⟨Nat.le_of_ble_eq_true rfl, Nat.le_of_ble_eq_true rfl⟩) (ps_ro hK (hP.sub (ws' := ([] : va_W)) [] rfl)) rfl rfl hl.1 rfl (lv_room (Nat.le_of_ble_eq_true rfl)) dX8_spells_1 ⟨Nat.zero_le _, Nat.zero_le _⟩).run (fun x e_3 => ?_)
  obtain ⟨e_3, hb_4⟩ := e_3
  rw [e_3] at hb_4 ⊢
  obtain ⟨k25, ek25, hf⟩ := jn0_e hf
  have hj25 : ∀ (ls : Array Slot), lv_has ls 3 [] → k25 = some r → W p l e (headSpec wsX8_spells rm_X8_spells).room s m ([.ref h_t, .int x1, .int x2] : List Value).toArray below meth c s.heap [] 0 0 (MQ below (vp_Si (fun x => x = r)) ([.ref h_t, .int x1, .int x2] : List Value).toArray s 0 0 NF) (F0 m 25 ls []) := by
    intro ls hl hf
    rw [ek25] at hf
    refine lv_bipush (v := (-2)) hx hb dX8_spells_25 (by decide) ?_
    exact W.iret hx hb hr (fun t ht hW => ⟨_, rfl, Option.some.inj hf, ht⟩) (fun _ h => nomatch h) dX8_spells_27
  refine lv_if_eq (tgt := 25) hx hb dX8_spells_4 (by decide) (fun c4 => ?_) (fun c4 => ?_)
  · rw [if_pos c4] at hf
    exact hj25 ls (lv_sub hl [] rfl) hf
  · rw [if_neg c4] at hf
    refine lv_iload_n hx hb dX8_spells_7 rfl (lv_at hl 2 rfl) ?_
    refine lv_iconst (v := 0) hx hb dX8_spells_8 (by decide) ?_
    refine lv_iconst (v := 2) hx hb dX8_spells_9 (by decide) ?_
    obtain ⟨r10_5, hc_6, hf⟩ := bd1_e hf
    refine vp_callSi (va_runS (As := [.int x2, .int 0, .int 2]) (rest := []) ⟨hx, hb, hml, hown, hts⟩ (c_X8_in l dC dI cI cZ cP cS   x2 0 2 n r10_5 hc_6) (va_cwS 3 hts gX8_spells_X8_in rfl rfl rfl (by decide +kernel) ⟨Nat.le_of_ble_eq_true rfl, Nat.le_of_ble_eq_true rfl⟩) (ps_ro hK (hP.sub (ws' := ([] : va_W)) [] rfl)) rfl rfl hl.1 rfl (lv_room (Nat.le_of_ble_eq_true rfl)) dX8_spells_10 ⟨Nat.zero_le _, Nat.zero_le _⟩).run (fun x e_7 => ?_)
    obtain ⟨e_7, hb_8⟩ := e_7
    rw [e_7] at hb_8 ⊢
    refine lv_if_eq (tgt := 25) hx hb dX8_spells_13 (by decide) (fun c13 => ?_) (fun c13 => ?_)
    · rw [if_pos c13] at hf
      exact hj25 ls (lv_sub hl [] rfl) hf
    · rw [if_neg c13] at hf
      refine lv_aload_n hx hb dX8_spells_16 rfl (lv_at hl 0 rfl) ?_
      refine lv_iload_n hx hb dX8_spells_17 rfl (lv_at hl 1 rfl) ?_
      refine lv_iload_n hx hb dX8_spells_18 rfl (lv_at hl 2 rfl) ?_
      obtain ⟨r19_9, hc_10, hf⟩ := bd1_e hf
      refine vp_callSi (va_runV (As := [.int x1, .int x2]) (rest := []) ⟨hx, hb, hml, hown, hts⟩ (c_X8_spellsOf l dC dI cI cZ cP cS h_t h_t_turns h_t_phases h_t_ups h_t_typed h_t_texts h_t_diary h_t_longs h_t_awakes h_t_fit h_t_counts h_t_worths h_t_ripes h_t_growths h_t_gains h_t_isThere h_t_forms h_t_sizes h_t_items h_t_moved v_m_hours v_m_months v_m_fitMany v_m_fitFirst v_m_finding v_m_turns v_m_phases v_m_ups x1 x2 n r19_9 hc_10) (cwV 2 hts gX8_spells_X8_spellsOf rfl rfl rfl (by decide +kernel) ⟨Nat.le_of_ble_eq_true rfl, Nat.le_of_ble_eq_true rfl⟩) (pv_ro (ci := 7) (q0 := 0) hK (hP.sub (ws' := (wd_X8_spellsOf cI cZ cP cS h_t h_t_turns h_t_phases h_t_ups h_t_typed h_t_texts h_t_diary h_t_longs h_t_awakes h_t_fit h_t_counts h_t_worths h_t_ripes h_t_growths h_t_gains h_t_isThere h_t_forms h_t_sizes h_t_items h_t_moved v_m_hours v_m_months v_m_fitMany v_m_fitFirst v_m_finding v_m_turns v_m_phases v_m_ups)) [0, 1, 2, 3] rfl) rfl rfl) rfl rfl hl.1 rfl (lv_room (Nat.le_of_ble_eq_true rfl)) dX8_spells_19 ⟨Nat.zero_le _, Nat.zero_le _⟩).run (fun x e_11 => ?_)
      rw [e_11]
      refine lv_goto (tgt := 27) hx hb dX8_spells_22 (by decide) ?_
      exact W.iret hx hb hr (fun t ht hW => ⟨_, rfl, Option.some.inj hf, ht⟩) (fun _ h => nomatch h) dX8_spells_27
