abbrev wd_X8_fault (cI cZ cP cS : ClassId) (h_t h_t_turns h_t_phases h_t_ups h_t_typed h_t_texts h_t_diary h_t_longs h_t_awakes h_t_fit h_t_counts h_t_worths h_t_ripes h_t_growths h_t_gains h_t_isThere h_t_forms h_t_sizes h_t_items h_t_moved : Nat) (v_m_hours : Int32) (v_m_months : Int32) (v_m_fitMany : Int32) (v_m_fitFirst : Int32) (v_m_finding : Int32) (v_m_typed : Nat → Int32) (v_m_texts : Nat → Int32) (v_m_diary : Nat → Int32) (v_m_longs : Nat → Int32) : va_W := [(h_t, .inr (7, [.ref h_t_turns, .ref h_t_phases, .ref h_t_ups, .ref h_t_typed, .ref h_t_texts, .int v_m_hours, .ref h_t_diary, .int v_m_months, .ref h_t_longs, .ref h_t_awakes, .ref h_t_fit, .int v_m_fitMany, .int v_m_fitFirst, .ref h_t_counts, .ref h_t_worths, .ref h_t_ripes, .ref h_t_growths, .ref h_t_gains, .ref h_t_isThere, .ref h_t_forms, .ref h_t_sizes, .ref h_t_items, .ref h_t_moved, .int v_m_finding])), (h_t_typed, .inl (cI, 2, .inl v_m_typed)), (h_t_texts, .inl (cI, 120, .inl v_m_texts)), (h_t_diary, .inl (cI, 60, .inl v_m_diary)), (h_t_longs, .inl (cI, 7, .inl v_m_longs))]
abbrev rm_X8_fault : Room := { frames := 4, cells := 0, slots := 0, locals := 91 }
def f_X8_fault (n : Nat) (v_m_hours : Int32) (v_m_months : Int32) (v_m_typed : Nat → Int32) (v_m_texts : Nat → Int32) (v_m_diary : Nat → Int32) (v_m_longs : Nat → Int32) (x1 : Int32) : Option (Int32 × Int32 × Int32 × (Nat → Int32) × (Nat → Int32)) := bd1_ (f_X8_in n x1 0 1) (fun (r3_1 : Int32) => if r3_1 = 0 then some ((-2), v_m_hours, v_m_months, v_m_diary, v_m_longs) else bd5_ (f_X8_faultOf n v_m_hours v_m_months v_m_typed v_m_texts v_m_diary v_m_longs x1) (fun (r11_5 : Int32) (o11_6 : Int32) (o11_7 : Int32) (o11_8 : Nat → Int32) (o11_9 : Nat → Int32) => some (r11_5, o11_6, o11_7, o11_8, o11_9)))
set_option maxHeartbeats 4000000 in
set_option maxRecDepth 100000 in
theorem c_X8_fault (l : Launch) (dC : Nat → ClassId) (dI : Nat → Nat → Nat) (cI cZ cP cS : ClassId) (sz : Nat) (h_t h_t_turns h_t_phases h_t_ups h_t_typed h_t_texts h_t_diary h_t_longs h_t_awakes h_t_fit h_t_counts h_t_worths h_t_ripes h_t_growths h_t_gains h_t_isThere h_t_forms h_t_sizes h_t_items h_t_moved : Nat) (v_m_hours : Int32) (v_m_months : Int32) (v_m_fitMany : Int32) (v_m_fitFirst : Int32) (v_m_finding : Int32) (v_m_typed : Nat → Int32) (v_m_texts : Nat → Int32) (v_m_diary : Nat → Int32) (v_m_longs : Nat → Int32) (x1 : Int32) (n : Nat) (r : Int32) (o_m_hours : Int32) (o_m_months : Int32) (o_m_diary : Nat → Int32) (o_m_longs : Nat → Int32) (hf : f_X8_fault n v_m_hours v_m_months v_m_typed v_m_texts v_m_diary v_m_longs x1 = some (r, o_m_hours, o_m_months, o_m_diary, o_m_longs)) : Met l yX8_fault wsX8_fault rm_X8_fault (RW (dC, dI) (TY cI cZ cP cS) [.ref h_t, .int x1] sz (wd_X8_fault cI cZ cP cS h_t h_t_turns h_t_phases h_t_ups h_t_typed h_t_texts h_t_diary h_t_longs h_t_awakes h_t_fit h_t_counts h_t_worths h_t_ripes h_t_growths h_t_gains h_t_isThere h_t_forms h_t_sizes h_t_items h_t_moved v_m_hours v_m_months v_m_fitMany v_m_fitFirst v_m_finding v_m_typed v_m_texts v_m_diary v_m_longs)) (RWi (dC, dI) (TY cI cZ cP cS) r sz (wd_X8_fault cI cZ cP cS h_t h_t_turns h_t_phases h_t_ups h_t_typed h_t_texts h_t_diary h_t_longs h_t_awakes h_t_fit h_t_counts h_t_worths h_t_ripes h_t_growths h_t_gains h_t_isThere h_t_forms h_t_sizes h_t_items h_t_moved v_m_hours v_m_months v_m_fitMany v_m_fitFirst v_m_finding v_m_typed v_m_texts v_m_diary v_m_longs) (wd_X8_fault cI cZ cP cS h_t h_t_turns h_t_phases h_t_ups h_t_typed h_t_texts h_t_diary h_t_longs h_t_awakes h_t_fit h_t_counts h_t_worths h_t_ripes h_t_growths h_t_gains h_t_isThere h_t_forms h_t_sizes h_t_items h_t_moved o_m_hours o_m_months v_m_fitMany v_m_fitFirst v_m_finding v_m_typed v_m_texts o_m_diary o_m_longs)) 0 0 (va_A (wd_X8_fault cI cZ cP cS h_t h_t_turns h_t_phases h_t_ups h_t_typed h_t_texts h_t_diary h_t_longs h_t_awakes h_t_fit h_t_counts h_t_worths h_t_ripes h_t_growths h_t_gains h_t_isThere h_t_forms h_t_sizes h_t_items h_t_moved v_m_hours v_m_months v_m_fitMany v_m_fitFirst v_m_finding v_m_typed v_m_texts v_m_diary v_m_longs) sz) := by
  refine Met.ofW (cc := cX8_fault) (maxL := 2) (ret := (some .int)) (by decide) rfl ?_
  intro p e s m args below meth c s₁ B hml hv
  obtain ⟨rfl, hsz, hP, hK, hD0⟩ := hv
  have hx := B.exec
  have hb := B.bytes
  have hr := B.returns
  have hts := atoms_spec (ws := wsX8_fault) B.pre
  have hown : s.vm.findClass RX8 = some m.cls := findClass_of_methodNamed B.named
  have hlocks := B.notSynchronized
  subst hsz
  have hD := hD0.self (sz := s.heap.size)
  have hA : ∀ q : Nat, s.heap.size ≤ q → (va_A (wd_X8_fault cI cZ cP cS h_t h_t_turns h_t_phases h_t_ups h_t_typed h_t_texts h_t_diary h_t_longs h_t_awakes h_t_fit h_t_counts h_t_worths h_t_ripes h_t_growths h_t_gains h_t_isThere h_t_forms h_t_sizes h_t_items h_t_moved v_m_hours v_m_months v_m_fitMany v_m_fitFirst v_m_finding v_m_typed v_m_texts v_m_diary v_m_longs) s.heap.size) q := fun q h => Or.inr h
  have hS : va_S (va_A (wd_X8_fault cI cZ cP cS h_t h_t_turns h_t_phases h_t_ups h_t_typed h_t_texts h_t_diary h_t_longs h_t_awakes h_t_fit h_t_counts h_t_worths h_t_ripes h_t_growths h_t_gains h_t_isThere h_t_forms h_t_sizes h_t_items h_t_moved v_m_hours v_m_months v_m_fitMany v_m_fitFirst v_m_finding v_m_typed v_m_texts v_m_diary v_m_longs) s.heap.size) s.heap s.heap [] := va_S.rf
  have hl := lv_entry ([.ref h_t, .int x1]) (n := 2) (Nat.le_of_ble_eq_true rfl)
  rw [lg_entry_eq]
  generalize (lg_sl ([.ref h_t, .int x1]) ++ List.replicate (2 - (lg_sl ([.ref h_t, .int x1])).length) Slot.unset).toArray = ls at hl ⊢
  have hl : lv_has ls 2 [(0, .ref h_t), (1, .int x1)] := hl
  obtain ⟨H, hH⟩ : ∃ H : Heap, H = s.heap := ⟨_, rfl⟩
  have hP : va_P (dC, dI) vwCl (wd_X8_fault cI cZ cP cS h_t h_t_turns h_t_phases h_t_ups h_t_typed h_t_texts h_t_diary h_t_longs h_t_awakes h_t_fit h_t_counts h_t_worths h_t_ripes h_t_growths h_t_gains h_t_isThere h_t_forms h_t_sizes h_t_items h_t_moved v_m_hours v_m_months v_m_fitMany v_m_fitFirst v_m_finding v_m_typed v_m_texts v_m_diary v_m_longs) H := by rw [hH]; exact hP
  have hS : va_S (va_A (wd_X8_fault cI cZ cP cS h_t h_t_turns h_t_phases h_t_ups h_t_typed h_t_texts h_t_diary h_t_longs h_t_awakes h_t_fit h_t_counts h_t_worths h_t_ripes h_t_growths h_t_gains h_t_isThere h_t_forms h_t_sizes h_t_items h_t_moved v_m_hours v_m_months v_m_fitMany v_m_fitFirst v_m_finding v_m_typed v_m_texts v_m_diary v_m_longs) s.heap.size) s.heap H [] := by rw [hH]; exact hS
  obtain ⟨locs, hlo⟩ : ∃ L : List Loc, L = [] := ⟨_, rfl⟩
  rw [← hlo] at hS
  suffices hgo : W p l e (headSpec wsX8_fault rm_X8_fault).room s m ([.ref h_t, .int x1] : List Value).toArray below meth c H locs 0 0 (MQ below (RWi (dC, dI) (TY cI cZ cP cS) r s.heap.size (wd_X8_fault cI cZ cP cS h_t h_t_turns h_t_phases h_t_ups h_t_typed h_t_texts h_t_diary h_t_longs h_t_awakes h_t_fit h_t_counts h_t_worths h_t_ripes h_t_growths h_t_gains h_t_isThere h_t_forms h_t_sizes h_t_items h_t_moved v_m_hours v_m_months v_m_fitMany v_m_fitFirst v_m_finding v_m_typed v_m_texts v_m_diary v_m_longs) (wd_X8_fault cI cZ cP cS h_t h_t_turns h_t_phases h_t_ups h_t_typed h_t_texts h_t_diary h_t_longs h_t_awakes h_t_fit h_t_counts h_t_worths h_t_ripes h_t_growths h_t_gains h_t_isThere h_t_forms h_t_sizes h_t_items h_t_moved o_m_hours o_m_months v_m_fitMany v_m_fitFirst v_m_finding v_m_typed v_m_texts o_m_diary o_m_longs)) ([.ref h_t, .int x1] : List Value).toArray s 0 0 (va_A (wd_X8_fault cI cZ cP cS h_t h_t_turns h_t_phases h_t_ups h_t_typed h_t_texts h_t_diary h_t_longs h_t_awakes h_t_fit h_t_counts h_t_worths h_t_ripes h_t_growths h_t_gains h_t_isThere h_t_forms h_t_sizes h_t_items h_t_moved v_m_hours v_m_months v_m_fitMany v_m_fitFirst v_m_finding v_m_typed v_m_texts v_m_diary v_m_longs) s.heap.size)) (F0 m 0 ls []) by rw [hH, hlo] at hgo; exact hgo
  clear hH hlo
  unfold f_X8_fault at hf
  refine lv_iload_n hx hb dX8_fault_0 rfl (lv_at hl 1 rfl) ?_
  refine lv_iconst (v := 0) hx hb dX8_fault_1 (by decide) ?_
  refine lv_iconst (v := 1) hx hb dX8_fault_2 (by decide) ?_
  obtain ⟨r3_1, hc_2, hf⟩ := bd1_e hf
  refine vp_callSi (va_runS (As := [.int x1, .int 0, .int 1]) (rest := []) ⟨hx, hb, hml, hown, hts⟩ (c_X8_in l dC dI cI cZ cP cS   x1 0 1 n r3_1 hc_2) (va_cwS 3 hts gX8_fault_X8_in rfl rfl rfl (by decide +kernel) ⟨Nat.le_of_ble_eq_true rfl, Nat.le_of_ble_eq_true rfl⟩) (ps_ro hK (hP.sub (ws' := ([] : va_W)) [] rfl)) rfl rfl hl.1 rfl (lv_room (Nat.le_of_ble_eq_true rfl)) dX8_fault_3 ⟨Nat.zero_le _, Nat.zero_le _⟩).run (fun x e_3 => ?_)
  obtain ⟨e_3, hb_4⟩ := e_3
  rw [e_3] at hb_4 ⊢
  refine lv_if_eq (tgt := 17) hx hb dX8_fault_6 (by decide) (fun c6 => ?_) (fun c6 => ?_)
  · rw [if_pos c6] at hf
    refine lv_bipush (v := (-2)) hx hb dX8_fault_17 (by decide) ?_
    have hq0 := Option.some.inj hf
    obtain ⟨eq0, hq1⟩ := Prod.mk.inj hq0
    obtain ⟨eq1, hq2⟩ := Prod.mk.inj hq1
    obtain ⟨eq2, hq3⟩ := Prod.mk.inj hq2
    obtain ⟨eq3, hq4⟩ := Prod.mk.inj hq3
    clear hf hq0 hq1 hq2 hq3
    subst eq0
    subst eq1
    subst eq2
    subst eq3
    subst hq4
    exact W.iret hx hb hr (fun t ht hW => ⟨⟨_, (), rfl, rfl, by rw [ht]; exact hP, va_K.moved hW.alike hK, hD⟩, hS.F ht⟩) hS.2.2 dX8_fault_19
  · rw [if_neg c6] at hf
    refine lv_aload_n hx hb dX8_fault_9 rfl (lv_at hl 0 rfl) ?_
    refine lv_iload_n hx hb dX8_fault_10 rfl (lv_at hl 1 rfl) ?_
    obtain ⟨r11_5, o11_6, o11_7, o11_8, o11_9, hc_10, hf⟩ := bd5_e hf
    refine rwi_call (isC := [0, 1, 2, 3, 4]) (isR := []) (perm := [0, 1, 2, 3, 4]) (wr := []) (ws2 := (wd_X8_fault cI cZ cP cS h_t h_t_turns h_t_phases h_t_ups h_t_typed h_t_texts h_t_diary h_t_longs h_t_awakes h_t_fit h_t_counts h_t_worths h_t_ripes h_t_growths h_t_gains h_t_isThere h_t_forms h_t_sizes h_t_items h_t_moved o11_6 o11_7 v_m_fitMany v_m_fitFirst v_m_finding v_m_typed v_m_texts o11_8 o11_9)) (va_runV (As := [.int x1]) (rest := []) ⟨hx, hb, hml, hown, hts⟩ (c_X8_faultOf l dC dI cI cZ cP cS H.size h_t h_t_turns h_t_phases h_t_ups h_t_typed h_t_texts h_t_diary h_t_longs h_t_awakes h_t_fit h_t_counts h_t_worths h_t_ripes h_t_growths h_t_gains h_t_isThere h_t_forms h_t_sizes h_t_items h_t_moved v_m_hours v_m_months v_m_fitMany v_m_fitFirst v_m_finding v_m_typed v_m_texts v_m_diary v_m_longs x1 n r11_5 o11_6 o11_7 o11_8 o11_9 hc_10) (cwV 1 hts gX8_fault_X8_faultOf rfl rfl rfl (by decide +kernel) ⟨Nat.le_of_ble_eq_true rfl, Nat.le_of_ble_eq_true rfl⟩) (pv_rw (ci := 7) (q0 := 0) hK (hP.sub (ws' := (wd_X8_faultOf cI cZ cP cS h_t h_t_turns h_t_phases h_t_ups h_t_typed h_t_texts h_t_diary h_t_longs h_t_awakes h_t_fit h_t_counts h_t_worths h_t_ripes h_t_growths h_t_gains h_t_isThere h_t_forms h_t_sizes h_t_items h_t_moved v_m_hours v_m_months v_m_fitMany v_m_fitFirst v_m_finding v_m_typed v_m_texts v_m_diary v_m_longs)) [0, 1, 2, 3, 4] rfl) (hD.sub (ws' := (wd_X8_faultOf cI cZ cP cS h_t h_t_turns h_t_phases h_t_ups h_t_typed h_t_texts h_t_diary h_t_longs h_t_awakes h_t_fit h_t_counts h_t_worths h_t_ripes h_t_growths h_t_gains h_t_isThere h_t_forms h_t_sizes h_t_items h_t_moved v_m_hours v_m_months v_m_fitMany v_m_fitFirst v_m_finding v_m_typed v_m_texts v_m_diary v_m_longs)) [0, 1, 2, 3, 4] (by decide) rfl) rfl rfl) rfl rfl hl.1 rfl (lv_room (Nat.le_of_ble_eq_true rfl)) dX8_fault_11 ⟨Nat.zero_le _, Nat.zero_le _⟩) hS hA hP hD rfl (by decide) (by decide) rfl (by decide) rfl rfl (fun H locs hP hD hS => ?_)
    refine lv_goto (tgt := 19) hx hb dX8_fault_14 (by decide) ?_
    have hq0 := Option.some.inj hf
    obtain ⟨eq0, hq1⟩ := Prod.mk.inj hq0
    obtain ⟨eq1, hq2⟩ := Prod.mk.inj hq1
    obtain ⟨eq2, hq3⟩ := Prod.mk.inj hq2
    obtain ⟨eq3, hq4⟩ := Prod.mk.inj hq3
    clear hf hq0 hq1 hq2 hq3
    subst eq0
    subst eq1
    subst eq2
    subst eq3
    subst hq4
    exact W.iret hx hb hr (fun t ht hW => ⟨⟨_, (), rfl, rfl, by rw [ht]; exact hP, va_K.moved hW.alike hK, hD⟩, hS.F ht⟩) hS.2.2 dX8_fault_19

abbrev wd_X8_fits (cI cZ cP cS : ClassId) (h_t h_t_turns h_t_phases h_t_ups h_t_typed h_t_texts h_t_diary h_t_longs h_t_awakes h_t_fit h_t_counts h_t_worths h_t_ripes h_t_growths h_t_gains h_t_isThere h_t_forms h_t_sizes h_t_items h_t_moved : Nat) (v_m_hours : Int32) (v_m_months : Int32) (v_m_fitMany : Int32) (v_m_fitFirst : Int32) (v_m_finding : Int32) (v_m_turns : Nat → Int32) (v_m_ups : Nat → Int32) (v_m_typed : Nat → Int32) (v_m_texts : Nat → Int32) (v_m_diary : Nat → Int32) (v_m_longs : Nat → Int32) (v_m_fit : Nat → Int32) : va_W := [(h_t, .inr (7, [.ref h_t_turns, .ref h_t_phases, .ref h_t_ups, .ref h_t_typed, .ref h_t_texts, .int v_m_hours, .ref h_t_diary, .int v_m_months, .ref h_t_longs, .ref h_t_awakes, .ref h_t_fit, .int v_m_fitMany, .int v_m_fitFirst, .ref h_t_counts, .ref h_t_worths, .ref h_t_ripes, .ref h_t_growths, .ref h_t_gains, .ref h_t_isThere, .ref h_t_forms, .ref h_t_sizes, .ref h_t_items, .ref h_t_moved, .int v_m_finding])), (h_t_turns, .inl (cI, 2, .inl v_m_turns)), (h_t_ups, .inl (cI, 2, .inl v_m_ups)), (h_t_typed, .inl (cI, 2, .inl v_m_typed)), (h_t_texts, .inl (cI, 120, .inl v_m_texts)), (h_t_diary, .inl (cI, 60, .inl v_m_diary)), (h_t_longs, .inl (cI, 7, .inl v_m_longs)), (h_t_fit, .inl (cZ, 1600, .inl v_m_fit))]
abbrev rm_X8_fits : Room := { frames := 7, cells := 0, slots := 0, locals := 156 }
def f_X8_fits (n : Nat) (v_m_hours : Int32) (v_m_months : Int32) (v_m_fitMany : Int32) (v_m_fitFirst : Int32) (v_m_turns : Nat → Int32) (v_m_ups : Nat → Int32) (v_m_typed : Nat → Int32) (v_m_texts : Nat → Int32) (v_m_diary : Nat → Int32) (v_m_longs : Nat → Int32) (v_m_fit : Nat → Int32) (x1 : Int32) : Option (Int32 × Int32 × Int32 × Int32 × Int32 × (Nat → Int32) × (Nat → Int32) × (Nat → Int32)) := bd1_ (f_X8_in n x1 0 1) (fun (r3_1 : Int32) => if r3_1 = 0 then some ((-2), v_m_hours, v_m_months, v_m_fitMany, v_m_fitFirst, v_m_diary, v_m_longs, v_m_fit) else bd8_ (f_X8_fitsOf n v_m_hours v_m_months v_m_fitMany v_m_fitFirst v_m_turns v_m_ups v_m_typed v_m_texts v_m_diary v_m_longs v_m_fit x1) (fun (r11_5 : Int32) (o11_6 : Int32) (o11_7 : Int32) (o11_8 : Int32) (o11_9 : Int32) (o11_10 : Nat → Int32) (o11_11 : Nat → Int32) (o11_12 : Nat → Int32) => some (r11_5, o11_6, o11_7, o11_8, o11_9, o11_10, o11_11, o11_12)))
set_option maxHeartbeats 4000000 in
set_option maxRecDepth 100000 in
theorem c_X8_fits (l : Launch) (dC : Nat → ClassId) (dI : Nat → Nat → Nat) (cI cZ cP cS : ClassId) (sz : Nat) (h_t h_t_turns h_t_phases h_t_ups h_t_typed h_t_texts h_t_diary h_t_longs h_t_awakes h_t_fit h_t_counts h_t_worths h_t_ripes h_t_growths h_t_gains h_t_isThere h_t_forms h_t_sizes h_t_items h_t_moved : Nat) (v_m_hours : Int32) (v_m_months : Int32) (v_m_fitMany : Int32) (v_m_fitFirst : Int32) (v_m_finding : Int32) (v_m_turns : Nat → Int32) (v_m_ups : Nat → Int32) (v_m_typed : Nat → Int32) (v_m_texts : Nat → Int32) (v_m_diary : Nat → Int32) (v_m_longs : Nat → Int32) (v_m_fit : Nat → Int32) (x1 : Int32) (n : Nat) (r : Int32) (o_m_hours : Int32) (o_m_months : Int32) (o_m_fitMany : Int32) (o_m_fitFirst : Int32) (o_m_diary : Nat → Int32) (o_m_longs : Nat → Int32) (o_m_fit : Nat → Int32) (hf : f_X8_fits n v_m_hours v_m_months v_m_fitMany v_m_fitFirst v_m_turns v_m_ups v_m_typed v_m_texts v_m_diary v_m_longs v_m_fit x1 = some (r, o_m_hours, o_m_months, o_m_fitMany, o_m_fitFirst, o_m_diary, o_m_longs, o_m_fit)) : Met l yX8_fits wsX8_fits rm_X8_fits (RW (dC, dI) (TY cI cZ cP cS) [.ref h_t, .int x1] sz (wd_X8_fits cI cZ cP cS h_t h_t_turns h_t_phases h_t_ups h_t_typed h_t_texts h_t_diary h_t_longs h_t_awakes h_t_fit h_t_counts h_t_worths h_t_ripes h_t_growths h_t_gains h_t_isThere h_t_forms h_t_sizes h_t_items h_t_moved v_m_hours v_m_months v_m_fitMany v_m_fitFirst v_m_finding v_m_turns v_m_ups v_m_typed v_m_texts v_m_diary v_m_longs v_m_fit)) (RWi (dC, dI) (TY cI cZ cP cS) r sz (wd_X8_fits cI cZ cP cS h_t h_t_turns h_t_phases h_t_ups h_t_typed h_t_texts h_t_diary h_t_longs h_t_awakes h_t_fit h_t_counts h_t_worths h_t_ripes h_t_growths h_t_gains h_t_isThere h_t_forms h_t_sizes h_t_items h_t_moved v_m_hours v_m_months v_m_fitMany v_m_fitFirst v_m_finding v_m_turns v_m_ups v_m_typed v_m_texts v_m_diary v_m_longs v_m_fit) (wd_X8_fits cI cZ cP cS h_t h_t_turns h_t_phases h_t_ups h_t_typed h_t_texts h_t_diary h_t_longs h_t_awakes h_t_fit h_t_counts h_t_worths h_t_ripes h_t_growths h_t_gains h_t_isThere h_t_forms h_t_sizes h_t_items h_t_moved o_m_hours o_m_months o_m_fitMany o_m_fitFirst v_m_finding v_m_turns v_m_ups v_m_typed v_m_texts o_m_diary o_m_longs o_m_fit)) 0 0 (va_A (wd_X8_fits cI cZ cP cS h_t h_t_turns h_t_phases h_t_ups h_t_typed h_t_texts h_t_diary h_t_longs h_t_awakes h_t_fit h_t_counts h_t_worths h_t_ripes h_t_growths h_t_gains h_t_isThere h_t_forms h_t_sizes h_t_items h_t_moved v_m_hours v_m_months v_m_fitMany v_m_fitFirst v_m_finding v_m_turns v_m_ups v_m_typed v_m_texts v_m_diary v_m_longs v_m_fit) sz) := by
  refine Met.ofW (cc := cX8_fits) (maxL := 2) (ret := (some .int)) (by decide) rfl ?_
  intro p e s m args below meth c s₁ B hml hv
  obtain ⟨rfl, hsz, hP, hK, hD0⟩ := hv
  have hx := B.exec
  have hb := B.bytes
  have hr := B.returns
  have hts := atoms_spec (ws := wsX8_fits) B.pre
  have hown : s.vm.findClass RX8 = some m.cls := findClass_of_methodNamed B.named
  have hlocks := B.notSynchronized
  subst hsz
  have hD := hD0.self (sz := s.heap.size)
  have hA : ∀ q : Nat, s.heap.size ≤ q → (va_A (wd_X8_fits cI cZ cP cS h_t h_t_turns h_t_phases h_t_ups h_t_typed h_t_texts h_t_diary h_t_longs h_t_awakes h_t_fit h_t_counts h_t_worths h_t_ripes h_t_growths h_t_gains h_t_isThere h_t_forms h_t_sizes h_t_items h_t_moved v_m_hours v_m_months v_m_fitMany v_m_fitFirst v_m_finding v_m_turns v_m_ups v_m_typed v_m_texts v_m_diary v_m_longs v_m_fit) s.heap.size) q := fun q h => Or.inr h
  have hS : va_S (va_A (wd_X8_fits cI cZ cP cS h_t h_t_turns h_t_phases h_t_ups h_t_typed h_t_texts h_t_diary h_t_longs h_t_awakes h_t_fit h_t_counts h_t_worths h_t_ripes h_t_growths h_t_gains h_t_isThere h_t_forms h_t_sizes h_t_items h_t_moved v_m_hours v_m_months v_m_fitMany v_m_fitFirst v_m_finding v_m_turns v_m_ups v_m_typed v_m_texts v_m_diary v_m_longs v_m_fit) s.heap.size) s.heap s.heap [] := va_S.rf
  have hl := lv_entry ([.ref h_t, .int x1]) (n := 2) (Nat.le_of_ble_eq_true rfl)
  rw [lg_entry_eq]
  generalize (lg_sl ([.ref h_t, .int x1]) ++ List.replicate (2 - (lg_sl ([.ref h_t, .int x1])).length) Slot.unset).toArray = ls at hl ⊢
  have hl : lv_has ls 2 [(0, .ref h_t), (1, .int x1)] := hl
  obtain ⟨H, hH⟩ : ∃ H : Heap, H = s.heap := ⟨_, rfl⟩
  have hP : va_P (dC, dI) vwCl (wd_X8_fits cI cZ cP cS h_t h_t_turns h_t_phases h_t_ups h_t_typed h_t_texts h_t_diary h_t_longs h_t_awakes h_t_fit h_t_counts h_t_worths h_t_ripes h_t_growths h_t_gains h_t_isThere h_t_forms h_t_sizes h_t_items h_t_moved v_m_hours v_m_months v_m_fitMany v_m_fitFirst v_m_finding v_m_turns v_m_ups v_m_typed v_m_texts v_m_diary v_m_longs v_m_fit) H := by rw [hH]; exact hP
  have hS : va_S (va_A (wd_X8_fits cI cZ cP cS h_t h_t_turns h_t_phases h_t_ups h_t_typed h_t_texts h_t_diary h_t_longs h_t_awakes h_t_fit h_t_counts h_t_worths h_t_ripes h_t_growths h_t_gains h_t_isThere h_t_forms h_t_sizes h_t_items h_t_moved v_m_hours v_m_months v_m_fitMany v_m_fitFirst v_m_finding v_m_turns v_m_ups v_m_typed v_m_texts v_m_diary v_m_longs v_m_fit) s.heap.size) s.heap H [] := by rw [hH]; exact hS
  obtain ⟨locs, hlo⟩ : ∃ L : List Loc, L = [] := ⟨_, rfl⟩
  rw [← hlo] at hS
  suffices hgo : W p l e (headSpec wsX8_fits rm_X8_fits).room s m ([.ref h_t, .int x1] : List Value).toArray below meth c H locs 0 0 (MQ below (RWi (dC, dI) (TY cI cZ cP cS) r s.heap.size (wd_X8_fits cI cZ cP cS h_t h_t_turns h_t_phases h_t_ups h_t_typed h_t_texts h_t_diary h_t_longs h_t_awakes h_t_fit h_t_counts h_t_worths h_t_ripes h_t_growths h_t_gains h_t_isThere h_t_forms h_t_sizes h_t_items h_t_moved v_m_hours v_m_months v_m_fitMany v_m_fitFirst v_m_finding v_m_turns v_m_ups v_m_typed v_m_texts v_m_diary v_m_longs v_m_fit) (wd_X8_fits cI cZ cP cS h_t h_t_turns h_t_phases h_t_ups h_t_typed h_t_texts h_t_diary h_t_longs h_t_awakes h_t_fit h_t_counts h_t_worths h_t_ripes h_t_growths h_t_gains h_t_isThere h_t_forms h_t_sizes h_t_items h_t_moved o_m_hours o_m_months o_m_fitMany o_m_fitFirst v_m_finding v_m_turns v_m_ups v_m_typed v_m_texts o_m_diary o_m_longs o_m_fit)) ([.ref h_t, .int x1] : List Value).toArray s 0 0 (va_A (wd_X8_fits cI cZ cP cS h_t h_t_turns h_t_phases h_t_ups h_t_typed h_t_texts h_t_diary h_t_longs h_t_awakes h_t_fit h_t_counts h_t_worths h_t_ripes h_t_growths h_t_gains h_t_isThere h_t_forms h_t_sizes h_t_items h_t_moved v_m_hours v_m_months v_m_fitMany v_m_fitFirst v_m_finding v_m_turns v_m_ups v_m_typed v_m_texts v_m_diary v_m_longs v_m_fit) s.heap.size)) (F0 m 0 ls []) by rw [hH, hlo] at hgo; exact hgo
  clear hH hlo
  unfold f_X8_fits at hf
  refine lv_iload_n hx hb dX8_fits_0 rfl (lv_at hl 1 rfl) ?_
  refine lv_iconst (v := 0) hx hb dX8_fits_1 (by decide) ?_
  refine lv_iconst (v := 1) hx hb dX8_fits_2 (by decide) ?_
  obtain ⟨r3_1, hc_2, hf⟩ := bd1_e hf
  refine vp_callSi (va_runS (As := [.int x1, .int 0, .int 1]) (rest := []) ⟨hx, hb, hml, hown, hts⟩ (c_X8_in l dC dI cI cZ cP cS   x1 0 1 n r3_1 hc_2) (va_cwS 3 hts gX8_fits_X8_in rfl rfl rfl (by decide +kernel) ⟨Nat.le_of_ble_eq_true rfl, Nat.le_of_ble_eq_true rfl⟩) (ps_ro hK (hP.sub (ws' := ([] : va_W)) [] rfl)) rfl rfl hl.1 rfl (lv_room (Nat.le_of_ble_eq_true rfl)) dX8_fits_3 ⟨Nat.zero_le _, Nat.zero_le _⟩).run (fun x e_3 => ?_)
  obtain ⟨e_3, hb_4⟩ := e_3
  rw [e_3] at hb_4 ⊢
  refine lv_if_eq (tgt := 17) hx hb dX8_fits_6 (by decide) (fun c6 => ?_) (fun c6 => ?_)
  · rw [if_pos c6] at hf
    refine lv_bipush (v := (-2)) hx hb dX8_fits_17 (by decide) ?_
    have hq0 := Option.some.inj hf
    obtain ⟨eq0, hq1⟩ := Prod.mk.inj hq0
    obtain ⟨eq1, hq2⟩ := Prod.mk.inj hq1
    obtain ⟨eq2, hq3⟩ := Prod.mk.inj hq2
    obtain ⟨eq3, hq4⟩ := Prod.mk.inj hq3
    obtain ⟨eq4, hq5⟩ := Prod.mk.inj hq4
    obtain ⟨eq5, hq6⟩ := Prod.mk.inj hq5
    obtain ⟨eq6, hq7⟩ := Prod.mk.inj hq6
    clear hf hq0 hq1 hq2 hq3 hq4 hq5 hq6
    subst eq0
    subst eq1
    subst eq2
    subst eq3
    subst eq4
    subst eq5
    subst eq6
    subst hq7
    exact W.iret hx hb hr (fun t ht hW => ⟨⟨_, (), rfl, rfl, by rw [ht]; exact hP, va_K.moved hW.alike hK, hD⟩, hS.F ht⟩) hS.2.2 dX8_fits_19
  · rw [if_neg c6] at hf
    refine lv_aload_n hx hb dX8_fits_9 rfl (lv_at hl 0 rfl) ?_
    refine lv_iload_n hx hb dX8_fits_10 rfl (lv_at hl 1 rfl) ?_
    obtain ⟨r11_5, o11_6, o11_7, o11_8, o11_9, o11_10, o11_11, o11_12, hc_13, hf⟩ := bd8_e hf
    refine rwi_call (isC := [0, 1, 2, 3, 4, 5, 6, 7]) (isR := []) (perm := [0, 1, 2, 3, 4, 5, 6, 7]) (wr := []) (ws2 := (wd_X8_fits cI cZ cP cS h_t h_t_turns h_t_phases h_t_ups h_t_typed h_t_texts h_t_diary h_t_longs h_t_awakes h_t_fit h_t_counts h_t_worths h_t_ripes h_t_growths h_t_gains h_t_isThere h_t_forms h_t_sizes h_t_items h_t_moved o11_6 o11_7 o11_8 o11_9 v_m_finding v_m_turns v_m_ups v_m_typed v_m_texts o11_10 o11_11 o11_12)) (va_runV (As := [.int x1]) (rest := []) ⟨hx, hb, hml, hown, hts⟩ (c_X8_fitsOf l dC dI cI cZ cP cS H.size h_t h_t_turns h_t_phases h_t_ups h_t_typed h_t_texts h_t_diary h_t_longs h_t_awakes h_t_fit h_t_counts h_t_worths h_t_ripes h_t_growths h_t_gains h_t_isThere h_t_forms h_t_sizes h_t_items h_t_moved v_m_hours v_m_months v_m_fitMany v_m_fitFirst v_m_finding v_m_turns v_m_ups v_m_typed v_m_texts v_m_diary v_m_longs v_m_fit x1 n r11_5 o11_6 o11_7 o11_8 o11_9 o11_10 o11_11 o11_12 hc_13) (cwV 1 hts gX8_fits_X8_fitsOf rfl rfl rfl (by decide +kernel) ⟨Nat.le_of_ble_eq_true rfl, Nat.le_of_ble_eq_true rfl⟩) (pv_rw (ci := 7) (q0 := 0) hK (hP.sub (ws' := (wd_X8_fitsOf cI cZ cP cS h_t h_t_turns h_t_phases h_t_ups h_t_typed h_t_texts h_t_diary h_t_longs h_t_awakes h_t_fit h_t_counts h_t_worths h_t_ripes h_t_growths h_t_gains h_t_isThere h_t_forms h_t_sizes h_t_items h_t_moved v_m_hours v_m_months v_m_fitMany v_m_fitFirst v_m_finding v_m_turns v_m_ups v_m_typed v_m_texts v_m_diary v_m_longs v_m_fit)) [0, 1, 2, 3, 4, 5, 6, 7] rfl) (hD.sub (ws' := (wd_X8_fitsOf cI cZ cP cS h_t h_t_turns h_t_phases h_t_ups h_t_typed h_t_texts h_t_diary h_t_longs h_t_awakes h_t_fit h_t_counts h_t_worths h_t_ripes h_t_growths h_t_gains h_t_isThere h_t_forms h_t_sizes h_t_items h_t_moved v_m_hours v_m_months v_m_fitMany v_m_fitFirst v_m_finding v_m_turns v_m_ups v_m_typed v_m_texts v_m_diary v_m_longs v_m_fit)) [0, 1, 2, 3, 4, 5, 6, 7] (by decide) rfl) rfl rfl) rfl rfl hl.1 rfl (lv_room (Nat.le_of_ble_eq_true rfl)) dX8_fits_11 ⟨Nat.zero_le _, Nat.zero_le _⟩) hS hA hP hD rfl (by decide) (by decide) rfl (by decide) rfl rfl (fun H locs hP hD hS => ?_)
    refine lv_goto (tgt := 19) hx hb dX8_fits_14 (by decide) ?_
    have hq0 := Option.some.inj hf
    obtain ⟨eq0, hq1⟩ := Prod.mk.inj hq0
    obtain ⟨eq1, hq2⟩ := Prod.mk.inj hq1
    obtain ⟨eq2, hq3⟩ := Prod.mk.inj hq2
    obtain ⟨eq3, hq4⟩ := Prod.mk.inj hq3
    obtain ⟨eq4, hq5⟩ := Prod.mk.inj hq4
    obtain ⟨eq5, hq6⟩ := Prod.mk.inj hq5
    obtain ⟨eq6, hq7⟩ := Prod.mk.inj hq6
    clear hf hq0 hq1 hq2 hq3 hq4 hq5 hq6
    subst eq0
    subst eq1
    subst eq2
    subst eq3
    subst eq4
    subst eq5
    subst eq6
    subst hq7
    exact W.iret hx hb hr (fun t ht hW => ⟨⟨_, (), rfl, rfl, by rw [ht]; exact hP, va_K.moved hW.alike hK, hD⟩, hS.F ht⟩) hS.2.2 dX8_fits_19

abbrev wd_X8_lacks (cI cZ cP cS : ClassId) (h_t h_t_turns h_t_phases h_t_ups h_t_typed h_t_texts h_t_diary h_t_longs h_t_awakes h_t_fit h_t_counts h_t_worths h_t_ripes h_t_growths h_t_gains h_t_isThere h_t_forms h_t_sizes h_t_items h_t_moved : Nat) (v_m_hours : Int32) (v_m_months : Int32) (v_m_fitMany : Int32) (v_m_fitFirst : Int32) (v_m_finding : Int32) (v_m_isThere : Nat → Int32) (v_m_forms : Nat → Int32) (v_m_sizes : Nat → Int32) : va_W := [(h_t, .inr (7, [.ref h_t_turns, .ref h_t_phases, .ref h_t_ups, .ref h_t_typed, .ref h_t_texts, .int v_m_hours, .ref h_t_diary, .int v_m_months, .ref h_t_longs, .ref h_t_awakes, .ref h_t_fit, .int v_m_fitMany, .int v_m_fitFirst, .ref h_t_counts, .ref h_t_worths, .ref h_t_ripes, .ref h_t_growths, .ref h_t_gains, .ref h_t_isThere, .ref h_t_forms, .ref h_t_sizes, .ref h_t_items, .ref h_t_moved, .int v_m_finding])), (h_t_isThere, .inl (cZ, 4, .inl v_m_isThere)), (h_t_forms, .inl (cI, 4, .inl v_m_forms)), (h_t_sizes, .inl (cI, 4, .inl v_m_sizes))]
abbrev rm_X8_lacks : Room := { frames := 1, cells := 0, slots := 0, locals := 22 }
def f_X8_lacks (n : Nat) (v_m_isThere : Nat → Int32) (v_m_forms : Nat → Int32) (v_m_sizes : Nat → Int32) (x1 : Int32) (x2 : Int32) (x3 : Int32) : Option (Int32) := ix_ x1 4 (if (v_m_isThere x1.toNatClampNeg) = 0 then some 1 else ix_ x1 4 (if (v_m_forms x1.toNatClampNeg) = x2 then ix_ x1 4 (bd1_ (f_X8_in n x3 0 ((v_m_sizes x1.toNatClampNeg) - 1)) (fun (r37_4 : Int32) => if r37_4 = 0 then some 2 else some 0)) else some 3))
set_option maxHeartbeats 4000000 in
set_option maxRecDepth 100000 in
theorem c_X8_lacks (l : Launch) (dC : Nat → ClassId) (dI : Nat → Nat → Nat) (cI cZ cP cS : ClassId) (h_t h_t_turns h_t_phases h_t_ups h_t_typed h_t_texts h_t_diary h_t_longs h_t_awakes h_t_fit h_t_counts h_t_worths h_t_ripes h_t_growths h_t_gains h_t_isThere h_t_forms h_t_sizes h_t_items h_t_moved : Nat) (v_m_hours : Int32) (v_m_months : Int32) (v_m_fitMany : Int32) (v_m_fitFirst : Int32) (v_m_finding : Int32) (v_m_isThere : Nat → Int32) (v_m_forms : Nat → Int32) (v_m_sizes : Nat → Int32) (x1 : Int32) (x2 : Int32) (x3 : Int32) (n : Nat) (r : Int32) (hf : f_X8_lacks n v_m_isThere v_m_forms v_m_sizes x1 x2 x3 = some r) : Met l yX8_lacks wsX8_lacks rm_X8_lacks (RO (dC, dI) (TY cI cZ cP cS) [.ref h_t, .int x1, .int x2, .int x3] (wd_X8_lacks cI cZ cP cS h_t h_t_turns h_t_phases h_t_ups h_t_typed h_t_texts h_t_diary h_t_longs h_t_awakes h_t_fit h_t_counts h_t_worths h_t_ripes h_t_growths h_t_gains h_t_isThere h_t_forms h_t_sizes h_t_items h_t_moved v_m_hours v_m_months v_m_fitMany v_m_fitFirst v_m_finding v_m_isThere v_m_forms v_m_sizes)) (vp_Si (fun x => x = r)) 0 0 NF := by
  refine Met.ofW (cc := cX8_lacks) (maxL := 4) (ret := (some .int)) (by decide) rfl ?_
  intro p e s m args below meth c s₁ B hml hv
  obtain ⟨rfl, hP, hK⟩ := hv
  have hx := B.exec
  have hb := B.bytes
  have hr := B.returns
  have hts := atoms_spec (ws := wsX8_lacks) B.pre
  have hown : s.vm.findClass RX8 = some m.cls := findClass_of_methodNamed B.named
  have hlocks := B.notSynchronized
  have hinX8 : ∀ w ∈ wsX80, w ∈ wsX8_lacks := by decide +kernel
  have hl := lv_entry ([.ref h_t, .int x1, .int x2, .int x3]) (n := 4) (Nat.le_of_ble_eq_true rfl)
  rw [lg_entry_eq]
  generalize (lg_sl ([.ref h_t, .int x1, .int x2, .int x3]) ++ List.replicate (4 - (lg_sl ([.ref h_t, .int x1, .int x2, .int x3])).length) Slot.unset).toArray = ls at hl ⊢
  have hl : lv_has ls 4 [(0, .ref h_t), (1, .int x1), (2, .int x2), (3, .int x3)] := hl
  unfold f_X8_lacks at hf
  refine lv_aload_n hx hb dX8_lacks_0 rfl (lv_at hl 0 rfl) ?_
  refine va_get (D := (dC, dI)) (ci := 7) (v := .ref h_t_isThere) (C := RX8) (T := TX8) (N := 24) hx hb hts hinX8 hown hK hP 0 rfl rfl 18 (by decide) (hts (.fieldLink RX8 53 "SecondSunriseModel" "isThere" "[Z") (by decide +kernel)) (fun _ h9 => h9) rfl dX8_lacks_1 ?_
  refine lv_iload_n hx hb dX8_lacks_4 rfl (lv_at hl 1 rfl) ?_
  obtain ⟨hi_1, hf⟩ := ix_e hf
  refine va_zald hx hb hK hP 1 1 rfl rfl hi_1 dX8_lacks_5 ?_
  refine lv_if_ne (tgt := 13) hx hb dX8_lacks_6 (by decide) (fun c6 => ?_) (fun c6 => ?_)
  · rw [if_neg c6] at hf
    refine lv_aload_n hx hb dX8_lacks_13 rfl (lv_at hl 0 rfl) ?_
    refine va_get (D := (dC, dI)) (ci := 7) (v := .ref h_t_forms) (C := RX8) (T := TX8) (N := 24) hx hb hts hinX8 hown hK hP 0 rfl rfl 19 (by decide) (hts (.fieldLink RX8 56 "SecondSunriseModel" "forms" "[I") (by decide +kernel)) (fun _ h9 => h9) rfl dX8_lacks_14 ?_
    refine lv_iload_n hx hb dX8_lacks_17 rfl (lv_at hl 1 rfl) ?_
    obtain ⟨hi_2, hf⟩ := ix_e hf
    refine va_iald hx hb hK hP 2 0 rfl rfl hi_2 dX8_lacks_18 ?_
    refine lv_iload_n hx hb dX8_lacks_19 rfl (lv_at hl 2 rfl) ?_
    refine lv_icmp_eq (tgt := 27) hx hb dX8_lacks_20 (by decide) (fun c20 => ?_) (fun c20 => ?_)
    · rw [if_pos c20] at hf
      refine lv_iload_n hx hb dX8_lacks_27 rfl (lv_at hl 3 rfl) ?_
      refine lv_iconst (v := 0) hx hb dX8_lacks_28 (by decide) ?_
      refine lv_aload_n hx hb dX8_lacks_29 rfl (lv_at hl 0 rfl) ?_
      refine va_get (D := (dC, dI)) (ci := 7) (v := .ref h_t_sizes) (C := RX8) (T := TX8) (N := 24) hx hb hts hinX8 hown hK hP 0 rfl rfl 20 (by decide) (hts (.fieldLink RX8 59 "SecondSunriseModel" "sizes" "[I") (by decide +kernel)) (fun _ h9 => h9) rfl dX8_lacks_30 ?_
      refine lv_iload_n hx hb dX8_lacks_33 rfl (lv_at hl 1 rfl) ?_
      obtain ⟨hi_3, hf⟩ := ix_e hf
      refine va_iald hx hb hK hP 3 0 rfl rfl hi_3 dX8_lacks_34 ?_
      refine lv_iconst (v := 1) hx hb dX8_lacks_35 (by decide) ?_
      refine lv_isub hx hb dX8_lacks_36 ?_
      obtain ⟨r37_4, hc_5, hf⟩ := bd1_e hf
      refine vp_callSi (va_runS (As := [.int x3, .int 0, .int ((v_m_sizes x1.toNatClampNeg) - 1)]) (rest := []) ⟨hx, hb, hml, hown, hts⟩ (c_X8_in l dC dI cI cZ cP cS   x3 0 ((v_m_sizes x1.toNatClampNeg) - 1) n r37_4 hc_5) (va_cwS 3 hts gX8_lacks_X8_in rfl rfl rfl (by decide +kernel) ⟨Nat.le_of_ble_eq_true rfl, Nat.le_of_ble_eq_true rfl⟩) (ps_ro hK (hP.sub (ws' := ([] : va_W)) [] rfl)) rfl rfl hl.1 rfl (lv_room (Nat.le_of_ble_eq_true rfl)) dX8_lacks_37 ⟨Nat.zero_le _, Nat.zero_le _⟩).run (fun x e_6 => ?_)
      obtain ⟨e_6, hb_7⟩ := e_6
      rw [e_6] at hb_7 ⊢
      refine lv_if_eq (tgt := 47) hx hb dX8_lacks_40 (by decide) (fun c40 => ?_) (fun c40 => ?_)
      · rw [if_pos c40] at hf
        refine lv_iconst (v := 2) hx hb dX8_lacks_47 (by decide) ?_
        exact W.iret hx hb hr (fun t ht hW => ⟨_, rfl, Option.some.inj hf, ht⟩) (fun _ h => nomatch h) dX8_lacks_48
      · rw [if_neg c40] at hf
        refine lv_iconst (v := 0) hx hb dX8_lacks_43 (by decide) ?_
        refine lv_goto (tgt := 48) hx hb dX8_lacks_44 (by decide) ?_
        exact W.iret hx hb hr (fun t ht hW => ⟨_, rfl, Option.some.inj hf, ht⟩) (fun _ h => nomatch h) dX8_lacks_48
    · rw [if_neg c20] at hf
      refine lv_iconst (v := 3) hx hb dX8_lacks_23 (by decide) ?_
      refine lv_goto (tgt := 48) hx hb dX8_lacks_24 (by decide) ?_
      exact W.iret hx hb hr (fun t ht hW => ⟨_, rfl, Option.some.inj hf, ht⟩) (fun _ h => nomatch h) dX8_lacks_48
  · rw [if_pos c6] at hf
    refine lv_iconst (v := 1) hx hb dX8_lacks_9 (by decide) ?_
    refine lv_goto (tgt := 48) hx hb dX8_lacks_10 (by decide) ?_
    exact W.iret hx hb hr (fun t ht hW => ⟨_, rfl, Option.some.inj hf, ht⟩) (fun _ h => nomatch h) dX8_lacks_48

abbrev wd_X8_get (cI cZ cP cS : ClassId) (h_t h_t_turns h_t_phases h_t_ups h_t_typed h_t_texts h_t_diary h_t_longs h_t_awakes h_t_fit h_t_counts h_t_worths h_t_ripes h_t_growths h_t_gains h_t_isThere h_t_forms h_t_sizes h_t_items h_t_moved : Nat) (v_m_hours : Int32) (v_m_months : Int32) (v_m_fitMany : Int32) (v_m_fitFirst : Int32) (v_m_finding : Int32) (v_m_isThere : Nat → Int32) (v_m_forms : Nat → Int32) (v_m_sizes : Nat → Int32) (v_m_items : Nat → Int32) : va_W := [(h_t, .inr (7, [.ref h_t_turns, .ref h_t_phases, .ref h_t_ups, .ref h_t_typed, .ref h_t_texts, .int v_m_hours, .ref h_t_diary, .int v_m_months, .ref h_t_longs, .ref h_t_awakes, .ref h_t_fit, .int v_m_fitMany, .int v_m_fitFirst, .ref h_t_counts, .ref h_t_worths, .ref h_t_ripes, .ref h_t_growths, .ref h_t_gains, .ref h_t_isThere, .ref h_t_forms, .ref h_t_sizes, .ref h_t_items, .ref h_t_moved, .int v_m_finding])), (h_t_isThere, .inl (cZ, 4, .inl v_m_isThere)), (h_t_forms, .inl (cI, 4, .inl v_m_forms)), (h_t_sizes, .inl (cI, 4, .inl v_m_sizes)), (h_t_items, .inl (cI, 192, .inl v_m_items))]
abbrev rm_X8_get : Room := { frames := 2, cells := 0, slots := 0, locals := 45 }
def f_X8_get (n : Nat) (v_m_finding : Int32) (v_m_isThere : Nat → Int32) (v_m_forms : Nat → Int32) (v_m_sizes : Nat → Int32) (v_m_items : Nat → Int32) (x1 : Int32) (x2 : Int32) (x3 : Int32) : Option (Int32 × Int32) := bd1_ (f_X8_isSheet n x1) (fun (r1_1 : Int32) => if r1_1 = 0 then some ((-2147483648), v_m_finding) else bd1_ (f_X8_in n x2 0 2) (fun (r10_5 : Int32) => if r10_5 = 0 then some ((-2147483648), v_m_finding) else bd1_ (f_X8_lacks n v_m_isThere v_m_forms v_m_sizes x1 x2 x3) (fun (r23_9 : Int32) => if r23_9 ≤ 0 then ix_ ((48 * x1) + x3) 192 (some ((v_m_items ((48 * x1) + x3).toNatClampNeg), v_m_finding)) else some ((-2147483648), r23_9))))
set_option maxHeartbeats 4000000 in
set_option maxRecDepth 100000 in
theorem c_X8_get (l : Launch) (dC : Nat → ClassId) (dI : Nat → Nat → Nat) (cI cZ cP cS : ClassId) (sz : Nat) (h_t h_t_turns h_t_phases h_t_ups h_t_typed h_t_texts h_t_diary h_t_longs h_t_awakes h_t_fit h_t_counts h_t_worths h_t_ripes h_t_growths h_t_gains h_t_isThere h_t_forms h_t_sizes h_t_items h_t_moved : Nat) (v_m_hours : Int32) (v_m_months : Int32) (v_m_fitMany : Int32) (v_m_fitFirst : Int32) (v_m_finding : Int32) (v_m_isThere : Nat → Int32) (v_m_forms : Nat → Int32) (v_m_sizes : Nat → Int32) (v_m_items : Nat → Int32) (x1 : Int32) (x2 : Int32) (x3 : Int32) (n : Nat) (r : Int32) (o_m_finding : Int32) (hf : f_X8_get n v_m_finding v_m_isThere v_m_forms v_m_sizes v_m_items x1 x2 x3 = some (r, o_m_finding)) : Met l yX8_get wsX8_get rm_X8_get (RW (dC, dI) (TY cI cZ cP cS) [.ref h_t, .int x1, .int x2, .int x3] sz (wd_X8_get cI cZ cP cS h_t h_t_turns h_t_phases h_t_ups h_t_typed h_t_texts h_t_diary h_t_longs h_t_awakes h_t_fit h_t_counts h_t_worths h_t_ripes h_t_growths h_t_gains h_t_isThere h_t_forms h_t_sizes h_t_items h_t_moved v_m_hours v_m_months v_m_fitMany v_m_fitFirst v_m_finding v_m_isThere v_m_forms v_m_sizes v_m_items)) (RWi (dC, dI) (TY cI cZ cP cS) r sz (wd_X8_get cI cZ cP cS h_t h_t_turns h_t_phases h_t_ups h_t_typed h_t_texts h_t_diary h_t_longs h_t_awakes h_t_fit h_t_counts h_t_worths h_t_ripes h_t_growths h_t_gains h_t_isThere h_t_forms h_t_sizes h_t_items h_t_moved v_m_hours v_m_months v_m_fitMany v_m_fitFirst v_m_finding v_m_isThere v_m_forms v_m_sizes v_m_items) (wd_X8_get cI cZ cP cS h_t h_t_turns h_t_phases h_t_ups h_t_typed h_t_texts h_t_diary h_t_longs h_t_awakes h_t_fit h_t_counts h_t_worths h_t_ripes h_t_growths h_t_gains h_t_isThere h_t_forms h_t_sizes h_t_items h_t_moved v_m_hours v_m_months v_m_fitMany v_m_fitFirst o_m_finding v_m_isThere v_m_forms v_m_sizes v_m_items)) 0 0 (va_A (wd_X8_get cI cZ cP cS h_t h_t_turns h_t_phases h_t_ups h_t_typed h_t_texts h_t_diary h_t_longs h_t_awakes h_t_fit h_t_counts h_t_worths h_t_ripes h_t_growths h_t_gains h_t_isThere h_t_forms h_t_sizes h_t_items h_t_moved v_m_hours v_m_months v_m_fitMany v_m_fitFirst v_m_finding v_m_isThere v_m_forms v_m_sizes v_m_items) sz) := by
  refine Met.ofW (cc := cX8_get) (maxL := 5) (ret := (some .int)) (by decide) rfl ?_
  intro p e s m args below meth c s₁ B hml hv
  obtain ⟨rfl, hsz, hP, hK, hD0⟩ := hv
  have hx := B.exec
  have hb := B.bytes
  have hr := B.returns
  have hts := atoms_spec (ws := wsX8_get) B.pre
  have hown : s.vm.findClass RX8 = some m.cls := findClass_of_methodNamed B.named
  have hlocks := B.notSynchronized
  subst hsz
  have hD := hD0.self (sz := s.heap.size)
  have hA : ∀ q : Nat, s.heap.size ≤ q → (va_A (wd_X8_get cI cZ cP cS h_t h_t_turns h_t_phases h_t_ups h_t_typed h_t_texts h_t_diary h_t_longs h_t_awakes h_t_fit h_t_counts h_t_worths h_t_ripes h_t_growths h_t_gains h_t_isThere h_t_forms h_t_sizes h_t_items h_t_moved v_m_hours v_m_months v_m_fitMany v_m_fitFirst v_m_finding v_m_isThere v_m_forms v_m_sizes v_m_items) s.heap.size) q := fun q h => Or.inr h
  have hS : va_S (va_A (wd_X8_get cI cZ cP cS h_t h_t_turns h_t_phases h_t_ups h_t_typed h_t_texts h_t_diary h_t_longs h_t_awakes h_t_fit h_t_counts h_t_worths h_t_ripes h_t_growths h_t_gains h_t_isThere h_t_forms h_t_sizes h_t_items h_t_moved v_m_hours v_m_months v_m_fitMany v_m_fitFirst v_m_finding v_m_isThere v_m_forms v_m_sizes v_m_items) s.heap.size) s.heap s.heap [] := va_S.rf
  have hinX8 : ∀ w ∈ wsX80, w ∈ wsX8_get := by decide +kernel
  have hl := lv_entry ([.ref h_t, .int x1, .int x2, .int x3]) (n := 5) (Nat.le_of_ble_eq_true rfl)
  rw [lg_entry_eq]
  generalize (lg_sl ([.ref h_t, .int x1, .int x2, .int x3]) ++ List.replicate (5 - (lg_sl ([.ref h_t, .int x1, .int x2, .int x3])).length) Slot.unset).toArray = ls at hl ⊢
  have hl : lv_has ls 5 [(0, .ref h_t), (1, .int x1), (2, .int x2), (3, .int x3)] := hl
  obtain ⟨H, hH⟩ : ∃ H : Heap, H = s.heap := ⟨_, rfl⟩
  have hP : va_P (dC, dI) vwCl (wd_X8_get cI cZ cP cS h_t h_t_turns h_t_phases h_t_ups h_t_typed h_t_texts h_t_diary h_t_longs h_t_awakes h_t_fit h_t_counts h_t_worths h_t_ripes h_t_growths h_t_gains h_t_isThere h_t_forms h_t_sizes h_t_items h_t_moved v_m_hours v_m_months v_m_fitMany v_m_fitFirst v_m_finding v_m_isThere v_m_forms v_m_sizes v_m_items) H := by rw [hH]; exact hP
  have hS : va_S (va_A (wd_X8_get cI cZ cP cS h_t h_t_turns h_t_phases h_t_ups h_t_typed h_t_texts h_t_diary h_t_longs h_t_awakes h_t_fit h_t_counts h_t_worths h_t_ripes h_t_growths h_t_gains h_t_isThere h_t_forms h_t_sizes h_t_items h_t_moved v_m_hours v_m_months v_m_fitMany v_m_fitFirst v_m_finding v_m_isThere v_m_forms v_m_sizes v_m_items) s.heap.size) s.heap H [] := by rw [hH]; exact hS
  obtain ⟨locs, hlo⟩ : ∃ L : List Loc, L = [] := ⟨_, rfl⟩
  rw [← hlo] at hS
  suffices hgo : W p l e (headSpec wsX8_get rm_X8_get).room s m ([.ref h_t, .int x1, .int x2, .int x3] : List Value).toArray below meth c H locs 0 0 (MQ below (RWi (dC, dI) (TY cI cZ cP cS) r s.heap.size (wd_X8_get cI cZ cP cS h_t h_t_turns h_t_phases h_t_ups h_t_typed h_t_texts h_t_diary h_t_longs h_t_awakes h_t_fit h_t_counts h_t_worths h_t_ripes h_t_growths h_t_gains h_t_isThere h_t_forms h_t_sizes h_t_items h_t_moved v_m_hours v_m_months v_m_fitMany v_m_fitFirst v_m_finding v_m_isThere v_m_forms v_m_sizes v_m_items) (wd_X8_get cI cZ cP cS h_t h_t_turns h_t_phases h_t_ups h_t_typed h_t_texts h_t_diary h_t_longs h_t_awakes h_t_fit h_t_counts h_t_worths h_t_ripes h_t_growths h_t_gains h_t_isThere h_t_forms h_t_sizes h_t_items h_t_moved v_m_hours v_m_months v_m_fitMany v_m_fitFirst o_m_finding v_m_isThere v_m_forms v_m_sizes v_m_items)) ([.ref h_t, .int x1, .int x2, .int x3] : List Value).toArray s 0 0 (va_A (wd_X8_get cI cZ cP cS h_t h_t_turns h_t_phases h_t_ups h_t_typed h_t_texts h_t_diary h_t_longs h_t_awakes h_t_fit h_t_counts h_t_worths h_t_ripes h_t_growths h_t_gains h_t_isThere h_t_forms h_t_sizes h_t_items h_t_moved v_m_hours v_m_months v_m_fitMany v_m_fitFirst v_m_finding v_m_isThere v_m_forms v_m_sizes v_m_items) s.heap.size)) (F0 m 0 ls []) by rw [hH, hlo] at hgo; exact hgo
  clear hH hlo
  unfold f_X8_get at hf
  refine lv_iload_n hx hb dX8_get_0 rfl (lv_at hl 1 rfl) ?_
  obtain ⟨r1_1, hc_2, hf⟩ := bd1_e hf
  refine vp_callSi (va_runS (As := [.int x1]) (rest := []) ⟨hx, hb, hml, hown, hts⟩ (c_X8_isSheet l dC dI cI cZ cP cS   x1 n r1_1 hc_2) (va_cwS 1 hts gX8_get_X8_isSheet rfl rfl rfl (by decide +kernel) ⟨Nat.le_of_ble_eq_true rfl, Nat.le_of_ble_eq_true rfl⟩) (ps_ro hK (hP.sub (ws' := ([] : va_W)) [] rfl)) rfl rfl hl.1 rfl (lv_room (Nat.le_of_ble_eq_true rfl)) dX8_get_1 ⟨Nat.zero_le _, Nat.zero_le _⟩).run (fun x e_3 => ?_)
  obtain ⟨e_3, hb_4⟩ := e_3
  rw [e_3] at hb_4 ⊢
  refine lv_if_eq (tgt := 16) hx hb dX8_get_4 (by decide) (fun c4 => ?_) (fun c4 => ?_)
  · rw [if_pos c4] at hf
    refine lv_ldc (v := (-2147483648)) hx hb hown (hts (.constant RX8 239 (-2147483648)) (by decide +kernel)) dX8_get_16 ?_
    have hq0 := Option.some.inj hf
    obtain ⟨eq0, hq1⟩ := Prod.mk.inj hq0
    clear hf hq0
    subst eq0
    subst hq1
    exact W.iret hx hb hr (fun t ht hW => ⟨⟨_, (), rfl, rfl, by rw [ht]; exact hP, va_K.moved hW.alike hK, hD⟩, hS.F ht⟩) hS.2.2 dX8_get_18
  · rw [if_neg c4] at hf
    refine lv_iload_n hx hb dX8_get_7 rfl (lv_at hl 2 rfl) ?_
    refine lv_iconst (v := 0) hx hb dX8_get_8 (by decide) ?_
    refine lv_iconst (v := 2) hx hb dX8_get_9 (by decide) ?_
    obtain ⟨r10_5, hc_6, hf⟩ := bd1_e hf
    refine vp_callSi (va_runS (As := [.int x2, .int 0, .int 2]) (rest := []) ⟨hx, hb, hml, hown, hts⟩ (c_X8_in l dC dI cI cZ cP cS   x2 0 2 n r10_5 hc_6) (va_cwS 3 hts gX8_get_X8_in rfl rfl rfl (by decide +kernel) ⟨Nat.le_of_ble_eq_true rfl, Nat.le_of_ble_eq_true rfl⟩) (ps_ro hK (hP.sub (ws' := ([] : va_W)) [] rfl)) rfl rfl hl.1 rfl (lv_room (Nat.le_of_ble_eq_true rfl)) dX8_get_10 ⟨Nat.zero_le _, Nat.zero_le _⟩).run (fun x e_7 => ?_)
    obtain ⟨e_7, hb_8⟩ := e_7
    rw [e_7] at hb_8 ⊢
    refine lv_if_ne (tgt := 19) hx hb dX8_get_13 (by decide) (fun c13 => ?_) (fun c13 => ?_)
    · rw [if_neg c13] at hf
      refine lv_aload_n hx hb dX8_get_19 rfl (lv_at hl 0 rfl) ?_
      refine lv_iload_n hx hb dX8_get_20 rfl (lv_at hl 1 rfl) ?_
      refine lv_iload_n hx hb dX8_get_21 rfl (lv_at hl 2 rfl) ?_
      refine lv_iload_n hx hb dX8_get_22 rfl (lv_at hl 3 rfl) ?_
      obtain ⟨r23_9, hc_10, hf⟩ := bd1_e hf
      refine vp_callSi (va_runV (As := [.int x1, .int x2, .int x3]) (rest := []) ⟨hx, hb, hml, hown, hts⟩ (c_X8_lacks l dC dI cI cZ cP cS h_t h_t_turns h_t_phases h_t_ups h_t_typed h_t_texts h_t_diary h_t_longs h_t_awakes h_t_fit h_t_counts h_t_worths h_t_ripes h_t_growths h_t_gains h_t_isThere h_t_forms h_t_sizes h_t_items h_t_moved v_m_hours v_m_months v_m_fitMany v_m_fitFirst v_m_finding v_m_isThere v_m_forms v_m_sizes x1 x2 x3 n r23_9 hc_10) (cwV 3 hts gX8_get_X8_lacks rfl rfl rfl (by decide +kernel) ⟨Nat.le_of_ble_eq_true rfl, Nat.le_of_ble_eq_true rfl⟩) (pv_ro (ci := 7) (q0 := 0) hK (hP.sub (ws' := (wd_X8_lacks cI cZ cP cS h_t h_t_turns h_t_phases h_t_ups h_t_typed h_t_texts h_t_diary h_t_longs h_t_awakes h_t_fit h_t_counts h_t_worths h_t_ripes h_t_growths h_t_gains h_t_isThere h_t_forms h_t_sizes h_t_items h_t_moved v_m_hours v_m_months v_m_fitMany v_m_fitFirst v_m_finding v_m_isThere v_m_forms v_m_sizes)) [0, 1, 2, 3] rfl) rfl rfl) rfl rfl hl.1 rfl (lv_room (Nat.le_of_ble_eq_true rfl)) dX8_get_23 ⟨Nat.zero_le _, Nat.zero_le _⟩).run (fun x e_11 => ?_)
      rw [e_11]
      refine lv_istore (lv' := [(4, .int r23_9), (0, .ref h_t), (1, .int x1), (2, .int x2), (3, .int x3)]) hx hb dX8_get_26 hl (by decide) rfl (fun ls hl => ?_)
      refine lv_iload hx hb dX8_get_28 (lv_at hl 0 rfl) ?_
      refine lv_if_le (tgt := 42) hx hb dX8_get_30 (by decide) (fun c30 => ?_) (fun c30 => ?_)
      · rw [if_pos c30] at hf
        refine lv_aload_n hx hb dX8_get_42 rfl (lv_at hl 1 rfl) ?_
        refine va_get (D := (dC, dI)) (ci := 7) (v := .ref h_t_items) (C := RX8) (T := TX8) (N := 24) hx hb hts hinX8 hown hK hP 0 rfl rfl 21 (by decide) (hts (.fieldLink RX8 62 "SecondSunriseModel" "items" "[I") (by decide +kernel)) (fun _ h9 => h9) rfl dX8_get_43 ?_
        refine lv_bipush (v := 48) hx hb dX8_get_46 (by decide) ?_
        refine lv_iload_n hx hb dX8_get_48 rfl (lv_at hl 2 rfl) ?_
        refine lv_imul hx hb dX8_get_49 ?_
        refine lv_iload_n hx hb dX8_get_50 rfl (lv_at hl 4 rfl) ?_
        refine lv_iadd hx hb dX8_get_51 ?_
        obtain ⟨hi_12, hf⟩ := ix_e hf
        refine va_iald hx hb hK hP 4 0 rfl rfl hi_12 dX8_get_52 ?_
        have hq0 := Option.some.inj hf
        obtain ⟨eq0, hq1⟩ := Prod.mk.inj hq0
        clear hf hq0
        subst eq0
        subst hq1
        exact W.iret hx hb hr (fun t ht hW => ⟨⟨_, (), rfl, rfl, by rw [ht]; exact hP, va_K.moved hW.alike hK, hD⟩, hS.F ht⟩) hS.2.2 dX8_get_53
      · rw [if_neg c30] at hf
        refine lv_aload_n hx hb dX8_get_33 rfl (lv_at hl 1 rfl) ?_
        refine lv_iload hx hb dX8_get_34 (lv_at hl 0 rfl) ?_
        refine va_put (D := (dC, dI)) (ci := 7) (v := .int r23_9) (ty := .int) (C := RX8) (T := TX8) (N := 24) hx hb hts hinX8 tyX8 tyX8_ok nmX8 hown hK hP hD hS 0 rfl rfl 23 (by decide) (hts (.fieldLink RX8 229 "SecondSunriseModel" "finding" "I") (by decide +kernel)) (fun _ h9 => h9) rfl (by decide +kernel) rfl rfl (Nat.le_of_ble_eq_true rfl) dX8_get_36 (fun H locs hP hD hS => ?_)
        have hP : va_P (dC, dI) vwCl (wd_X8_get cI cZ cP cS h_t h_t_turns h_t_phases h_t_ups h_t_typed h_t_texts h_t_diary h_t_longs h_t_awakes h_t_fit h_t_counts h_t_worths h_t_ripes h_t_growths h_t_gains h_t_isThere h_t_forms h_t_sizes h_t_items h_t_moved v_m_hours v_m_months v_m_fitMany v_m_fitFirst r23_9 v_m_isThere v_m_forms v_m_sizes v_m_items) H := hP
        have hD : va_D (va_A (wd_X8_get cI cZ cP cS h_t h_t_turns h_t_phases h_t_ups h_t_typed h_t_texts h_t_diary h_t_longs h_t_awakes h_t_fit h_t_counts h_t_worths h_t_ripes h_t_growths h_t_gains h_t_isThere h_t_forms h_t_sizes h_t_items h_t_moved v_m_hours v_m_months v_m_fitMany v_m_fitFirst v_m_finding v_m_isThere v_m_forms v_m_sizes v_m_items) s.heap.size) (wd_X8_get cI cZ cP cS h_t h_t_turns h_t_phases h_t_ups h_t_typed h_t_texts h_t_diary h_t_longs h_t_awakes h_t_fit h_t_counts h_t_worths h_t_ripes h_t_growths h_t_gains h_t_isThere h_t_forms h_t_sizes h_t_items h_t_moved v_m_hours v_m_months v_m_fitMany v_m_fitFirst r23_9 v_m_isThere v_m_forms v_m_sizes v_m_items) := hD
        refine lv_ldc (v := (-2147483648)) hx hb hown (hts (.constant RX8 239 (-2147483648)) (by decide +kernel)) dX8_get_39 ?_
        have hq0 := Option.some.inj hf
        obtain ⟨eq0, hq1⟩ := Prod.mk.inj hq0
        clear hf hq0
        subst eq0
        subst hq1
        exact W.iret hx hb hr (fun t ht hW => ⟨⟨_, (), rfl, rfl, by rw [ht]; exact hP, va_K.moved hW.alike hK, hD⟩, hS.F ht⟩) hS.2.2 dX8_get_41
    · rw [if_pos c13] at hf
      refine lv_ldc (v := (-2147483648)) hx hb hown (hts (.constant RX8 239 (-2147483648)) (by decide +kernel)) dX8_get_16 ?_
      have hq0 := Option.some.inj hf
      obtain ⟨eq0, hq1⟩ := Prod.mk.inj hq0
      clear hf hq0
      subst eq0
      subst hq1
      exact W.iret hx hb hr (fun t ht hW => ⟨⟨_, (), rfl, rfl, by rw [ht]; exact hP, va_K.moved hW.alike hK, hD⟩, hS.F ht⟩) hS.2.2 dX8_get_18

abbrev rm_X8_isLight : Room := { frames := 1, cells := 0, slots := 0, locals := 22 }
def f_X8_isLight (n : Nat) (x0 : Int32) : Option (Int32) := bd1_ (f_X8_in n x0 0 3) (fun (r3_1 : Int32) => some r3_1)
set_option maxHeartbeats 4000000 in
set_option maxRecDepth 100000 in
theorem c_X8_isLight (l : Launch) (dC : Nat → ClassId) (dI : Nat → Nat → Nat) (cI cZ cP cS : ClassId) (x0 : Int32) (n : Nat) (r : Int32) (hf : f_X8_isLight n x0 = some r) : Met l yX8_isLight wsX8_isLight rm_X8_isLight (RO (dC, dI) (TY cI cZ cP cS) [.int x0] ([] : va_W)) (vp_Si (fun x => x = r ∧ narrow .boolean (.int x) = .int x)) 0 0 NF := by
  refine Met.ofW (cc := cX8_isLight) (maxL := 1) (ret := (some .boolean)) (by decide) rfl ?_
  intro p e s m args below meth c s₁ B hml hv
  obtain ⟨rfl, hP, hK⟩ := hv
  have hx := B.exec
  have hb := B.bytes
  have hr := B.returns
  have hts := atoms_spec (ws := wsX8_isLight) B.pre
  have hown : s.vm.findClass RX8 = some m.cls := findClass_of_methodNamed B.named
  have hlocks := B.notSynchronized
  have hl := lv_entry ([.int x0]) (n := 1) (Nat.le_of_ble_eq_true rfl)
  rw [lg_entry_eq]
  generalize (lg_sl ([.int x0]) ++ List.replicate (1 - (lg_sl ([.int x0])).length) Slot.unset).toArray = ls at hl ⊢
  have hl : lv_has ls 1 [(0, .int x0)] := hl
  unfold f_X8_isLight at hf
  refine lv_iload_n hx hb dX8_isLight_0 rfl (lv_at hl 0 rfl) ?_
  refine lv_iconst (v := 0) hx hb dX8_isLight_1 (by decide) ?_
  refine lv_iconst (v := 3) hx hb dX8_isLight_2 (by decide) ?_
  obtain ⟨r3_1, hc_2, hf⟩ := bd1_e hf
  refine vp_callSi (va_runS (As := [.int x0, .int 0, .int 3]) (rest := []) ⟨hx, hb, hml, hown, hts⟩ (c_X8_in l dC dI cI cZ cP cS   x0 0 3 n r3_1 hc_2) (va_cwS 3 hts gX8_isLight_X8_in rfl rfl rfl (by decide +kernel) ⟨Nat.le_of_ble_eq_true rfl, Nat.le_of_ble_eq_true rfl⟩) (ps_ro hK (hP.sub (ws' := ([] : va_W)) [] rfl)) rfl rfl hl.1 rfl (lv_room (Nat.le_of_ble_eq_true rfl)) dX8_isLight_3 ⟨Nat.zero_le _, Nat.zero_le _⟩).run (fun x e_3 => ?_)
  obtain ⟨e_3, hb_4⟩ := e_3
  rw [e_3] at hb_4 ⊢
  exact W.zret hx hb hr hb_4 (fun t ht hW => ⟨_, rfl, ⟨Option.some.inj hf, hb_4⟩, ht⟩) (fun _ h => nomatch h) dX8_isLight_6

abbrev wd_X8_grows (cI cZ cP cS : ClassId) (h_t h_t_turns h_t_phases h_t_ups h_t_typed h_t_texts h_t_diary h_t_longs h_t_awakes h_t_fit h_t_counts h_t_worths h_t_ripes h_t_growths h_t_gains h_t_isThere h_t_forms h_t_sizes h_t_items h_t_moved : Nat) (v_m_hours : Int32) (v_m_months : Int32) (v_m_fitMany : Int32) (v_m_fitFirst : Int32) (v_m_finding : Int32) (v_m_growths : Nat → Int32) : va_W := [(h_t, .inr (7, [.ref h_t_turns, .ref h_t_phases, .ref h_t_ups, .ref h_t_typed, .ref h_t_texts, .int v_m_hours, .ref h_t_diary, .int v_m_months, .ref h_t_longs, .ref h_t_awakes, .ref h_t_fit, .int v_m_fitMany, .int v_m_fitFirst, .ref h_t_counts, .ref h_t_worths, .ref h_t_ripes, .ref h_t_growths, .ref h_t_gains, .ref h_t_isThere, .ref h_t_forms, .ref h_t_sizes, .ref h_t_items, .ref h_t_moved, .int v_m_finding])), (h_t_growths, .inl (cI, 16, .inl v_m_growths))]
abbrev rm_X8_grows : Room := { frames := 2, cells := 0, slots := 0, locals := 42 }
def f_X8_grows (n : Nat) (v_m_growths : Nat → Int32) (x1 : Int32) (x2 : Int32) (x3 : Int32) : Option (Int32 × (Nat → Int32)) := bd1_ (f_X8_isPlant n x1) (fun (r1_1 : Int32) => if r1_1 = 0 then some ((-2), v_m_growths) else bd1_ (f_X8_isLight n x2) (fun (r8_5 : Int32) => if r8_5 = 0 then some ((-2), v_m_growths) else bd1_ (f_X8_in n x3 (-9) 9) (fun (r19_9 : Int32) => if r19_9 = 0 then some ((-2), v_m_growths) else ix_ ((4 * x1) + x2) 16 (ix_ ((4 * x1) + x2) 16 (some (((v_m_growths ((4 * x1) + x2).toNatClampNeg) + 10), (upd v_m_growths ((4 * x1) + x2).toNatClampNeg x3)))))))
set_option maxHeartbeats 4000000 in
set_option maxRecDepth 100000 in
theorem c_X8_grows (l : Launch) (dC : Nat → ClassId) (dI : Nat → Nat → Nat) (cI cZ cP cS : ClassId) (sz : Nat) (h_t h_t_turns h_t_phases h_t_ups h_t_typed h_t_texts h_t_diary h_t_longs h_t_awakes h_t_fit h_t_counts h_t_worths h_t_ripes h_t_growths h_t_gains h_t_isThere h_t_forms h_t_sizes h_t_items h_t_moved : Nat) (v_m_hours : Int32) (v_m_months : Int32) (v_m_fitMany : Int32) (v_m_fitFirst : Int32) (v_m_finding : Int32) (v_m_growths : Nat → Int32) (x1 : Int32) (x2 : Int32) (x3 : Int32) (n : Nat) (r : Int32) (o_m_growths : Nat → Int32) (hf : f_X8_grows n v_m_growths x1 x2 x3 = some (r, o_m_growths)) : Met l yX8_grows wsX8_grows rm_X8_grows (RW (dC, dI) (TY cI cZ cP cS) [.ref h_t, .int x1, .int x2, .int x3] sz (wd_X8_grows cI cZ cP cS h_t h_t_turns h_t_phases h_t_ups h_t_typed h_t_texts h_t_diary h_t_longs h_t_awakes h_t_fit h_t_counts h_t_worths h_t_ripes h_t_growths h_t_gains h_t_isThere h_t_forms h_t_sizes h_t_items h_t_moved v_m_hours v_m_months v_m_fitMany v_m_fitFirst v_m_finding v_m_growths)) (RWi (dC, dI) (TY cI cZ cP cS) r sz (wd_X8_grows cI cZ cP cS h_t h_t_turns h_t_phases h_t_ups h_t_typed h_t_texts h_t_diary h_t_longs h_t_awakes h_t_fit h_t_counts h_t_worths h_t_ripes h_t_growths h_t_gains h_t_isThere h_t_forms h_t_sizes h_t_items h_t_moved v_m_hours v_m_months v_m_fitMany v_m_fitFirst v_m_finding v_m_growths) (wd_X8_grows cI cZ cP cS h_t h_t_turns h_t_phases h_t_ups h_t_typed h_t_texts h_t_diary h_t_longs h_t_awakes h_t_fit h_t_counts h_t_worths h_t_ripes h_t_growths h_t_gains h_t_isThere h_t_forms h_t_sizes h_t_items h_t_moved v_m_hours v_m_months v_m_fitMany v_m_fitFirst v_m_finding o_m_growths)) 0 0 (va_A (wd_X8_grows cI cZ cP cS h_t h_t_turns h_t_phases h_t_ups h_t_typed h_t_texts h_t_diary h_t_longs h_t_awakes h_t_fit h_t_counts h_t_worths h_t_ripes h_t_growths h_t_gains h_t_isThere h_t_forms h_t_sizes h_t_items h_t_moved v_m_hours v_m_months v_m_fitMany v_m_fitFirst v_m_finding v_m_growths) sz) := by
  refine Met.ofW (cc := cX8_grows) (maxL := 5) (ret := (some .int)) (by decide) rfl ?_
  intro p e s m args below meth c s₁ B hml hv
  obtain ⟨rfl, hsz, hP, hK, hD0⟩ := hv
  have hx := B.exec
  have hb := B.bytes
  have hr := B.returns
  have hts := atoms_spec (ws := wsX8_grows) B.pre
  have hown : s.vm.findClass RX8 = some m.cls := findClass_of_methodNamed B.named
  have hlocks := B.notSynchronized
  subst hsz
  have hD := hD0.self (sz := s.heap.size)
  have hA : ∀ q : Nat, s.heap.size ≤ q → (va_A (wd_X8_grows cI cZ cP cS h_t h_t_turns h_t_phases h_t_ups h_t_typed h_t_texts h_t_diary h_t_longs h_t_awakes h_t_fit h_t_counts h_t_worths h_t_ripes h_t_growths h_t_gains h_t_isThere h_t_forms h_t_sizes h_t_items h_t_moved v_m_hours v_m_months v_m_fitMany v_m_fitFirst v_m_finding v_m_growths) s.heap.size) q := fun q h => Or.inr h
  have hS : va_S (va_A (wd_X8_grows cI cZ cP cS h_t h_t_turns h_t_phases h_t_ups h_t_typed h_t_texts h_t_diary h_t_longs h_t_awakes h_t_fit h_t_counts h_t_worths h_t_ripes h_t_growths h_t_gains h_t_isThere h_t_forms h_t_sizes h_t_items h_t_moved v_m_hours v_m_months v_m_fitMany v_m_fitFirst v_m_finding v_m_growths) s.heap.size) s.heap s.heap [] := va_S.rf
  have hinX8 : ∀ w ∈ wsX80, w ∈ wsX8_grows := by decide +kernel
  have hl := lv_entry ([.ref h_t, .int x1, .int x2, .int x3]) (n := 5) (Nat.le_of_ble_eq_true rfl)
  rw [lg_entry_eq]
  generalize (lg_sl ([.ref h_t, .int x1, .int x2, .int x3]) ++ List.replicate (5 - (lg_sl ([.ref h_t, .int x1, .int x2, .int x3])).length) Slot.unset).toArray = ls at hl ⊢
  have hl : lv_has ls 5 [(0, .ref h_t), (1, .int x1), (2, .int x2), (3, .int x3)] := hl
  obtain ⟨H, hH⟩ : ∃ H : Heap, H = s.heap := ⟨_, rfl⟩
  have hP : va_P (dC, dI) vwCl (wd_X8_grows cI cZ cP cS h_t h_t_turns h_t_phases h_t_ups h_t_typed h_t_texts h_t_diary h_t_longs h_t_awakes h_t_fit h_t_counts h_t_worths h_t_ripes h_t_growths h_t_gains h_t_isThere h_t_forms h_t_sizes h_t_items h_t_moved v_m_hours v_m_months v_m_fitMany v_m_fitFirst v_m_finding v_m_growths) H := by rw [hH]; exact hP
  have hS : va_S (va_A (wd_X8_grows cI cZ cP cS h_t h_t_turns h_t_phases h_t_ups h_t_typed h_t_texts h_t_diary h_t_longs h_t_awakes h_t_fit h_t_counts h_t_worths h_t_ripes h_t_growths h_t_gains h_t_isThere h_t_forms h_t_sizes h_t_items h_t_moved v_m_hours v_m_months v_m_fitMany v_m_fitFirst v_m_finding v_m_growths) s.heap.size) s.heap H [] := by rw [hH]; exact hS
  obtain ⟨locs, hlo⟩ : ∃ L : List Loc, L = [] := ⟨_, rfl⟩
  rw [← hlo] at hS
  suffices hgo : W p l e (headSpec wsX8_grows rm_X8_grows).room s m ([.ref h_t, .int x1, .int x2, .int x3] : List Value).toArray below meth c H locs 0 0 (MQ below (RWi (dC, dI) (TY cI cZ cP cS) r s.heap.size (wd_X8_grows cI cZ cP cS h_t h_t_turns h_t_phases h_t_ups h_t_typed h_t_texts h_t_diary h_t_longs h_t_awakes h_t_fit h_t_counts h_t_worths h_t_ripes h_t_growths h_t_gains h_t_isThere h_t_forms h_t_sizes h_t_items h_t_moved v_m_hours v_m_months v_m_fitMany v_m_fitFirst v_m_finding v_m_growths) (wd_X8_grows cI cZ cP cS h_t h_t_turns h_t_phases h_t_ups h_t_typed h_t_texts h_t_diary h_t_longs h_t_awakes h_t_fit h_t_counts h_t_worths h_t_ripes h_t_growths h_t_gains h_t_isThere h_t_forms h_t_sizes h_t_items h_t_moved v_m_hours v_m_months v_m_fitMany v_m_fitFirst v_m_finding o_m_growths)) ([.ref h_t, .int x1, .int x2, .int x3] : List Value).toArray s 0 0 (va_A (wd_X8_grows cI cZ cP cS h_t h_t_turns h_t_phases h_t_ups h_t_typed h_t_texts h_t_diary h_t_longs h_t_awakes h_t_fit h_t_counts h_t_worths h_t_ripes h_t_growths h_t_gains h_t_isThere h_t_forms h_t_sizes h_t_items h_t_moved v_m_hours v_m_months v_m_fitMany v_m_fitFirst v_m_finding v_m_growths) s.heap.size)) (F0 m 0 ls []) by rw [hH, hlo] at hgo; exact hgo
  clear hH hlo
  unfold f_X8_grows at hf
  refine lv_iload_n hx hb dX8_grows_0 rfl (lv_at hl 1 rfl) ?_
  obtain ⟨r1_1, hc_2, hf⟩ := bd1_e hf
  refine vp_callSi (va_runS (As := [.int x1]) (rest := []) ⟨hx, hb, hml, hown, hts⟩ (c_X8_isPlant l dC dI cI cZ cP cS   x1 n r1_1 hc_2) (va_cwS 1 hts gX8_grows_X8_isPlant rfl rfl rfl (by decide +kernel) ⟨Nat.le_of_ble_eq_true rfl, Nat.le_of_ble_eq_true rfl⟩) (ps_ro hK (hP.sub (ws' := ([] : va_W)) [] rfl)) rfl rfl hl.1 rfl (lv_room (Nat.le_of_ble_eq_true rfl)) dX8_grows_1 ⟨Nat.zero_le _, Nat.zero_le _⟩).run (fun x e_3 => ?_)
  obtain ⟨e_3, hb_4⟩ := e_3
  rw [e_3] at hb_4 ⊢
  refine lv_if_eq (tgt := 25) hx hb dX8_grows_4 (by decide) (fun c4 => ?_) (fun c4 => ?_)
  · rw [if_pos c4] at hf
    refine lv_bipush (v := (-2)) hx hb dX8_grows_25 (by decide) ?_
    have hq0 := Option.some.inj hf
    obtain ⟨eq0, hq1⟩ := Prod.mk.inj hq0
    clear hf hq0
    subst eq0
    subst hq1
    exact W.iret hx hb hr (fun t ht hW => ⟨⟨_, (), rfl, rfl, by rw [ht]; exact hP, va_K.moved hW.alike hK, hD⟩, hS.F ht⟩) hS.2.2 dX8_grows_27
  · rw [if_neg c4] at hf
    refine lv_iload_n hx hb dX8_grows_7 rfl (lv_at hl 2 rfl) ?_
    obtain ⟨r8_5, hc_6, hf⟩ := bd1_e hf
    refine vp_callSi (va_runS (As := [.int x2]) (rest := []) ⟨hx, hb, hml, hown, hts⟩ (c_X8_isLight l dC dI cI cZ cP cS   x2 n r8_5 hc_6) (va_cwS 1 hts gX8_grows_X8_isLight rfl rfl rfl (by decide +kernel) ⟨Nat.le_of_ble_eq_true rfl, Nat.le_of_ble_eq_true rfl⟩) (ps_ro hK (hP.sub (ws' := ([] : va_W)) [] rfl)) rfl rfl hl.1 rfl (lv_room (Nat.le_of_ble_eq_true rfl)) dX8_grows_8 ⟨Nat.zero_le _, Nat.zero_le _⟩).run (fun x e_7 => ?_)
    obtain ⟨e_7, hb_8⟩ := e_7
    rw [e_7] at hb_8 ⊢
    refine lv_if_eq (tgt := 25) hx hb dX8_grows_11 (by decide) (fun c11 => ?_) (fun c11 => ?_)
    · rw [if_pos c11] at hf
      refine lv_bipush (v := (-2)) hx hb dX8_grows_25 (by decide) ?_
      have hq0 := Option.some.inj hf
      obtain ⟨eq0, hq1⟩ := Prod.mk.inj hq0
      clear hf hq0
      subst eq0
      subst hq1
      exact W.iret hx hb hr (fun t ht hW => ⟨⟨_, (), rfl, rfl, by rw [ht]; exact hP, va_K.moved hW.alike hK, hD⟩, hS.F ht⟩) hS.2.2 dX8_grows_27
    · rw [if_neg c11] at hf
      refine lv_iload_n hx hb dX8_grows_14 rfl (lv_at hl 3 rfl) ?_
      refine lv_bipush (v := (-9)) hx hb dX8_grows_15 (by decide) ?_
      refine lv_bipush (v := 9) hx hb dX8_grows_17 (by decide) ?_
      obtain ⟨r19_9, hc_10, hf⟩ := bd1_e hf
      refine vp_callSi (va_runS (As := [.int x3, .int (-9), .int 9]) (rest := []) ⟨hx, hb, hml, hown, hts⟩ (c_X8_in l dC dI cI cZ cP cS   x3 (-9) 9 n r19_9 hc_10) (va_cwS 3 hts gX8_grows_X8_in rfl rfl rfl (by decide +kernel) ⟨Nat.le_of_ble_eq_true rfl, Nat.le_of_ble_eq_true rfl⟩) (ps_ro hK (hP.sub (ws' := ([] : va_W)) [] rfl)) rfl rfl hl.1 rfl (lv_room (Nat.le_of_ble_eq_true rfl)) dX8_grows_19 ⟨Nat.zero_le _, Nat.zero_le _⟩).run (fun x e_11 => ?_)
      obtain ⟨e_11, hb_12⟩ := e_11
      rw [e_11] at hb_12 ⊢
      refine lv_if_ne (tgt := 28) hx hb dX8_grows_22 (by decide) (fun c22 => ?_) (fun c22 => ?_)
      · rw [if_neg c22] at hf
        refine lv_aload_n hx hb dX8_grows_28 rfl (lv_at hl 0 rfl) ?_
        refine va_get (D := (dC, dI)) (ci := 7) (v := .ref h_t_growths) (C := RX8) (T := TX8) (N := 24) hx hb hts hinX8 hown hK hP 0 rfl rfl 16 (by decide) (hts (.fieldLink RX8 47 "SecondSunriseModel" "growths" "[I") (by decide +kernel)) (fun _ h9 => h9) rfl dX8_grows_29 ?_
        refine lv_iconst (v := 4) hx hb dX8_grows_32 (by decide) ?_
        refine lv_iload_n hx hb dX8_grows_33 rfl (lv_at hl 1 rfl) ?_
        refine lv_imul hx hb dX8_grows_34 ?_
        refine lv_iload_n hx hb dX8_grows_35 rfl (lv_at hl 2 rfl) ?_
        refine lv_iadd hx hb dX8_grows_36 ?_
        obtain ⟨hi_13, hf⟩ := ix_e hf
        refine va_iald hx hb hK hP 1 0 rfl rfl hi_13 dX8_grows_37 ?_
        refine lv_bipush (v := 10) hx hb dX8_grows_38 (by decide) ?_
        refine lv_iadd hx hb dX8_grows_40 ?_
        refine lv_istore (lv' := [(4, .int ((v_m_growths ((4 * x1) + x2).toNatClampNeg) + 10)), (0, .ref h_t), (1, .int x1), (2, .int x2), (3, .int x3)]) hx hb dX8_grows_41 hl (by decide) rfl (fun ls hl => ?_)
        refine lv_aload_n hx hb dX8_grows_43 rfl (lv_at hl 1 rfl) ?_
        refine va_get (D := (dC, dI)) (ci := 7) (v := .ref h_t_growths) (C := RX8) (T := TX8) (N := 24) hx hb hts hinX8 hown hK hP 0 rfl rfl 16 (by decide) (hts (.fieldLink RX8 47 "SecondSunriseModel" "growths" "[I") (by decide +kernel)) (fun _ h9 => h9) rfl dX8_grows_44 ?_
        refine lv_iconst (v := 4) hx hb dX8_grows_47 (by decide) ?_
        refine lv_iload_n hx hb dX8_grows_48 rfl (lv_at hl 2 rfl) ?_
        refine lv_imul hx hb dX8_grows_49 ?_
        refine lv_iload_n hx hb dX8_grows_50 rfl (lv_at hl 3 rfl) ?_
        refine lv_iadd hx hb dX8_grows_51 ?_
        refine lv_iload_n hx hb dX8_grows_52 rfl (lv_at hl 4 rfl) ?_
        obtain ⟨hi_14, hf⟩ := ix_e hf
        refine va_iast hx hb hK hP hD hS 1 0 rfl rfl hi_14 dX8_grows_53 (fun H locs hP hD hS => ?_)
        have hP : va_P (dC, dI) vwCl (wd_X8_grows cI cZ cP cS h_t h_t_turns h_t_phases h_t_ups h_t_typed h_t_texts h_t_diary h_t_longs h_t_awakes h_t_fit h_t_counts h_t_worths h_t_ripes h_t_growths h_t_gains h_t_isThere h_t_forms h_t_sizes h_t_items h_t_moved v_m_hours v_m_months v_m_fitMany v_m_fitFirst v_m_finding (upd v_m_growths ((4 * x1) + x2).toNatClampNeg x3)) H := hP
        have hD : va_D (va_A (wd_X8_grows cI cZ cP cS h_t h_t_turns h_t_phases h_t_ups h_t_typed h_t_texts h_t_diary h_t_longs h_t_awakes h_t_fit h_t_counts h_t_worths h_t_ripes h_t_growths h_t_gains h_t_isThere h_t_forms h_t_sizes h_t_items h_t_moved v_m_hours v_m_months v_m_fitMany v_m_fitFirst v_m_finding v_m_growths) s.heap.size) (wd_X8_grows cI cZ cP cS h_t h_t_turns h_t_phases h_t_ups h_t_typed h_t_texts h_t_diary h_t_longs h_t_awakes h_t_fit h_t_counts h_t_worths h_t_ripes h_t_growths h_t_gains h_t_isThere h_t_forms h_t_sizes h_t_items h_t_moved v_m_hours v_m_months v_m_fitMany v_m_fitFirst v_m_finding (upd v_m_growths ((4 * x1) + x2).toNatClampNeg x3)) := hD
        refine lv_iload hx hb dX8_grows_54 (lv_at hl 0 rfl) ?_
        have hq0 := Option.some.inj hf
        obtain ⟨eq0, hq1⟩ := Prod.mk.inj hq0
        clear hf hq0
        subst eq0
        subst hq1
        exact W.iret hx hb hr (fun t ht hW => ⟨⟨_, (), rfl, rfl, by rw [ht]; exact hP, va_K.moved hW.alike hK, hD⟩, hS.F ht⟩) hS.2.2 dX8_grows_56
      · rw [if_pos c22] at hf
        refine lv_bipush (v := (-2)) hx hb dX8_grows_25 (by decide) ?_
        have hq0 := Option.some.inj hf
        obtain ⟨eq0, hq1⟩ := Prod.mk.inj hq0
        clear hf hq0
        subst eq0
        subst hq1
        exact W.iret hx hb hr (fun t ht hW => ⟨⟨_, (), rfl, rfl, by rw [ht]; exact hP, va_K.moved hW.alike hK, hD⟩, hS.F ht⟩) hS.2.2 dX8_grows_27

abbrev wd_X8_keep (cI cZ cP cS : ClassId) (h_t h_t_turns h_t_phases h_t_ups h_t_typed h_t_texts h_t_diary h_t_longs h_t_awakes h_t_fit h_t_counts h_t_worths h_t_ripes h_t_growths h_t_gains h_t_isThere h_t_forms h_t_sizes h_t_items h_t_moved : Nat) (v_m_hours : Int32) (v_m_months : Int32) (v_m_fitMany : Int32) (v_m_fitFirst : Int32) (v_m_finding : Int32) (v_m_forms : Nat → Int32) (v_m_items : Nat → Int32) : va_W := [(h_t, .inr (7, [.ref h_t_turns, .ref h_t_phases, .ref h_t_ups, .ref h_t_typed, .ref h_t_texts, .int v_m_hours, .ref h_t_diary, .int v_m_months, .ref h_t_longs, .ref h_t_awakes, .ref h_t_fit, .int v_m_fitMany, .int v_m_fitFirst, .ref h_t_counts, .ref h_t_worths, .ref h_t_ripes, .ref h_t_growths, .ref h_t_gains, .ref h_t_isThere, .ref h_t_forms, .ref h_t_sizes, .ref h_t_items, .ref h_t_moved, .int v_m_finding])), (h_t_forms, .inl (cI, 4, .inl v_m_forms)), (h_t_items, .inl (cI, 192, .inl v_m_items))]
abbrev rm_X8_keep : Room := { frames := 0, cells := 0, slots := 0, locals := 0 }
def f_X8_keep (n : Nat) (v_m_forms : Nat → Int32) (v_m_items : Nat → Int32) (x1 : Int32) (x2 : Int32) (x3 : Int32) : Option ((Nat → Int32)) := ix_ x1 4 (if (v_m_forms x1.toNatClampNeg) = 0 then ix_ ((48 * x1) + x2) 192 (some (upd v_m_items ((48 * x1) + x2).toNatClampNeg (x3.toInt8.toInt32))) else ix_ x1 4 (if (v_m_forms x1.toNatClampNeg) = 1 then ix_ ((48 * x1) + x2) 192 (some (upd v_m_items ((48 * x1) + x2).toNatClampNeg (x3.toInt16.toInt32))) else ix_ ((48 * x1) + x2) 192 (some (upd v_m_items ((48 * x1) + x2).toNatClampNeg x3))))
set_option maxHeartbeats 4000000 in
set_option maxRecDepth 100000 in
theorem c_X8_keep (l : Launch) (dC : Nat → ClassId) (dI : Nat → Nat → Nat) (cI cZ cP cS : ClassId) (sz : Nat) (h_t h_t_turns h_t_phases h_t_ups h_t_typed h_t_texts h_t_diary h_t_longs h_t_awakes h_t_fit h_t_counts h_t_worths h_t_ripes h_t_growths h_t_gains h_t_isThere h_t_forms h_t_sizes h_t_items h_t_moved : Nat) (v_m_hours : Int32) (v_m_months : Int32) (v_m_fitMany : Int32) (v_m_fitFirst : Int32) (v_m_finding : Int32) (v_m_forms : Nat → Int32) (v_m_items : Nat → Int32) (x1 : Int32) (x2 : Int32) (x3 : Int32) (n : Nat) (o_m_items : Nat → Int32) (hf : f_X8_keep n v_m_forms v_m_items x1 x2 x3 = some o_m_items) : Met l yX8_keep wsX8_keep rm_X8_keep (RW (dC, dI) (TY cI cZ cP cS) [.ref h_t, .int x1, .int x2, .int x3] sz (wd_X8_keep cI cZ cP cS h_t h_t_turns h_t_phases h_t_ups h_t_typed h_t_texts h_t_diary h_t_longs h_t_awakes h_t_fit h_t_counts h_t_worths h_t_ripes h_t_growths h_t_gains h_t_isThere h_t_forms h_t_sizes h_t_items h_t_moved v_m_hours v_m_months v_m_fitMany v_m_fitFirst v_m_finding v_m_forms v_m_items)) (RWv (dC, dI) (TY cI cZ cP cS) sz (wd_X8_keep cI cZ cP cS h_t h_t_turns h_t_phases h_t_ups h_t_typed h_t_texts h_t_diary h_t_longs h_t_awakes h_t_fit h_t_counts h_t_worths h_t_ripes h_t_growths h_t_gains h_t_isThere h_t_forms h_t_sizes h_t_items h_t_moved v_m_hours v_m_months v_m_fitMany v_m_fitFirst v_m_finding v_m_forms v_m_items) (wd_X8_keep cI cZ cP cS h_t h_t_turns h_t_phases h_t_ups h_t_typed h_t_texts h_t_diary h_t_longs h_t_awakes h_t_fit h_t_counts h_t_worths h_t_ripes h_t_growths h_t_gains h_t_isThere h_t_forms h_t_sizes h_t_items h_t_moved v_m_hours v_m_months v_m_fitMany v_m_fitFirst v_m_finding v_m_forms o_m_items)) 0 0 (va_A (wd_X8_keep cI cZ cP cS h_t h_t_turns h_t_phases h_t_ups h_t_typed h_t_texts h_t_diary h_t_longs h_t_awakes h_t_fit h_t_counts h_t_worths h_t_ripes h_t_growths h_t_gains h_t_isThere h_t_forms h_t_sizes h_t_items h_t_moved v_m_hours v_m_months v_m_fitMany v_m_fitFirst v_m_finding v_m_forms v_m_items) sz) := by
  refine Met.ofW (cc := cX8_keep) (maxL := 4) (ret := none) (by decide) rfl ?_
  intro p e s m args below meth c s₁ B hml hv
  obtain ⟨rfl, hsz, hP, hK, hD0⟩ := hv
  have hx := B.exec
  have hb := B.bytes
  have hr := B.returns
  have hts := atoms_spec (ws := wsX8_keep) B.pre
  have hown : s.vm.findClass RX8 = some m.cls := findClass_of_methodNamed B.named
  have hlocks := B.notSynchronized
  subst hsz
  have hD := hD0.self (sz := s.heap.size)
  have hA : ∀ q : Nat, s.heap.size ≤ q → (va_A (wd_X8_keep cI cZ cP cS h_t h_t_turns h_t_phases h_t_ups h_t_typed h_t_texts h_t_diary h_t_longs h_t_awakes h_t_fit h_t_counts h_t_worths h_t_ripes h_t_growths h_t_gains h_t_isThere h_t_forms h_t_sizes h_t_items h_t_moved v_m_hours v_m_months v_m_fitMany v_m_fitFirst v_m_finding v_m_forms v_m_items) s.heap.size) q := fun q h => Or.inr h
  have hS : va_S (va_A (wd_X8_keep cI cZ cP cS h_t h_t_turns h_t_phases h_t_ups h_t_typed h_t_texts h_t_diary h_t_longs h_t_awakes h_t_fit h_t_counts h_t_worths h_t_ripes h_t_growths h_t_gains h_t_isThere h_t_forms h_t_sizes h_t_items h_t_moved v_m_hours v_m_months v_m_fitMany v_m_fitFirst v_m_finding v_m_forms v_m_items) s.heap.size) s.heap s.heap [] := va_S.rf
  have hinX8 : ∀ w ∈ wsX80, w ∈ wsX8_keep := by decide +kernel
  have hl := lv_entry ([.ref h_t, .int x1, .int x2, .int x3]) (n := 4) (Nat.le_of_ble_eq_true rfl)
  rw [lg_entry_eq]
  generalize (lg_sl ([.ref h_t, .int x1, .int x2, .int x3]) ++ List.replicate (4 - (lg_sl ([.ref h_t, .int x1, .int x2, .int x3])).length) Slot.unset).toArray = ls at hl ⊢
  have hl : lv_has ls 4 [(0, .ref h_t), (1, .int x1), (2, .int x2), (3, .int x3)] := hl
  obtain ⟨H, hH⟩ : ∃ H : Heap, H = s.heap := ⟨_, rfl⟩
  have hP : va_P (dC, dI) vwCl (wd_X8_keep cI cZ cP cS h_t h_t_turns h_t_phases h_t_ups h_t_typed h_t_texts h_t_diary h_t_longs h_t_awakes h_t_fit h_t_counts h_t_worths h_t_ripes h_t_growths h_t_gains h_t_isThere h_t_forms h_t_sizes h_t_items h_t_moved v_m_hours v_m_months v_m_fitMany v_m_fitFirst v_m_finding v_m_forms v_m_items) H := by rw [hH]; exact hP
  have hS : va_S (va_A (wd_X8_keep cI cZ cP cS h_t h_t_turns h_t_phases h_t_ups h_t_typed h_t_texts h_t_diary h_t_longs h_t_awakes h_t_fit h_t_counts h_t_worths h_t_ripes h_t_growths h_t_gains h_t_isThere h_t_forms h_t_sizes h_t_items h_t_moved v_m_hours v_m_months v_m_fitMany v_m_fitFirst v_m_finding v_m_forms v_m_items) s.heap.size) s.heap H [] := by rw [hH]; exact hS
  obtain ⟨locs, hlo⟩ : ∃ L : List Loc, L = [] := ⟨_, rfl⟩
  rw [← hlo] at hS
  suffices hgo : W p l e (headSpec wsX8_keep rm_X8_keep).room s m ([.ref h_t, .int x1, .int x2, .int x3] : List Value).toArray below meth c H locs 0 0 (MQ below (RWv (dC, dI) (TY cI cZ cP cS) s.heap.size (wd_X8_keep cI cZ cP cS h_t h_t_turns h_t_phases h_t_ups h_t_typed h_t_texts h_t_diary h_t_longs h_t_awakes h_t_fit h_t_counts h_t_worths h_t_ripes h_t_growths h_t_gains h_t_isThere h_t_forms h_t_sizes h_t_items h_t_moved v_m_hours v_m_months v_m_fitMany v_m_fitFirst v_m_finding v_m_forms v_m_items) (wd_X8_keep cI cZ cP cS h_t h_t_turns h_t_phases h_t_ups h_t_typed h_t_texts h_t_diary h_t_longs h_t_awakes h_t_fit h_t_counts h_t_worths h_t_ripes h_t_growths h_t_gains h_t_isThere h_t_forms h_t_sizes h_t_items h_t_moved v_m_hours v_m_months v_m_fitMany v_m_fitFirst v_m_finding v_m_forms o_m_items)) ([.ref h_t, .int x1, .int x2, .int x3] : List Value).toArray s 0 0 (va_A (wd_X8_keep cI cZ cP cS h_t h_t_turns h_t_phases h_t_ups h_t_typed h_t_texts h_t_diary h_t_longs h_t_awakes h_t_fit h_t_counts h_t_worths h_t_ripes h_t_growths h_t_gains h_t_isThere h_t_forms h_t_sizes h_t_items h_t_moved v_m_hours v_m_months v_m_fitMany v_m_fitFirst v_m_finding v_m_forms v_m_items) s.heap.size)) (F0 m 0 ls []) by rw [hH, hlo] at hgo; exact hgo
  clear hH hlo
  unfold f_X8_keep at hf
  refine lv_aload_n hx hb dX8_keep_0 rfl (lv_at hl 0 rfl) ?_
  refine va_get (D := (dC, dI)) (ci := 7) (v := .ref h_t_items) (C := RX8) (T := TX8) (N := 24) hx hb hts hinX8 hown hK hP 0 rfl rfl 21 (by decide) (hts (.fieldLink RX8 62 "SecondSunriseModel" "items" "[I") (by decide +kernel)) (fun _ h9 => h9) rfl dX8_keep_1 ?_
  refine lv_bipush (v := 48) hx hb dX8_keep_4 (by decide) ?_
  refine lv_iload_n hx hb dX8_keep_6 rfl (lv_at hl 1 rfl) ?_
  refine lv_imul hx hb dX8_keep_7 ?_
  refine lv_iload_n hx hb dX8_keep_8 rfl (lv_at hl 2 rfl) ?_
  refine lv_iadd hx hb dX8_keep_9 ?_
  refine lv_aload_n hx hb dX8_keep_10 rfl (lv_at hl 0 rfl) ?_
  refine va_get (D := (dC, dI)) (ci := 7) (v := .ref h_t_forms) (C := RX8) (T := TX8) (N := 24) hx hb hts hinX8 hown hK hP 0 rfl rfl 19 (by decide) (hts (.fieldLink RX8 56 "SecondSunriseModel" "forms" "[I") (by decide +kernel)) (fun _ h9 => h9) rfl dX8_keep_11 ?_
  refine lv_iload_n hx hb dX8_keep_14 rfl (lv_at hl 1 rfl) ?_
  obtain ⟨hi_1, hf⟩ := ix_e hf
  refine va_iald hx hb hK hP 1 0 rfl rfl hi_1 dX8_keep_15 ?_
  refine lv_if_ne (tgt := 24) hx hb dX8_keep_16 (by decide) (fun c16 => ?_) (fun c16 => ?_)
  · rw [if_neg c16] at hf
    refine lv_aload_n hx hb dX8_keep_24 rfl (lv_at hl 0 rfl) ?_
    refine va_get (D := (dC, dI)) (ci := 7) (v := .ref h_t_forms) (C := RX8) (T := TX8) (N := 24) hx hb hts hinX8 hown hK hP 0 rfl rfl 19 (by decide) (hts (.fieldLink RX8 56 "SecondSunriseModel" "forms" "[I") (by decide +kernel)) (fun _ h9 => h9) rfl dX8_keep_25 ?_
    refine lv_iload_n hx hb dX8_keep_28 rfl (lv_at hl 1 rfl) ?_
    obtain ⟨hi_2, hf⟩ := ix_e hf
    refine va_iald hx hb hK hP 1 0 rfl rfl hi_2 dX8_keep_29 ?_
    refine lv_iconst (v := 1) hx hb dX8_keep_30 (by decide) ?_
    refine lv_icmp_ne (tgt := 39) hx hb dX8_keep_31 (by decide) (fun c31 => ?_) (fun c31 => ?_)
    · rw [if_neg c31] at hf
      refine lv_iload_n hx hb dX8_keep_39 rfl (lv_at hl 3 rfl) ?_
      obtain ⟨hi_3, hf⟩ := ix_e hf
      refine va_iast hx hb hK hP hD hS 2 0 rfl rfl hi_3 dX8_keep_40 (fun H locs hP hD hS => ?_)
      have hP : va_P (dC, dI) vwCl (wd_X8_keep cI cZ cP cS h_t h_t_turns h_t_phases h_t_ups h_t_typed h_t_texts h_t_diary h_t_longs h_t_awakes h_t_fit h_t_counts h_t_worths h_t_ripes h_t_growths h_t_gains h_t_isThere h_t_forms h_t_sizes h_t_items h_t_moved v_m_hours v_m_months v_m_fitMany v_m_fitFirst v_m_finding v_m_forms (upd v_m_items ((48 * x1) + x2).toNatClampNeg x3)) H := hP
      have hD : va_D (va_A (wd_X8_keep cI cZ cP cS h_t h_t_turns h_t_phases h_t_ups h_t_typed h_t_texts h_t_diary h_t_longs h_t_awakes h_t_fit h_t_counts h_t_worths h_t_ripes h_t_growths h_t_gains h_t_isThere h_t_forms h_t_sizes h_t_items h_t_moved v_m_hours v_m_months v_m_fitMany v_m_fitFirst v_m_finding v_m_forms v_m_items) s.heap.size) (wd_X8_keep cI cZ cP cS h_t h_t_turns h_t_phases h_t_ups h_t_typed h_t_texts h_t_diary h_t_longs h_t_awakes h_t_fit h_t_counts h_t_worths h_t_ripes h_t_growths h_t_gains h_t_isThere h_t_forms h_t_sizes h_t_items h_t_moved v_m_hours v_m_months v_m_fitMany v_m_fitFirst v_m_finding v_m_forms (upd v_m_items ((48 * x1) + x2).toNatClampNeg x3)) := hD
      have hq := Option.some.inj hf
      subst hq
      exact W.vret hx hb hr (fun t ht hW => ⟨⟨(), rfl, trivial, by rw [ht]; exact hP, va_K.moved hW.alike hK, hD⟩, hS.F ht⟩) hS.2.2 dX8_keep_41
    · rw [if_pos c31] at hf
      refine lv_iload_n hx hb dX8_keep_34 rfl (lv_at hl 3 rfl) ?_
      refine lv_i2s (v := x3.toInt16.toInt32) hx hb dX8_keep_35 rfl ?_
      refine lv_goto (tgt := 40) hx hb dX8_keep_36 (by decide) ?_
      obtain ⟨hi_4, hf⟩ := ix_e hf
      refine va_iast hx hb hK hP hD hS 2 0 rfl rfl hi_4 dX8_keep_40 (fun H locs hP hD hS => ?_)
      have hP : va_P (dC, dI) vwCl (wd_X8_keep cI cZ cP cS h_t h_t_turns h_t_phases h_t_ups h_t_typed h_t_texts h_t_diary h_t_longs h_t_awakes h_t_fit h_t_counts h_t_worths h_t_ripes h_t_growths h_t_gains h_t_isThere h_t_forms h_t_sizes h_t_items h_t_moved v_m_hours v_m_months v_m_fitMany v_m_fitFirst v_m_finding v_m_forms (upd v_m_items ((48 * x1) + x2).toNatClampNeg (x3.toInt16.toInt32))) H := hP
      have hD : va_D (va_A (wd_X8_keep cI cZ cP cS h_t h_t_turns h_t_phases h_t_ups h_t_typed h_t_texts h_t_diary h_t_longs h_t_awakes h_t_fit h_t_counts h_t_worths h_t_ripes h_t_growths h_t_gains h_t_isThere h_t_forms h_t_sizes h_t_items h_t_moved v_m_hours v_m_months v_m_fitMany v_m_fitFirst v_m_finding v_m_forms v_m_items) s.heap.size) (wd_X8_keep cI cZ cP cS h_t h_t_turns h_t_phases h_t_ups h_t_typed h_t_texts h_t_diary h_t_longs h_t_awakes h_t_fit h_t_counts h_t_worths h_t_ripes h_t_growths h_t_gains h_t_isThere h_t_forms h_t_sizes h_t_items h_t_moved v_m_hours v_m_months v_m_fitMany v_m_fitFirst v_m_finding v_m_forms (upd v_m_items ((48 * x1) + x2).toNatClampNeg (x3.toInt16.toInt32))) := hD
      have hq := Option.some.inj hf
      subst hq
      exact W.vret hx hb hr (fun t ht hW => ⟨⟨(), rfl, trivial, by rw [ht]; exact hP, va_K.moved hW.alike hK, hD⟩, hS.F ht⟩) hS.2.2 dX8_keep_41
  · rw [if_pos c16] at hf
    refine lv_iload_n hx hb dX8_keep_19 rfl (lv_at hl 3 rfl) ?_
    refine lv_i2b (v := x3.toInt8.toInt32) hx hb dX8_keep_20 rfl ?_
    refine lv_goto (tgt := 40) hx hb dX8_keep_21 (by decide) ?_
    obtain ⟨hi_5, hf⟩ := ix_e hf
    refine va_iast hx hb hK hP hD hS 2 0 rfl rfl hi_5 dX8_keep_40 (fun H locs hP hD hS => ?_)
    have hP : va_P (dC, dI) vwCl (wd_X8_keep cI cZ cP cS h_t h_t_turns h_t_phases h_t_ups h_t_typed h_t_texts h_t_diary h_t_longs h_t_awakes h_t_fit h_t_counts h_t_worths h_t_ripes h_t_growths h_t_gains h_t_isThere h_t_forms h_t_sizes h_t_items h_t_moved v_m_hours v_m_months v_m_fitMany v_m_fitFirst v_m_finding v_m_forms (upd v_m_items ((48 * x1) + x2).toNatClampNeg (x3.toInt8.toInt32))) H := hP
    have hD : va_D (va_A (wd_X8_keep cI cZ cP cS h_t h_t_turns h_t_phases h_t_ups h_t_typed h_t_texts h_t_diary h_t_longs h_t_awakes h_t_fit h_t_counts h_t_worths h_t_ripes h_t_growths h_t_gains h_t_isThere h_t_forms h_t_sizes h_t_items h_t_moved v_m_hours v_m_months v_m_fitMany v_m_fitFirst v_m_finding v_m_forms v_m_items) s.heap.size) (wd_X8_keep cI cZ cP cS h_t h_t_turns h_t_phases h_t_ups h_t_typed h_t_texts h_t_diary h_t_longs h_t_awakes h_t_fit h_t_counts h_t_worths h_t_ripes h_t_growths h_t_gains h_t_isThere h_t_forms h_t_sizes h_t_items h_t_moved v_m_hours v_m_months v_m_fitMany v_m_fitFirst v_m_finding v_m_forms (upd v_m_items ((48 * x1) + x2).toNatClampNeg (x3.toInt8.toInt32))) := hD
    have hq := Option.some.inj hf
    subst hq
    exact W.vret hx hb hr (fun t ht hW => ⟨⟨(), rfl, trivial, by rw [ht]; exact hP, va_K.moved hW.alike hK, hD⟩, hS.F ht⟩) hS.2.2 dX8_keep_41

abbrev wd_X8_lasts (cI cZ cP cS : ClassId) (h_t h_t_turns h_t_phases h_t_ups h_t_typed h_t_texts h_t_diary h_t_longs h_t_awakes h_t_fit h_t_counts h_t_worths h_t_ripes h_t_growths h_t_gains h_t_isThere h_t_forms h_t_sizes h_t_items h_t_moved : Nat) (v_m_hours : Int32) (v_m_months : Int32) (v_m_fitMany : Int32) (v_m_fitFirst : Int32) (v_m_finding : Int32) (v_m_turns : Nat → Int32) (v_m_phases : Nat → Int32) (v_m_ups : Nat → Int32) : va_W := [(h_t, .inr (7, [.ref h_t_turns, .ref h_t_phases, .ref h_t_ups, .ref h_t_typed, .ref h_t_texts, .int v_m_hours, .ref h_t_diary, .int v_m_months, .ref h_t_longs, .ref h_t_awakes, .ref h_t_fit, .int v_m_fitMany, .int v_m_fitFirst, .ref h_t_counts, .ref h_t_worths, .ref h_t_ripes, .ref h_t_growths, .ref h_t_gains, .ref h_t_isThere, .ref h_t_forms, .ref h_t_sizes, .ref h_t_items, .ref h_t_moved, .int v_m_finding])), (h_t_turns, .inl (cI, 2, .inl v_m_turns)), (h_t_phases, .inl (cI, 2, .inl v_m_phases)), (h_t_ups, .inl (cI, 2, .inl v_m_ups))]
abbrev rm_X8_lasts : Room := { frames := 4, cells := 0, slots := 0, locals := 88 }
def f_X8_lasts (n : Nat) (v_m_turns : Nat → Int32) (v_m_phases : Nat → Int32) (v_m_ups : Nat → Int32) (x1 : Int32) : Option (Int32) := bd1_ (f_X8_isHour n x1) (fun (r1_1 : Int32) => if r1_1 = 0 then some (-2) else bd1_ (f_X8_lastsOf n v_m_turns v_m_phases v_m_ups x1) (fun (r9_5 : Int32) => some r9_5))
set_option maxHeartbeats 4000000 in
set_option maxRecDepth 100000 in
theorem c_X8_lasts (l : Launch) (dC : Nat → ClassId) (dI : Nat → Nat → Nat) (cI cZ cP cS : ClassId) (h_t h_t_turns h_t_phases h_t_ups h_t_typed h_t_texts h_t_diary h_t_longs h_t_awakes h_t_fit h_t_counts h_t_worths h_t_ripes h_t_growths h_t_gains h_t_isThere h_t_forms h_t_sizes h_t_items h_t_moved : Nat) (v_m_hours : Int32) (v_m_months : Int32) (v_m_fitMany : Int32) (v_m_fitFirst : Int32) (v_m_finding : Int32) (v_m_turns : Nat → Int32) (v_m_phases : Nat → Int32) (v_m_ups : Nat → Int32) (x1 : Int32) (n : Nat) (r : Int32) (hf : f_X8_lasts n v_m_turns v_m_phases v_m_ups x1 = some r) : Met l yX8_lasts wsX8_lasts rm_X8_lasts (RO (dC, dI) (TY cI cZ cP cS) [.ref h_t, .int x1] (wd_X8_lasts cI cZ cP cS h_t h_t_turns h_t_phases h_t_ups h_t_typed h_t_texts h_t_diary h_t_longs h_t_awakes h_t_fit h_t_counts h_t_worths h_t_ripes h_t_growths h_t_gains h_t_isThere h_t_forms h_t_sizes h_t_items h_t_moved v_m_hours v_m_months v_m_fitMany v_m_fitFirst v_m_finding v_m_turns v_m_phases v_m_ups)) (vp_Si (fun x => x = r)) 0 0 NF := by
  refine Met.ofW (cc := cX8_lasts) (maxL := 2) (ret := (some .int)) (by decide) rfl ?_
  intro p e s m args below meth c s₁ B hml hv
  obtain ⟨rfl, hP, hK⟩ := hv
  have hx := B.exec
  have hb := B.bytes
  have hr := B.returns
  have hts := atoms_spec (ws := wsX8_lasts) B.pre
  have hown : s.vm.findClass RX8 = some m.cls := findClass_of_methodNamed B.named
  have hlocks := B.notSynchronized
  have hl := lv_entry ([.ref h_t, .int x1]) (n := 2) (Nat.le_of_ble_eq_true rfl)
  rw [lg_entry_eq]
  generalize (lg_sl ([.ref h_t, .int x1]) ++ List.replicate (2 - (lg_sl ([.ref h_t, .int x1])).length) Slot.unset).toArray = ls at hl ⊢
  have hl : lv_has ls 2 [(0, .ref h_t), (1, .int x1)] := hl
  unfold f_X8_lasts at hf
  refine lv_iload_n hx hb dX8_lasts_0 rfl (lv_at hl 1 rfl) ?_
  obtain ⟨r1_1, hc_2, hf⟩ := bd1_e hf
  refine vp_callSi (va_runS (As := [.int x1]) (rest := []) ⟨hx, hb, hml, hown, hts⟩ (c_X8_isHour l dC dI cI cZ cP cS   x1 n r1_1 hc_2) (va_cwS 1 hts gX8_lasts_X8_isHour rfl rfl rfl (by decide +kernel) ⟨Nat.le_of_ble_eq_true rfl, Nat.le_of_ble_eq_true rfl⟩) (ps_ro hK (hP.sub (ws' := ([] : va_W)) [] rfl)) rfl rfl hl.1 rfl (lv_room (Nat.le_of_ble_eq_true rfl)) dX8_lasts_1 ⟨Nat.zero_le _, Nat.zero_le _⟩).run (fun x e_3 => ?_)
  obtain ⟨e_3, hb_4⟩ := e_3
  rw [e_3] at hb_4 ⊢
  refine lv_if_eq (tgt := 15) hx hb dX8_lasts_4 (by decide) (fun c4 => ?_) (fun c4 => ?_)
  · rw [if_pos c4] at hf
    refine lv_bipush (v := (-2)) hx hb dX8_lasts_15 (by decide) ?_
    exact W.iret hx hb hr (fun t ht hW => ⟨_, rfl, Option.some.inj hf, ht⟩) (fun _ h => nomatch h) dX8_lasts_17
  · rw [if_neg c4] at hf
    refine lv_aload_n hx hb dX8_lasts_7 rfl (lv_at hl 0 rfl) ?_
    refine lv_iload_n hx hb dX8_lasts_8 rfl (lv_at hl 1 rfl) ?_
    obtain ⟨r9_5, hc_6, hf⟩ := bd1_e hf
    refine vp_callSi (va_runV (As := [.int x1]) (rest := []) ⟨hx, hb, hml, hown, hts⟩ (c_X8_lastsOf l dC dI cI cZ cP cS h_t h_t_turns h_t_phases h_t_ups h_t_typed h_t_texts h_t_diary h_t_longs h_t_awakes h_t_fit h_t_counts h_t_worths h_t_ripes h_t_growths h_t_gains h_t_isThere h_t_forms h_t_sizes h_t_items h_t_moved v_m_hours v_m_months v_m_fitMany v_m_fitFirst v_m_finding v_m_turns v_m_phases v_m_ups x1 n r9_5 hc_6) (cwV 1 hts gX8_lasts_X8_lastsOf rfl rfl rfl (by decide +kernel) ⟨Nat.le_of_ble_eq_true rfl, Nat.le_of_ble_eq_true rfl⟩) (pv_ro (ci := 7) (q0 := 0) hK (hP.sub (ws' := (wd_X8_lastsOf cI cZ cP cS h_t h_t_turns h_t_phases h_t_ups h_t_typed h_t_texts h_t_diary h_t_longs h_t_awakes h_t_fit h_t_counts h_t_worths h_t_ripes h_t_growths h_t_gains h_t_isThere h_t_forms h_t_sizes h_t_items h_t_moved v_m_hours v_m_months v_m_fitMany v_m_fitFirst v_m_finding v_m_turns v_m_phases v_m_ups)) [0, 1, 2, 3] rfl) rfl rfl) rfl rfl hl.1 rfl (lv_room (Nat.le_of_ble_eq_true rfl)) dX8_lasts_9 ⟨Nat.zero_le _, Nat.zero_le _⟩).run (fun x e_7 => ?_)
    rw [e_7]
    refine lv_goto (tgt := 17) hx hb dX8_lasts_12 (by decide) ?_
    exact W.iret hx hb hr (fun t ht hW => ⟨_, rfl, Option.some.inj hf, ht⟩) (fun _ h => nomatch h) dX8_lasts_17

abbrev wd_X8_light (cI cZ cP cS : ClassId) (h_t h_t_turns h_t_phases h_t_ups h_t_typed h_t_texts h_t_diary h_t_longs h_t_awakes h_t_fit h_t_counts h_t_worths h_t_ripes h_t_growths h_t_gains h_t_isThere h_t_forms h_t_sizes h_t_items h_t_moved : Nat) (v_m_hours : Int32) (v_m_months : Int32) (v_m_fitMany : Int32) (v_m_fitFirst : Int32) (v_m_finding : Int32) (v_m_turns : Nat → Int32) (v_m_phases : Nat → Int32) (v_m_ups : Nat → Int32) : va_W := [(h_t, .inr (7, [.ref h_t_turns, .ref h_t_phases, .ref h_t_ups, .ref h_t_typed, .ref h_t_texts, .int v_m_hours, .ref h_t_diary, .int v_m_months, .ref h_t_longs, .ref h_t_awakes, .ref h_t_fit, .int v_m_fitMany, .int v_m_fitFirst, .ref h_t_counts, .ref h_t_worths, .ref h_t_ripes, .ref h_t_growths, .ref h_t_gains, .ref h_t_isThere, .ref h_t_forms, .ref h_t_sizes, .ref h_t_items, .ref h_t_moved, .int v_m_finding])), (h_t_turns, .inl (cI, 2, .inl v_m_turns)), (h_t_phases, .inl (cI, 2, .inl v_m_phases)), (h_t_ups, .inl (cI, 2, .inl v_m_ups))]
abbrev rm_X8_light : Room := { frames := 3, cells := 0, slots := 0, locals := 65 }
def f_X8_light (n : Nat) (v_m_turns : Nat → Int32) (v_m_phases : Nat → Int32) (v_m_ups : Nat → Int32) (x1 : Int32) : Option (Int32) := bd1_ (f_X8_isHour n x1) (fun (r1_1 : Int32) => if r1_1 = 0 then some (-2) else bd1_ (f_X8_lightOf n v_m_turns v_m_phases v_m_ups x1) (fun (r9_5 : Int32) => some r9_5))
set_option maxHeartbeats 4000000 in
set_option maxRecDepth 100000 in
theorem c_X8_light (l : Launch) (dC : Nat → ClassId) (dI : Nat → Nat → Nat) (cI cZ cP cS : ClassId) (h_t h_t_turns h_t_phases h_t_ups h_t_typed h_t_texts h_t_diary h_t_longs h_t_awakes h_t_fit h_t_counts h_t_worths h_t_ripes h_t_growths h_t_gains h_t_isThere h_t_forms h_t_sizes h_t_items h_t_moved : Nat) (v_m_hours : Int32) (v_m_months : Int32) (v_m_fitMany : Int32) (v_m_fitFirst : Int32) (v_m_finding : Int32) (v_m_turns : Nat → Int32) (v_m_phases : Nat → Int32) (v_m_ups : Nat → Int32) (x1 : Int32) (n : Nat) (r : Int32) (hf : f_X8_light n v_m_turns v_m_phases v_m_ups x1 = some r) : Met l yX8_light wsX8_light rm_X8_light (RO (dC, dI) (TY cI cZ cP cS) [.ref h_t, .int x1] (wd_X8_light cI cZ cP cS h_t h_t_turns h_t_phases h_t_ups h_t_typed h_t_texts h_t_diary h_t_longs h_t_awakes h_t_fit h_t_counts h_t_worths h_t_ripes h_t_growths h_t_gains h_t_isThere h_t_forms h_t_sizes h_t_items h_t_moved v_m_hours v_m_months v_m_fitMany v_m_fitFirst v_m_finding v_m_turns v_m_phases v_m_ups)) (vp_Si (fun x => x = r)) 0 0 NF := by
  refine Met.ofW (cc := cX8_light) (maxL := 2) (ret := (some .int)) (by decide) rfl ?_
  intro p e s m args below meth c s₁ B hml hv
  obtain ⟨rfl, hP, hK⟩ := hv
  have hx := B.exec
  have hb := B.bytes
  have hr := B.returns
  have hts := atoms_spec (ws := wsX8_light) B.pre
  have hown : s.vm.findClass RX8 = some m.cls := findClass_of_methodNamed B.named
  have hlocks := B.notSynchronized
  have hl := lv_entry ([.ref h_t, .int x1]) (n := 2) (Nat.le_of_ble_eq_true rfl)
  rw [lg_entry_eq]
  generalize (lg_sl ([.ref h_t, .int x1]) ++ List.replicate (2 - (lg_sl ([.ref h_t, .int x1])).length) Slot.unset).toArray = ls at hl ⊢
  have hl : lv_has ls 2 [(0, .ref h_t), (1, .int x1)] := hl
  unfold f_X8_light at hf
  refine lv_iload_n hx hb dX8_light_0 rfl (lv_at hl 1 rfl) ?_
  obtain ⟨r1_1, hc_2, hf⟩ := bd1_e hf
  refine vp_callSi (va_runS (As := [.int x1]) (rest := []) ⟨hx, hb, hml, hown, hts⟩ (c_X8_isHour l dC dI cI cZ cP cS   x1 n r1_1 hc_2) (va_cwS 1 hts gX8_light_X8_isHour rfl rfl rfl (by decide +kernel) ⟨Nat.le_of_ble_eq_true rfl, Nat.le_of_ble_eq_true rfl⟩) (ps_ro hK (hP.sub (ws' := ([] : va_W)) [] rfl)) rfl rfl hl.1 rfl (lv_room (Nat.le_of_ble_eq_true rfl)) dX8_light_1 ⟨Nat.zero_le _, Nat.zero_le _⟩).run (fun x e_3 => ?_)
  obtain ⟨e_3, hb_4⟩ := e_3
  rw [e_3] at hb_4 ⊢
  refine lv_if_eq (tgt := 15) hx hb dX8_light_4 (by decide) (fun c4 => ?_) (fun c4 => ?_)
  · rw [if_pos c4] at hf
    refine lv_bipush (v := (-2)) hx hb dX8_light_15 (by decide) ?_
    exact W.iret hx hb hr (fun t ht hW => ⟨_, rfl, Option.some.inj hf, ht⟩) (fun _ h => nomatch h) dX8_light_17
  · rw [if_neg c4] at hf
    refine lv_aload_n hx hb dX8_light_7 rfl (lv_at hl 0 rfl) ?_
    refine lv_iload_n hx hb dX8_light_8 rfl (lv_at hl 1 rfl) ?_
    obtain ⟨r9_5, hc_6, hf⟩ := bd1_e hf
    refine vp_callSi (va_runV (As := [.int x1]) (rest := []) ⟨hx, hb, hml, hown, hts⟩ (c_X8_lightOf l dC dI cI cZ cP cS h_t h_t_turns h_t_phases h_t_ups h_t_typed h_t_texts h_t_diary h_t_longs h_t_awakes h_t_fit h_t_counts h_t_worths h_t_ripes h_t_growths h_t_gains h_t_isThere h_t_forms h_t_sizes h_t_items h_t_moved v_m_hours v_m_months v_m_fitMany v_m_fitFirst v_m_finding v_m_turns v_m_phases v_m_ups x1 n r9_5 hc_6) (cwV 1 hts gX8_light_X8_lightOf rfl rfl rfl (by decide +kernel) ⟨Nat.le_of_ble_eq_true rfl, Nat.le_of_ble_eq_true rfl⟩) (pv_ro (ci := 7) (q0 := 0) hK (hP.sub (ws' := (wd_X8_lightOf cI cZ cP cS h_t h_t_turns h_t_phases h_t_ups h_t_typed h_t_texts h_t_diary h_t_longs h_t_awakes h_t_fit h_t_counts h_t_worths h_t_ripes h_t_growths h_t_gains h_t_isThere h_t_forms h_t_sizes h_t_items h_t_moved v_m_hours v_m_months v_m_fitMany v_m_fitFirst v_m_finding v_m_turns v_m_phases v_m_ups)) [0, 1, 2, 3] rfl) rfl rfl) rfl rfl hl.1 rfl (lv_room (Nat.le_of_ble_eq_true rfl)) dX8_light_9 ⟨Nat.zero_le _, Nat.zero_le _⟩).run (fun x e_7 => ?_)
    rw [e_7]
    refine lv_goto (tgt := 17) hx hb dX8_light_12 (by decide) ?_
    exact W.iret hx hb hr (fun t ht hW => ⟨_, rfl, Option.some.inj hf, ht⟩) (fun _ h => nomatch h) dX8_light_17

abbrev wd_X8_lose (cI cZ cP cS : ClassId) (h_t h_t_turns h_t_phases h_t_ups h_t_typed h_t_texts h_t_diary h_t_longs h_t_awakes h_t_fit h_t_counts h_t_worths h_t_ripes h_t_growths h_t_gains h_t_isThere h_t_forms h_t_sizes h_t_items h_t_moved : Nat) (v_m_hours : Int32) (v_m_months : Int32) (v_m_fitMany : Int32) (v_m_fitFirst : Int32) (v_m_finding : Int32) (v_m_isThere : Nat → Int32) (v_m_sizes : Nat → Int32) : va_W := [(h_t, .inr (7, [.ref h_t_turns, .ref h_t_phases, .ref h_t_ups, .ref h_t_typed, .ref h_t_texts, .int v_m_hours, .ref h_t_diary, .int v_m_months, .ref h_t_longs, .ref h_t_awakes, .ref h_t_fit, .int v_m_fitMany, .int v_m_fitFirst, .ref h_t_counts, .ref h_t_worths, .ref h_t_ripes, .ref h_t_growths, .ref h_t_gains, .ref h_t_isThere, .ref h_t_forms, .ref h_t_sizes, .ref h_t_items, .ref h_t_moved, .int v_m_finding])), (h_t_isThere, .inl (cZ, 4, .inl v_m_isThere)), (h_t_sizes, .inl (cI, 4, .inl v_m_sizes))]
abbrev rm_X8_lose : Room := { frames := 2, cells := 0, slots := 0, locals := 42 }
def f_X8_lose (n : Nat) (v_m_finding : Int32) (v_m_isThere : Nat → Int32) (v_m_sizes : Nat → Int32) (x1 : Int32) : Option (Int32 × Int32 × (Nat → Int32)) := bd1_ (f_X8_isSheet n x1) (fun (r1_1 : Int32) => if r1_1 = 0 then some ((-2), v_m_finding, v_m_isThere) else ix_ x1 4 (if (v_m_isThere x1.toNatClampNeg) = 0 then bd2_ (f_X8_meets n v_m_finding 1) (fun (r21_8 : Int32) (o21_9 : Int32) => some (r21_8, o21_9, v_m_isThere)) else ix_ x1 4 (ix_ x1 4 (some ((v_m_sizes x1.toNatClampNeg), v_m_finding, (upd v_m_isThere x1.toNatClampNeg (vp_nar .boolean 0)))))))
set_option maxHeartbeats 4000000 in
set_option maxRecDepth 100000 in
theorem c_X8_lose (l : Launch) (dC : Nat → ClassId) (dI : Nat → Nat → Nat) (cI cZ cP cS : ClassId) (sz : Nat) (h_t h_t_turns h_t_phases h_t_ups h_t_typed h_t_texts h_t_diary h_t_longs h_t_awakes h_t_fit h_t_counts h_t_worths h_t_ripes h_t_growths h_t_gains h_t_isThere h_t_forms h_t_sizes h_t_items h_t_moved : Nat) (v_m_hours : Int32) (v_m_months : Int32) (v_m_fitMany : Int32) (v_m_fitFirst : Int32) (v_m_finding : Int32) (v_m_isThere : Nat → Int32) (v_m_sizes : Nat → Int32) (x1 : Int32) (n : Nat) (r : Int32) (o_m_finding : Int32) (o_m_isThere : Nat → Int32) (hf : f_X8_lose n v_m_finding v_m_isThere v_m_sizes x1 = some (r, o_m_finding, o_m_isThere)) : Met l yX8_lose wsX8_lose rm_X8_lose (RW (dC, dI) (TY cI cZ cP cS) [.ref h_t, .int x1] sz (wd_X8_lose cI cZ cP cS h_t h_t_turns h_t_phases h_t_ups h_t_typed h_t_texts h_t_diary h_t_longs h_t_awakes h_t_fit h_t_counts h_t_worths h_t_ripes h_t_growths h_t_gains h_t_isThere h_t_forms h_t_sizes h_t_items h_t_moved v_m_hours v_m_months v_m_fitMany v_m_fitFirst v_m_finding v_m_isThere v_m_sizes)) (RWi (dC, dI) (TY cI cZ cP cS) r sz (wd_X8_lose cI cZ cP cS h_t h_t_turns h_t_phases h_t_ups h_t_typed h_t_texts h_t_diary h_t_longs h_t_awakes h_t_fit h_t_counts h_t_worths h_t_ripes h_t_growths h_t_gains h_t_isThere h_t_forms h_t_sizes h_t_items h_t_moved v_m_hours v_m_months v_m_fitMany v_m_fitFirst v_m_finding v_m_isThere v_m_sizes) (wd_X8_lose cI cZ cP cS h_t h_t_turns h_t_phases h_t_ups h_t_typed h_t_texts h_t_diary h_t_longs h_t_awakes h_t_fit h_t_counts h_t_worths h_t_ripes h_t_growths h_t_gains h_t_isThere h_t_forms h_t_sizes h_t_items h_t_moved v_m_hours v_m_months v_m_fitMany v_m_fitFirst o_m_finding o_m_isThere v_m_sizes)) 0 0 (va_A (wd_X8_lose cI cZ cP cS h_t h_t_turns h_t_phases h_t_ups h_t_typed h_t_texts h_t_diary h_t_longs h_t_awakes h_t_fit h_t_counts h_t_worths h_t_ripes h_t_growths h_t_gains h_t_isThere h_t_forms h_t_sizes h_t_items h_t_moved v_m_hours v_m_months v_m_fitMany v_m_fitFirst v_m_finding v_m_isThere v_m_sizes) sz) := by
  refine Met.ofW (cc := cX8_lose) (maxL := 2) (ret := (some .int)) (by decide) rfl ?_
  intro p e s m args below meth c s₁ B hml hv
  obtain ⟨rfl, hsz, hP, hK, hD0⟩ := hv
  have hx := B.exec
  have hb := B.bytes
  have hr := B.returns
  have hts := atoms_spec (ws := wsX8_lose) B.pre
  have hown : s.vm.findClass RX8 = some m.cls := findClass_of_methodNamed B.named
  have hlocks := B.notSynchronized
  subst hsz
  have hD := hD0.self (sz := s.heap.size)
  have hA : ∀ q : Nat, s.heap.size ≤ q → (va_A (wd_X8_lose cI cZ cP cS h_t h_t_turns h_t_phases h_t_ups h_t_typed h_t_texts h_t_diary h_t_longs h_t_awakes h_t_fit h_t_counts h_t_worths h_t_ripes h_t_growths h_t_gains h_t_isThere h_t_forms h_t_sizes h_t_items h_t_moved v_m_hours v_m_months v_m_fitMany v_m_fitFirst v_m_finding v_m_isThere v_m_sizes) s.heap.size) q := fun q h => Or.inr h
  have hS : va_S (va_A (wd_X8_lose cI cZ cP cS h_t h_t_turns h_t_phases h_t_ups h_t_typed h_t_texts h_t_diary h_t_longs h_t_awakes h_t_fit h_t_counts h_t_worths h_t_ripes h_t_growths h_t_gains h_t_isThere h_t_forms h_t_sizes h_t_items h_t_moved v_m_hours v_m_months v_m_fitMany v_m_fitFirst v_m_finding v_m_isThere v_m_sizes) s.heap.size) s.heap s.heap [] := va_S.rf
  have hinX8 : ∀ w ∈ wsX80, w ∈ wsX8_lose := by decide +kernel
  have hl := lv_entry ([.ref h_t, .int x1]) (n := 2) (Nat.le_of_ble_eq_true rfl)
  rw [lg_entry_eq]
  generalize (lg_sl ([.ref h_t, .int x1]) ++ List.replicate (2 - (lg_sl ([.ref h_t, .int x1])).length) Slot.unset).toArray = ls at hl ⊢
  have hl : lv_has ls 2 [(0, .ref h_t), (1, .int x1)] := hl
  obtain ⟨H, hH⟩ : ∃ H : Heap, H = s.heap := ⟨_, rfl⟩
  have hP : va_P (dC, dI) vwCl (wd_X8_lose cI cZ cP cS h_t h_t_turns h_t_phases h_t_ups h_t_typed h_t_texts h_t_diary h_t_longs h_t_awakes h_t_fit h_t_counts h_t_worths h_t_ripes h_t_growths h_t_gains h_t_isThere h_t_forms h_t_sizes h_t_items h_t_moved v_m_hours v_m_months v_m_fitMany v_m_fitFirst v_m_finding v_m_isThere v_m_sizes) H := by rw [hH]; exact hP
  have hS : va_S (va_A (wd_X8_lose cI cZ cP cS h_t h_t_turns h_t_phases h_t_ups h_t_typed h_t_texts h_t_diary h_t_longs h_t_awakes h_t_fit h_t_counts h_t_worths h_t_ripes h_t_growths h_t_gains h_t_isThere h_t_forms h_t_sizes h_t_items h_t_moved v_m_hours v_m_months v_m_fitMany v_m_fitFirst v_m_finding v_m_isThere v_m_sizes) s.heap.size) s.heap H [] := by rw [hH]; exact hS
  obtain ⟨locs, hlo⟩ : ∃ L : List Loc, L = [] := ⟨_, rfl⟩
  rw [← hlo] at hS
  suffices hgo : W p l e (headSpec wsX8_lose rm_X8_lose).room s m ([.ref h_t, .int x1] : List Value).toArray below meth c H locs 0 0 (MQ below (RWi (dC, dI) (TY cI cZ cP cS) r s.heap.size (wd_X8_lose cI cZ cP cS h_t h_t_turns h_t_phases h_t_ups h_t_typed h_t_texts h_t_diary h_t_longs h_t_awakes h_t_fit h_t_counts h_t_worths h_t_ripes h_t_growths h_t_gains h_t_isThere h_t_forms h_t_sizes h_t_items h_t_moved v_m_hours v_m_months v_m_fitMany v_m_fitFirst v_m_finding v_m_isThere v_m_sizes) (wd_X8_lose cI cZ cP cS h_t h_t_turns h_t_phases h_t_ups h_t_typed h_t_texts h_t_diary h_t_longs h_t_awakes h_t_fit h_t_counts h_t_worths h_t_ripes h_t_growths h_t_gains h_t_isThere h_t_forms h_t_sizes h_t_items h_t_moved v_m_hours v_m_months v_m_fitMany v_m_fitFirst o_m_finding o_m_isThere v_m_sizes)) ([.ref h_t, .int x1] : List Value).toArray s 0 0 (va_A (wd_X8_lose cI cZ cP cS h_t h_t_turns h_t_phases h_t_ups h_t_typed h_t_texts h_t_diary h_t_longs h_t_awakes h_t_fit h_t_counts h_t_worths h_t_ripes h_t_growths h_t_gains h_t_isThere h_t_forms h_t_sizes h_t_items h_t_moved v_m_hours v_m_months v_m_fitMany v_m_fitFirst v_m_finding v_m_isThere v_m_sizes) s.heap.size)) (F0 m 0 ls []) by rw [hH, hlo] at hgo; exact hgo
  clear hH hlo
  unfold f_X8_lose at hf
  refine lv_iload_n hx hb dX8_lose_0 rfl (lv_at hl 1 rfl) ?_
  obtain ⟨r1_1, hc_2, hf⟩ := bd1_e hf
  refine vp_callSi (va_runS (As := [.int x1]) (rest := []) ⟨hx, hb, hml, hown, hts⟩ (c_X8_isSheet l dC dI cI cZ cP cS   x1 n r1_1 hc_2) (va_cwS 1 hts gX8_lose_X8_isSheet rfl rfl rfl (by decide +kernel) ⟨Nat.le_of_ble_eq_true rfl, Nat.le_of_ble_eq_true rfl⟩) (ps_ro hK (hP.sub (ws' := ([] : va_W)) [] rfl)) rfl rfl hl.1 rfl (lv_room (Nat.le_of_ble_eq_true rfl)) dX8_lose_1 ⟨Nat.zero_le _, Nat.zero_le _⟩).run (fun x e_3 => ?_)
  obtain ⟨e_3, hb_4⟩ := e_3
  rw [e_3] at hb_4 ⊢
  refine lv_if_ne (tgt := 10) hx hb dX8_lose_4 (by decide) (fun c4 => ?_) (fun c4 => ?_)
  · rw [if_neg c4] at hf
    refine lv_aload_n hx hb dX8_lose_10 rfl (lv_at hl 0 rfl) ?_
    refine va_get (D := (dC, dI)) (ci := 7) (v := .ref h_t_isThere) (C := RX8) (T := TX8) (N := 24) hx hb hts hinX8 hown hK hP 0 rfl rfl 18 (by decide) (hts (.fieldLink RX8 53 "SecondSunriseModel" "isThere" "[Z") (by decide +kernel)) (fun _ h9 => h9) rfl dX8_lose_11 ?_
    refine lv_iload_n hx hb dX8_lose_14 rfl (lv_at hl 1 rfl) ?_
    obtain ⟨hi_5, hf⟩ := ix_e hf
    refine va_zald hx hb hK hP 1 1 rfl rfl hi_5 dX8_lose_15 ?_
    refine lv_if_ne (tgt := 25) hx hb dX8_lose_16 (by decide) (fun c16 => ?_) (fun c16 => ?_)
    · rw [if_neg c16] at hf
      refine lv_aload_n hx hb dX8_lose_25 rfl (lv_at hl 0 rfl) ?_
      refine va_get (D := (dC, dI)) (ci := 7) (v := .ref h_t_isThere) (C := RX8) (T := TX8) (N := 24) hx hb hts hinX8 hown hK hP 0 rfl rfl 18 (by decide) (hts (.fieldLink RX8 53 "SecondSunriseModel" "isThere" "[Z") (by decide +kernel)) (fun _ h9 => h9) rfl dX8_lose_26 ?_
      refine lv_iload_n hx hb dX8_lose_29 rfl (lv_at hl 1 rfl) ?_
      refine lv_iconst (v := 0) hx hb dX8_lose_30 (by decide) ?_
      obtain ⟨hi_6, hf⟩ := ix_e hf
      refine va_zast hx hb hK hP hD hS 1 1 rfl rfl hi_6 dX8_lose_31 (fun H locs hP hD hS => ?_)
      have hP : va_P (dC, dI) vwCl (wd_X8_lose cI cZ cP cS h_t h_t_turns h_t_phases h_t_ups h_t_typed h_t_texts h_t_diary h_t_longs h_t_awakes h_t_fit h_t_counts h_t_worths h_t_ripes h_t_growths h_t_gains h_t_isThere h_t_forms h_t_sizes h_t_items h_t_moved v_m_hours v_m_months v_m_fitMany v_m_fitFirst v_m_finding (upd v_m_isThere x1.toNatClampNeg (vp_nar .boolean 0)) v_m_sizes) H := hP
      have hD : va_D (va_A (wd_X8_lose cI cZ cP cS h_t h_t_turns h_t_phases h_t_ups h_t_typed h_t_texts h_t_diary h_t_longs h_t_awakes h_t_fit h_t_counts h_t_worths h_t_ripes h_t_growths h_t_gains h_t_isThere h_t_forms h_t_sizes h_t_items h_t_moved v_m_hours v_m_months v_m_fitMany v_m_fitFirst v_m_finding v_m_isThere v_m_sizes) s.heap.size) (wd_X8_lose cI cZ cP cS h_t h_t_turns h_t_phases h_t_ups h_t_typed h_t_texts h_t_diary h_t_longs h_t_awakes h_t_fit h_t_counts h_t_worths h_t_ripes h_t_growths h_t_gains h_t_isThere h_t_forms h_t_sizes h_t_items h_t_moved v_m_hours v_m_months v_m_fitMany v_m_fitFirst v_m_finding (upd v_m_isThere x1.toNatClampNeg (vp_nar .boolean 0)) v_m_sizes) := hD
      refine lv_aload_n hx hb dX8_lose_32 rfl (lv_at hl 0 rfl) ?_
      refine va_get (D := (dC, dI)) (ci := 7) (v := .ref h_t_sizes) (C := RX8) (T := TX8) (N := 24) hx hb hts hinX8 hown hK hP 0 rfl rfl 20 (by decide) (hts (.fieldLink RX8 59 "SecondSunriseModel" "sizes" "[I") (by decide +kernel)) (fun _ h9 => h9) rfl dX8_lose_33 ?_
      refine lv_iload_n hx hb dX8_lose_36 rfl (lv_at hl 1 rfl) ?_
      obtain ⟨hi_7, hf⟩ := ix_e hf
      refine va_iald hx hb hK hP 2 0 rfl rfl hi_7 dX8_lose_37 ?_
      have hq0 := Option.some.inj hf
      obtain ⟨eq0, hq1⟩ := Prod.mk.inj hq0
      obtain ⟨eq1, hq2⟩ := Prod.mk.inj hq1
      clear hf hq0 hq1
      subst eq0
      subst eq1
      subst hq2
      exact W.iret hx hb hr (fun t ht hW => ⟨⟨_, (), rfl, rfl, by rw [ht]; exact hP, va_K.moved hW.alike hK, hD⟩, hS.F ht⟩) hS.2.2 dX8_lose_38
    · rw [if_pos c16] at hf
      refine lv_aload_n hx hb dX8_lose_19 rfl (lv_at hl 0 rfl) ?_
      refine lv_iconst (v := 1) hx hb dX8_lose_20 (by decide) ?_
      obtain ⟨r21_8, o21_9, hc_10, hf⟩ := bd2_e hf
      refine rwi_call (isC := [0]) (isR := [1, 2]) (perm := [2, 0, 1]) (wr := [(h_t_isThere, .inl (cZ, 4, .inl v_m_isThere)), (h_t_sizes, .inl (cI, 4, .inl v_m_sizes))]) (ws2 := (wd_X8_lose cI cZ cP cS h_t h_t_turns h_t_phases h_t_ups h_t_typed h_t_texts h_t_diary h_t_longs h_t_awakes h_t_fit h_t_counts h_t_worths h_t_ripes h_t_growths h_t_gains h_t_isThere h_t_forms h_t_sizes h_t_items h_t_moved v_m_hours v_m_months v_m_fitMany v_m_fitFirst o21_9 v_m_isThere v_m_sizes)) (va_runV (As := [.int 1]) (rest := []) ⟨hx, hb, hml, hown, hts⟩ (c_X8_meets l dC dI cI cZ cP cS H.size h_t h_t_turns h_t_phases h_t_ups h_t_typed h_t_texts h_t_diary h_t_longs h_t_awakes h_t_fit h_t_counts h_t_worths h_t_ripes h_t_growths h_t_gains h_t_isThere h_t_forms h_t_sizes h_t_items h_t_moved v_m_hours v_m_months v_m_fitMany v_m_fitFirst v_m_finding 1 n r21_8 o21_9 hc_10) (cwV 1 hts gX8_lose_X8_meets rfl rfl rfl (by decide +kernel) ⟨Nat.le_of_ble_eq_true rfl, Nat.le_of_ble_eq_true rfl⟩) (pv_rw (ci := 7) (q0 := 0) hK (hP.sub (ws' := (wd_X8_meets cI cZ cP cS h_t h_t_turns h_t_phases h_t_ups h_t_typed h_t_texts h_t_diary h_t_longs h_t_awakes h_t_fit h_t_counts h_t_worths h_t_ripes h_t_growths h_t_gains h_t_isThere h_t_forms h_t_sizes h_t_items h_t_moved v_m_hours v_m_months v_m_fitMany v_m_fitFirst v_m_finding)) [0] rfl) (hD.sub (ws' := (wd_X8_meets cI cZ cP cS h_t h_t_turns h_t_phases h_t_ups h_t_typed h_t_texts h_t_diary h_t_longs h_t_awakes h_t_fit h_t_counts h_t_worths h_t_ripes h_t_growths h_t_gains h_t_isThere h_t_forms h_t_sizes h_t_items h_t_moved v_m_hours v_m_months v_m_fitMany v_m_fitFirst v_m_finding)) [0] (by decide) rfl) rfl rfl) rfl rfl hl.1 rfl (lv_room (Nat.le_of_ble_eq_true rfl)) dX8_lose_21 ⟨Nat.zero_le _, Nat.zero_le _⟩) hS hA hP hD rfl (by decide) (by decide) rfl (by decide) rfl rfl (fun H locs hP hD hS => ?_)
      have hq0 := Option.some.inj hf
      obtain ⟨eq0, hq1⟩ := Prod.mk.inj hq0
      obtain ⟨eq1, hq2⟩ := Prod.mk.inj hq1
      clear hf hq0 hq1
      subst eq0
      subst eq1
      subst hq2
      exact W.iret hx hb hr (fun t ht hW => ⟨⟨_, (), rfl, rfl, by rw [ht]; exact hP, va_K.moved hW.alike hK, hD⟩, hS.F ht⟩) hS.2.2 dX8_lose_24
  · rw [if_pos c4] at hf
    refine lv_bipush (v := (-2)) hx hb dX8_lose_7 (by decide) ?_
    have hq0 := Option.some.inj hf
    obtain ⟨eq0, hq1⟩ := Prod.mk.inj hq0
    obtain ⟨eq1, hq2⟩ := Prod.mk.inj hq1
    clear hf hq0 hq1
    subst eq0
    subst eq1
    subst hq2
    exact W.iret hx hb hr (fun t ht hW => ⟨⟨_, (), rfl, rfl, by rw [ht]; exact hP, va_K.moved hW.alike hK, hD⟩, hS.F ht⟩) hS.2.2 dX8_lose_9

abbrev wd_X8_monthOf (cI cZ cP cS : ClassId) (h_t h_t_turns h_t_phases h_t_ups h_t_typed h_t_texts h_t_diary h_t_longs h_t_awakes h_t_fit h_t_counts h_t_worths h_t_ripes h_t_growths h_t_gains h_t_isThere h_t_forms h_t_sizes h_t_items h_t_moved : Nat) (v_m_hours : Int32) (v_m_months : Int32) (v_m_fitMany : Int32) (v_m_fitFirst : Int32) (v_m_finding : Int32) (v_m_typed : Nat → Int32) (v_m_texts : Nat → Int32) (v_m_diary : Nat → Int32) (v_m_longs : Nat → Int32) : va_W := [(h_t, .inr (7, [.ref h_t_turns, .ref h_t_phases, .ref h_t_ups, .ref h_t_typed, .ref h_t_texts, .int v_m_hours, .ref h_t_diary, .int v_m_months, .ref h_t_longs, .ref h_t_awakes, .ref h_t_fit, .int v_m_fitMany, .int v_m_fitFirst, .ref h_t_counts, .ref h_t_worths, .ref h_t_ripes, .ref h_t_growths, .ref h_t_gains, .ref h_t_isThere, .ref h_t_forms, .ref h_t_sizes, .ref h_t_items, .ref h_t_moved, .int v_m_finding])), (h_t_typed, .inl (cI, 2, .inl v_m_typed)), (h_t_texts, .inl (cI, 120, .inl v_m_texts)), (h_t_diary, .inl (cI, 60, .inl v_m_diary)), (h_t_longs, .inl (cI, 7, .inl v_m_longs))]
abbrev rm_X8_monthOf : Room := { frames := 5, cells := 0, slots := 0, locals := 112 }
def f_X8_monthOf (n : Nat) (v_m_hours : Int32) (v_m_months : Int32) (v_m_typed : Nat → Int32) (v_m_texts : Nat → Int32) (v_m_diary : Nat → Int32) (v_m_longs : Nat → Int32) (x1 : Int32) : Option (Int32 × Int32 × Int32 × (Nat → Int32) × (Nat → Int32)) := bd4_ (f_X8_reads n v_m_hours v_m_months v_m_typed v_m_texts v_m_diary v_m_longs) (fun (o1_1 : Int32) (o1_2 : Int32) (o1_3 : Nat → Int32) (o1_4 : Nat → Int32) => bd1_ (f_X8_in n x1 0 (o1_2 - 1)) (fun (r12_7 : Int32) => if r12_7 = 0 then some ((-2), o1_1, o1_2, o1_3, o1_4) else ix_ x1 7 (some ((o1_4 x1.toNatClampNeg), o1_1, o1_2, o1_3, o1_4))))
set_option maxHeartbeats 4000000 in
set_option maxRecDepth 100000 in
theorem c_X8_monthOf (l : Launch) (dC : Nat → ClassId) (dI : Nat → Nat → Nat) (cI cZ cP cS : ClassId) (sz : Nat) (h_t h_t_turns h_t_phases h_t_ups h_t_typed h_t_texts h_t_diary h_t_longs h_t_awakes h_t_fit h_t_counts h_t_worths h_t_ripes h_t_growths h_t_gains h_t_isThere h_t_forms h_t_sizes h_t_items h_t_moved : Nat) (v_m_hours : Int32) (v_m_months : Int32) (v_m_fitMany : Int32) (v_m_fitFirst : Int32) (v_m_finding : Int32) (v_m_typed : Nat → Int32) (v_m_texts : Nat → Int32) (v_m_diary : Nat → Int32) (v_m_longs : Nat → Int32) (x1 : Int32) (n : Nat) (r : Int32) (o_m_hours : Int32) (o_m_months : Int32) (o_m_diary : Nat → Int32) (o_m_longs : Nat → Int32) (hf : f_X8_monthOf n v_m_hours v_m_months v_m_typed v_m_texts v_m_diary v_m_longs x1 = some (r, o_m_hours, o_m_months, o_m_diary, o_m_longs)) : Met l yX8_monthOf wsX8_monthOf rm_X8_monthOf (RW (dC, dI) (TY cI cZ cP cS) [.ref h_t, .int x1] sz (wd_X8_monthOf cI cZ cP cS h_t h_t_turns h_t_phases h_t_ups h_t_typed h_t_texts h_t_diary h_t_longs h_t_awakes h_t_fit h_t_counts h_t_worths h_t_ripes h_t_growths h_t_gains h_t_isThere h_t_forms h_t_sizes h_t_items h_t_moved v_m_hours v_m_months v_m_fitMany v_m_fitFirst v_m_finding v_m_typed v_m_texts v_m_diary v_m_longs)) (RWi (dC, dI) (TY cI cZ cP cS) r sz (wd_X8_monthOf cI cZ cP cS h_t h_t_turns h_t_phases h_t_ups h_t_typed h_t_texts h_t_diary h_t_longs h_t_awakes h_t_fit h_t_counts h_t_worths h_t_ripes h_t_growths h_t_gains h_t_isThere h_t_forms h_t_sizes h_t_items h_t_moved v_m_hours v_m_months v_m_fitMany v_m_fitFirst v_m_finding v_m_typed v_m_texts v_m_diary v_m_longs) (wd_X8_monthOf cI cZ cP cS h_t h_t_turns h_t_phases h_t_ups h_t_typed h_t_texts h_t_diary h_t_longs h_t_awakes h_t_fit h_t_counts h_t_worths h_t_ripes h_t_growths h_t_gains h_t_isThere h_t_forms h_t_sizes h_t_items h_t_moved o_m_hours o_m_months v_m_fitMany v_m_fitFirst v_m_finding v_m_typed v_m_texts o_m_diary o_m_longs)) 0 0 (va_A (wd_X8_monthOf cI cZ cP cS h_t h_t_turns h_t_phases h_t_ups h_t_typed h_t_texts h_t_diary h_t_longs h_t_awakes h_t_fit h_t_counts h_t_worths h_t_ripes h_t_growths h_t_gains h_t_isThere h_t_forms h_t_sizes h_t_items h_t_moved v_m_hours v_m_months v_m_fitMany v_m_fitFirst v_m_finding v_m_typed v_m_texts v_m_diary v_m_longs) sz) := by
  refine Met.ofW (cc := cX8_monthOf) (maxL := 2) (ret := (some .int)) (by decide) rfl ?_
  intro p e s m args below meth c s₁ B hml hv
  obtain ⟨rfl, hsz, hP, hK, hD0⟩ := hv
  have hx := B.exec
  have hb := B.bytes
  have hr := B.returns
  have hts := atoms_spec (ws := wsX8_monthOf) B.pre
  have hown : s.vm.findClass RX8 = some m.cls := findClass_of_methodNamed B.named
  have hlocks := B.notSynchronized
  subst hsz
  have hD := hD0.self (sz := s.heap.size)
  have hA : ∀ q : Nat, s.heap.size ≤ q → (va_A (wd_X8_monthOf cI cZ cP cS h_t h_t_turns h_t_phases h_t_ups h_t_typed h_t_texts h_t_diary h_t_longs h_t_awakes h_t_fit h_t_counts h_t_worths h_t_ripes h_t_growths h_t_gains h_t_isThere h_t_forms h_t_sizes h_t_items h_t_moved v_m_hours v_m_months v_m_fitMany v_m_fitFirst v_m_finding v_m_typed v_m_texts v_m_diary v_m_longs) s.heap.size) q := fun q h => Or.inr h
  have hS : va_S (va_A (wd_X8_monthOf cI cZ cP cS h_t h_t_turns h_t_phases h_t_ups h_t_typed h_t_texts h_t_diary h_t_longs h_t_awakes h_t_fit h_t_counts h_t_worths h_t_ripes h_t_growths h_t_gains h_t_isThere h_t_forms h_t_sizes h_t_items h_t_moved v_m_hours v_m_months v_m_fitMany v_m_fitFirst v_m_finding v_m_typed v_m_texts v_m_diary v_m_longs) s.heap.size) s.heap s.heap [] := va_S.rf
  have hinX8 : ∀ w ∈ wsX80, w ∈ wsX8_monthOf := by decide +kernel
  have hl := lv_entry ([.ref h_t, .int x1]) (n := 2) (Nat.le_of_ble_eq_true rfl)
  rw [lg_entry_eq]
  generalize (lg_sl ([.ref h_t, .int x1]) ++ List.replicate (2 - (lg_sl ([.ref h_t, .int x1])).length) Slot.unset).toArray = ls at hl ⊢
  have hl : lv_has ls 2 [(0, .ref h_t), (1, .int x1)] := hl
  obtain ⟨H, hH⟩ : ∃ H : Heap, H = s.heap := ⟨_, rfl⟩
  have hP : va_P (dC, dI) vwCl (wd_X8_monthOf cI cZ cP cS h_t h_t_turns h_t_phases h_t_ups h_t_typed h_t_texts h_t_diary h_t_longs h_t_awakes h_t_fit h_t_counts h_t_worths h_t_ripes h_t_growths h_t_gains h_t_isThere h_t_forms h_t_sizes h_t_items h_t_moved v_m_hours v_m_months v_m_fitMany v_m_fitFirst v_m_finding v_m_typed v_m_texts v_m_diary v_m_longs) H := by rw [hH]; exact hP
  have hS : va_S (va_A (wd_X8_monthOf cI cZ cP cS h_t h_t_turns h_t_phases h_t_ups h_t_typed h_t_texts h_t_diary h_t_longs h_t_awakes h_t_fit h_t_counts h_t_worths h_t_ripes h_t_growths h_t_gains h_t_isThere h_t_forms h_t_sizes h_t_items h_t_moved v_m_hours v_m_months v_m_fitMany v_m_fitFirst v_m_finding v_m_typed v_m_texts v_m_diary v_m_longs) s.heap.size) s.heap H [] := by rw [hH]; exact hS
  obtain ⟨locs, hlo⟩ : ∃ L : List Loc, L = [] := ⟨_, rfl⟩
  rw [← hlo] at hS
  suffices hgo : W p l e (headSpec wsX8_monthOf rm_X8_monthOf).room s m ([.ref h_t, .int x1] : List Value).toArray below meth c H locs 0 0 (MQ below (RWi (dC, dI) (TY cI cZ cP cS) r s.heap.size (wd_X8_monthOf cI cZ cP cS h_t h_t_turns h_t_phases h_t_ups h_t_typed h_t_texts h_t_diary h_t_longs h_t_awakes h_t_fit h_t_counts h_t_worths h_t_ripes h_t_growths h_t_gains h_t_isThere h_t_forms h_t_sizes h_t_items h_t_moved v_m_hours v_m_months v_m_fitMany v_m_fitFirst v_m_finding v_m_typed v_m_texts v_m_diary v_m_longs) (wd_X8_monthOf cI cZ cP cS h_t h_t_turns h_t_phases h_t_ups h_t_typed h_t_texts h_t_diary h_t_longs h_t_awakes h_t_fit h_t_counts h_t_worths h_t_ripes h_t_growths h_t_gains h_t_isThere h_t_forms h_t_sizes h_t_items h_t_moved o_m_hours o_m_months v_m_fitMany v_m_fitFirst v_m_finding v_m_typed v_m_texts o_m_diary o_m_longs)) ([.ref h_t, .int x1] : List Value).toArray s 0 0 (va_A (wd_X8_monthOf cI cZ cP cS h_t h_t_turns h_t_phases h_t_ups h_t_typed h_t_texts h_t_diary h_t_longs h_t_awakes h_t_fit h_t_counts h_t_worths h_t_ripes h_t_growths h_t_gains h_t_isThere h_t_forms h_t_sizes h_t_items h_t_moved v_m_hours v_m_months v_m_fitMany v_m_fitFirst v_m_finding v_m_typed v_m_texts v_m_diary v_m_longs) s.heap.size)) (F0 m 0 ls []) by rw [hH, hlo] at hgo; exact hgo
  clear hH hlo
  unfold f_X8_monthOf at hf
  refine lv_aload_n hx hb dX8_monthOf_0 rfl (lv_at hl 0 rfl) ?_
  obtain ⟨o1_1, o1_2, o1_3, o1_4, hc_5, hf⟩ := bd4_e hf
  refine rwv_call (isC := [0, 1, 2, 3, 4]) (isR := []) (perm := [0, 1, 2, 3, 4]) (wr := []) (ws2 := (wd_X8_monthOf cI cZ cP cS h_t h_t_turns h_t_phases h_t_ups h_t_typed h_t_texts h_t_diary h_t_longs h_t_awakes h_t_fit h_t_counts h_t_worths h_t_ripes h_t_growths h_t_gains h_t_isThere h_t_forms h_t_sizes h_t_items h_t_moved o1_1 o1_2 v_m_fitMany v_m_fitFirst v_m_finding v_m_typed v_m_texts o1_3 o1_4)) (va_runV (As := []) (rest := []) ⟨hx, hb, hml, hown, hts⟩ (c_X8_reads l dC dI cI cZ cP cS H.size h_t h_t_turns h_t_phases h_t_ups h_t_typed h_t_texts h_t_diary h_t_longs h_t_awakes h_t_fit h_t_counts h_t_worths h_t_ripes h_t_growths h_t_gains h_t_isThere h_t_forms h_t_sizes h_t_items h_t_moved v_m_hours v_m_months v_m_fitMany v_m_fitFirst v_m_finding v_m_typed v_m_texts v_m_diary v_m_longs  n o1_1 o1_2 o1_3 o1_4 hc_5) (cwV 0 hts gX8_monthOf_X8_reads rfl rfl rfl (by decide +kernel) ⟨Nat.le_of_ble_eq_true rfl, Nat.le_of_ble_eq_true rfl⟩) (pv_rw (ci := 7) (q0 := 0) hK (hP.sub (ws' := (wd_X8_reads cI cZ cP cS h_t h_t_turns h_t_phases h_t_ups h_t_typed h_t_texts h_t_diary h_t_longs h_t_awakes h_t_fit h_t_counts h_t_worths h_t_ripes h_t_growths h_t_gains h_t_isThere h_t_forms h_t_sizes h_t_items h_t_moved v_m_hours v_m_months v_m_fitMany v_m_fitFirst v_m_finding v_m_typed v_m_texts v_m_diary v_m_longs)) [0, 1, 2, 3, 4] rfl) (hD.sub (ws' := (wd_X8_reads cI cZ cP cS h_t h_t_turns h_t_phases h_t_ups h_t_typed h_t_texts h_t_diary h_t_longs h_t_awakes h_t_fit h_t_counts h_t_worths h_t_ripes h_t_growths h_t_gains h_t_isThere h_t_forms h_t_sizes h_t_items h_t_moved v_m_hours v_m_months v_m_fitMany v_m_fitFirst v_m_finding v_m_typed v_m_texts v_m_diary v_m_longs)) [0, 1, 2, 3, 4] (by decide) rfl) rfl rfl) rfl rfl hl.1 rfl (lv_room (Nat.le_of_ble_eq_true rfl)) dX8_monthOf_1 ⟨Nat.zero_le _, Nat.zero_le _⟩) hS hA hP hD rfl (by decide) (by decide) rfl (by decide) rfl rfl (fun H locs hP hD hS => ?_)
  refine lv_iload_n hx hb dX8_monthOf_4 rfl (lv_at hl 1 rfl) ?_
  refine lv_iconst (v := 0) hx hb dX8_monthOf_5 (by decide) ?_
  refine lv_aload_n hx hb dX8_monthOf_6 rfl (lv_at hl 0 rfl) ?_
  refine va_get (D := (dC, dI)) (ci := 7) (v := .int o1_2) (C := RX8) (T := TX8) (N := 24) hx hb hts hinX8 hown hK hP 0 rfl rfl 7 (by decide) (hts (.fieldLink RX8 83 "SecondSunriseModel" "months" "I") (by decide +kernel)) (fun _ h9 => h9) rfl dX8_monthOf_7 ?_
  refine lv_iconst (v := 1) hx hb dX8_monthOf_10 (by decide) ?_
  refine lv_isub hx hb dX8_monthOf_11 ?_
  obtain ⟨r12_7, hc_8, hf⟩ := bd1_e hf
  refine vp_callSi (va_runS (As := [.int x1, .int 0, .int (o1_2 - 1)]) (rest := []) ⟨hx, hb, hml, hown, hts⟩ (c_X8_in l dC dI cI cZ cP cS   x1 0 (o1_2 - 1) n r12_7 hc_8) (va_cwS 3 hts gX8_monthOf_X8_in rfl rfl rfl (by decide +kernel) ⟨Nat.le_of_ble_eq_true rfl, Nat.le_of_ble_eq_true rfl⟩) (ps_ro hK (hP.sub (ws' := ([] : va_W)) [] rfl)) rfl rfl hl.1 rfl (lv_room (Nat.le_of_ble_eq_true rfl)) dX8_monthOf_12 ⟨Nat.zero_le _, Nat.zero_le _⟩).run (fun x e_9 => ?_)
  obtain ⟨e_9, hb_10⟩ := e_9
  rw [e_9] at hb_10 ⊢
  refine lv_if_eq (tgt := 27) hx hb dX8_monthOf_15 (by decide) (fun c15 => ?_) (fun c15 => ?_)
  · rw [if_pos c15] at hf
    refine lv_bipush (v := (-2)) hx hb dX8_monthOf_27 (by decide) ?_
    have hq0 := Option.some.inj hf
    obtain ⟨eq0, hq1⟩ := Prod.mk.inj hq0
    obtain ⟨eq1, hq2⟩ := Prod.mk.inj hq1
    obtain ⟨eq2, hq3⟩ := Prod.mk.inj hq2
    obtain ⟨eq3, hq4⟩ := Prod.mk.inj hq3
    clear hf hq0 hq1 hq2 hq3
    subst eq0
    subst eq1
    subst eq2
    subst eq3
    subst hq4
    exact W.iret hx hb hr (fun t ht hW => ⟨⟨_, (), rfl, rfl, by rw [ht]; exact hP, va_K.moved hW.alike hK, hD⟩, hS.F ht⟩) hS.2.2 dX8_monthOf_29
  · rw [if_neg c15] at hf
    refine lv_aload_n hx hb dX8_monthOf_18 rfl (lv_at hl 0 rfl) ?_
    refine va_get (D := (dC, dI)) (ci := 7) (v := .ref h_t_longs) (C := RX8) (T := TX8) (N := 24) hx hb hts hinX8 hown hK hP 0 rfl rfl 8 (by decide) (hts (.fieldLink RX8 28 "SecondSunriseModel" "longs" "[I") (by decide +kernel)) (fun _ h9 => h9) rfl dX8_monthOf_19 ?_
    refine lv_iload_n hx hb dX8_monthOf_22 rfl (lv_at hl 1 rfl) ?_
    obtain ⟨hi_11, hf⟩ := ix_e hf
    refine va_iald hx hb hK hP 4 0 rfl rfl hi_11 dX8_monthOf_23 ?_
    refine lv_goto (tgt := 29) hx hb dX8_monthOf_24 (by decide) ?_
    have hq0 := Option.some.inj hf
    obtain ⟨eq0, hq1⟩ := Prod.mk.inj hq0
    obtain ⟨eq1, hq2⟩ := Prod.mk.inj hq1
    obtain ⟨eq2, hq3⟩ := Prod.mk.inj hq2
    obtain ⟨eq3, hq4⟩ := Prod.mk.inj hq3
    clear hf hq0 hq1 hq2 hq3
    subst eq0
    subst eq1
    subst eq2
    subst eq3
    subst hq4
    exact W.iret hx hb hr (fun t ht hW => ⟨⟨_, (), rfl, rfl, by rw [ht]; exact hP, va_K.moved hW.alike hK, hD⟩, hS.F ht⟩) hS.2.2 dX8_monthOf_29

abbrev wd_X8_month (cI cZ cP cS : ClassId) (h_t h_t_turns h_t_phases h_t_ups h_t_typed h_t_texts h_t_diary h_t_longs h_t_awakes h_t_fit h_t_counts h_t_worths h_t_ripes h_t_growths h_t_gains h_t_isThere h_t_forms h_t_sizes h_t_items h_t_moved : Nat) (v_m_hours : Int32) (v_m_months : Int32) (v_m_fitMany : Int32) (v_m_fitFirst : Int32) (v_m_finding : Int32) (v_m_typed : Nat → Int32) (v_m_texts : Nat → Int32) (v_m_diary : Nat → Int32) (v_m_longs : Nat → Int32) : va_W := [(h_t, .inr (7, [.ref h_t_turns, .ref h_t_phases, .ref h_t_ups, .ref h_t_typed, .ref h_t_texts, .int v_m_hours, .ref h_t_diary, .int v_m_months, .ref h_t_longs, .ref h_t_awakes, .ref h_t_fit, .int v_m_fitMany, .int v_m_fitFirst, .ref h_t_counts, .ref h_t_worths, .ref h_t_ripes, .ref h_t_growths, .ref h_t_gains, .ref h_t_isThere, .ref h_t_forms, .ref h_t_sizes, .ref h_t_items, .ref h_t_moved, .int v_m_finding])), (h_t_typed, .inl (cI, 2, .inl v_m_typed)), (h_t_texts, .inl (cI, 120, .inl v_m_texts)), (h_t_diary, .inl (cI, 60, .inl v_m_diary)), (h_t_longs, .inl (cI, 7, .inl v_m_longs))]
abbrev rm_X8_month : Room := { frames := 6, cells := 0, slots := 0, locals := 133 }
def f_X8_month (n : Nat) (v_m_hours : Int32) (v_m_months : Int32) (v_m_typed : Nat → Int32) (v_m_texts : Nat → Int32) (v_m_diary : Nat → Int32) (v_m_longs : Nat → Int32) (x1 : Int32) : Option (Int32 × Int32 × Int32 × (Nat → Int32) × (Nat → Int32)) := bd5_ (f_X8_monthOf n v_m_hours v_m_months v_m_typed v_m_texts v_m_diary v_m_longs x1) (fun (r2_1 : Int32) (o2_2 : Int32) (o2_3 : Int32) (o2_4 : Nat → Int32) (o2_5 : Nat → Int32) => some (r2_1, o2_2, o2_3, o2_4, o2_5))
set_option maxHeartbeats 4000000 in
set_option maxRecDepth 100000 in
theorem c_X8_month (l : Launch) (dC : Nat → ClassId) (dI : Nat → Nat → Nat) (cI cZ cP cS : ClassId) (sz : Nat) (h_t h_t_turns h_t_phases h_t_ups h_t_typed h_t_texts h_t_diary h_t_longs h_t_awakes h_t_fit h_t_counts h_t_worths h_t_ripes h_t_growths h_t_gains h_t_isThere h_t_forms h_t_sizes h_t_items h_t_moved : Nat) (v_m_hours : Int32) (v_m_months : Int32) (v_m_fitMany : Int32) (v_m_fitFirst : Int32) (v_m_finding : Int32) (v_m_typed : Nat → Int32) (v_m_texts : Nat → Int32) (v_m_diary : Nat → Int32) (v_m_longs : Nat → Int32) (x1 : Int32) (n : Nat) (r : Int32) (o_m_hours : Int32) (o_m_months : Int32) (o_m_diary : Nat → Int32) (o_m_longs : Nat → Int32) (hf : f_X8_month n v_m_hours v_m_months v_m_typed v_m_texts v_m_diary v_m_longs x1 = some (r, o_m_hours, o_m_months, o_m_diary, o_m_longs)) : Met l yX8_month wsX8_month rm_X8_month (RW (dC, dI) (TY cI cZ cP cS) [.ref h_t, .int x1] sz (wd_X8_month cI cZ cP cS h_t h_t_turns h_t_phases h_t_ups h_t_typed h_t_texts h_t_diary h_t_longs h_t_awakes h_t_fit h_t_counts h_t_worths h_t_ripes h_t_growths h_t_gains h_t_isThere h_t_forms h_t_sizes h_t_items h_t_moved v_m_hours v_m_months v_m_fitMany v_m_fitFirst v_m_finding v_m_typed v_m_texts v_m_diary v_m_longs)) (RWi (dC, dI) (TY cI cZ cP cS) r sz (wd_X8_month cI cZ cP cS h_t h_t_turns h_t_phases h_t_ups h_t_typed h_t_texts h_t_diary h_t_longs h_t_awakes h_t_fit h_t_counts h_t_worths h_t_ripes h_t_growths h_t_gains h_t_isThere h_t_forms h_t_sizes h_t_items h_t_moved v_m_hours v_m_months v_m_fitMany v_m_fitFirst v_m_finding v_m_typed v_m_texts v_m_diary v_m_longs) (wd_X8_month cI cZ cP cS h_t h_t_turns h_t_phases h_t_ups h_t_typed h_t_texts h_t_diary h_t_longs h_t_awakes h_t_fit h_t_counts h_t_worths h_t_ripes h_t_growths h_t_gains h_t_isThere h_t_forms h_t_sizes h_t_items h_t_moved o_m_hours o_m_months v_m_fitMany v_m_fitFirst v_m_finding v_m_typed v_m_texts o_m_diary o_m_longs)) 0 0 (va_A (wd_X8_month cI cZ cP cS h_t h_t_turns h_t_phases h_t_ups h_t_typed h_t_texts h_t_diary h_t_longs h_t_awakes h_t_fit h_t_counts h_t_worths h_t_ripes h_t_growths h_t_gains h_t_isThere h_t_forms h_t_sizes h_t_items h_t_moved v_m_hours v_m_months v_m_fitMany v_m_fitFirst v_m_finding v_m_typed v_m_texts v_m_diary v_m_longs) sz) := by
  refine Met.ofW (cc := cX8_month) (maxL := 2) (ret := (some .int)) (by decide) rfl ?_
  intro p e s m args below meth c s₁ B hml hv
  obtain ⟨rfl, hsz, hP, hK, hD0⟩ := hv
  have hx := B.exec
  have hb := B.bytes
  have hr := B.returns
  have hts := atoms_spec (ws := wsX8_month) B.pre
  have hown : s.vm.findClass RX8 = some m.cls := findClass_of_methodNamed B.named
  have hlocks := B.notSynchronized
  subst hsz
  have hD := hD0.self (sz := s.heap.size)
  have hA : ∀ q : Nat, s.heap.size ≤ q → (va_A (wd_X8_month cI cZ cP cS h_t h_t_turns h_t_phases h_t_ups h_t_typed h_t_texts h_t_diary h_t_longs h_t_awakes h_t_fit h_t_counts h_t_worths h_t_ripes h_t_growths h_t_gains h_t_isThere h_t_forms h_t_sizes h_t_items h_t_moved v_m_hours v_m_months v_m_fitMany v_m_fitFirst v_m_finding v_m_typed v_m_texts v_m_diary v_m_longs) s.heap.size) q := fun q h => Or.inr h
  have hS : va_S (va_A (wd_X8_month cI cZ cP cS h_t h_t_turns h_t_phases h_t_ups h_t_typed h_t_texts h_t_diary h_t_longs h_t_awakes h_t_fit h_t_counts h_t_worths h_t_ripes h_t_growths h_t_gains h_t_isThere h_t_forms h_t_sizes h_t_items h_t_moved v_m_hours v_m_months v_m_fitMany v_m_fitFirst v_m_finding v_m_typed v_m_texts v_m_diary v_m_longs) s.heap.size) s.heap s.heap [] := va_S.rf
  have hl := lv_entry ([.ref h_t, .int x1]) (n := 2) (Nat.le_of_ble_eq_true rfl)
  rw [lg_entry_eq]
  generalize (lg_sl ([.ref h_t, .int x1]) ++ List.replicate (2 - (lg_sl ([.ref h_t, .int x1])).length) Slot.unset).toArray = ls at hl ⊢
  have hl : lv_has ls 2 [(0, .ref h_t), (1, .int x1)] := hl
  obtain ⟨H, hH⟩ : ∃ H : Heap, H = s.heap := ⟨_, rfl⟩
  have hP : va_P (dC, dI) vwCl (wd_X8_month cI cZ cP cS h_t h_t_turns h_t_phases h_t_ups h_t_typed h_t_texts h_t_diary h_t_longs h_t_awakes h_t_fit h_t_counts h_t_worths h_t_ripes h_t_growths h_t_gains h_t_isThere h_t_forms h_t_sizes h_t_items h_t_moved v_m_hours v_m_months v_m_fitMany v_m_fitFirst v_m_finding v_m_typed v_m_texts v_m_diary v_m_longs) H := by rw [hH]; exact hP
  have hS : va_S (va_A (wd_X8_month cI cZ cP cS h_t h_t_turns h_t_phases h_t_ups h_t_typed h_t_texts h_t_diary h_t_longs h_t_awakes h_t_fit h_t_counts h_t_worths h_t_ripes h_t_growths h_t_gains h_t_isThere h_t_forms h_t_sizes h_t_items h_t_moved v_m_hours v_m_months v_m_fitMany v_m_fitFirst v_m_finding v_m_typed v_m_texts v_m_diary v_m_longs) s.heap.size) s.heap H [] := by rw [hH]; exact hS
  obtain ⟨locs, hlo⟩ : ∃ L : List Loc, L = [] := ⟨_, rfl⟩
  rw [← hlo] at hS
  suffices hgo : W p l e (headSpec wsX8_month rm_X8_month).room s m ([.ref h_t, .int x1] : List Value).toArray below meth c H locs 0 0 (MQ below (RWi (dC, dI) (TY cI cZ cP cS) r s.heap.size (wd_X8_month cI cZ cP cS h_t h_t_turns h_t_phases h_t_ups h_t_typed h_t_texts h_t_diary h_t_longs h_t_awakes h_t_fit h_t_counts h_t_worths h_t_ripes h_t_growths h_t_gains h_t_isThere h_t_forms h_t_sizes h_t_items h_t_moved v_m_hours v_m_months v_m_fitMany v_m_fitFirst v_m_finding v_m_typed v_m_texts v_m_diary v_m_longs) (wd_X8_month cI cZ cP cS h_t h_t_turns h_t_phases h_t_ups h_t_typed h_t_texts h_t_diary h_t_longs h_t_awakes h_t_fit h_t_counts h_t_worths h_t_ripes h_t_growths h_t_gains h_t_isThere h_t_forms h_t_sizes h_t_items h_t_moved o_m_hours o_m_months v_m_fitMany v_m_fitFirst v_m_finding v_m_typed v_m_texts o_m_diary o_m_longs)) ([.ref h_t, .int x1] : List Value).toArray s 0 0 (va_A (wd_X8_month cI cZ cP cS h_t h_t_turns h_t_phases h_t_ups h_t_typed h_t_texts h_t_diary h_t_longs h_t_awakes h_t_fit h_t_counts h_t_worths h_t_ripes h_t_growths h_t_gains h_t_isThere h_t_forms h_t_sizes h_t_items h_t_moved v_m_hours v_m_months v_m_fitMany v_m_fitFirst v_m_finding v_m_typed v_m_texts v_m_diary v_m_longs) s.heap.size)) (F0 m 0 ls []) by rw [hH, hlo] at hgo; exact hgo
  clear hH hlo
  unfold f_X8_month at hf
  refine lv_aload_n hx hb dX8_month_0 rfl (lv_at hl 0 rfl) ?_
  refine lv_iload_n hx hb dX8_month_1 rfl (lv_at hl 1 rfl) ?_
  obtain ⟨r2_1, o2_2, o2_3, o2_4, o2_5, hc_6, hf⟩ := bd5_e hf
  refine rwi_call (isC := [0, 1, 2, 3, 4]) (isR := []) (perm := [0, 1, 2, 3, 4]) (wr := []) (ws2 := (wd_X8_month cI cZ cP cS h_t h_t_turns h_t_phases h_t_ups h_t_typed h_t_texts h_t_diary h_t_longs h_t_awakes h_t_fit h_t_counts h_t_worths h_t_ripes h_t_growths h_t_gains h_t_isThere h_t_forms h_t_sizes h_t_items h_t_moved o2_2 o2_3 v_m_fitMany v_m_fitFirst v_m_finding v_m_typed v_m_texts o2_4 o2_5)) (va_runV (As := [.int x1]) (rest := []) ⟨hx, hb, hml, hown, hts⟩ (c_X8_monthOf l dC dI cI cZ cP cS H.size h_t h_t_turns h_t_phases h_t_ups h_t_typed h_t_texts h_t_diary h_t_longs h_t_awakes h_t_fit h_t_counts h_t_worths h_t_ripes h_t_growths h_t_gains h_t_isThere h_t_forms h_t_sizes h_t_items h_t_moved v_m_hours v_m_months v_m_fitMany v_m_fitFirst v_m_finding v_m_typed v_m_texts v_m_diary v_m_longs x1 n r2_1 o2_2 o2_3 o2_4 o2_5 hc_6) (cwV 1 hts gX8_month_X8_monthOf rfl rfl rfl (by decide +kernel) ⟨Nat.le_of_ble_eq_true rfl, Nat.le_of_ble_eq_true rfl⟩) (pv_rw (ci := 7) (q0 := 0) hK (hP.sub (ws' := (wd_X8_monthOf cI cZ cP cS h_t h_t_turns h_t_phases h_t_ups h_t_typed h_t_texts h_t_diary h_t_longs h_t_awakes h_t_fit h_t_counts h_t_worths h_t_ripes h_t_growths h_t_gains h_t_isThere h_t_forms h_t_sizes h_t_items h_t_moved v_m_hours v_m_months v_m_fitMany v_m_fitFirst v_m_finding v_m_typed v_m_texts v_m_diary v_m_longs)) [0, 1, 2, 3, 4] rfl) (hD.sub (ws' := (wd_X8_monthOf cI cZ cP cS h_t h_t_turns h_t_phases h_t_ups h_t_typed h_t_texts h_t_diary h_t_longs h_t_awakes h_t_fit h_t_counts h_t_worths h_t_ripes h_t_growths h_t_gains h_t_isThere h_t_forms h_t_sizes h_t_items h_t_moved v_m_hours v_m_months v_m_fitMany v_m_fitFirst v_m_finding v_m_typed v_m_texts v_m_diary v_m_longs)) [0, 1, 2, 3, 4] (by decide) rfl) rfl rfl) rfl rfl hl.1 rfl (lv_room (Nat.le_of_ble_eq_true rfl)) dX8_month_2 ⟨Nat.zero_le _, Nat.zero_le _⟩) hS hA hP hD rfl (by decide) (by decide) rfl (by decide) rfl rfl (fun H locs hP hD hS => ?_)
  have hq0 := Option.some.inj hf
  obtain ⟨eq0, hq1⟩ := Prod.mk.inj hq0
  obtain ⟨eq1, hq2⟩ := Prod.mk.inj hq1
  obtain ⟨eq2, hq3⟩ := Prod.mk.inj hq2
  obtain ⟨eq3, hq4⟩ := Prod.mk.inj hq3
  clear hf hq0 hq1 hq2 hq3
  subst eq0
  subst eq1
  subst eq2
  subst eq3
  subst hq4
  exact W.iret hx hb hr (fun t ht hW => ⟨⟨_, (), rfl, rfl, by rw [ht]; exact hP, va_K.moved hW.alike hK, hD⟩, hS.F ht⟩) hS.2.2 dX8_month_5

abbrev wd_X8_next (cI cZ cP cS : ClassId) (h_t h_t_turns h_t_phases h_t_ups h_t_typed h_t_texts h_t_diary h_t_longs h_t_awakes h_t_fit h_t_counts h_t_worths h_t_ripes h_t_growths h_t_gains h_t_isThere h_t_forms h_t_sizes h_t_items h_t_moved : Nat) (v_m_hours : Int32) (v_m_months : Int32) (v_m_fitMany : Int32) (v_m_fitFirst : Int32) (v_m_finding : Int32) (v_m_turns : Nat → Int32) (v_m_phases : Nat → Int32) (v_m_ups : Nat → Int32) : va_W := [(h_t, .inr (7, [.ref h_t_turns, .ref h_t_phases, .ref h_t_ups, .ref h_t_typed, .ref h_t_texts, .int v_m_hours, .ref h_t_diary, .int v_m_months, .ref h_t_longs, .ref h_t_awakes, .ref h_t_fit, .int v_m_fitMany, .int v_m_fitFirst, .ref h_t_counts, .ref h_t_worths, .ref h_t_ripes, .ref h_t_growths, .ref h_t_gains, .ref h_t_isThere, .ref h_t_forms, .ref h_t_sizes, .ref h_t_items, .ref h_t_moved, .int v_m_finding])), (h_t_turns, .inl (cI, 2, .inl v_m_turns)), (h_t_phases, .inl (cI, 2, .inl v_m_phases)), (h_t_ups, .inl (cI, 2, .inl v_m_ups))]
abbrev rm_X8_next : Room := { frames := 4, cells := 0, slots := 0, locals := 89 }
def f_X8_next (n : Nat) (v_m_turns : Nat → Int32) (v_m_phases : Nat → Int32) (v_m_ups : Nat → Int32) (x1 : Int32) (x2 : Int32) : Option (Int32) := bd1_ (f_X8_isHour n x1) (fun (r1_1 : Int32) => jn0_ (some (-2)) (fun k23 => if r1_1 = 0 then k23 else bd1_ (f_X8_isLight n x2) (fun (r8_5 : Int32) => if r8_5 = 0 then k23 else bd1_ (f_X8_nextOf n v_m_turns v_m_phases v_m_ups x1 x2) (fun (r17_9 : Int32) => some r17_9))))
set_option maxHeartbeats 4000000 in
set_option maxRecDepth 100000 in
theorem c_X8_next (l : Launch) (dC : Nat → ClassId) (dI : Nat → Nat → Nat) (cI cZ cP cS : ClassId) (h_t h_t_turns h_t_phases h_t_ups h_t_typed h_t_texts h_t_diary h_t_longs h_t_awakes h_t_fit h_t_counts h_t_worths h_t_ripes h_t_growths h_t_gains h_t_isThere h_t_forms h_t_sizes h_t_items h_t_moved : Nat) (v_m_hours : Int32) (v_m_months : Int32) (v_m_fitMany : Int32) (v_m_fitFirst : Int32) (v_m_finding : Int32) (v_m_turns : Nat → Int32) (v_m_phases : Nat → Int32) (v_m_ups : Nat → Int32) (x1 : Int32) (x2 : Int32) (n : Nat) (r : Int32) (hf : f_X8_next n v_m_turns v_m_phases v_m_ups x1 x2 = some r) : Met l yX8_next wsX8_next rm_X8_next (RO (dC, dI) (TY cI cZ cP cS) [.ref h_t, .int x1, .int x2] (wd_X8_next cI cZ cP cS h_t h_t_turns h_t_phases h_t_ups h_t_typed h_t_texts h_t_diary h_t_longs h_t_awakes h_t_fit h_t_counts h_t_worths h_t_ripes h_t_growths h_t_gains h_t_isThere h_t_forms h_t_sizes h_t_items h_t_moved v_m_hours v_m_months v_m_fitMany v_m_fitFirst v_m_finding v_m_turns v_m_phases v_m_ups)) (vp_Si (fun x => x = r)) 0 0 NF := by
  refine Met.ofW (cc := cX8_next) (maxL := 3) (ret := (some .int)) (by decide) rfl ?_
  intro p e s m args below meth c s₁ B hml hv
  obtain ⟨rfl, hP, hK⟩ := hv
  have hx := B.exec
  have hb := B.bytes
  have hr := B.returns
  have hts := atoms_spec (ws := wsX8_next) B.pre
  have hown : s.vm.findClass RX8 = some m.cls := findClass_of_methodNamed B.named
  have hlocks := B.notSynchronized
  have hl := lv_entry ([.ref h_t, .int x1, .int x2]) (n := 3) (Nat.le_of_ble_eq_true rfl)
  rw [lg_entry_eq]
  generalize (lg_sl ([.ref h_t, .int x1, .int x2]) ++ List.replicate (3 - (lg_sl ([.ref h_t, .int x1, .int x2])).length) Slot.unset).toArray = ls at hl ⊢
  have hl : lv_has ls 3 [(0, .ref h_t), (1, .int x1), (2, .int x2)] := hl
  unfold f_X8_next at hf
  refine lv_iload_n hx hb dX8_next_0 rfl (lv_at hl 1 rfl) ?_
  obtain ⟨r1_1, hc_2, hf⟩ := bd1_e hf
  refine vp_callSi (va_runS (As := [.int x1]) (rest := []) ⟨hx, hb, hml, hown, hts⟩ (c_X8_isHour l dC dI cI cZ cP cS   x1 n r1_1 hc_2) (va_cwS 1 hts gX8_next_X8_isHour rfl rfl rfl (by decide +kernel) ⟨Nat.le_of_ble_eq_true rfl, Nat.le_of_ble_eq_true rfl⟩) (ps_ro hK (hP.sub (ws' := ([] : va_W)) [] rfl)) rfl rfl hl.1 rfl (lv_room (Nat.le_of_ble_eq_true rfl)) dX8_next_1 ⟨Nat.zero_le _, Nat.zero_le _⟩).run (fun x e_3 => ?_)
  obtain ⟨e_3, hb_4⟩ := e_3
  rw [e_3] at hb_4 ⊢
  obtain ⟨k23, ek23, hf⟩ := jn0_e hf
  have hj23 : ∀ (ls : Array Slot), lv_has ls 3 [] → k23 = some r → W p l e (headSpec wsX8_next rm_X8_next).room s m ([.ref h_t, .int x1, .int x2] : List Value).toArray below meth c s.heap [] 0 0 (MQ below (vp_Si (fun x => x = r)) ([.ref h_t, .int x1, .int x2] : List Value).toArray s 0 0 NF) (F0 m 23 ls []) := by
    intro ls hl hf
    rw [ek23] at hf
    refine lv_bipush (v := (-2)) hx hb dX8_next_23 (by decide) ?_
    exact W.iret hx hb hr (fun t ht hW => ⟨_, rfl, Option.some.inj hf, ht⟩) (fun _ h => nomatch h) dX8_next_25
  refine lv_if_eq (tgt := 23) hx hb dX8_next_4 (by decide) (fun c4 => ?_) (fun c4 => ?_)
  · rw [if_pos c4] at hf
    exact hj23 ls (lv_sub hl [] rfl) hf
  · rw [if_neg c4] at hf
    refine lv_iload_n hx hb dX8_next_7 rfl (lv_at hl 2 rfl) ?_
    obtain ⟨r8_5, hc_6, hf⟩ := bd1_e hf
    refine vp_callSi (va_runS (As := [.int x2]) (rest := []) ⟨hx, hb, hml, hown, hts⟩ (c_X8_isLight l dC dI cI cZ cP cS   x2 n r8_5 hc_6) (va_cwS 1 hts gX8_next_X8_isLight rfl rfl rfl (by decide +kernel) ⟨Nat.le_of_ble_eq_true rfl, Nat.le_of_ble_eq_true rfl⟩) (ps_ro hK (hP.sub (ws' := ([] : va_W)) [] rfl)) rfl rfl hl.1 rfl (lv_room (Nat.le_of_ble_eq_true rfl)) dX8_next_8 ⟨Nat.zero_le _, Nat.zero_le _⟩).run (fun x e_7 => ?_)
    obtain ⟨e_7, hb_8⟩ := e_7
    rw [e_7] at hb_8 ⊢
    refine lv_if_eq (tgt := 23) hx hb dX8_next_11 (by decide) (fun c11 => ?_) (fun c11 => ?_)
    · rw [if_pos c11] at hf
      exact hj23 ls (lv_sub hl [] rfl) hf
    · rw [if_neg c11] at hf
      refine lv_aload_n hx hb dX8_next_14 rfl (lv_at hl 0 rfl) ?_
      refine lv_iload_n hx hb dX8_next_15 rfl (lv_at hl 1 rfl) ?_
      refine lv_iload_n hx hb dX8_next_16 rfl (lv_at hl 2 rfl) ?_
      obtain ⟨r17_9, hc_10, hf⟩ := bd1_e hf
      refine vp_callSi (va_runV (As := [.int x1, .int x2]) (rest := []) ⟨hx, hb, hml, hown, hts⟩ (c_X8_nextOf l dC dI cI cZ cP cS h_t h_t_turns h_t_phases h_t_ups h_t_typed h_t_texts h_t_diary h_t_longs h_t_awakes h_t_fit h_t_counts h_t_worths h_t_ripes h_t_growths h_t_gains h_t_isThere h_t_forms h_t_sizes h_t_items h_t_moved v_m_hours v_m_months v_m_fitMany v_m_fitFirst v_m_finding v_m_turns v_m_phases v_m_ups x1 x2 n r17_9 hc_10) (cwV 2 hts gX8_next_X8_nextOf rfl rfl rfl (by decide +kernel) ⟨Nat.le_of_ble_eq_true rfl, Nat.le_of_ble_eq_true rfl⟩) (pv_ro (ci := 7) (q0 := 0) hK (hP.sub (ws' := (wd_X8_nextOf cI cZ cP cS h_t h_t_turns h_t_phases h_t_ups h_t_typed h_t_texts h_t_diary h_t_longs h_t_awakes h_t_fit h_t_counts h_t_worths h_t_ripes h_t_growths h_t_gains h_t_isThere h_t_forms h_t_sizes h_t_items h_t_moved v_m_hours v_m_months v_m_fitMany v_m_fitFirst v_m_finding v_m_turns v_m_phases v_m_ups)) [0, 1, 2, 3] rfl) rfl rfl) rfl rfl hl.1 rfl (lv_room (Nat.le_of_ble_eq_true rfl)) dX8_next_17 ⟨Nat.zero_le _, Nat.zero_le _⟩).run (fun x e_11 => ?_)
      rw [e_11]
      refine lv_goto (tgt := 25) hx hb dX8_next_20 (by decide) ?_
      exact W.iret hx hb hr (fun t ht hW => ⟨_, rfl, Option.some.inj hf, ht⟩) (fun _ h => nomatch h) dX8_next_25

abbrev wd_X8_place (cI cZ cP cS : ClassId) (h_t h_t_turns h_t_phases h_t_ups h_t_typed h_t_texts h_t_diary h_t_longs h_t_awakes h_t_fit h_t_counts h_t_worths h_t_ripes h_t_growths h_t_gains h_t_isThere h_t_forms h_t_sizes h_t_items h_t_moved : Nat) (v_m_hours : Int32) (v_m_months : Int32) (v_m_fitMany : Int32) (v_m_fitFirst : Int32) (v_m_finding : Int32) (v_m_turns : Nat → Int32) (v_m_phases : Nat → Int32) : va_W := [(h_t, .inr (7, [.ref h_t_turns, .ref h_t_phases, .ref h_t_ups, .ref h_t_typed, .ref h_t_texts, .int v_m_hours, .ref h_t_diary, .int v_m_months, .ref h_t_longs, .ref h_t_awakes, .ref h_t_fit, .int v_m_fitMany, .int v_m_fitFirst, .ref h_t_counts, .ref h_t_worths, .ref h_t_ripes, .ref h_t_growths, .ref h_t_gains, .ref h_t_isThere, .ref h_t_forms, .ref h_t_sizes, .ref h_t_items, .ref h_t_moved, .int v_m_finding])), (h_t_turns, .inl (cI, 2, .inl v_m_turns)), (h_t_phases, .inl (cI, 2, .inl v_m_phases))]
abbrev rm_X8_place : Room := { frames := 2, cells := 0, slots := 0, locals := 42 }
def f_X8_place (n : Nat) (v_m_turns : Nat → Int32) (v_m_phases : Nat → Int32) (x1 : Int32) (x2 : Int32) : Option (Int32) := bd1_ (f_X8_isSun n x1) (fun (r1_1 : Int32) => jn0_ (some (-2)) (fun k23 => if r1_1 = 0 then k23 else bd1_ (f_X8_isHour n x2) (fun (r8_5 : Int32) => if r8_5 = 0 then k23 else bd1_ (f_X8_placeOf n v_m_turns v_m_phases x1 x2) (fun (r17_9 : Int32) => some r17_9))))
set_option maxHeartbeats 4000000 in
set_option maxRecDepth 100000 in
theorem c_X8_place (l : Launch) (dC : Nat → ClassId) (dI : Nat → Nat → Nat) (cI cZ cP cS : ClassId) (h_t h_t_turns h_t_phases h_t_ups h_t_typed h_t_texts h_t_diary h_t_longs h_t_awakes h_t_fit h_t_counts h_t_worths h_t_ripes h_t_growths h_t_gains h_t_isThere h_t_forms h_t_sizes h_t_items h_t_moved : Nat) (v_m_hours : Int32) (v_m_months : Int32) (v_m_fitMany : Int32) (v_m_fitFirst : Int32) (v_m_finding : Int32) (v_m_turns : Nat → Int32) (v_m_phases : Nat → Int32) (x1 : Int32) (x2 : Int32) (n : Nat) (r : Int32) (hf : f_X8_place n v_m_turns v_m_phases x1 x2 = some r) : Met l yX8_place wsX8_place rm_X8_place (RO (dC, dI) (TY cI cZ cP cS) [.ref h_t, .int x1, .int x2] (wd_X8_place cI cZ cP cS h_t h_t_turns h_t_phases h_t_ups h_t_typed h_t_texts h_t_diary h_t_longs h_t_awakes h_t_fit h_t_counts h_t_worths h_t_ripes h_t_growths h_t_gains h_t_isThere h_t_forms h_t_sizes h_t_items h_t_moved v_m_hours v_m_months v_m_fitMany v_m_fitFirst v_m_finding v_m_turns v_m_phases)) (vp_Si (fun x => x = r)) 0 0 NF := by
  refine Met.ofW (cc := cX8_place) (maxL := 3) (ret := (some .int)) (by decide) rfl ?_
  intro p e s m args below meth c s₁ B hml hv
  obtain ⟨rfl, hP, hK⟩ := hv
  have hx := B.exec
  have hb := B.bytes
  have hr := B.returns
  have hts := atoms_spec (ws := wsX8_place) B.pre
  have hown : s.vm.findClass RX8 = some m.cls := findClass_of_methodNamed B.named
  have hlocks := B.notSynchronized
  have hl := lv_entry ([.ref h_t, .int x1, .int x2]) (n := 3) (Nat.le_of_ble_eq_true rfl)
  rw [lg_entry_eq]
  generalize (lg_sl ([.ref h_t, .int x1, .int x2]) ++ List.replicate (3 - (lg_sl ([.ref h_t, .int x1, .int x2])).length) Slot.unset).toArray = ls at hl ⊢
  have hl : lv_has ls 3 [(0, .ref h_t), (1, .int x1), (2, .int x2)] := hl
  unfold f_X8_place at hf
  refine lv_iload_n hx hb dX8_place_0 rfl (lv_at hl 1 rfl) ?_
  obtain ⟨r1_1, hc_2, hf⟩ := bd1_e hf
  refine vp_callSi (va_runS (As := [.int x1]) (rest := []) ⟨hx, hb, hml, hown, hts⟩ (c_X8_isSun l dC dI cI cZ cP cS   x1 n r1_1 hc_2) (va_cwS 1 hts gX8_place_X8_isSun rfl rfl rfl (by decide +kernel) ⟨Nat.le_of_ble_eq_true rfl, Nat.le_of_ble_eq_true rfl⟩) (ps_ro hK (hP.sub (ws' := ([] : va_W)) [] rfl)) rfl rfl hl.1 rfl (lv_room (Nat.le_of_ble_eq_true rfl)) dX8_place_1 ⟨Nat.zero_le _, Nat.zero_le _⟩).run (fun x e_3 => ?_)
  obtain ⟨e_3, hb_4⟩ := e_3
  rw [e_3] at hb_4 ⊢
  obtain ⟨k23, ek23, hf⟩ := jn0_e hf
  have hj23 : ∀ (ls : Array Slot), lv_has ls 3 [] → k23 = some r → W p l e (headSpec wsX8_place rm_X8_place).room s m ([.ref h_t, .int x1, .int x2] : List Value).toArray below meth c s.heap [] 0 0 (MQ below (vp_Si (fun x => x = r)) ([.ref h_t, .int x1, .int x2] : List Value).toArray s 0 0 NF) (F0 m 23 ls []) := by
    intro ls hl hf
    rw [ek23] at hf
    refine lv_bipush (v := (-2)) hx hb dX8_place_23 (by decide) ?_
    exact W.iret hx hb hr (fun t ht hW => ⟨_, rfl, Option.some.inj hf, ht⟩) (fun _ h => nomatch h) dX8_place_25
  refine lv_if_eq (tgt := 23) hx hb dX8_place_4 (by decide) (fun c4 => ?_) (fun c4 => ?_)
  · rw [if_pos c4] at hf
    exact hj23 ls (lv_sub hl [] rfl) hf
  · rw [if_neg c4] at hf
    refine lv_iload_n hx hb dX8_place_7 rfl (lv_at hl 2 rfl) ?_
    obtain ⟨r8_5, hc_6, hf⟩ := bd1_e hf
    refine vp_callSi (va_runS (As := [.int x2]) (rest := []) ⟨hx, hb, hml, hown, hts⟩ (c_X8_isHour l dC dI cI cZ cP cS   x2 n r8_5 hc_6) (va_cwS 1 hts gX8_place_X8_isHour rfl rfl rfl (by decide +kernel) ⟨Nat.le_of_ble_eq_true rfl, Nat.le_of_ble_eq_true rfl⟩) (ps_ro hK (hP.sub (ws' := ([] : va_W)) [] rfl)) rfl rfl hl.1 rfl (lv_room (Nat.le_of_ble_eq_true rfl)) dX8_place_8 ⟨Nat.zero_le _, Nat.zero_le _⟩).run (fun x e_7 => ?_)
    obtain ⟨e_7, hb_8⟩ := e_7
    rw [e_7] at hb_8 ⊢
    refine lv_if_eq (tgt := 23) hx hb dX8_place_11 (by decide) (fun c11 => ?_) (fun c11 => ?_)
    · rw [if_pos c11] at hf
      exact hj23 ls (lv_sub hl [] rfl) hf
    · rw [if_neg c11] at hf
      refine lv_aload_n hx hb dX8_place_14 rfl (lv_at hl 0 rfl) ?_
      refine lv_iload_n hx hb dX8_place_15 rfl (lv_at hl 1 rfl) ?_
      refine lv_iload_n hx hb dX8_place_16 rfl (lv_at hl 2 rfl) ?_
      obtain ⟨r17_9, hc_10, hf⟩ := bd1_e hf
      refine vp_callSi (va_runV (As := [.int x1, .int x2]) (rest := []) ⟨hx, hb, hml, hown, hts⟩ (c_X8_placeOf l dC dI cI cZ cP cS h_t h_t_turns h_t_phases h_t_ups h_t_typed h_t_texts h_t_diary h_t_longs h_t_awakes h_t_fit h_t_counts h_t_worths h_t_ripes h_t_growths h_t_gains h_t_isThere h_t_forms h_t_sizes h_t_items h_t_moved v_m_hours v_m_months v_m_fitMany v_m_fitFirst v_m_finding v_m_turns v_m_phases x1 x2 n r17_9 hc_10) (cwV 2 hts gX8_place_X8_placeOf rfl rfl rfl (by decide +kernel) ⟨Nat.le_of_ble_eq_true rfl, Nat.le_of_ble_eq_true rfl⟩) (pv_ro (ci := 7) (q0 := 0) hK (hP.sub (ws' := (wd_X8_placeOf cI cZ cP cS h_t h_t_turns h_t_phases h_t_ups h_t_typed h_t_texts h_t_diary h_t_longs h_t_awakes h_t_fit h_t_counts h_t_worths h_t_ripes h_t_growths h_t_gains h_t_isThere h_t_forms h_t_sizes h_t_items h_t_moved v_m_hours v_m_months v_m_fitMany v_m_fitFirst v_m_finding v_m_turns v_m_phases)) [0, 1, 2] rfl) rfl rfl) rfl rfl hl.1 rfl (lv_room (Nat.le_of_ble_eq_true rfl)) dX8_place_17 ⟨Nat.zero_le _, Nat.zero_le _⟩).run (fun x e_11 => ?_)
      rw [e_11]
      refine lv_goto (tgt := 25) hx hb dX8_place_20 (by decide) ?_
      exact W.iret hx hb hr (fun t ht hW => ⟨_, rfl, Option.some.inj hf, ht⟩) (fun _ h => nomatch h) dX8_place_25
