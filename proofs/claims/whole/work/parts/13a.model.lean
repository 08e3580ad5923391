abbrev rm_X8_in : Room := { frames := 0, cells := 0, slots := 0, locals := 0 }
def f_X8_in (n : Nat) (x0 : Int32) (x1 : Int32) (x2 : Int32) : Option (Int32) := jn0_ (some 0) (fun k14 => if x0 < x1 then k14 else if x2 < x0 then k14 else some 1)
set_option maxHeartbeats 4000000 in
set_option maxRecDepth 100000 in
theorem c_X8_in (l : Launch) (dC : Nat → ClassId) (dI : Nat → Nat → Nat) (cI cZ cP cS : ClassId) (x0 : Int32) (x1 : Int32) (x2 : Int32) (n : Nat) (r : Int32) (hf : f_X8_in n x0 x1 x2 = some r) : Met l yX8_in wsX8_in rm_X8_in (RO (dC, dI) (TY cI cZ cP cS) [.int x0, .int x1, .int x2] ([] : va_W)) (vp_Si (fun x => x = r ∧ narrow .boolean (.int x) = .int x)) 0 0 NF := by
  refine Met.ofW (cc := cX8_in) (maxL := 3) (ret := (some .boolean)) (by decide) rfl ?_
  intro p e s m args below meth c s₁ B hml hv
  obtain ⟨rfl, hP, hK⟩ := hv
  have hx := B.exec
  have hb := B.bytes
  have hr := B.returns
  have hts := atoms_spec (ws := wsX8_in) B.pre
  have hown : s.vm.findClass RX8 = some m.cls := findClass_of_methodNamed B.named
  have hlocks := B.notSynchronized
  have hl := lv_entry ([.int x0, .int x1, .int x2]) (n := 3) (Nat.le_of_ble_eq_true rfl)
  rw [lg_entry_eq]
  generalize (lg_sl ([.int x0, .int x1, .int x2]) ++ List.replicate (3 - (lg_sl ([.int x0, .int x1, .int x2])).length) Slot.unset).toArray = ls at hl ⊢
  have hl : lv_has ls 3 [(0, .int x0), (1, .int x1), (2, .int x2)] := hl
  unfold f_X8_in at hf
  refine lv_iload_n hx hb dX8_in_0 rfl (lv_at hl 0 rfl) ?_
  refine lv_iload_n hx hb dX8_in_1 rfl (lv_at hl 1 rfl) ?_
  obtain ⟨k14, ek14, hf⟩ := jn0_e hf
  have hj14 : ∀ (ls : Array Slot), lv_has ls 3 [] → k14 = some r → W p l e (headSpec wsX8_in rm_X8_in).room s m ([.int x0, .int x1, .int x2] : List Value).toArray below meth c s.heap [] 0 0 (MQ below (vp_Si (fun x => x = r ∧ narrow .boolean (.int x) = .int x)) ([.int x0, .int x1, .int x2] : List Value).toArray s 0 0 NF) (F0 m 14 ls []) := by
    intro ls hl hf
    rw [ek14] at hf
    refine lv_iconst (v := 0) hx hb dX8_in_14 (by decide) ?_
    exact W.zret hx hb hr (by decide) (fun t ht hW => ⟨_, rfl, ⟨Option.some.inj hf, (by decide)⟩, ht⟩) (fun _ h => nomatch h) dX8_in_15
  refine lv_icmp_lt (tgt := 14) hx hb dX8_in_2 (by decide) (fun c2 => ?_) (fun c2 => ?_)
  · rw [if_pos c2] at hf
    exact hj14 ls (lv_sub hl [] rfl) hf
  · rw [if_neg c2] at hf
    refine lv_iload_n hx hb dX8_in_5 rfl (lv_at hl 0 rfl) ?_
    refine lv_iload_n hx hb dX8_in_6 rfl (lv_at hl 2 rfl) ?_
    refine lv_icmp_gt (tgt := 14) hx hb dX8_in_7 (by decide) (fun c7 => ?_) (fun c7 => ?_)
    · rw [if_pos c7] at hf
      exact hj14 ls (lv_sub hl [] rfl) hf
    · rw [if_neg c7] at hf
      refine lv_iconst (v := 1) hx hb dX8_in_10 (by decide) ?_
      refine lv_goto (tgt := 15) hx hb dX8_in_11 (by decide) ?_
      exact W.zret hx hb hr (by decide) (fun t ht hW => ⟨_, rfl, ⟨Option.some.inj hf, (by decide)⟩, ht⟩) (fun _ h => nomatch h) dX8_in_15

abbrev rm_X8_isPerson : Room := { frames := 1, cells := 0, slots := 0, locals := 22 }
def f_X8_isPerson (n : Nat) (x0 : Int32) : Option (Int32) := bd1_ (f_X8_in n x0 0 5) (fun (r3_1 : Int32) => some r3_1)
set_option maxHeartbeats 4000000 in
set_option maxRecDepth 100000 in
theorem c_X8_isPerson (l : Launch) (dC : Nat → ClassId) (dI : Nat → Nat → Nat) (cI cZ cP cS : ClassId) (x0 : Int32) (n : Nat) (r : Int32) (hf : f_X8_isPerson n x0 = some r) : Met l yX8_isPerson wsX8_isPerson rm_X8_isPerson (RO (dC, dI) (TY cI cZ cP cS) [.int x0] ([] : va_W)) (vp_Si (fun x => x = r ∧ narrow .boolean (.int x) = .int x)) 0 0 NF := by
  refine Met.ofW (cc := cX8_isPerson) (maxL := 1) (ret := (some .boolean)) (by decide) rfl ?_
  intro p e s m args below meth c s₁ B hml hv
  obtain ⟨rfl, hP, hK⟩ := hv
  have hx := B.exec
  have hb := B.bytes
  have hr := B.returns
  have hts := atoms_spec (ws := wsX8_isPerson) B.pre
  have hown : s.vm.findClass RX8 = some m.cls := findClass_of_methodNamed B.named
  have hlocks := B.notSynchronized
  have hl := lv_entry ([.int x0]) (n := 1) (Nat.le_of_ble_eq_true rfl)
  rw [lg_entry_eq]
  generalize (lg_sl ([.int x0]) ++ List.replicate (1 - (lg_sl ([.int x0])).length) Slot.unset).toArray = ls at hl ⊢
  have hl : lv_has ls 1 [(0, .int x0)] := hl
  unfold f_X8_isPerson at hf
  refine lv_iload_n hx hb dX8_isPerson_0 rfl (lv_at hl 0 rfl) ?_
  refine lv_iconst (v := 0) hx hb dX8_isPerson_1 (by decide) ?_
  refine lv_iconst (v := 5) hx hb dX8_isPerson_2 (by decide) ?_
  obtain ⟨r3_1, hc_2, hf⟩ := bd1_e hf
  refine vp_callSi (va_runS (As := [.int x0, .int 0, .int 5]) (rest := []) ⟨hx, hb, hml, hown, hts⟩ (c_X8_in l dC dI cI cZ cP cS   x0 0 5 n r3_1 hc_2) (va_cwS 3 hts gX8_isPerson_X8_in rfl rfl rfl (by decide +kernel) ⟨Nat.le_of_ble_eq_true rfl, Nat.le_of_ble_eq_true rfl⟩) (ps_ro hK (hP.sub (ws' := ([] : va_W)) [] rfl)) rfl rfl hl.1 rfl (lv_room (Nat.le_of_ble_eq_true rfl)) dX8_isPerson_3 ⟨Nat.zero_le _, Nat.zero_le _⟩).run (fun x e_3 => ?_)
  obtain ⟨e_3, hb_4⟩ := e_3
  rw [e_3] at hb_4 ⊢
  exact W.zret hx hb hr hb_4 (fun t ht hW => ⟨_, rfl, ⟨Option.some.inj hf, hb_4⟩, ht⟩) (fun _ h => nomatch h) dX8_isPerson_6

abbrev wd_X8_awake (cI cZ cP cS : ClassId) (h_t h_t_turns h_t_phases h_t_ups h_t_typed h_t_texts h_t_diary h_t_longs h_t_awakes h_t_fit h_t_counts h_t_worths h_t_ripes h_t_growths h_t_gains h_t_isThere h_t_forms h_t_sizes h_t_items h_t_moved : Nat) (v_m_hours : Int32) (v_m_months : Int32) (v_m_fitMany : Int32) (v_m_fitFirst : Int32) (v_m_finding : Int32) (v_m_awakes : Nat → Int32) : va_W := [(h_t, .inr (7, [.ref h_t_turns, .ref h_t_phases, .ref h_t_ups, .ref h_t_typed, .ref h_t_texts, .int v_m_hours, .ref h_t_diary, .int v_m_months, .ref h_t_longs, .ref h_t_awakes, .ref h_t_fit, .int v_m_fitMany, .int v_m_fitFirst, .ref h_t_counts, .ref h_t_worths, .ref h_t_ripes, .ref h_t_growths, .ref h_t_gains, .ref h_t_isThere, .ref h_t_forms, .ref h_t_sizes, .ref h_t_items, .ref h_t_moved, .int v_m_finding])), (h_t_awakes, .inl (cI, 6, .inl v_m_awakes))]
abbrev rm_X8_awake : Room := { frames := 2, cells := 0, slots := 0, locals := 42 }
def f_X8_awake (n : Nat) (v_m_awakes : Nat → Int32) (x1 : Int32) (x2 : Int32) : Option (Int32 × (Nat → Int32)) := bd1_ (f_X8_isPerson n x1) (fun (r1_1 : Int32) => if r1_1 = 0 then some ((-2), v_m_awakes) else bd1_ (f_X8_in n x2 0 15) (fun (r11_5 : Int32) => if r11_5 = 0 then some ((-2), v_m_awakes) else ix_ x1 6 (ix_ x1 6 (some ((v_m_awakes x1.toNatClampNeg), (upd v_m_awakes x1.toNatClampNeg x2))))))
set_option maxHeartbeats 4000000 in
set_option maxRecDepth 100000 in
theorem c_X8_awake (l : Launch) (dC : Nat → ClassId) (dI : Nat → Nat → Nat) (cI cZ cP cS : ClassId) (sz : Nat) (h_t h_t_turns h_t_phases h_t_ups h_t_typed h_t_texts h_t_diary h_t_longs h_t_awakes h_t_fit h_t_counts h_t_worths h_t_ripes h_t_growths h_t_gains h_t_isThere h_t_forms h_t_sizes h_t_items h_t_moved : Nat) (v_m_hours : Int32) (v_m_months : Int32) (v_m_fitMany : Int32) (v_m_fitFirst : Int32) (v_m_finding : Int32) (v_m_awakes : Nat → Int32) (x1 : Int32) (x2 : Int32) (n : Nat) (r : Int32) (o_m_awakes : Nat → Int32) (hf : f_X8_awake n v_m_awakes x1 x2 = some (r, o_m_awakes)) : Met l yX8_awake wsX8_awake rm_X8_awake (RW (dC, dI) (TY cI cZ cP cS) [.ref h_t, .int x1, .int x2] sz (wd_X8_awake cI cZ cP cS h_t h_t_turns h_t_phases h_t_ups h_t_typed h_t_texts h_t_diary h_t_longs h_t_awakes h_t_fit h_t_counts h_t_worths h_t_ripes h_t_growths h_t_gains h_t_isThere h_t_forms h_t_sizes h_t_items h_t_moved v_m_hours v_m_months v_m_fitMany v_m_fitFirst v_m_finding v_m_awakes)) (RWi (dC, dI) (TY cI cZ cP cS) r sz (wd_X8_awake cI cZ cP cS h_t h_t_turns h_t_phases h_t_ups h_t_typed h_t_texts h_t_diary h_t_longs h_t_awakes h_t_fit h_t_counts h_t_worths h_t_ripes h_t_growths h_t_gains h_t_isThere h_t_forms h_t_sizes h_t_items h_t_moved v_m_hours v_m_months v_m_fitMany v_m_fitFirst v_m_finding v_m_awakes) (wd_X8_awake cI cZ cP cS h_t h_t_turns h_t_phases h_t_ups h_t_typed h_t_texts h_t_diary h_t_longs h_t_awakes h_t_fit h_t_counts h_t_worths h_t_ripes h_t_growths h_t_gains h_t_isThere h_t_forms h_t_sizes h_t_items h_t_moved v_m_hours v_m_months v_m_fitMany v_m_fitFirst v_m_finding o_m_awakes)) 0 0 (va_A (wd_X8_awake cI cZ cP cS h_t h_t_turns h_t_phases h_t_ups h_t_typed h_t_texts h_t_diary h_t_longs h_t_awakes h_t_fit h_t_counts h_t_worths h_t_ripes h_t_growths h_t_gains h_t_isThere h_t_forms h_t_sizes h_t_items h_t_moved v_m_hours v_m_months v_m_fitMany v_m_fitFirst v_m_finding v_m_awakes) sz) := by
  refine Met.ofW (cc := cX8_awake) (maxL := 4) (ret := (some .int)) (by decide) rfl ?_
  intro p e s m args below meth c s₁ B hml hv
  obtain ⟨rfl, hsz, hP, hK, hD0⟩ := hv
  have hx := B.exec
  have hb := B.bytes
  have hr := B.returns
  have hts := atoms_spec (ws := wsX8_awake) B.pre
  have hown : s.vm.findClass RX8 = some m.cls := findClass_of_methodNamed B.named
  have hlocks := B.notSynchronized
  subst hsz
  have hD := hD0.self (sz := s.heap.size)
  have hA : ∀ q : Nat, s.heap.size ≤ q → (va_A (wd_X8_awake cI cZ cP cS h_t h_t_turns h_t_phases h_t_ups h_t_typed h_t_texts h_t_diary h_t_longs h_t_awakes h_t_fit h_t_counts h_t_worths h_t_ripes h_t_growths h_t_gains h_t_isThere h_t_forms h_t_sizes h_t_items h_t_moved v_m_hours v_m_months v_m_fitMany v_m_fitFirst v_m_finding v_m_awakes) s.heap.size) q := fun q h => Or.inr h
  have hS : va_S (va_A (wd_X8_awake cI cZ cP cS h_t h_t_turns h_t_phases h_t_ups h_t_typed h_t_texts h_t_diary h_t_longs h_t_awakes h_t_fit h_t_counts h_t_worths h_t_ripes h_t_growths h_t_gains h_t_isThere h_t_forms h_t_sizes h_t_items h_t_moved v_m_hours v_m_months v_m_fitMany v_m_fitFirst v_m_finding v_m_awakes) s.heap.size) s.heap s.heap [] := va_S.rf
  have hinX8 : ∀ w ∈ wsX80, w ∈ wsX8_awake := by decide +kernel
  have hl := lv_entry ([.ref h_t, .int x1, .int x2]) (n := 4) (Nat.le_of_ble_eq_true rfl)
  rw [lg_entry_eq]
  generalize (lg_sl ([.ref h_t, .int x1, .int x2]) ++ List.replicate (4 - (lg_sl ([.ref h_t, .int x1, .int x2])).length) Slot.unset).toArray = ls at hl ⊢
  have hl : lv_has ls 4 [(0, .ref h_t), (1, .int x1), (2, .int x2)] := hl
  obtain ⟨H, hH⟩ : ∃ H : Heap, H = s.heap := ⟨_, rfl⟩
  have hP : va_P (dC, dI) vwCl (wd_X8_awake cI cZ cP cS h_t h_t_turns h_t_phases h_t_ups h_t_typed h_t_texts h_t_diary h_t_longs h_t_awakes h_t_fit h_t_counts h_t_worths h_t_ripes h_t_growths h_t_gains h_t_isThere h_t_forms h_t_sizes h_t_items h_t_moved v_m_hours v_m_months v_m_fitMany v_m_fitFirst v_m_finding v_m_awakes) H := by rw [hH]; exact hP
  have hS : va_S (va_A (wd_X8_awake cI cZ cP cS h_t h_t_turns h_t_phases h_t_ups h_t_typed h_t_texts h_t_diary h_t_longs h_t_awakes h_t_fit h_t_counts h_t_worths h_t_ripes h_t_growths h_t_gains h_t_isThere h_t_forms h_t_sizes h_t_items h_t_moved v_m_hours v_m_months v_m_fitMany v_m_fitFirst v_m_finding v_m_awakes) s.heap.size) s.heap H [] := by rw [hH]; exact hS
  obtain ⟨locs, hlo⟩ : ∃ L : List Loc, L = [] := ⟨_, rfl⟩
  rw [← hlo] at hS
  suffices hgo : W p l e (headSpec wsX8_awake rm_X8_awake).room s m ([.ref h_t, .int x1, .int x2] : List Value).toArray below meth c H locs 0 0 (MQ below (RWi (dC, dI) (TY cI cZ cP cS) r s.heap.size (wd_X8_awake cI cZ cP cS h_t h_t_turns h_t_phases h_t_ups h_t_typed h_t_texts h_t_diary h_t_longs h_t_awakes h_t_fit h_t_counts h_t_worths h_t_ripes h_t_growths h_t_gains h_t_isThere h_t_forms h_t_sizes h_t_items h_t_moved v_m_hours v_m_months v_m_fitMany v_m_fitFirst v_m_finding v_m_awakes) (wd_X8_awake cI cZ cP cS h_t h_t_turns h_t_phases h_t_ups h_t_typed h_t_texts h_t_diary h_t_longs h_t_awakes h_t_fit h_t_counts h_t_worths h_t_ripes h_t_growths h_t_gains h_t_isThere h_t_forms h_t_sizes h_t_items h_t_moved v_m_hours v_m_months v_m_fitMany v_m_fitFirst v_m_finding o_m_awakes)) ([.ref h_t, .int x1, .int x2] : List Value).toArray s 0 0 (va_A (wd_X8_awake cI cZ cP cS h_t h_t_turns h_t_phases h_t_ups h_t_typed h_t_texts h_t_diary h_t_longs h_t_awakes h_t_fit h_t_counts h_t_worths h_t_ripes h_t_growths h_t_gains h_t_isThere h_t_forms h_t_sizes h_t_items h_t_moved v_m_hours v_m_months v_m_fitMany v_m_fitFirst v_m_finding v_m_awakes) s.heap.size)) (F0 m 0 ls []) by rw [hH, hlo] at hgo; exact hgo
  clear hH hlo
  unfold f_X8_awake at hf
  refine lv_iload_n hx hb dX8_awake_0 rfl (lv_at hl 1 rfl) ?_
  obtain ⟨r1_1, hc_2, hf⟩ := bd1_e hf
  refine vp_callSi (va_runS (As := [.int x1]) (rest := []) ⟨hx, hb, hml, hown, hts⟩ (c_X8_isPerson l dC dI cI cZ cP cS   x1 n r1_1 hc_2) (va_cwS 1 hts gX8_awake_X8_isPerson rfl rfl rfl (by decide +kernel) ⟨Nat.le_of_ble_eq_true rfl, Nat.le_of_ble_eq_true rfl⟩) (ps_ro hK (hP.sub (ws' := ([] : va_W)) [] rfl)) rfl rfl hl.1 rfl (lv_room (Nat.le_of_ble_eq_true rfl)) dX8_awake_1 ⟨Nat.zero_le _, Nat.zero_le _⟩).run (fun x e_3 => ?_)
  obtain ⟨e_3, hb_4⟩ := e_3
  rw [e_3] at hb_4 ⊢
  refine lv_if_eq (tgt := 17) hx hb dX8_awake_4 (by decide) (fun c4 => ?_) (fun c4 => ?_)
  · rw [if_pos c4] at hf
    refine lv_bipush (v := (-2)) hx hb dX8_awake_17 (by decide) ?_
    have hq0 := Option.some.inj hf
    obtain ⟨eq0, hq1⟩ := Prod.mk.inj hq0
    clear hf hq0
    subst eq0
    subst hq1
    exact W.iret hx hb hr (fun t ht hW => ⟨⟨_, (), rfl, rfl, by rw [ht]; exact hP, va_K.moved hW.alike hK, hD⟩, hS.F ht⟩) hS.2.2 dX8_awake_19
  · rw [if_neg c4] at hf
    refine lv_iload_n hx hb dX8_awake_7 rfl (lv_at hl 2 rfl) ?_
    refine lv_iconst (v := 0) hx hb dX8_awake_8 (by decide) ?_
    refine lv_bipush (v := 15) hx hb dX8_awake_9 (by decide) ?_
    obtain ⟨r11_5, hc_6, hf⟩ := bd1_e hf
    refine vp_callSi (va_runS (As := [.int x2, .int 0, .int 15]) (rest := []) ⟨hx, hb, hml, hown, hts⟩ (c_X8_in l dC dI cI cZ cP cS   x2 0 15 n r11_5 hc_6) (va_cwS 3 hts gX8_awake_X8_in rfl rfl rfl (by decide +kernel) ⟨Nat.le_of_ble_eq_true rfl, Nat.le_of_ble_eq_true rfl⟩) (ps_ro hK (hP.sub (ws' := ([] : va_W)) [] rfl)) rfl rfl hl.1 rfl (lv_room (Nat.le_of_ble_eq_true rfl)) dX8_awake_11 ⟨Nat.zero_le _, Nat.zero_le _⟩).run (fun x e_7 => ?_)
    obtain ⟨e_7, hb_8⟩ := e_7
    rw [e_7] at hb_8 ⊢
    refine lv_if_ne (tgt := 20) hx hb dX8_awake_14 (by decide) (fun c14 => ?_) (fun c14 => ?_)
    · rw [if_neg c14] at hf
      refine lv_aload_n hx hb dX8_awake_20 rfl (lv_at hl 0 rfl) ?_
      refine va_get (D := (dC, dI)) (ci := 7) (v := .ref h_t_awakes) (C := RX8) (T := TX8) (N := 24) hx hb hts hinX8 hown hK hP 0 rfl rfl 9 (by decide) (hts (.fieldLink RX8 31 "SecondSunriseModel" "awakes" "[I") (by decide +kernel)) (fun _ h9 => h9) rfl dX8_awake_21 ?_
      refine lv_iload_n hx hb dX8_awake_24 rfl (lv_at hl 1 rfl) ?_
      obtain ⟨hi_9, hf⟩ := ix_e hf
      refine va_iald hx hb hK hP 1 0 rfl rfl hi_9 dX8_awake_25 ?_
      refine lv_istore_n (lv' := [(3, .int (v_m_awakes x1.toNatClampNeg)), (0, .ref h_t), (1, .int x1), (2, .int x2)]) hx hb dX8_awake_26 rfl hl (by decide) rfl (fun ls hl => ?_)
      refine lv_aload_n hx hb dX8_awake_27 rfl (lv_at hl 1 rfl) ?_
      refine va_get (D := (dC, dI)) (ci := 7) (v := .ref h_t_awakes) (C := RX8) (T := TX8) (N := 24) hx hb hts hinX8 hown hK hP 0 rfl rfl 9 (by decide) (hts (.fieldLink RX8 31 "SecondSunriseModel" "awakes" "[I") (by decide +kernel)) (fun _ h9 => h9) rfl dX8_awake_28 ?_
      refine lv_iload_n hx hb dX8_awake_31 rfl (lv_at hl 2 rfl) ?_
      refine lv_iload_n hx hb dX8_awake_32 rfl (lv_at hl 3 rfl) ?_
      obtain ⟨hi_10, hf⟩ := ix_e hf
      refine va_iast hx hb hK hP hD hS 1 0 rfl rfl hi_10 dX8_awake_33 (fun H locs hP hD hS => ?_)
      have hP : va_P (dC, dI) vwCl (wd_X8_awake cI cZ cP cS h_t h_t_turns h_t_phases h_t_ups h_t_typed h_t_texts h_t_diary h_t_longs h_t_awakes h_t_fit h_t_counts h_t_worths h_t_ripes h_t_growths h_t_gains h_t_isThere h_t_forms h_t_sizes h_t_items h_t_moved v_m_hours v_m_months v_m_fitMany v_m_fitFirst v_m_finding (upd v_m_awakes x1.toNatClampNeg x2)) H := hP
      have hD : va_D (va_A (wd_X8_awake cI cZ cP cS h_t h_t_turns h_t_phases h_t_ups h_t_typed h_t_texts h_t_diary h_t_longs h_t_awakes h_t_fit h_t_counts h_t_worths h_t_ripes h_t_growths h_t_gains h_t_isThere h_t_forms h_t_sizes h_t_items h_t_moved v_m_hours v_m_months v_m_fitMany v_m_fitFirst v_m_finding v_m_awakes) s.heap.size) (wd_X8_awake cI cZ cP cS h_t h_t_turns h_t_phases h_t_ups h_t_typed h_t_texts h_t_diary h_t_longs h_t_awakes h_t_fit h_t_counts h_t_worths h_t_ripes h_t_growths h_t_gains h_t_isThere h_t_forms h_t_sizes h_t_items h_t_moved v_m_hours v_m_months v_m_fitMany v_m_fitFirst v_m_finding (upd v_m_awakes x1.toNatClampNeg x2)) := hD
      refine lv_iload_n hx hb dX8_awake_34 rfl (lv_at hl 0 rfl) ?_
      have hq0 := Option.some.inj hf
      obtain ⟨eq0, hq1⟩ := Prod.mk.inj hq0
      clear hf hq0
      subst eq0
      subst hq1
      exact W.iret hx hb hr (fun t ht hW => ⟨⟨_, (), rfl, rfl, by rw [ht]; exact hP, va_K.moved hW.alike hK, hD⟩, hS.F ht⟩) hS.2.2 dX8_awake_35
    · rw [if_pos c14] at hf
      refine lv_bipush (v := (-2)) hx hb dX8_awake_17 (by decide) ?_
      have hq0 := Option.some.inj hf
      obtain ⟨eq0, hq1⟩ := Prod.mk.inj hq0
      clear hf hq0
      subst eq0
      subst hq1
      exact W.iret hx hb hr (fun t ht hW => ⟨⟨_, (), rfl, rfl, by rw [ht]; exact hP, va_K.moved hW.alike hK, hD⟩, hS.F ht⟩) hS.2.2 dX8_awake_19

abbrev wd_X8_placeOf (cI cZ cP cS : ClassId) (h_t h_t_turns h_t_phases h_t_ups h_t_typed h_t_texts h_t_diary h_t_longs h_t_awakes h_t_fit h_t_counts h_t_worths h_t_ripes h_t_growths h_t_gains h_t_isThere h_t_forms h_t_sizes h_t_items h_t_moved : Nat) (v_m_hours : Int32) (v_m_months : Int32) (v_m_fitMany : Int32) (v_m_fitFirst : Int32) (v_m_finding : Int32) (v_m_turns : Nat → Int32) (v_m_phases : Nat → Int32) : va_W := [(h_t, .inr (7, [.ref h_t_turns, .ref h_t_phases, .ref h_t_ups, .ref h_t_typed, .ref h_t_texts, .int v_m_hours, .ref h_t_diary, .int v_m_months, .ref h_t_longs, .ref h_t_awakes, .ref h_t_fit, .int v_m_fitMany, .int v_m_fitFirst, .ref h_t_counts, .ref h_t_worths, .ref h_t_ripes, .ref h_t_growths, .ref h_t_gains, .ref h_t_isThere, .ref h_t_forms, .ref h_t_sizes, .ref h_t_items, .ref h_t_moved, .int v_m_finding])), (h_t_turns, .inl (cI, 2, .inl v_m_turns)), (h_t_phases, .inl (cI, 2, .inl v_m_phases))]
abbrev rm_X8_placeOf : Room := { frames := 0, cells := 0, slots := 0, locals := 0 }
def f_X8_placeOf (n : Nat) (v_m_turns : Nat → Int32) (v_m_phases : Nat → Int32) (x1 : Int32) (x2 : Int32) : Option (Int32) := ix_ x1 2 (ix_ x1 2 (nz_ (v_m_turns x1.toNatClampNeg) (some ((x2 + (v_m_phases x1.toNatClampNeg)) - (x2 + (v_m_phases x1.toNatClampNeg)) / (v_m_turns x1.toNatClampNeg) * (v_m_turns x1.toNatClampNeg)))))
set_option maxHeartbeats 4000000 in
set_option maxRecDepth 100000 in
theorem c_X8_placeOf (l : Launch) (dC : Nat → ClassId) (dI : Nat → Nat → Nat) (cI cZ cP cS : ClassId) (h_t h_t_turns h_t_phases h_t_ups h_t_typed h_t_texts h_t_diary h_t_longs h_t_awakes h_t_fit h_t_counts h_t_worths h_t_ripes h_t_growths h_t_gains h_t_isThere h_t_forms h_t_sizes h_t_items h_t_moved : Nat) (v_m_hours : Int32) (v_m_months : Int32) (v_m_fitMany : Int32) (v_m_fitFirst : Int32) (v_m_finding : Int32) (v_m_turns : Nat → Int32) (v_m_phases : Nat → Int32) (x1 : Int32) (x2 : Int32) (n : Nat) (r : Int32) (hf : f_X8_placeOf n v_m_turns v_m_phases x1 x2 = some r) : Met l yX8_placeOf wsX8_placeOf rm_X8_placeOf (RO (dC, dI) (TY cI cZ cP cS) [.ref h_t, .int x1, .int x2] (wd_X8_placeOf cI cZ cP cS h_t h_t_turns h_t_phases h_t_ups h_t_typed h_t_texts h_t_diary h_t_longs h_t_awakes h_t_fit h_t_counts h_t_worths h_t_ripes h_t_growths h_t_gains h_t_isThere h_t_forms h_t_sizes h_t_items h_t_moved v_m_hours v_m_months v_m_fitMany v_m_fitFirst v_m_finding v_m_turns v_m_phases)) (vp_Si (fun x => x = r)) 0 0 NF := by
  refine Met.ofW (cc := cX8_placeOf) (maxL := 3) (ret := (some .int)) (by decide) rfl ?_
  intro p e s m args below meth c s₁ B hml hv
  obtain ⟨rfl, hP, hK⟩ := hv
  have hx := B.exec
  have hb := B.bytes
  have hr := B.returns
  have hts := atoms_spec (ws := wsX8_placeOf) B.pre
  have hown : s.vm.findClass RX8 = some m.cls := findClass_of_methodNamed B.named
  have hlocks := B.notSynchronized
  have hinX8 : ∀ w ∈ wsX80, w ∈ wsX8_placeOf := by decide +kernel
  have hl := lv_entry ([.ref h_t, .int x1, .int x2]) (n := 3) (Nat.le_of_ble_eq_true rfl)
  rw [lg_entry_eq]
  generalize (lg_sl ([.ref h_t, .int x1, .int x2]) ++ List.replicate (3 - (lg_sl ([.ref h_t, .int x1, .int x2])).length) Slot.unset).toArray = ls at hl ⊢
  have hl : lv_has ls 3 [(0, .ref h_t), (1, .int x1), (2, .int x2)] := hl
  unfold f_X8_placeOf at hf
  refine lv_iload_n hx hb dX8_placeOf_0 rfl (lv_at hl 2 rfl) ?_
  refine lv_aload_n hx hb dX8_placeOf_1 rfl (lv_at hl 0 rfl) ?_
  refine va_get (D := (dC, dI)) (ci := 7) (v := .ref h_t_phases) (C := RX8) (T := TX8) (N := 24) hx hb hts hinX8 hown hK hP 0 rfl rfl 1 (by decide) (hts (.fieldLink RX8 13 "SecondSunriseModel" "phases" "[I") (by decide +kernel)) (fun _ h9 => h9) rfl dX8_placeOf_2 ?_
  refine lv_iload_n hx hb dX8_placeOf_5 rfl (lv_at hl 1 rfl) ?_
  obtain ⟨hi_1, hf⟩ := ix_e hf
  refine va_iald hx hb hK hP 2 0 rfl rfl hi_1 dX8_placeOf_6 ?_
  refine lv_iadd hx hb dX8_placeOf_7 ?_
  refine lv_aload_n hx hb dX8_placeOf_8 rfl (lv_at hl 0 rfl) ?_
  refine va_get (D := (dC, dI)) (ci := 7) (v := .ref h_t_turns) (C := RX8) (T := TX8) (N := 24) hx hb hts hinX8 hown hK hP 0 rfl rfl 0 (by decide) (hts (.fieldLink RX8 7 "SecondSunriseModel" "turns" "[I") (by decide +kernel)) (fun _ h9 => h9) rfl dX8_placeOf_9 ?_
  refine lv_iload_n hx hb dX8_placeOf_12 rfl (lv_at hl 1 rfl) ?_
  obtain ⟨hi_2, hf⟩ := ix_e hf
  refine va_iald hx hb hK hP 1 0 rfl rfl hi_2 dX8_placeOf_13 ?_
  obtain ⟨hz_3, hf⟩ := nz_e hf
  refine lv_irem hx hb dX8_placeOf_14 hz_3 ?_
  exact W.iret hx hb hr (fun t ht hW => ⟨_, rfl, Option.some.inj hf, ht⟩) (fun _ h => nomatch h) dX8_placeOf_15

abbrev wd_X8_isUp (cI cZ cP cS : ClassId) (h_t h_t_turns h_t_phases h_t_ups h_t_typed h_t_texts h_t_diary h_t_longs h_t_awakes h_t_fit h_t_counts h_t_worths h_t_ripes h_t_growths h_t_gains h_t_isThere h_t_forms h_t_sizes h_t_items h_t_moved : Nat) (v_m_hours : Int32) (v_m_months : Int32) (v_m_fitMany : Int32) (v_m_fitFirst : Int32) (v_m_finding : Int32) (v_m_turns : Nat → Int32) (v_m_phases : Nat → Int32) (v_m_ups : Nat → Int32) : va_W := [(h_t, .inr (7, [.ref h_t_turns, .ref h_t_phases, .ref h_t_ups, .ref h_t_typed, .ref h_t_texts, .int v_m_hours, .ref h_t_diary, .int v_m_months, .ref h_t_longs, .ref h_t_awakes, .ref h_t_fit, .int v_m_fitMany, .int v_m_fitFirst, .ref h_t_counts, .ref h_t_worths, .ref h_t_ripes, .ref h_t_growths, .ref h_t_gains, .ref h_t_isThere, .ref h_t_forms, .ref h_t_sizes, .ref h_t_items, .ref h_t_moved, .int v_m_finding])), (h_t_turns, .inl (cI, 2, .inl v_m_turns)), (h_t_phases, .inl (cI, 2, .inl v_m_phases)), (h_t_ups, .inl (cI, 2, .inl v_m_ups))]
abbrev rm_X8_isUp : Room := { frames := 1, cells := 0, slots := 0, locals := 22 }
def f_X8_isUp (n : Nat) (v_m_turns : Nat → Int32) (v_m_phases : Nat → Int32) (v_m_ups : Nat → Int32) (x1 : Int32) (x2 : Int32) : Option (Int32) := bd1_ (f_X8_placeOf n v_m_turns v_m_phases x1 x2) (fun (r3_1 : Int32) => ix_ x1 2 (if (v_m_ups x1.toNatClampNeg) ≤ r3_1 then some 0 else some 1))
set_option maxHeartbeats 4000000 in
set_option maxRecDepth 100000 in
theorem c_X8_isUp (l : Launch) (dC : Nat → ClassId) (dI : Nat → Nat → Nat) (cI cZ cP cS : ClassId) (h_t h_t_turns h_t_phases h_t_ups h_t_typed h_t_texts h_t_diary h_t_longs h_t_awakes h_t_fit h_t_counts h_t_worths h_t_ripes h_t_growths h_t_gains h_t_isThere h_t_forms h_t_sizes h_t_items h_t_moved : Nat) (v_m_hours : Int32) (v_m_months : Int32) (v_m_fitMany : Int32) (v_m_fitFirst : Int32) (v_m_finding : Int32) (v_m_turns : Nat → Int32) (v_m_phases : Nat → Int32) (v_m_ups : Nat → Int32) (x1 : Int32) (x2 : Int32) (n : Nat) (r : Int32) (hf : f_X8_isUp n v_m_turns v_m_phases v_m_ups x1 x2 = some r) : Met l yX8_isUp wsX8_isUp rm_X8_isUp (RO (dC, dI) (TY cI cZ cP cS) [.ref h_t, .int x1, .int x2] (wd_X8_isUp cI cZ cP cS h_t h_t_turns h_t_phases h_t_ups h_t_typed h_t_texts h_t_diary h_t_longs h_t_awakes h_t_fit h_t_counts h_t_worths h_t_ripes h_t_growths h_t_gains h_t_isThere h_t_forms h_t_sizes h_t_items h_t_moved v_m_hours v_m_months v_m_fitMany v_m_fitFirst v_m_finding v_m_turns v_m_phases v_m_ups)) (vp_Si (fun x => x = r ∧ narrow .boolean (.int x) = .int x)) 0 0 NF := by
  refine Met.ofW (cc := cX8_isUp) (maxL := 3) (ret := (some .boolean)) (by decide) rfl ?_
  intro p e s m args below meth c s₁ B hml hv
  obtain ⟨rfl, hP, hK⟩ := hv
  have hx := B.exec
  have hb := B.bytes
  have hr := B.returns
  have hts := atoms_spec (ws := wsX8_isUp) B.pre
  have hown : s.vm.findClass RX8 = some m.cls := findClass_of_methodNamed B.named
  have hlocks := B.notSynchronized
  have hinX8 : ∀ w ∈ wsX80, w ∈ wsX8_isUp := by decide +kernel
  have hl := lv_entry ([.ref h_t, .int x1, .int x2]) (n := 3) (Nat.le_of_ble_eq_true rfl)
  rw [lg_entry_eq]
  generalize (lg_sl ([.ref h_t, .int x1, .int x2]) ++ List.replicate (3 - (lg_sl ([.ref h_t, .int x1, .int x2])).length) Slot.unset).toArray = ls at hl ⊢
  have hl : lv_has ls 3 [(0, .ref h_t), (1, .int x1), (2, .int x2)] := hl
  unfold f_X8_isUp at hf
  refine lv_aload_n hx hb dX8_isUp_0 rfl (lv_at hl 0 rfl) ?_
  refine lv_iload_n hx hb dX8_isUp_1 rfl (lv_at hl 1 rfl) ?_
  refine lv_iload_n hx hb dX8_isUp_2 rfl (lv_at hl 2 rfl) ?_
  obtain ⟨r3_1, hc_2, hf⟩ := bd1_e hf
  refine vp_callSi (va_runV (As := [.int x1, .int x2]) (rest := []) ⟨hx, hb, hml, hown, hts⟩ (c_X8_placeOf l dC dI cI cZ cP cS h_t h_t_turns h_t_phases h_t_ups h_t_typed h_t_texts h_t_diary h_t_longs h_t_awakes h_t_fit h_t_counts h_t_worths h_t_ripes h_t_growths h_t_gains h_t_isThere h_t_forms h_t_sizes h_t_items h_t_moved v_m_hours v_m_months v_m_fitMany v_m_fitFirst v_m_finding v_m_turns v_m_phases x1 x2 n r3_1 hc_2) (cwV 2 hts gX8_isUp_X8_placeOf rfl rfl rfl (by decide +kernel) ⟨Nat.le_of_ble_eq_true rfl, Nat.le_of_ble_eq_true rfl⟩) (pv_ro (ci := 7) (q0 := 0) hK (hP.sub (ws' := (wd_X8_placeOf cI cZ cP cS h_t h_t_turns h_t_phases h_t_ups h_t_typed h_t_texts h_t_diary h_t_longs h_t_awakes h_t_fit h_t_counts h_t_worths h_t_ripes h_t_growths h_t_gains h_t_isThere h_t_forms h_t_sizes h_t_items h_t_moved v_m_hours v_m_months v_m_fitMany v_m_fitFirst v_m_finding v_m_turns v_m_phases)) [0, 1, 2] rfl) rfl rfl) rfl rfl hl.1 rfl (lv_room (Nat.le_of_ble_eq_true rfl)) dX8_isUp_3 ⟨Nat.zero_le _, Nat.zero_le _⟩).run (fun x e_3 => ?_)
  rw [e_3]
  refine lv_aload_n hx hb dX8_isUp_6 rfl (lv_at hl 0 rfl) ?_
  refine va_get (D := (dC, dI)) (ci := 7) (v := .ref h_t_ups) (C := RX8) (T := TX8) (N := 24) hx hb hts hinX8 hown hK hP 0 rfl rfl 2 (by decide) (hts (.fieldLink RX8 16 "SecondSunriseModel" "ups" "[I") (by decide +kernel)) (fun _ h9 => h9) rfl dX8_isUp_7 ?_
  refine lv_iload_n hx hb dX8_isUp_10 rfl (lv_at hl 1 rfl) ?_
  obtain ⟨hi_4, hf⟩ := ix_e hf
  refine va_iald hx hb hK hP 3 0 rfl rfl hi_4 dX8_isUp_11 ?_
  refine lv_icmp_ge (tgt := 19) hx hb dX8_isUp_12 (by decide) (fun c12 => ?_) (fun c12 => ?_)
  · rw [if_pos c12] at hf
    refine lv_iconst (v := 0) hx hb dX8_isUp_19 (by decide) ?_
    exact W.zret hx hb hr (by decide) (fun t ht hW => ⟨_, rfl, ⟨Option.some.inj hf, (by decide)⟩, ht⟩) (fun _ h => nomatch h) dX8_isUp_20
  · rw [if_neg c12] at hf
    refine lv_iconst (v := 1) hx hb dX8_isUp_15 (by decide) ?_
    refine lv_goto (tgt := 20) hx hb dX8_isUp_16 (by decide) ?_
    exact W.zret hx hb hr (by decide) (fun t ht hW => ⟨_, rfl, ⟨Option.some.inj hf, (by decide)⟩, ht⟩) (fun _ h => nomatch h) dX8_isUp_20

abbrev wd_X8_lightOf (cI cZ cP cS : ClassId) (h_t h_t_turns h_t_phases h_t_ups h_t_typed h_t_texts h_t_diary h_t_longs h_t_awakes h_t_fit h_t_counts h_t_worths h_t_ripes h_t_growths h_t_gains h_t_isThere h_t_forms h_t_sizes h_t_items h_t_moved : Nat) (v_m_hours : Int32) (v_m_months : Int32) (v_m_fitMany : Int32) (v_m_fitFirst : Int32) (v_m_finding : Int32) (v_m_turns : Nat → Int32) (v_m_phases : Nat → Int32) (v_m_ups : Nat → Int32) : va_W := [(h_t, .inr (7, [.ref h_t_turns, .ref h_t_phases, .ref h_t_ups, .ref h_t_typed, .ref h_t_texts, .int v_m_hours, .ref h_t_diary, .int v_m_months, .ref h_t_longs, .ref h_t_awakes, .ref h_t_fit, .int v_m_fitMany, .int v_m_fitFirst, .ref h_t_counts, .ref h_t_worths, .ref h_t_ripes, .ref h_t_growths, .ref h_t_gains, .ref h_t_isThere, .ref h_t_forms, .ref h_t_sizes, .ref h_t_items, .ref h_t_moved, .int v_m_finding])), (h_t_turns, .inl (cI, 2, .inl v_m_turns)), (h_t_phases, .inl (cI, 2, .inl v_m_phases)), (h_t_ups, .inl (cI, 2, .inl v_m_ups))]
abbrev rm_X8_lightOf : Room := { frames := 2, cells := 0, slots := 0, locals := 44 }
def f_X8_lightOf (n : Nat) (v_m_turns : Nat → Int32) (v_m_phases : Nat → Int32) (v_m_ups : Nat → Int32) (x1 : Int32) : Option (Int32) := bd1_ (f_X8_isUp n v_m_turns v_m_phases v_m_ups 0 x1) (fun (r3_1 : Int32) => lt_ ((if r3_1 = 0 then 0 else 1) : Int32) (fun v14_5 => bd1_ (f_X8_isUp n v_m_turns v_m_phases v_m_ups 1 x1) (fun (r17_7 : Int32) => if r17_7 = 0 then some (v14_5 + 0) else some (v14_5 + 2))))
set_option maxHeartbeats 4000000 in
set_option maxRecDepth 100000 in
theorem c_X8_lightOf (l : Launch) (dC : Nat → ClassId) (dI : Nat → Nat → Nat) (cI cZ cP cS : ClassId) (h_t h_t_turns h_t_phases h_t_ups h_t_typed h_t_texts h_t_diary h_t_longs h_t_awakes h_t_fit h_t_counts h_t_worths h_t_ripes h_t_growths h_t_gains h_t_isThere h_t_forms h_t_sizes h_t_items h_t_moved : Nat) (v_m_hours : Int32) (v_m_months : Int32) (v_m_fitMany : Int32) (v_m_fitFirst : Int32) (v_m_finding : Int32) (v_m_turns : Nat → Int32) (v_m_phases : Nat → Int32) (v_m_ups : Nat → Int32) (x1 : Int32) (n : Nat) (r : Int32) (hf : f_X8_lightOf n v_m_turns v_m_phases v_m_ups x1 = some r) : Met l yX8_lightOf wsX8_lightOf rm_X8_lightOf (RO (dC, dI) (TY cI cZ cP cS) [.ref h_t, .int x1] (wd_X8_lightOf cI cZ cP cS h_t h_t_turns h_t_phases h_t_ups h_t_typed h_t_texts h_t_diary h_t_longs h_t_awakes h_t_fit h_t_counts h_t_worths h_t_ripes h_t_growths h_t_gains h_t_isThere h_t_forms h_t_sizes h_t_items h_t_moved v_m_hours v_m_months v_m_fitMany v_m_fitFirst v_m_finding v_m_turns v_m_phases v_m_ups)) (vp_Si (fun x => x = r)) 0 0 NF := by
  refine Met.ofW (cc := cX8_lightOf) (maxL := 2) (ret := (some .int)) (by decide) rfl ?_
  intro p e s m args below meth c s₁ B hml hv
  obtain ⟨rfl, hP, hK⟩ := hv
  have hx := B.exec
  have hb := B.bytes
  have hr := B.returns
  have hts := atoms_spec (ws := wsX8_lightOf) B.pre
  have hown : s.vm.findClass RX8 = some m.cls := findClass_of_methodNamed B.named
  have hlocks := B.notSynchronized
  have hl := lv_entry ([.ref h_t, .int x1]) (n := 2) (Nat.le_of_ble_eq_true rfl)
  rw [lg_entry_eq]
  generalize (lg_sl ([.ref h_t, .int x1]) ++ List.replicate (2 - (lg_sl ([.ref h_t, .int x1])).length) Slot.unset).toArray = ls at hl ⊢
  have hl : lv_has ls 2 [(0, .ref h_t), (1, .int x1)] := hl
  unfold f_X8_lightOf at hf
  refine lv_aload_n hx hb dX8_lightOf_0 rfl (lv_at hl 0 rfl) ?_
  refine lv_iconst (v := 0) hx hb dX8_lightOf_1 (by decide) ?_
  refine lv_iload_n hx hb dX8_lightOf_2 rfl (lv_at hl 1 rfl) ?_
  obtain ⟨r3_1, hc_2, hf⟩ := bd1_e hf
  refine vp_callSi (va_runV (As := [.int 0, .int x1]) (rest := []) ⟨hx, hb, hml, hown, hts⟩ (c_X8_isUp l dC dI cI cZ cP cS h_t h_t_turns h_t_phases h_t_ups h_t_typed h_t_texts h_t_diary h_t_longs h_t_awakes h_t_fit h_t_counts h_t_worths h_t_ripes h_t_growths h_t_gains h_t_isThere h_t_forms h_t_sizes h_t_items h_t_moved v_m_hours v_m_months v_m_fitMany v_m_fitFirst v_m_finding v_m_turns v_m_phases v_m_ups 0 x1 n r3_1 hc_2) (cwV 2 hts gX8_lightOf_X8_isUp rfl rfl rfl (by decide +kernel) ⟨Nat.le_of_ble_eq_true rfl, Nat.le_of_ble_eq_true rfl⟩) (pv_ro (ci := 7) (q0 := 0) hK (hP.sub (ws' := (wd_X8_isUp cI cZ cP cS h_t h_t_turns h_t_phases h_t_ups h_t_typed h_t_texts h_t_diary h_t_longs h_t_awakes h_t_fit h_t_counts h_t_worths h_t_ripes h_t_growths h_t_gains h_t_isThere h_t_forms h_t_sizes h_t_items h_t_moved v_m_hours v_m_months v_m_fitMany v_m_fitFirst v_m_finding v_m_turns v_m_phases v_m_ups)) [0, 1, 2, 3] rfl) rfl rfl) rfl rfl hl.1 rfl (lv_room (Nat.le_of_ble_eq_true rfl)) dX8_lightOf_3 ⟨Nat.zero_le _, Nat.zero_le _⟩).run (fun x e_3 => ?_)
  obtain ⟨e_3, hb_4⟩ := e_3
  rw [e_3] at hb_4 ⊢
  obtain ⟨v14_5, ev14_5, hf⟩ := lt_e hf
  have hj14_6 : ∀ (ls : Array Slot), lv_has ls 2 [(0, .ref h_t), (1, .int x1)] → W p l e (headSpec wsX8_lightOf rm_X8_lightOf).room s m ([.ref h_t, .int x1] : List Value).toArray below meth c s.heap [] 0 0 (MQ below (vp_Si (fun x => x = r)) ([.ref h_t, .int x1] : List Value).toArray s 0 0 NF) (F0 m 14 ls [.int v14_5]) := by
    intro ls hl
    refine lv_aload_n hx hb dX8_lightOf_14 rfl (lv_at hl 0 rfl) ?_
    refine lv_iconst (v := 1) hx hb dX8_lightOf_15 (by decide) ?_
    refine lv_iload_n hx hb dX8_lightOf_16 rfl (lv_at hl 1 rfl) ?_
    obtain ⟨r17_7, hc_8, hf⟩ := bd1_e hf
    refine vp_callSi (va_runV (As := [.int 1, .int x1]) (rest := [.int v14_5]) ⟨hx, hb, hml, hown, hts⟩ (c_X8_isUp l dC dI cI cZ cP cS h_t h_t_turns h_t_phases h_t_ups h_t_typed h_t_texts h_t_diary h_t_longs h_t_awakes h_t_fit h_t_counts h_t_worths h_t_ripes h_t_growths h_t_gains h_t_isThere h_t_forms h_t_sizes h_t_items h_t_moved v_m_hours v_m_months v_m_fitMany v_m_fitFirst v_m_finding v_m_turns v_m_phases v_m_ups 1 x1 n r17_7 hc_8) (cwV 2 hts gX8_lightOf_X8_isUp rfl rfl rfl (by decide +kernel) ⟨Nat.le_of_ble_eq_true rfl, Nat.le_of_ble_eq_true rfl⟩) (pv_ro (ci := 7) (q0 := 0) hK (hP.sub (ws' := (wd_X8_isUp cI cZ cP cS h_t h_t_turns h_t_phases h_t_ups h_t_typed h_t_texts h_t_diary h_t_longs h_t_awakes h_t_fit h_t_counts h_t_worths h_t_ripes h_t_growths h_t_gains h_t_isThere h_t_forms h_t_sizes h_t_items h_t_moved v_m_hours v_m_months v_m_fitMany v_m_fitFirst v_m_finding v_m_turns v_m_phases v_m_ups)) [0, 1, 2, 3] rfl) rfl rfl) rfl rfl hl.1 rfl (lv_room (Nat.le_of_ble_eq_true rfl)) dX8_lightOf_17 ⟨Nat.zero_le _, Nat.zero_le _⟩).run (fun x e_9 => ?_)
    obtain ⟨e_9, hb_10⟩ := e_9
    rw [e_9] at hb_10 ⊢
    refine lv_if_eq (tgt := 27) hx hb dX8_lightOf_20 (by decide) (fun c20 => ?_) (fun c20 => ?_)
    · rw [if_pos c20] at hf
      refine lv_iconst (v := 0) hx hb dX8_lightOf_27 (by decide) ?_
      refine lv_iadd hx hb dX8_lightOf_28 ?_
      exact W.iret hx hb hr (fun t ht hW => ⟨_, rfl, Option.some.inj hf, ht⟩) (fun _ h => nomatch h) dX8_lightOf_29
    · rw [if_neg c20] at hf
      refine lv_iconst (v := 2) hx hb dX8_lightOf_23 (by decide) ?_
      refine lv_goto (tgt := 28) hx hb dX8_lightOf_24 (by decide) ?_
      refine lv_iadd hx hb dX8_lightOf_28 ?_
      exact W.iret hx hb hr (fun t ht hW => ⟨_, rfl, Option.some.inj hf, ht⟩) (fun _ h => nomatch h) dX8_lightOf_29
  clear hf
  refine lv_if_eq (tgt := 13) hx hb dX8_lightOf_6 (by decide) (fun c6 => ?_) (fun c6 => ?_)
  ·
    refine lv_iconst (v := 0) hx hb dX8_lightOf_13 (by decide) ?_
    rw [if_pos c6] at ev14_5
    subst ev14_5
    exact hj14_6 ls (lv_sub hl [0, 1] rfl)
  ·
    refine lv_iconst (v := 1) hx hb dX8_lightOf_9 (by decide) ?_
    refine lv_goto (tgt := 14) hx hb dX8_lightOf_10 (by decide) ?_
    rw [if_neg c6] at ev14_5
    subst ev14_5
    exact hj14_6 ls (lv_sub hl [0, 1] rfl)

abbrev wd_X8_awakeHours (cI cZ cP cS : ClassId) (h_t h_t_turns h_t_phases h_t_ups h_t_typed h_t_texts h_t_diary h_t_longs h_t_awakes h_t_fit h_t_counts h_t_worths h_t_ripes h_t_growths h_t_gains h_t_isThere h_t_forms h_t_sizes h_t_items h_t_moved : Nat) (v_m_hours : Int32) (v_m_months : Int32) (v_m_fitMany : Int32) (v_m_fitFirst : Int32) (v_m_finding : Int32) (v_m_turns : Nat → Int32) (v_m_phases : Nat → Int32) (v_m_ups : Nat → Int32) : va_W := [(h_t, .inr (7, [.ref h_t_turns, .ref h_t_phases, .ref h_t_ups, .ref h_t_typed, .ref h_t_texts, .int v_m_hours, .ref h_t_diary, .int v_m_months, .ref h_t_longs, .ref h_t_awakes, .ref h_t_fit, .int v_m_fitMany, .int v_m_fitFirst, .ref h_t_counts, .ref h_t_worths, .ref h_t_ripes, .ref h_t_growths, .ref h_t_gains, .ref h_t_isThere, .ref h_t_forms, .ref h_t_sizes, .ref h_t_items, .ref h_t_moved, .int v_m_finding])), (h_t_turns, .inl (cI, 2, .inl v_m_turns)), (h_t_phases, .inl (cI, 2, .inl v_m_phases)), (h_t_ups, .inl (cI, 2, .inl v_m_ups))]
abbrev rm_X8_awakeHours : Room := { frames := 3, cells := 0, slots := 0, locals := 65 }
def L_X8_awakeHours_6 (n : Nat) (v_m_turns : Nat → Int32) (v_m_phases : Nat → Int32) (v_m_ups : Nat → Int32) (x1 : Int32) (x2 : Int32) (x3 : Int32) (kx6 : Int32 → Option (Int32)) : Nat → Int32 → Int32 → Option (Int32)
  | 0, _, _ => none
  | k6 + 1, y6_4, y6_5 => if (x2 + x3) ≤ y6_5 then kx6 y6_4 else bd1_ (f_X8_lightOf n v_m_turns v_m_phases v_m_ups y6_5) (fun (r20_1 : Int32) => L_X8_awakeHours_6 n v_m_turns v_m_phases v_m_ups x1 x2 x3 kx6 k6 (y6_4 + ((x1 >>> (r20_1 &&& 31)) &&& 1)) (y6_5 + 1))
theorem L_X8_awakeHours_6_s (n : Nat) (v_m_turns : Nat → Int32) (v_m_phases : Nat → Int32) (v_m_ups : Nat → Int32) (x1 : Int32) (x2 : Int32) (x3 : Int32) (kx6 : Int32 → Option (Int32)) (k6 : Nat) (y6_4 : Int32) (y6_5 : Int32) : L_X8_awakeHours_6 n v_m_turns v_m_phases v_m_ups x1 x2 x3 kx6 (k6 + 1) y6_4 y6_5 = if (x2 + x3) ≤ y6_5 then kx6 y6_4 else bd1_ (f_X8_lightOf n v_m_turns v_m_phases v_m_ups y6_5) (fun (r20_1 : Int32) => L_X8_awakeHours_6 n v_m_turns v_m_phases v_m_ups x1 x2 x3 kx6 k6 (y6_4 + ((x1 >>> (r20_1 &&& 31)) &&& 1)) (y6_5 + 1)) := rfl
def f_X8_awakeHours (n : Nat) (v_m_turns : Nat → Int32) (v_m_phases : Nat → Int32) (v_m_ups : Nat → Int32) (x1 : Int32) (x2 : Int32) (x3 : Int32) : Option (Int32) := jn1_ (fun (z6_4 : Int32) => some z6_4) (fun kx6 => L_X8_awakeHours_6 n v_m_turns v_m_phases v_m_ups x1 x2 x3 kx6 n 0 x2)
set_option maxHeartbeats 4000000 in
set_option maxRecDepth 100000 in
theorem c_X8_awakeHours (l : Launch) (dC : Nat → ClassId) (dI : Nat → Nat → Nat) (cI cZ cP cS : ClassId) (h_t h_t_turns h_t_phases h_t_ups h_t_typed h_t_texts h_t_diary h_t_longs h_t_awakes h_t_fit h_t_counts h_t_worths h_t_ripes h_t_growths h_t_gains h_t_isThere h_t_forms h_t_sizes h_t_items h_t_moved : Nat) (v_m_hours : Int32) (v_m_months : Int32) (v_m_fitMany : Int32) (v_m_fitFirst : Int32) (v_m_finding : Int32) (v_m_turns : Nat → Int32) (v_m_phases : Nat → Int32) (v_m_ups : Nat → Int32) (x1 : Int32) (x2 : Int32) (x3 : Int32) (n : Nat) (r : Int32) (hf : f_X8_awakeHours n v_m_turns v_m_phases v_m_ups x1 x2 x3 = some r) : Met l yX8_awakeHours wsX8_awakeHours rm_X8_awakeHours (RO (dC, dI) (TY cI cZ cP cS) [.ref h_t, .int x1, .int x2, .int x3] (wd_X8_awakeHours cI cZ cP cS h_t h_t_turns h_t_phases h_t_ups h_t_typed h_t_texts h_t_diary h_t_longs h_t_awakes h_t_fit h_t_counts h_t_worths h_t_ripes h_t_growths h_t_gains h_t_isThere h_t_forms h_t_sizes h_t_items h_t_moved v_m_hours v_m_months v_m_fitMany v_m_fitFirst v_m_finding v_m_turns v_m_phases v_m_ups)) (vp_Si (fun x => x = r)) 0 0 NF := by
  refine Met.ofW (cc := cX8_awakeHours) (maxL := 6) (ret := (some .int)) (by decide) rfl ?_
  intro p e s m args below meth c s₁ B hml hv
  obtain ⟨rfl, hP, hK⟩ := hv
  have hx := B.exec
  have hb := B.bytes
  have hr := B.returns
  have hts := atoms_spec (ws := wsX8_awakeHours) B.pre
  have hown : s.vm.findClass RX8 = some m.cls := findClass_of_methodNamed B.named
  have hlocks := B.notSynchronized
  have hl := lv_entry ([.ref h_t, .int x1, .int x2, .int x3]) (n := 6) (Nat.le_of_ble_eq_true rfl)
  rw [lg_entry_eq]
  generalize (lg_sl ([.ref h_t, .int x1, .int x2, .int x3]) ++ List.replicate (6 - (lg_sl ([.ref h_t, .int x1, .int x2, .int x3])).length) Slot.unset).toArray = ls at hl ⊢
  have hl : lv_has ls 6 [(0, .ref h_t), (1, .int x1), (2, .int x2), (3, .int x3)] := hl
  unfold f_X8_awakeHours at hf
  refine lv_iconst (v := 0) hx hb dX8_awakeHours_0 (by decide) ?_
  refine lv_istore (lv' := [(4, .int 0), (0, .ref h_t), (1, .int x1), (2, .int x2), (3, .int x3)]) hx hb dX8_awakeHours_1 hl (by decide) rfl (fun ls hl => ?_)
  refine lv_iload_n hx hb dX8_awakeHours_3 rfl (lv_at hl 3 rfl) ?_
  refine lv_istore (lv' := [(5, .int x2), (4, .int 0), (0, .ref h_t), (1, .int x1), (2, .int x2), (3, .int x3)]) hx hb dX8_awakeHours_4 hl (by decide) rfl (fun ls hl => ?_)
  obtain ⟨kx6, ekx6, hf⟩ := jn1_e hf
  have hx6 : ∀ (z6_4 : Int32) (ls : Array Slot), lv_has ls 6 [(4, .int z6_4)] → kx6 z6_4 = some r → W p l e (headSpec wsX8_awakeHours rm_X8_awakeHours).room s m ([.ref h_t, .int x1, .int x2, .int x3] : List Value).toArray below meth c s.heap [] 0 0 (MQ below (vp_Si (fun x => x = r)) ([.ref h_t, .int x1, .int x2, .int x3] : List Value).toArray s 0 0 NF) (F0 m 35 ls []) := by
    intro z6_4 ls hl hf
    rw [ekx6] at hf
    refine lv_iload hx hb dX8_awakeHours_35 (lv_at hl 0 rfl) ?_
    exact W.iret hx hb hr (fun t ht hW => ⟨_, rfl, Option.some.inj hf, ht⟩) (fun _ h => nomatch h) dX8_awakeHours_37
  have hL6 : ∀ (k6 : Nat) (y6_4 : Int32) (y6_5 : Int32) (ls : Array Slot), lv_has ls 6 [(0, .ref h_t), (1, .int x1), (2, .int x2), (3, .int x3), (4, .int y6_4), (5, .int y6_5)] → L_X8_awakeHours_6 n v_m_turns v_m_phases v_m_ups x1 x2 x3 kx6 k6 y6_4 y6_5 = some r → W p l e (headSpec wsX8_awakeHours rm_X8_awakeHours).room s m ([.ref h_t, .int x1, .int x2, .int x3] : List Value).toArray below meth c s.heap [] 0 0 (MQ below (vp_Si (fun x => x = r)) ([.ref h_t, .int x1, .int x2, .int x3] : List Value).toArray s 0 0 NF) (F0 m 6 ls []) := by
    intro k6
    induction k6 with
    | zero =>
      intro y6_4 y6_5 ls hl hf
      exact absurd hf (fun h => Option.some_ne_none _ h.symm)
    | succ k6 ih =>
      intro y6_4 y6_5 ls hl hf
      rw [L_X8_awakeHours_6_s] at hf
      refine lv_iload hx hb dX8_awakeHours_6 (lv_at hl 5 rfl) ?_
      refine lv_iload_n hx hb dX8_awakeHours_8 rfl (lv_at hl 2 rfl) ?_
      refine lv_iload_n hx hb dX8_awakeHours_9 rfl (lv_at hl 3 rfl) ?_
      refine lv_iadd hx hb dX8_awakeHours_10 ?_
      refine lv_icmp_ge (tgt := 35) hx hb dX8_awakeHours_11 (by decide) (fun c11 => ?_) (fun c11 => ?_)
      · rw [if_pos c11] at hf
        exact hx6 y6_4 ls (lv_sub hl [4] rfl) hf
      · rw [if_neg c11] at hf
        refine lv_iload hx hb dX8_awakeHours_14 (lv_at hl 4 rfl) ?_
        refine lv_iload_n hx hb dX8_awakeHours_16 rfl (lv_at hl 1 rfl) ?_
        refine lv_aload_n hx hb dX8_awakeHours_17 rfl (lv_at hl 0 rfl) ?_
        refine lv_iload hx hb dX8_awakeHours_18 (lv_at hl 5 rfl) ?_
        obtain ⟨r20_1, hc_2, hf⟩ := bd1_e hf
        refine vp_callSi (va_runV (As := [.int y6_5]) (rest := [.int x1, .int y6_4]) ⟨hx, hb, hml, hown, hts⟩ (c_X8_lightOf l dC dI cI cZ cP cS h_t h_t_turns h_t_phases h_t_ups h_t_typed h_t_texts h_t_diary h_t_longs h_t_awakes h_t_fit h_t_counts h_t_worths h_t_ripes h_t_growths h_t_gains h_t_isThere h_t_forms h_t_sizes h_t_items h_t_moved v_m_hours v_m_months v_m_fitMany v_m_fitFirst v_m_finding v_m_turns v_m_phases v_m_ups y6_5 n r20_1 hc_2) (cwV 1 hts gX8_awakeHours_X8_lightOf rfl rfl rfl (by decide +kernel) ⟨Nat.le_of_ble_eq_true rfl, Nat.le_of_ble_eq_true rfl⟩) (pv_ro (ci := 7) (q0 := 0) hK (hP.sub (ws' := (wd_X8_lightOf cI cZ cP cS h_t h_t_turns h_t_phases h_t_ups h_t_typed h_t_texts h_t_diary h_t_longs h_t_awakes h_t_fit h_t_counts h_t_worths h_t_ripes h_t_growths h_t_gains h_t_isThere h_t_forms h_t_sizes h_t_items h_t_moved v_m_hours v_m_months v_m_fitMany v_m_fitFirst v_m_finding v_m_turns v_m_phases v_m_ups)) [0, 1, 2, 3] rfl) rfl rfl) rfl rfl hl.1 rfl (lv_room (Nat.le_of_ble_eq_true rfl)) dX8_awakeHours_20 ⟨Nat.zero_le _, Nat.zero_le _⟩).run (fun x e_3 => ?_)
        rw [e_3]
        refine lv_ishr hx hb dX8_awakeHours_23 ?_
        refine lv_iconst (v := 1) hx hb dX8_awakeHours_24 (by decide) ?_
        refine lv_iand hx hb dX8_awakeHours_25 ?_
        refine lv_iadd hx hb dX8_awakeHours_26 ?_
        refine lv_istore (lv' := [(4, .int (y6_4 + ((x1 >>> (r20_1 &&& 31)) &&& 1))), (0, .ref h_t), (1, .int x1), (2, .int x2), (3, .int x3), (5, .int y6_5)]) hx hb dX8_awakeHours_27 hl (by decide) rfl (fun ls hl => ?_)
        refine lv_iinc (v := (y6_5 + 1)) (lv' := [(5, .int (y6_5 + 1)), (4, .int (y6_4 + ((x1 >>> (r20_1 &&& 31)) &&& 1))), (0, .ref h_t), (1, .int x1), (2, .int x2), (3, .int x3)]) hx hb dX8_awakeHours_29 hl (k := 5) rfl rfl (by decide) rfl (fun ls hl => ?_)
        refine lv_goto (tgt := 6) hx hb dX8_awakeHours_32 (by decide) ?_
        exact ih (y6_4 + ((x1 >>> (r20_1 &&& 31)) &&& 1)) (y6_5 + 1) ls (lv_sub hl [2, 3, 4, 5, 1, 0] rfl) hf
  exact hL6 n 0 x2 ls (lv_sub hl [2, 3, 4, 5, 1, 0] rfl) hf

abbrev wd_X8_awayOf (cI cZ cP cS : ClassId) (h_t h_t_turns h_t_phases h_t_ups h_t_typed h_t_texts h_t_diary h_t_longs h_t_awakes h_t_fit h_t_counts h_t_worths h_t_ripes h_t_growths h_t_gains h_t_isThere h_t_forms h_t_sizes h_t_items h_t_moved : Nat) (v_m_hours : Int32) (v_m_months : Int32) (v_m_fitMany : Int32) (v_m_fitFirst : Int32) (v_m_finding : Int32) (v_m_turns : Nat → Int32) (v_m_phases : Nat → Int32) : va_W := [(h_t, .inr (7, [.ref h_t_turns, .ref h_t_phases, .ref h_t_ups, .ref h_t_typed, .ref h_t_texts, .int v_m_hours, .ref h_t_diary, .int v_m_months, .ref h_t_longs, .ref h_t_awakes, .ref h_t_fit, .int v_m_fitMany, .int v_m_fitFirst, .ref h_t_counts, .ref h_t_worths, .ref h_t_ripes, .ref h_t_growths, .ref h_t_gains, .ref h_t_isThere, .ref h_t_forms, .ref h_t_sizes, .ref h_t_items, .ref h_t_moved, .int v_m_finding])), (h_t_turns, .inl (cI, 2, .inl v_m_turns)), (h_t_phases, .inl (cI, 2, .inl v_m_phases))]
abbrev rm_X8_awayOf : Room := { frames := 1, cells := 0, slots := 0, locals := 22 }
def f_X8_awayOf (n : Nat) (v_m_turns : Nat → Int32) (v_m_phases : Nat → Int32) (x1 : Int32) (x2 : Int32) : Option (Int32) := bd1_ (f_X8_placeOf n v_m_turns v_m_phases x1 x2) (fun (r3_1 : Int32) => ix_ x1 2 (if ((v_m_turns x1.toNatClampNeg) - r3_1) ≤ r3_1 then ix_ x1 2 (some ((v_m_turns x1.toNatClampNeg) - r3_1)) else some r3_1))
set_option maxHeartbeats 4000000 in
set_option maxRecDepth 100000 in
theorem c_X8_awayOf (l : Launch) (dC : Nat → ClassId) (dI : Nat → Nat → Nat) (cI cZ cP cS : ClassId) (h_t h_t_turns h_t_phases h_t_ups h_t_typed h_t_texts h_t_diary h_t_longs h_t_awakes h_t_fit h_t_counts h_t_worths h_t_ripes h_t_growths h_t_gains h_t_isThere h_t_forms h_t_sizes h_t_items h_t_moved : Nat) (v_m_hours : Int32) (v_m_months : Int32) (v_m_fitMany : Int32) (v_m_fitFirst : Int32) (v_m_finding : Int32) (v_m_turns : Nat → Int32) (v_m_phases : Nat → Int32) (x1 : Int32) (x2 : Int32) (n : Nat) (r : Int32) (hf : f_X8_awayOf n v_m_turns v_m_phases x1 x2 = some r) : Met l yX8_awayOf wsX8_awayOf rm_X8_awayOf (RO (dC, dI) (TY cI cZ cP cS) [.ref h_t, .int x1, .int x2] (wd_X8_awayOf cI cZ cP cS h_t h_t_turns h_t_phases h_t_ups h_t_typed h_t_texts h_t_diary h_t_longs h_t_awakes h_t_fit h_t_counts h_t_worths h_t_ripes h_t_growths h_t_gains h_t_isThere h_t_forms h_t_sizes h_t_items h_t_moved v_m_hours v_m_months v_m_fitMany v_m_fitFirst v_m_finding v_m_turns v_m_phases)) (vp_Si (fun x => x = r)) 0 0 NF := by
  refine Met.ofW (cc := cX8_awayOf) (maxL := 4) (ret := (some .int)) (by decide) rfl ?_
  intro p e s m args below meth c s₁ B hml hv
  obtain ⟨rfl, hP, hK⟩ := hv
  have hx := B.exec
  have hb := B.bytes
  have hr := B.returns
  have hts := atoms_spec (ws := wsX8_awayOf) B.pre
  have hown : s.vm.findClass RX8 = some m.cls := findClass_of_methodNamed B.named
  have hlocks := B.notSynchronized
  have hinX8 : ∀ w ∈ wsX80, w ∈ wsX8_awayOf := by decide +kernel
  have hl := lv_entry ([.ref h_t, .int x1, .int x2]) (n := 4) (Nat.le_of_ble_eq_true rfl)
  rw [lg_entry_eq]
  generalize (lg_sl ([.ref h_t, .int x1, .int x2]) ++ List.replicate (4 - (lg_sl ([.ref h_t, .int x1, .int x2])).length) Slot.unset).toArray = ls at hl ⊢
  have hl : lv_has ls 4 [(0, .ref h_t), (1, .int x1), (2, .int x2)] := hl
  unfold f_X8_awayOf at hf
  refine lv_aload_n hx hb dX8_awayOf_0 rfl (lv_at hl 0 rfl) ?_
  refine lv_iload_n hx hb dX8_awayOf_1 rfl (lv_at hl 1 rfl) ?_
  refine lv_iload_n hx hb dX8_awayOf_2 rfl (lv_at hl 2 rfl) ?_
  obtain ⟨r3_1, hc_2, hf⟩ := bd1_e hf
  refine vp_callSi (va_runV (As := [.int x1, .int x2]) (rest := []) ⟨hx, hb, hml, hown, hts⟩ (c_X8_placeOf l dC dI cI cZ cP cS h_t h_t_turns h_t_phases h_t_ups h_t_typed h_t_texts h_t_diary h_t_longs h_t_awakes h_t_fit h_t_counts h_t_worths h_t_ripes h_t_growths h_t_gains h_t_isThere h_t_forms h_t_sizes h_t_items h_t_moved v_m_hours v_m_months v_m_fitMany v_m_fitFirst v_m_finding v_m_turns v_m_phases x1 x2 n r3_1 hc_2) (cwV 2 hts gX8_awayOf_X8_placeOf rfl rfl rfl (by decide +kernel) ⟨Nat.le_of_ble_eq_true rfl, Nat.le_of_ble_eq_true rfl⟩) (pv_ro (ci := 7) (q0 := 0) hK (hP.sub (ws' := (wd_X8_placeOf cI cZ cP cS h_t h_t_turns h_t_phases h_t_ups h_t_typed h_t_texts h_t_diary h_t_longs h_t_awakes h_t_fit h_t_counts h_t_worths h_t_ripes h_t_growths h_t_gains h_t_isThere h_t_forms h_t_sizes h_t_items h_t_moved v_m_hours v_m_months v_m_fitMany v_m_fitFirst v_m_finding v_m_turns v_m_phases)) [0, 1, 2] rfl) rfl rfl) rfl rfl hl.1 rfl (lv_room (Nat.le_of_ble_eq_true rfl)) dX8_awayOf_3 ⟨Nat.zero_le _, Nat.zero_le _⟩).run (fun x e_3 => ?_)
  rw [e_3]
  refine lv_istore_n (lv' := [(3, .int r3_1), (0, .ref h_t), (1, .int x1), (2, .int x2)]) hx hb dX8_awayOf_6 rfl hl (by decide) rfl (fun ls hl => ?_)
  refine lv_iload_n hx hb dX8_awayOf_7 rfl (lv_at hl 0 rfl) ?_
  refine lv_aload_n hx hb dX8_awayOf_8 rfl (lv_at hl 1 rfl) ?_
  refine va_get (D := (dC, dI)) (ci := 7) (v := .ref h_t_turns) (C := RX8) (T := TX8) (N := 24) hx hb hts hinX8 hown hK hP 0 rfl rfl 0 (by decide) (hts (.fieldLink RX8 7 "SecondSunriseModel" "turns" "[I") (by decide +kernel)) (fun _ h9 => h9) rfl dX8_awayOf_9 ?_
  refine lv_iload_n hx hb dX8_awayOf_12 rfl (lv_at hl 2 rfl) ?_
  obtain ⟨hi_4, hf⟩ := ix_e hf
  refine va_iald hx hb hK hP 1 0 rfl rfl hi_4 dX8_awayOf_13 ?_
  refine lv_iload_n hx hb dX8_awayOf_14 rfl (lv_at hl 0 rfl) ?_
  refine lv_isub hx hb dX8_awayOf_15 ?_
  refine lv_icmp_ge (tgt := 23) hx hb dX8_awayOf_16 (by decide) (fun c16 => ?_) (fun c16 => ?_)
  · rw [if_pos c16] at hf
    refine lv_aload_n hx hb dX8_awayOf_23 rfl (lv_at hl 1 rfl) ?_
    refine va_get (D := (dC, dI)) (ci := 7) (v := .ref h_t_turns) (C := RX8) (T := TX8) (N := 24) hx hb hts hinX8 hown hK hP 0 rfl rfl 0 (by decide) (hts (.fieldLink RX8 7 "SecondSunriseModel" "turns" "[I") (by decide +kernel)) (fun _ h9 => h9) rfl dX8_awayOf_24 ?_
    refine lv_iload_n hx hb dX8_awayOf_27 rfl (lv_at hl 2 rfl) ?_
    obtain ⟨hi_5, hf⟩ := ix_e hf
    refine va_iald hx hb hK hP 1 0 rfl rfl hi_5 dX8_awayOf_28 ?_
    refine lv_iload_n hx hb dX8_awayOf_29 rfl (lv_at hl 0 rfl) ?_
    refine lv_isub hx hb dX8_awayOf_30 ?_
    exact W.iret hx hb hr (fun t ht hW => ⟨_, rfl, Option.some.inj hf, ht⟩) (fun _ h => nomatch h) dX8_awayOf_31
  · rw [if_neg c16] at hf
    refine lv_iload_n hx hb dX8_awayOf_19 rfl (lv_at hl 0 rfl) ?_
    refine lv_goto (tgt := 31) hx hb dX8_awayOf_20 (by decide) ?_
    exact W.iret hx hb hr (fun t ht hW => ⟨_, rfl, Option.some.inj hf, ht⟩) (fun _ h => nomatch h) dX8_awayOf_31

abbrev rm_X8_lowest : Room := { frames := 0, cells := 0, slots := 0, locals := 0 }
def L_X8_lowest_6 (kx6 : Int64 → Option (Int64)) : Nat → Int64 → Int64 → Option (Int64)
  | 0, _, _ => none
  | k6 + 1, y6_5, y6_7 => if (lg_cmp y6_7 0) = 0 then kx6 y6_5 else nzl_ y6_7 (L_X8_lowest_6 kx6 k6 y6_7 (y6_5 - y6_5 / y6_7 * y6_7))
theorem L_X8_lowest_6_s (kx6 : Int64 → Option (Int64)) (k6 : Nat) (y6_5 : Int64) (y6_7 : Int64) : L_X8_lowest_6 kx6 (k6 + 1) y6_5 y6_7 = if (lg_cmp y6_7 0) = 0 then kx6 y6_5 else nzl_ y6_7 (L_X8_lowest_6 kx6 k6 y6_7 (y6_5 - y6_5 / y6_7 * y6_7)) := rfl
def f_X8_lowest (n : Nat) (x0 : Int64) (x2 : Int64) (x4 : Int32) : Option (Int64) := jn1_ (fun (z6_5 : Int64) => if x4 = 0 then nzl_ z6_5 (some (x0 / z6_5)) else nzl_ z6_5 (some (x2 / z6_5))) (fun kx6 => L_X8_lowest_6 kx6 n x0 x2)
set_option maxHeartbeats 4000000 in
set_option maxRecDepth 100000 in
theorem c_X8_lowest (l : Launch) (dC : Nat → ClassId) (dI : Nat → Nat → Nat) (cI cZ cP cS : ClassId) (x0 : Int64) (x2 : Int64) (x4 : Int32) (n : Nat) (r : Int64) (hf : f_X8_lowest n x0 x2 x4 = some r) : Met l yX8_lowest wsX8_lowest rm_X8_lowest (RO (dC, dI) (TY cI cZ cP cS) [.long x0, .long x2, .int x4] ([] : va_W)) (vp_Sl (fun x => x = r)) 0 0 NF := by
  refine Met.ofW (cc := cX8_lowest) (maxL := 11) (ret := (some .long)) (by decide) rfl ?_
  intro p e s m args below meth c s₁ B hml hv
  obtain ⟨rfl, hP, hK⟩ := hv
  have hx := B.exec
  have hb := B.bytes
  have hr := B.returns
  have hts := atoms_spec (ws := wsX8_lowest) B.pre
  have hown : s.vm.findClass RX8 = some m.cls := findClass_of_methodNamed B.named
  have hlocks := B.notSynchronized
  have hl := lv_entry ([.long x0, .long x2, .int x4]) (n := 11) (Nat.le_of_ble_eq_true rfl)
  rw [lg_entry_eq]
  generalize (lg_sl ([.long x0, .long x2, .int x4]) ++ List.replicate (11 - (lg_sl ([.long x0, .long x2, .int x4])).length) Slot.unset).toArray = ls at hl ⊢
  have hl : lv_has ls 11 [(0, .long x0), (2, .long x2), (4, .int x4)] := hl
  unfold f_X8_lowest at hf
  refine lv_lload_n hx hb dX8_lowest_0 rfl (lv_at hl 0 rfl) ?_
  refine lv_lstore (lv' := [(5, .long x0), (0, .long x0), (2, .long x2), (4, .int x4)]) hx hb dX8_lowest_1 hl (by decide) rfl (fun ls hl => ?_)
  refine lv_lload_n hx hb dX8_lowest_3 rfl (lv_at hl 2 rfl) ?_
  refine lv_lstore (lv' := [(7, .long x2), (5, .long x0), (0, .long x0), (2, .long x2), (4, .int x4)]) hx hb dX8_lowest_4 hl (by decide) rfl (fun ls hl => ?_)
  obtain ⟨kx6, ekx6, hf⟩ := jn1_e hf
  have hx6 : ∀ (z6_5 : Int64) (ls : Array Slot), lv_has ls 11 [(0, .long x0), (2, .long x2), (4, .int x4), (5, .long z6_5)] → kx6 z6_5 = some r → W p l e (headSpec wsX8_lowest rm_X8_lowest).room s m ([.long x0, .long x2, .int x4] : List Value).toArray below meth c s.heap [] 0 0 (MQ below (vp_Sl (fun x => x = r)) ([.long x0, .long x2, .int x4] : List Value).toArray s 0 0 NF) (F0 m 31 ls []) := by
    intro z6_5 ls hl hf
    rw [ekx6] at hf
    refine lv_iload hx hb dX8_lowest_31 (lv_at hl 2 rfl) ?_
    refine lv_if_ne (tgt := 43) hx hb dX8_lowest_33 (by decide) (fun c33 => ?_) (fun c33 => ?_)
    · rw [if_neg c33] at hf
      refine lv_lload_n hx hb dX8_lowest_43 rfl (lv_at hl 1 rfl) ?_
      refine lv_lload hx hb dX8_lowest_44 (lv_at hl 3 rfl) ?_
      obtain ⟨hz_1, hf⟩ := nzl_e hf
      refine lv_ldiv hx hb dX8_lowest_46 hz_1 ?_
      exact W.lret hx hb hr (fun t ht hW => ⟨_, rfl, Option.some.inj hf, ht⟩) (fun _ h => nomatch h) dX8_lowest_47
    · rw [if_pos c33] at hf
      refine lv_lload_n hx hb dX8_lowest_36 rfl (lv_at hl 0 rfl) ?_
      refine lv_lload hx hb dX8_lowest_37 (lv_at hl 3 rfl) ?_
      obtain ⟨hz_2, hf⟩ := nzl_e hf
      refine lv_ldiv hx hb dX8_lowest_39 hz_2 ?_
      refine lv_goto (tgt := 47) hx hb dX8_lowest_40 (by decide) ?_
      exact W.lret hx hb hr (fun t ht hW => ⟨_, rfl, Option.some.inj hf, ht⟩) (fun _ h => nomatch h) dX8_lowest_47
  have hL6 : ∀ (k6 : Nat) (y6_5 : Int64) (y6_7 : Int64) (ls : Array Slot), lv_has ls 11 [(0, .long x0), (2, .long x2), (4, .int x4), (5, .long y6_5), (7, .long y6_7)] → L_X8_lowest_6 kx6 k6 y6_5 y6_7 = some r → W p l e (headSpec wsX8_lowest rm_X8_lowest).room s m ([.long x0, .long x2, .int x4] : List Value).toArray below meth c s.heap [] 0 0 (MQ below (vp_Sl (fun x => x = r)) ([.long x0, .long x2, .int x4] : List Value).toArray s 0 0 NF) (F0 m 6 ls []) := by
    intro k6
    induction k6 with
    | zero =>
      intro y6_5 y6_7 ls hl hf
      exact absurd hf (fun h => Option.some_ne_none _ h.symm)
    | succ k6 ih =>
      intro y6_5 y6_7 ls hl hf
      rw [L_X8_lowest_6_s] at hf
      refine lv_lload hx hb dX8_lowest_6 (lv_at hl 4 rfl) ?_
      refine lv_lconst (v := 0) hx hb dX8_lowest_8 (by decide) ?_
      refine W.lcmp hx hb dX8_lowest_9 ?_
      refine lv_if_eq (tgt := 31) hx hb dX8_lowest_10 (by decide) (fun c10 => ?_) (fun c10 => ?_)
      · rw [if_pos c10] at hf
        exact hx6 y6_5 ls (lv_sub hl [0, 1, 2, 3] rfl) hf
      · rw [if_neg c10] at hf
        refine lv_lload hx hb dX8_lowest_13 (lv_at hl 3 rfl) ?_
        refine lv_lload hx hb dX8_lowest_15 (lv_at hl 4 rfl) ?_
        obtain ⟨hz_3, hf⟩ := nzl_e hf
        refine lv_lrem hx hb dX8_lowest_17 hz_3 ?_
        refine lv_lstore (lv' := [(9, .long (y6_5 - y6_5 / y6_7 * y6_7)), (0, .long x0), (2, .long x2), (4, .int x4), (5, .long y6_5), (7, .long y6_7)]) hx hb dX8_lowest_18 hl (by decide) rfl (fun ls hl => ?_)
        refine lv_lload hx hb dX8_lowest_20 (lv_at hl 5 rfl) ?_
        refine lv_lstore (lv' := [(5, .long y6_7), (9, .long (y6_5 - y6_5 / y6_7 * y6_7)), (0, .long x0), (2, .long x2), (4, .int x4), (7, .long y6_7)]) hx hb dX8_lowest_22 hl (by decide) rfl (fun ls hl => ?_)
        refine lv_lload hx hb dX8_lowest_24 (lv_at hl 1 rfl) ?_
        refine lv_lstore (lv' := [(7, .long (y6_5 - y6_5 / y6_7 * y6_7)), (5, .long y6_7), (9, .long (y6_5 - y6_5 / y6_7 * y6_7)), (0, .long x0), (2, .long x2), (4, .int x4)]) hx hb dX8_lowest_26 hl (by decide) rfl (fun ls hl => ?_)
        refine lv_goto (tgt := 6) hx hb dX8_lowest_28 (by decide) ?_
        exact ih y6_7 (y6_5 - y6_5 / y6_7 * y6_7) ls (lv_sub hl [3, 4, 5, 1, 0] rfl) hf
  exact hL6 n x0 x2 ls (lv_sub hl [2, 3, 4, 1, 0] rfl) hf

abbrev wd_X8_cloudsOf (cI cZ cP cS : ClassId) (h_t h_t_turns h_t_phases h_t_ups h_t_typed h_t_texts h_t_diary h_t_longs h_t_awakes h_t_fit h_t_counts h_t_worths h_t_ripes h_t_growths h_t_gains h_t_isThere h_t_forms h_t_sizes h_t_items h_t_moved : Nat) (v_m_hours : Int32) (v_m_months : Int32) (v_m_fitMany : Int32) (v_m_fitFirst : Int32) (v_m_finding : Int32) (v_m_turns : Nat → Int32) (v_m_phases : Nat → Int32) (v_m_ups : Nat → Int32) : va_W := [(h_t, .inr (7, [.ref h_t_turns, .ref h_t_phases, .ref h_t_ups, .ref h_t_typed, .ref h_t_texts, .int v_m_hours, .ref h_t_diary, .int v_m_months, .ref h_t_longs, .ref h_t_awakes, .ref h_t_fit, .int v_m_fitMany, .int v_m_fitFirst, .ref h_t_counts, .ref h_t_worths, .ref h_t_ripes, .ref h_t_growths, .ref h_t_gains, .ref h_t_isThere, .ref h_t_forms, .ref h_t_sizes, .ref h_t_items, .ref h_t_moved, .int v_m_finding])), (h_t_turns, .inl (cI, 2, .inl v_m_turns)), (h_t_phases, .inl (cI, 2, .inl v_m_phases)), (h_t_ups, .inl (cI, 2, .inl v_m_ups))]
abbrev rm_X8_cloudsOf : Room := { frames := 2, cells := 0, slots := 0, locals := 44 }
def L_X8_cloudsOf_9 (n : Nat) (v_m_turns : Nat → Int32) (v_m_phases : Nat → Int32) (v_m_ups : Nat → Int32) (x1 : Int32) (x2 : Int32) (x3 : Int32) (x4 : Int32) (kx9 : Int64 → Int64 → Option (Int64)) : Nat → Int64 → Int64 → Int32 → Option (Int64)
  | 0, _, _, _ => none
  | k9 + 1, y9_6, y9_8, y9_10 => if (x2 + x3) ≤ y9_10 then kx9 y9_6 y9_8 else bd1_ (f_X8_isUp n v_m_turns v_m_phases v_m_ups x1 y9_10) (fun (r21_4 : Int32) => jn2_ (fun (y43_6 : Int64) (y43_8 : Int64) => L_X8_cloudsOf_9 n v_m_turns v_m_phases v_m_ups x1 x2 x3 x4 kx9 k9 y43_6 y43_8 (y9_10 + 1)) (fun k43 => if r21_4 = 0 then k43 y9_6 y9_8 else k43 (y9_6 * (x4.toInt64)) (y9_8 * 16)))
theorem L_X8_cloudsOf_9_s (n : Nat) (v_m_turns : Nat → Int32) (v_m_phases : Nat → Int32) (v_m_ups : Nat → Int32) (x1 : Int32) (x2 : Int32) (x3 : Int32) (x4 : Int32) (kx9 : Int64 → Int64 → Option (Int64)) (k9 : Nat) (y9_6 : Int64) (y9_8 : Int64) (y9_10 : Int32) : L_X8_cloudsOf_9 n v_m_turns v_m_phases v_m_ups x1 x2 x3 x4 kx9 (k9 + 1) y9_6 y9_8 y9_10 = if (x2 + x3) ≤ y9_10 then kx9 y9_6 y9_8 else bd1_ (f_X8_isUp n v_m_turns v_m_phases v_m_ups x1 y9_10) (fun (r21_4 : Int32) => jn2_ (fun (y43_6 : Int64) (y43_8 : Int64) => L_X8_cloudsOf_9 n v_m_turns v_m_phases v_m_ups x1 x2 x3 x4 kx9 k9 y43_6 y43_8 (y9_10 + 1)) (fun k43 => if r21_4 = 0 then k43 y9_6 y9_8 else k43 (y9_6 * (x4.toInt64)) (y9_8 * 16))) := rfl
def f_X8_cloudsOf (n : Nat) (v_m_turns : Nat → Int32) (v_m_phases : Nat → Int32) (v_m_ups : Nat → Int32) (x1 : Int32) (x2 : Int32) (x3 : Int32) (x4 : Int32) (x5 : Int32) : Option (Int64) := jn2_ (fun (z9_6 : Int64) (z9_8 : Int64) => bd1_ (f_X8_lowest n (z9_8 - z9_6) z9_8 x5) (fun (r58_1 : Int64) => some r58_1)) (fun kx9 => L_X8_cloudsOf_9 n v_m_turns v_m_phases v_m_ups x1 x2 x3 x4 kx9 n 1 1 x2)
set_option maxHeartbeats 4000000 in
set_option maxRecDepth 100000 in
theorem c_X8_cloudsOf (l : Launch) (dC : Nat → ClassId) (dI : Nat → Nat → Nat) (cI cZ cP cS : ClassId) (h_t h_t_turns h_t_phases h_t_ups h_t_typed h_t_texts h_t_diary h_t_longs h_t_awakes h_t_fit h_t_counts h_t_worths h_t_ripes h_t_growths h_t_gains h_t_isThere h_t_forms h_t_sizes h_t_items h_t_moved : Nat) (v_m_hours : Int32) (v_m_months : Int32) (v_m_fitMany : Int32) (v_m_fitFirst : Int32) (v_m_finding : Int32) (v_m_turns : Nat → Int32) (v_m_phases : Nat → Int32) (v_m_ups : Nat → Int32) (x1 : Int32) (x2 : Int32) (x3 : Int32) (x4 : Int32) (x5 : Int32) (n : Nat) (r : Int64) (hf : f_X8_cloudsOf n v_m_turns v_m_phases v_m_ups x1 x2 x3 x4 x5 = some r) : Met l yX8_cloudsOf wsX8_cloudsOf rm_X8_cloudsOf (RO (dC, dI) (TY cI cZ cP cS) [.ref h_t, .int x1, .int x2, .int x3, .int x4, .int x5] (wd_X8_cloudsOf cI cZ cP cS h_t h_t_turns h_t_phases h_t_ups h_t_typed h_t_texts h_t_diary h_t_longs h_t_awakes h_t_fit h_t_counts h_t_worths h_t_ripes h_t_growths h_t_gains h_t_isThere h_t_forms h_t_sizes h_t_items h_t_moved v_m_hours v_m_months v_m_fitMany v_m_fitFirst v_m_finding v_m_turns v_m_phases v_m_ups)) (vp_Sl (fun x => x = r)) 0 0 NF := by
  refine Met.ofW (cc := cX8_cloudsOf) (maxL := 11) (ret := (some .long)) (by decide) rfl ?_
  intro p e s m args below meth c s₁ B hml hv
  obtain ⟨rfl, hP, hK⟩ := hv
  have hx := B.exec
  have hb := B.bytes
  have hr := B.returns
  have hts := atoms_spec (ws := wsX8_cloudsOf) B.pre
  have hown : s.vm.findClass RX8 = some m.cls := findClass_of_methodNamed B.named
  have hlocks := B.notSynchronized
  have hl := lv_entry ([.ref h_t, .int x1, .int x2, .int x3, .int x4, .int x5]) (n := 11) (Nat.le_of_ble_eq_true rfl)
  rw [lg_entry_eq]
  generalize (lg_sl ([.ref h_t, .int x1, .int x2, .int x3, .int x4, .int x5]) ++ List.replicate (11 - (lg_sl ([.ref h_t, .int x1, .int x2, .int x3, .int x4, .int x5])).length) Slot.unset).toArray = ls at hl ⊢
  have hl : lv_has ls 11 [(0, .ref h_t), (1, .int x1), (2, .int x2), (3, .int x3), (4, .int x4), (5, .int x5)] := hl
  unfold f_X8_cloudsOf at hf
  refine lv_lconst (v := 1) hx hb dX8_cloudsOf_0 (by decide) ?_
  refine lv_lstore (lv' := [(6, .long 1), (0, .ref h_t), (1, .int x1), (2, .int x2), (3, .int x3), (4, .int x4), (5, .int x5)]) hx hb dX8_cloudsOf_1 hl (by decide) rfl (fun ls hl => ?_)
  refine lv_lconst (v := 1) hx hb dX8_cloudsOf_3 (by decide) ?_
  refine lv_lstore (lv' := [(8, .long 1), (6, .long 1), (0, .ref h_t), (1, .int x1), (2, .int x2), (3, .int x3), (4, .int x4), (5, .int x5)]) hx hb dX8_cloudsOf_4 hl (by decide) rfl (fun ls hl => ?_)
  refine lv_iload_n hx hb dX8_cloudsOf_6 rfl (lv_at hl 4 rfl) ?_
  refine lv_istore (lv' := [(10, .int x2), (8, .long 1), (6, .long 1), (0, .ref h_t), (1, .int x1), (2, .int x2), (3, .int x3), (4, .int x4), (5, .int x5)]) hx hb dX8_cloudsOf_7 hl (by decide) rfl (fun ls hl => ?_)
  obtain ⟨kx9, ekx9, hf⟩ := jn2_e hf
  have hx9 : ∀ (z9_6 : Int64) (z9_8 : Int64) (ls : Array Slot), lv_has ls 11 [(5, .int x5), (6, .long z9_6), (8, .long z9_8)] → kx9 z9_6 z9_8 = some r → W p l e (headSpec wsX8_cloudsOf rm_X8_cloudsOf).room s m ([.ref h_t, .int x1, .int x2, .int x3, .int x4, .int x5] : List Value).toArray below meth c s.heap [] 0 0 (MQ below (vp_Sl (fun x => x = r)) ([.ref h_t, .int x1, .int x2, .int x3, .int x4, .int x5] : List Value).toArray s 0 0 NF) (F0 m 49 ls []) := by
    intro z9_6 z9_8 ls hl hf
    rw [ekx9] at hf
    refine lv_lload hx hb dX8_cloudsOf_49 (lv_at hl 2 rfl) ?_
    refine lv_lload hx hb dX8_cloudsOf_51 (lv_at hl 1 rfl) ?_
    refine lv_lsub hx hb dX8_cloudsOf_53 ?_
    refine lv_lload hx hb dX8_cloudsOf_54 (lv_at hl 2 rfl) ?_
    refine lv_iload hx hb dX8_cloudsOf_56 (lv_at hl 0 rfl) ?_
    obtain ⟨r58_1, hc_2, hf⟩ := bd1_e hf
    refine vp_callSl (va_runS (As := [.long (z9_8 - z9_6), .long z9_8, .int x5]) (rest := []) ⟨hx, hb, hml, hown, hts⟩ (c_X8_lowest l dC dI cI cZ cP cS   (z9_8 - z9_6) z9_8 x5 n r58_1 hc_2) (va_cwS 3 hts gX8_cloudsOf_X8_lowest rfl rfl rfl (by decide +kernel) ⟨Nat.le_of_ble_eq_true rfl, Nat.le_of_ble_eq_true rfl⟩) (ps_ro hK (hP.sub (ws' := ([] : va_W)) [] rfl)) rfl rfl hl.1 rfl (lv_room (Nat.le_of_ble_eq_true rfl)) dX8_cloudsOf_58 ⟨Nat.zero_le _, Nat.zero_le _⟩).run (fun x e_3 => ?_)
    rw [e_3]
    exact W.lret hx hb hr (fun t ht hW => ⟨_, rfl, Option.some.inj hf, ht⟩) (fun _ h => nomatch h) dX8_cloudsOf_61
  have hL9 : ∀ (k9 : Nat) (y9_6 : Int64) (y9_8 : Int64) (y9_10 : Int32) (ls : Array Slot), lv_has ls 11 [(0, .ref h_t), (1, .int x1), (2, .int x2), (3, .int x3), (4, .int x4), (5, .int x5), (6, .long y9_6), (8, .long y9_8), (10, .int y9_10)] → L_X8_cloudsOf_9 n v_m_turns v_m_phases v_m_ups x1 x2 x3 x4 kx9 k9 y9_6 y9_8 y9_10 = some r → W p l e (headSpec wsX8_cloudsOf rm_X8_cloudsOf).room s m ([.ref h_t, .int x1, .int x2, .int x3, .int x4, .int x5] : List Value).toArray below meth c s.heap [] 0 0 (MQ below (vp_Sl (fun x => x = r)) ([.ref h_t, .int x1, .int x2, .int x3, .int x4, .int x5] : List Value).toArray s 0 0 NF) (F0 m 9 ls []) := by
    intro k9
    induction k9 with
    | zero =>
      intro y9_6 y9_8 y9_10 ls hl hf
      exact absurd hf (fun h => Option.some_ne_none _ h.symm)
    | succ k9 ih =>
      intro y9_6 y9_8 y9_10 ls hl hf
      rw [L_X8_cloudsOf_9_s] at hf
      refine lv_iload hx hb dX8_cloudsOf_9 (lv_at hl 8 rfl) ?_
      refine lv_iload_n hx hb dX8_cloudsOf_11 rfl (lv_at hl 2 rfl) ?_
      refine lv_iload_n hx hb dX8_cloudsOf_12 rfl (lv_at hl 3 rfl) ?_
      refine lv_iadd hx hb dX8_cloudsOf_13 ?_
      refine lv_icmp_ge (tgt := 49) hx hb dX8_cloudsOf_14 (by decide) (fun c14 => ?_) (fun c14 => ?_)
      · rw [if_pos c14] at hf
        exact hx9 y9_6 y9_8 ls (lv_sub hl [5, 6, 7] rfl) hf
      · rw [if_neg c14] at hf
        refine lv_aload_n hx hb dX8_cloudsOf_17 rfl (lv_at hl 0 rfl) ?_
        refine lv_iload_n hx hb dX8_cloudsOf_18 rfl (lv_at hl 1 rfl) ?_
        refine lv_iload hx hb dX8_cloudsOf_19 (lv_at hl 8 rfl) ?_
        obtain ⟨r21_4, hc_5, hf⟩ := bd1_e hf
        refine vp_callSi (va_runV (As := [.int x1, .int y9_10]) (rest := []) ⟨hx, hb, hml, hown, hts⟩ (c_X8_isUp l dC dI cI cZ cP cS h_t h_t_turns h_t_phases h_t_ups h_t_typed h_t_texts h_t_diary h_t_longs h_t_awakes h_t_fit h_t_counts h_t_worths h_t_ripes h_t_growths h_t_gains h_t_isThere h_t_forms h_t_sizes h_t_items h_t_moved v_m_hours v_m_months v_m_fitMany v_m_fitFirst v_m_finding v_m_turns v_m_phases v_m_ups x1 y9_10 n r21_4 hc_5) (cwV 2 hts gX8_cloudsOf_X8_isUp rfl rfl rfl (by decide +kernel) ⟨Nat.le_of_ble_eq_true rfl, Nat.le_of_ble_eq_true rfl⟩) (pv_ro (ci := 7) (q0 := 0) hK (hP.sub (ws' := (wd_X8_isUp cI cZ cP cS h_t h_t_turns h_t_phases h_t_ups h_t_typed h_t_texts h_t_diary h_t_longs h_t_awakes h_t_fit h_t_counts h_t_worths h_t_ripes h_t_growths h_t_gains h_t_isThere h_t_forms h_t_sizes h_t_items h_t_moved v_m_hours v_m_months v_m_fitMany v_m_fitFirst v_m_finding v_m_turns v_m_phases v_m_ups)) [0, 1, 2, 3] rfl) rfl rfl) rfl rfl hl.1 rfl (lv_room (Nat.le_of_ble_eq_true rfl)) dX8_cloudsOf_21 ⟨Nat.zero_le _, Nat.zero_le _⟩).run (fun x e_6 => ?_)
        obtain ⟨e_6, hb_7⟩ := e_6
        rw [e_6] at hb_7 ⊢
        obtain ⟨k43, ek43, hf⟩ := jn2_e hf
        have hj43 : ∀ (y43_6 : Int64) (y43_8 : Int64) (ls : Array Slot), lv_has ls 11 [(0, .ref h_t), (1, .int x1), (2, .int x2), (3, .int x3), (4, .int x4), (5, .int x5), (6, .long y43_6), (8, .long y43_8), (10, .int y9_10)] → k43 y43_6 y43_8 = some r → W p l e (headSpec wsX8_cloudsOf rm_X8_cloudsOf).room s m ([.ref h_t, .int x1, .int x2, .int x3, .int x4, .int x5] : List Value).toArray below meth c s.heap [] 0 0 (MQ below (vp_Sl (fun x => x = r)) ([.ref h_t, .int x1, .int x2, .int x3, .int x4, .int x5] : List Value).toArray s 0 0 NF) (F0 m 43 ls []) := by
          intro y43_6 y43_8 ls hl hf
          rw [ek43] at hf
          refine lv_iinc (v := (y9_10 + 1)) (lv' := [(10, .int (y9_10 + 1)), (0, .ref h_t), (1, .int x1), (2, .int x2), (3, .int x3), (4, .int x4), (5, .int x5), (6, .long y43_6), (8, .long y43_8)]) hx hb dX8_cloudsOf_43 hl (k := 8) rfl rfl (by decide) rfl (fun ls hl => ?_)
          refine lv_goto (tgt := 9) hx hb dX8_cloudsOf_46 (by decide) ?_
          exact ih y43_6 y43_8 (y9_10 + 1) ls (lv_sub hl [1, 2, 3, 4, 5, 6, 7, 8, 0] rfl) hf
        refine lv_if_eq (tgt := 43) hx hb dX8_cloudsOf_24 (by decide) (fun c24 => ?_) (fun c24 => ?_)
        · rw [if_pos c24] at hf
          exact hj43 y9_6 y9_8 ls (lv_sub hl [0, 1, 2, 3, 4, 5, 6, 7, 8] rfl) hf
        · rw [if_neg c24] at hf
          refine lv_lload hx hb dX8_cloudsOf_27 (lv_at hl 6 rfl) ?_
          refine lv_iload hx hb dX8_cloudsOf_29 (lv_at hl 4 rfl) ?_
          refine lv_i2l (v := x4.toInt64) hx hb dX8_cloudsOf_31 rfl ?_
          refine lv_lmul hx hb dX8_cloudsOf_32 ?_
          refine lv_lstore (lv' := [(6, .long (y9_6 * (x4.toInt64))), (0, .ref h_t), (1, .int x1), (2, .int x2), (3, .int x3), (4, .int x4), (5, .int x5), (8, .long y9_8), (10, .int y9_10)]) hx hb dX8_cloudsOf_33 hl (by decide) rfl (fun ls hl => ?_)
          refine lv_lload hx hb dX8_cloudsOf_35 (lv_at hl 7 rfl) ?_
          refine lv_ldc2 (v := 16) hx hb hown (hts (.constantLong RX8 215 (16)) (by decide +kernel)) dX8_cloudsOf_37 ?_
          refine lv_lmul hx hb dX8_cloudsOf_40 ?_
          refine lv_lstore (lv' := [(8, .long (y9_8 * 16)), (6, .long (y9_6 * (x4.toInt64))), (0, .ref h_t), (1, .int x1), (2, .int x2), (3, .int x3), (4, .int x4), (5, .int x5), (10, .int y9_10)]) hx hb dX8_cloudsOf_41 hl (by decide) rfl (fun ls hl => ?_)
          exact hj43 (y9_6 * (x4.toInt64)) (y9_8 * 16) ls (lv_sub hl [2, 3, 4, 5, 6, 7, 1, 0, 8] rfl) hf
  exact hL9 n 1 1 x2 ls (lv_sub hl [3, 4, 5, 6, 7, 8, 2, 1, 0] rfl) hf

abbrev rm_X8_isHour : Room := { frames := 1, cells := 0, slots := 0, locals := 22 }
def f_X8_isHour (n : Nat) (x0 : Int32) : Option (Int32) := bd1_ (f_X8_in n x0 0 1000000000) (fun (r4_1 : Int32) => some r4_1)
set_option maxHeartbeats 4000000 in
set_option maxRecDepth 100000 in
theorem c_X8_isHour (l : Launch) (dC : Nat → ClassId) (dI : Nat → Nat → Nat) (cI cZ cP cS : ClassId) (x0 : Int32) (n : Nat) (r : Int32) (hf : f_X8_isHour n x0 = some r) : Met l yX8_isHour wsX8_isHour rm_X8_isHour (RO (dC, dI) (TY cI cZ cP cS) [.int x0] ([] : va_W)) (vp_Si (fun x => x = r ∧ narrow .boolean (.int x) = .int x)) 0 0 NF := by
  refine Met.ofW (cc := cX8_isHour) (maxL := 1) (ret := (some .boolean)) (by decide) rfl ?_
  intro p e s m args below meth c s₁ B hml hv
  obtain ⟨rfl, hP, hK⟩ := hv
  have hx := B.exec
  have hb := B.bytes
  have hr := B.returns
  have hts := atoms_spec (ws := wsX8_isHour) B.pre
  have hown : s.vm.findClass RX8 = some m.cls := findClass_of_methodNamed B.named
  have hlocks := B.notSynchronized
  have hl := lv_entry ([.int x0]) (n := 1) (Nat.le_of_ble_eq_true rfl)
  rw [lg_entry_eq]
  generalize (lg_sl ([.int x0]) ++ List.replicate (1 - (lg_sl ([.int x0])).length) Slot.unset).toArray = ls at hl ⊢
  have hl : lv_has ls 1 [(0, .int x0)] := hl
  unfold f_X8_isHour at hf
  refine lv_iload_n hx hb dX8_isHour_0 rfl (lv_at hl 0 rfl) ?_
  refine lv_iconst (v := 0) hx hb dX8_isHour_1 (by decide) ?_
  refine lv_ldc (v := 1000000000) hx hb hown (hts (.constant RX8 74 (1000000000)) (by decide +kernel)) dX8_isHour_2 ?_
  obtain ⟨r4_1, hc_2, hf⟩ := bd1_e hf
  refine vp_callSi (va_runS (As := [.int x0, .int 0, .int 1000000000]) (rest := []) ⟨hx, hb, hml, hown, hts⟩ (c_X8_in l dC dI cI cZ cP cS   x0 0 1000000000 n r4_1 hc_2) (va_cwS 3 hts gX8_isHour_X8_in rfl rfl rfl (by decide +kernel) ⟨Nat.le_of_ble_eq_true rfl, Nat.le_of_ble_eq_true rfl⟩) (ps_ro hK (hP.sub (ws' := ([] : va_W)) [] rfl)) rfl rfl hl.1 rfl (lv_room (Nat.le_of_ble_eq_true rfl)) dX8_isHour_4 ⟨Nat.zero_le _, Nat.zero_le _⟩).run (fun x e_3 => ?_)
  obtain ⟨e_3, hb_4⟩ := e_3
  rw [e_3] at hb_4 ⊢
  exact W.zret hx hb hr hb_4 (fun t ht hW => ⟨_, rfl, ⟨Option.some.inj hf, hb_4⟩, ht⟩) (fun _ h => nomatch h) dX8_isHour_7

abbrev rm_X8_isSun : Room := { frames := 1, cells := 0, slots := 0, locals := 22 }
def f_X8_isSun (n : Nat) (x0 : Int32) : Option (Int32) := bd1_ (f_X8_in n x0 0 1) (fun (r3_1 : Int32) => some r3_1)
set_option maxHeartbeats 4000000 in
set_option maxRecDepth 100000 in
theorem c_X8_isSun (l : Launch) (dC : Nat → ClassId) (dI : Nat → Nat → Nat) (cI cZ cP cS : ClassId) (x0 : Int32) (n : Nat) (r : Int32) (hf : f_X8_isSun n x0 = some r) : Met l yX8_isSun wsX8_isSun rm_X8_isSun (RO (dC, dI) (TY cI cZ cP cS) [.int x0] ([] : va_W)) (vp_Si (fun x => x = r ∧ narrow .boolean (.int x) = .int x)) 0 0 NF := by
  refine Met.ofW (cc := cX8_isSun) (maxL := 1) (ret := (some .boolean)) (by decide) rfl ?_
  intro p e s m args below meth c s₁ B hml hv
  obtain ⟨rfl, hP, hK⟩ := hv
  have hx := B.exec
  have hb := B.bytes
  have hr := B.returns
  have hts := atoms_spec (ws := wsX8_isSun) B.pre
  have hown : s.vm.findClass RX8 = some m.cls := findClass_of_methodNamed B.named
  have hlocks := B.notSynchronized
  have hl := lv_entry ([.int x0]) (n := 1) (Nat.le_of_ble_eq_true rfl)
  rw [lg_entry_eq]
  generalize (lg_sl ([.int x0]) ++ List.replicate (1 - (lg_sl ([.int x0])).length) Slot.unset).toArray = ls at hl ⊢
  have hl : lv_has ls 1 [(0, .int x0)] := hl
  unfold f_X8_isSun at hf
  refine lv_iload_n hx hb dX8_isSun_0 rfl (lv_at hl 0 rfl) ?_
  refine lv_iconst (v := 0) hx hb dX8_isSun_1 (by decide) ?_
  refine lv_iconst (v := 1) hx hb dX8_isSun_2 (by decide) ?_
  obtain ⟨r3_1, hc_2, hf⟩ := bd1_e hf
  refine vp_callSi (va_runS (As := [.int x0, .int 0, .int 1]) (rest := []) ⟨hx, hb, hml, hown, hts⟩ (c_X8_in l dC dI cI cZ cP cS   x0 0 1 n r3_1 hc_2) (va_cwS 3 hts gX8_isSun_X8_in rfl rfl rfl (by decide +kernel) ⟨Nat.le_of_ble_eq_true rfl, Nat.le_of_ble_eq_true rfl⟩) (ps_ro hK (hP.sub (ws' := ([] : va_W)) [] rfl)) rfl rfl hl.1 rfl (lv_room (Nat.le_of_ble_eq_true rfl)) dX8_isSun_3 ⟨Nat.zero_le _, Nat.zero_le _⟩).run (fun x e_3 => ?_)
  obtain ⟨e_3, hb_4⟩ := e_3
  rw [e_3] at hb_4 ⊢
  exact W.zret hx hb hr hb_4 (fun t ht hW => ⟨_, rfl, ⟨Option.some.inj hf, hb_4⟩, ht⟩) (fun _ h => nomatch h) dX8_isSun_6

abbrev rm_X8_no : Room := { frames := 0, cells := 0, slots := 0, locals := 0 }
def f_X8_no (n : Nat) (x0 : Int32) : Option (Int64) := some ((-9223372036854775808) - (x0.toInt64))
set_option maxHeartbeats 4000000 in
set_option maxRecDepth 100000 in
theorem c_X8_no (l : Launch) (dC : Nat → ClassId) (dI : Nat → Nat → Nat) (cI cZ cP cS : ClassId) (x0 : Int32) (n : Nat) (r : Int64) (hf : f_X8_no n x0 = some r) : Met l yX8_no wsX8_no rm_X8_no (RO (dC, dI) (TY cI cZ cP cS) [.int x0] ([] : va_W)) (vp_Sl (fun x => x = r)) 0 0 NF := by
  refine Met.ofW (cc := cX8_no) (maxL := 1) (ret := (some .long)) (by decide) rfl ?_
  intro p e s m args below meth c s₁ B hml hv
  obtain ⟨rfl, hP, hK⟩ := hv
  have hx := B.exec
  have hb := B.bytes
  have hr := B.returns
  have hts := atoms_spec (ws := wsX8_no) B.pre
  have hown : s.vm.findClass RX8 = some m.cls := findClass_of_methodNamed B.named
  have hlocks := B.notSynchronized
  have hl := lv_entry ([.int x0]) (n := 1) (Nat.le_of_ble_eq_true rfl)
  rw [lg_entry_eq]
  generalize (lg_sl ([.int x0]) ++ List.replicate (1 - (lg_sl ([.int x0])).length) Slot.unset).toArray = ls at hl ⊢
  have hl : lv_has ls 1 [(0, .int x0)] := hl
  unfold f_X8_no at hf
  refine lv_ldc2 (v := (-9223372036854775808)) hx hb hown (hts (.constantLong RX8 68 (-9223372036854775808)) (by decide +kernel)) dX8_no_0 ?_
  refine lv_iload_n hx hb dX8_no_3 rfl (lv_at hl 0 rfl) ?_
  refine lv_i2l (v := x0.toInt64) hx hb dX8_no_4 rfl ?_
  refine lv_lsub hx hb dX8_no_5 ?_
  exact W.lret hx hb hr (fun t ht hW => ⟨_, rfl, Option.some.inj hf, ht⟩) (fun _ h => nomatch h) dX8_no_6

abbrev wd_X8_clouds (cI cZ cP cS : ClassId) (h_t h_t_turns h_t_phases h_t_ups h_t_typed h_t_texts h_t_diary h_t_longs h_t_awakes h_t_fit h_t_counts h_t_worths h_t_ripes h_t_growths h_t_gains h_t_isThere h_t_forms h_t_sizes h_t_items h_t_moved : Nat) (v_m_hours : Int32) (v_m_months : Int32) (v_m_fitMany : Int32) (v_m_fitFirst : Int32) (v_m_finding : Int32) (v_m_turns : Nat → Int32) (v_m_phases : Nat → Int32) (v_m_ups : Nat → Int32) : va_W := [(h_t, .inr (7, [.ref h_t_turns, .ref h_t_phases, .ref h_t_ups, .ref h_t_typed, .ref h_t_texts, .int v_m_hours, .ref h_t_diary, .int v_m_months, .ref h_t_longs, .ref h_t_awakes, .ref h_t_fit, .int v_m_fitMany, .int v_m_fitFirst, .ref h_t_counts, .ref h_t_worths, .ref h_t_ripes, .ref h_t_growths, .ref h_t_gains, .ref h_t_isThere, .ref h_t_forms, .ref h_t_sizes, .ref h_t_items, .ref h_t_moved, .int v_m_finding])), (h_t_turns, .inl (cI, 2, .inl v_m_turns)), (h_t_phases, .inl (cI, 2, .inl v_m_phases)), (h_t_ups, .inl (cI, 2, .inl v_m_ups))]
abbrev rm_X8_clouds : Room := { frames := 3, cells := 0, slots := 0, locals := 74 }
def f_X8_clouds (n : Nat) (v_m_turns : Nat → Int32) (v_m_phases : Nat → Int32) (v_m_ups : Nat → Int32) (x1 : Int32) (x2 : Int32) (x3 : Int32) (x4 : Int32) (x5 : Int32) : Option (Int64) := bd1_ (f_X8_isSun n x1) (fun (r1_1 : Int32) => jn0_ (bd1_ (f_X8_no n (-2)) (fun (r61_5 : Int64) => some r61_5)) (fun k59 => if r1_1 = 0 then k59 else bd1_ (f_X8_isHour n x2) (fun (r8_8 : Int32) => if r8_8 = 0 then k59 else bd1_ (f_X8_in n x3 0 14) (fun (r18_12 : Int32) => if r18_12 = 0 then k59 else bd1_ (f_X8_in n x4 0 16) (fun (r29_16 : Int32) => if r29_16 = 0 then k59 else bd1_ (f_X8_in n x5 0 1) (fun (r39_20 : Int32) => if r39_20 = 0 then k59 else bd1_ (f_X8_cloudsOf n v_m_turns v_m_phases v_m_ups x1 x2 x3 x4 x5) (fun (r53_24 : Int64) => some r53_24)))))))
set_option maxHeartbeats 4000000 in
set_option maxRecDepth 100000 in
theorem c_X8_clouds (l : Launch) (dC : Nat → ClassId) (dI : Nat → Nat → Nat) (cI cZ cP cS : ClassId) (h_t h_t_turns h_t_phases h_t_ups h_t_typed h_t_texts h_t_diary h_t_longs h_t_awakes h_t_fit h_t_counts h_t_worths h_t_ripes h_t_growths h_t_gains h_t_isThere h_t_forms h_t_sizes h_t_items h_t_moved : Nat) (v_m_hours : Int32) (v_m_months : Int32) (v_m_fitMany : Int32) (v_m_fitFirst : Int32) (v_m_finding : Int32) (v_m_turns : Nat → Int32) (v_m_phases : Nat → Int32) (v_m_ups : Nat → Int32) (x1 : Int32) (x2 : Int32) (x3 : Int32) (x4 : Int32) (x5 : Int32) (n : Nat) (r : Int64) (hf : f_X8_clouds n v_m_turns v_m_phases v_m_ups x1 x2 x3 x4 x5 = some r) : Met l yX8_clouds wsX8_clouds rm_X8_clouds (RO (dC, dI) (TY cI cZ cP cS) [.ref h_t, .int x1, .int x2, .int x3, .int x4, .int x5] (wd_X8_clouds cI cZ cP cS h_t h_t_turns h_t_phases h_t_ups h_t_typed h_t_texts h_t_diary h_t_longs h_t_awakes h_t_fit h_t_counts h_t_worths h_t_ripes h_t_growths h_t_gains h_t_isThere h_t_forms h_t_sizes h_t_items h_t_moved v_m_hours v_m_months v_m_fitMany v_m_fitFirst v_m_finding v_m_turns v_m_phases v_m_ups)) (vp_Sl (fun x => x = r)) 0 0 NF := by
  refine Met.ofW (cc := cX8_clouds) (maxL := 6) (ret := (some .long)) (by decide) rfl ?_
  intro p e s m args below meth c s₁ B hml hv
  obtain ⟨rfl, hP, hK⟩ := hv
  have hx := B.exec
  have hb := B.bytes
  have hr := B.returns
  have hts := atoms_spec (ws := wsX8_clouds) B.pre
  have hown : s.vm.findClass RX8 = some m.cls := findClass_of_methodNamed B.named
  have hlocks := B.notSynchronized
  have hl := lv_entry ([.ref h_t, .int x1, .int x2, .int x3, .int x4, .int x5]) (n := 6) (Nat.le_of_ble_eq_true rfl)
  rw [lg_entry_eq]
  generalize (lg_sl ([.ref h_t, .int x1, .int x2, .int x3, .int x4, .int x5]) ++ List.replicate (6 - (lg_sl ([.ref h_t, .int x1, .int x2, .int x3, .int x4, .int x5])).length) Slot.unset).toArray = ls at hl ⊢
  have hl : lv_has ls 6 [(0, .ref h_t), (1, .int x1), (2, .int x2), (3, .int x3), (4, .int x4), (5, .int x5)] := hl
  unfold f_X8_clouds at hf
  refine lv_iload_n hx hb dX8_clouds_0 rfl (lv_at hl 1 rfl) ?_
  obtain ⟨r1_1, hc_2, hf⟩ := bd1_e hf
  refine vp_callSi (va_runS (As := [.int x1]) (rest := []) ⟨hx, hb, hml, hown, hts⟩ (c_X8_isSun l dC dI cI cZ cP cS   x1 n r1_1 hc_2) (va_cwS 1 hts gX8_clouds_X8_isSun rfl rfl rfl (by decide +kernel) ⟨Nat.le_of_ble_eq_true rfl, Nat.le_of_ble_eq_true rfl⟩) (ps_ro hK (hP.sub (ws' := ([] : va_W)) [] rfl)) rfl rfl hl.1 rfl (lv_room (Nat.le_of_ble_eq_true rfl)) dX8_clouds_1 ⟨Nat.zero_le _, Nat.zero_le _⟩).run (fun x e_3 => ?_)
  obtain ⟨e_3, hb_4⟩ := e_3
  rw [e_3] at hb_4 ⊢
  obtain ⟨k59, ek59, hf⟩ := jn0_e hf
  have hj59 : ∀ (ls : Array Slot), lv_has ls 6 [] → k59 = some r → W p l e (headSpec wsX8_clouds rm_X8_clouds).room s m ([.ref h_t, .int x1, .int x2, .int x3, .int x4, .int x5] : List Value).toArray below meth c s.heap [] 0 0 (MQ below (vp_Sl (fun x => x = r)) ([.ref h_t, .int x1, .int x2, .int x3, .int x4, .int x5] : List Value).toArray s 0 0 NF) (F0 m 59 ls []) := by
    intro ls hl hf
    rw [ek59] at hf
    refine lv_bipush (v := (-2)) hx hb dX8_clouds_59 (by decide) ?_
    obtain ⟨r61_5, hc_6, hf⟩ := bd1_e hf
    refine vp_callSl (va_runS (As := [.int (-2)]) (rest := []) ⟨hx, hb, hml, hown, hts⟩ (c_X8_no l dC dI cI cZ cP cS   (-2) n r61_5 hc_6) (va_cwS 1 hts gX8_clouds_X8_no rfl rfl rfl (by decide +kernel) ⟨Nat.le_of_ble_eq_true rfl, Nat.le_of_ble_eq_true rfl⟩) (ps_ro hK (hP.sub (ws' := ([] : va_W)) [] rfl)) rfl rfl hl.1 rfl (lv_room (Nat.le_of_ble_eq_true rfl)) dX8_clouds_61 ⟨Nat.zero_le _, Nat.zero_le _⟩).run (fun x e_7 => ?_)
    rw [e_7]
    exact W.lret hx hb hr (fun t ht hW => ⟨_, rfl, Option.some.inj hf, ht⟩) (fun _ h => nomatch h) dX8_clouds_64
  refine lv_if_eq (tgt := 59) hx hb dX8_clouds_4 (by decide) (fun c4 => ?_) (fun c4 => ?_)
  · rw [if_pos c4] at hf
    exact hj59 ls (lv_sub hl [] rfl) hf
  · rw [if_neg c4] at hf
    refine lv_iload_n hx hb dX8_clouds_7 rfl (lv_at hl 2 rfl) ?_
    obtain ⟨r8_8, hc_9, hf⟩ := bd1_e hf
    refine vp_callSi (va_runS (As := [.int x2]) (rest := []) ⟨hx, hb, hml, hown, hts⟩ (c_X8_isHour l dC dI cI cZ cP cS   x2 n r8_8 hc_9) (va_cwS 1 hts gX8_clouds_X8_isHour rfl rfl rfl (by decide +kernel) ⟨Nat.le_of_ble_eq_true rfl, Nat.le_of_ble_eq_true rfl⟩) (ps_ro hK (hP.sub (ws' := ([] : va_W)) [] rfl)) rfl rfl hl.1 rfl (lv_room (Nat.le_of_ble_eq_true rfl)) dX8_clouds_8 ⟨Nat.zero_le _, Nat.zero_le _⟩).run (fun x e_10 => ?_)
    obtain ⟨e_10, hb_11⟩ := e_10
    rw [e_10] at hb_11 ⊢
    refine lv_if_eq (tgt := 59) hx hb dX8_clouds_11 (by decide) (fun c11 => ?_) (fun c11 => ?_)
    · rw [if_pos c11] at hf
      exact hj59 ls (lv_sub hl [] rfl) hf
    · rw [if_neg c11] at hf
      refine lv_iload_n hx hb dX8_clouds_14 rfl (lv_at hl 3 rfl) ?_
      refine lv_iconst (v := 0) hx hb dX8_clouds_15 (by decide) ?_
      refine lv_bipush (v := 14) hx hb dX8_clouds_16 (by decide) ?_
      obtain ⟨r18_12, hc_13, hf⟩ := bd1_e hf
      refine vp_callSi (va_runS (As := [.int x3, .int 0, .int 14]) (rest := []) ⟨hx, hb, hml, hown, hts⟩ (c_X8_in l dC dI cI cZ cP cS   x3 0 14 n r18_12 hc_13) (va_cwS 3 hts gX8_clouds_X8_in rfl rfl rfl (by decide +kernel) ⟨Nat.le_of_ble_eq_true rfl, Nat.le_of_ble_eq_true rfl⟩) (ps_ro hK (hP.sub (ws' := ([] : va_W)) [] rfl)) rfl rfl hl.1 rfl (lv_room (Nat.le_of_ble_eq_true rfl)) dX8_clouds_18 ⟨Nat.zero_le _, Nat.zero_le _⟩).run (fun x e_14 => ?_)
      obtain ⟨e_14, hb_15⟩ := e_14
      rw [e_14] at hb_15 ⊢
      refine lv_if_eq (tgt := 59) hx hb dX8_clouds_21 (by decide) (fun c21 => ?_) (fun c21 => ?_)
      · rw [if_pos c21] at hf
        exact hj59 ls (lv_sub hl [] rfl) hf
      · rw [if_neg c21] at hf
        refine lv_iload hx hb dX8_clouds_24 (lv_at hl 4 rfl) ?_
        refine lv_iconst (v := 0) hx hb dX8_clouds_26 (by decide) ?_
        refine lv_bipush (v := 16) hx hb dX8_clouds_27 (by decide) ?_
        obtain ⟨r29_16, hc_17, hf⟩ := bd1_e hf
        refine vp_callSi (va_runS (As := [.int x4, .int 0, .int 16]) (rest := []) ⟨hx, hb, hml, hown, hts⟩ (c_X8_in l dC dI cI cZ cP cS   x4 0 16 n r29_16 hc_17) (va_cwS 3 hts gX8_clouds_X8_in rfl rfl rfl (by decide +kernel) ⟨Nat.le_of_ble_eq_true rfl, Nat.le_of_ble_eq_true rfl⟩) (ps_ro hK (hP.sub (ws' := ([] : va_W)) [] rfl)) rfl rfl hl.1 rfl (lv_room (Nat.le_of_ble_eq_true rfl)) dX8_clouds_29 ⟨Nat.zero_le _, Nat.zero_le _⟩).run (fun x e_18 => ?_)
        obtain ⟨e_18, hb_19⟩ := e_18
        rw [e_18] at hb_19 ⊢
        refine lv_if_eq (tgt := 59) hx hb dX8_clouds_32 (by decide) (fun c32 => ?_) (fun c32 => ?_)
        · rw [if_pos c32] at hf
          exact hj59 ls (lv_sub hl [] rfl) hf
        · rw [if_neg c32] at hf
          refine lv_iload hx hb dX8_clouds_35 (lv_at hl 5 rfl) ?_
          refine lv_iconst (v := 0) hx hb dX8_clouds_37 (by decide) ?_
          refine lv_iconst (v := 1) hx hb dX8_clouds_38 (by decide) ?_
          obtain ⟨r39_20, hc_21, hf⟩ := bd1_e hf
          refine vp_callSi (va_runS (As := [.int x5, .int 0, .int 1]) (rest := []) ⟨hx, hb, hml, hown, hts⟩ (c_X8_in l dC dI cI cZ cP cS   x5 0 1 n r39_20 hc_21) (va_cwS 3 hts gX8_clouds_X8_in rfl rfl rfl (by decide +kernel) ⟨Nat.le_of_ble_eq_true rfl, Nat.le_of_ble_eq_true rfl⟩) (ps_ro hK (hP.sub (ws' := ([] : va_W)) [] rfl)) rfl rfl hl.1 rfl (lv_room (Nat.le_of_ble_eq_true rfl)) dX8_clouds_39 ⟨Nat.zero_le _, Nat.zero_le _⟩).run (fun x e_22 => ?_)
          obtain ⟨e_22, hb_23⟩ := e_22
          rw [e_22] at hb_23 ⊢
          refine lv_if_eq (tgt := 59) hx hb dX8_clouds_42 (by decide) (fun c42 => ?_) (fun c42 => ?_)
          · rw [if_pos c42] at hf
            exact hj59 ls (lv_sub hl [] rfl) hf
          · rw [if_neg c42] at hf
            refine lv_aload_n hx hb dX8_clouds_45 rfl (lv_at hl 0 rfl) ?_
            refine lv_iload_n hx hb dX8_clouds_46 rfl (lv_at hl 1 rfl) ?_
            refine lv_iload_n hx hb dX8_clouds_47 rfl (lv_at hl 2 rfl) ?_
            refine lv_iload_n hx hb dX8_clouds_48 rfl (lv_at hl 3 rfl) ?_
            refine lv_iload hx hb dX8_clouds_49 (lv_at hl 4 rfl) ?_
            refine lv_iload hx hb dX8_clouds_51 (lv_at hl 5 rfl) ?_
            obtain ⟨r53_24, hc_25, hf⟩ := bd1_e hf
            refine vp_callSl (va_runV (As := [.int x1, .int x2, .int x3, .int x4, .int x5]) (rest := []) ⟨hx, hb, hml, hown, hts⟩ (c_X8_cloudsOf l dC dI cI cZ cP cS h_t h_t_turns h_t_phases h_t_ups h_t_typed h_t_texts h_t_diary h_t_longs h_t_awakes h_t_fit h_t_counts h_t_worths h_t_ripes h_t_growths h_t_gains h_t_isThere h_t_forms h_t_sizes h_t_items h_t_moved v_m_hours v_m_months v_m_fitMany v_m_fitFirst v_m_finding v_m_turns v_m_phases v_m_ups x1 x2 x3 x4 x5 n r53_24 hc_25) (cwV 5 hts gX8_clouds_X8_cloudsOf rfl rfl rfl (by decide +kernel) ⟨Nat.le_of_ble_eq_true rfl, Nat.le_of_ble_eq_true rfl⟩) (pv_ro (ci := 7) (q0 := 0) hK (hP.sub (ws' := (wd_X8_cloudsOf cI cZ cP cS h_t h_t_turns h_t_phases h_t_ups h_t_typed h_t_texts h_t_diary h_t_longs h_t_awakes h_t_fit h_t_counts h_t_worths h_t_ripes h_t_growths h_t_gains h_t_isThere h_t_forms h_t_sizes h_t_items h_t_moved v_m_hours v_m_months v_m_fitMany v_m_fitFirst v_m_finding v_m_turns v_m_phases v_m_ups)) [0, 1, 2, 3] rfl) rfl rfl) rfl rfl hl.1 rfl (lv_room (Nat.le_of_ble_eq_true rfl)) dX8_clouds_53 ⟨Nat.zero_le _, Nat.zero_le _⟩).run (fun x e_26 => ?_)
            rw [e_26]
            refine lv_goto (tgt := 64) hx hb dX8_clouds_56 (by decide) ?_
            exact W.lret hx hb hr (fun t ht hW => ⟨_, rfl, Option.some.inj hf, ht⟩) (fun _ h => nomatch h) dX8_clouds_64

abbrev rm_X8_isSheet : Room := { frames := 1, cells := 0, slots := 0, locals := 22 }
def f_X8_isSheet (n : Nat) (x0 : Int32) : Option (Int32) := bd1_ (f_X8_in n x0 0 3) (fun (r3_1 : Int32) => some r3_1)
set_option maxHeartbeats 4000000 in
set_option maxRecDepth 100000 in
theorem c_X8_isSheet (l : Launch) (dC : Nat → ClassId) (dI : Nat → Nat → Nat) (cI cZ cP cS : ClassId) (x0 : Int32) (n : Nat) (r : Int32) (hf : f_X8_isSheet n x0 = some r) : Met l yX8_isSheet wsX8_isSheet rm_X8_isSheet (RO (dC, dI) (TY cI cZ cP cS) [.int x0] ([] : va_W)) (vp_Si (fun x => x = r ∧ narrow .boolean (.int x) = .int x)) 0 0 NF := by
  refine Met.ofW (cc := cX8_isSheet) (maxL := 1) (ret := (some .boolean)) (by decide) rfl ?_
  intro p e s m args below meth c s₁ B hml hv
  obtain ⟨rfl, hP, hK⟩ := hv
  have hx := B.exec
  have hb := B.bytes
  have hr := B.returns
  have hts := atoms_spec (ws := wsX8_isSheet) B.pre
  have hown : s.vm.findClass RX8 = some m.cls := findClass_of_methodNamed B.named
  have hlocks := B.notSynchronized
  have hl := lv_entry ([.int x0]) (n := 1) (Nat.le_of_ble_eq_true rfl)
  rw [lg_entry_eq]
  generalize (lg_sl ([.int x0]) ++ List.replicate (1 - (lg_sl ([.int x0])).length) Slot.unset).toArray = ls at hl ⊢
  have hl : lv_has ls 1 [(0, .int x0)] := hl
  unfold f_X8_isSheet at hf
  refine lv_iload_n hx hb dX8_isSheet_0 rfl (lv_at hl 0 rfl) ?_
  refine lv_iconst (v := 0) hx hb dX8_isSheet_1 (by decide) ?_
  refine lv_iconst (v := 3) hx hb dX8_isSheet_2 (by decide) ?_
  obtain ⟨r3_1, hc_2, hf⟩ := bd1_e hf
  refine vp_callSi (va_runS (As := [.int x0, .int 0, .int 3]) (rest := []) ⟨hx, hb, hml, hown, hts⟩ (c_X8_in l dC dI cI cZ cP cS   x0 0 3 n r3_1 hc_2) (va_cwS 3 hts gX8_isSheet_X8_in rfl rfl rfl (by decide +kernel) ⟨Nat.le_of_ble_eq_true rfl, Nat.le_of_ble_eq_true rfl⟩) (ps_ro hK (hP.sub (ws' := ([] : va_W)) [] rfl)) rfl rfl hl.1 rfl (lv_room (Nat.le_of_ble_eq_true rfl)) dX8_isSheet_3 ⟨Nat.zero_le _, Nat.zero_le _⟩).run (fun x e_3 => ?_)
  obtain ⟨e_3, hb_4⟩ := e_3
  rw [e_3] at hb_4 ⊢
  exact W.zret hx hb hr hb_4 (fun t ht hW => ⟨_, rfl, ⟨Option.some.inj hf, hb_4⟩, ht⟩) (fun _ h => nomatch h) dX8_isSheet_6

abbrev wd_X8_meets (cI cZ cP cS : ClassId) (h_t h_t_turns h_t_phases h_t_ups h_t_typed h_t_texts h_t_diary h_t_longs h_t_awakes h_t_fit h_t_counts h_t_worths h_t_ripes h_t_growths h_t_gains h_t_isThere h_t_forms h_t_sizes h_t_items h_t_moved : Nat) (v_m_hours : Int32) (v_m_months : Int32) (v_m_fitMany : Int32) (v_m_fitFirst : Int32) (v_m_finding : Int32) : va_W := [(h_t, .inr (7, [.ref h_t_turns, .ref h_t_phases, .ref h_t_ups, .ref h_t_typed, .ref h_t_texts, .int v_m_hours, .ref h_t_diary, .int v_m_months, .ref h_t_longs, .ref h_t_awakes, .ref h_t_fit, .int v_m_fitMany, .int v_m_fitFirst, .ref h_t_counts, .ref h_t_worths, .ref h_t_ripes, .ref h_t_growths, .ref h_t_gains, .ref h_t_isThere, .ref h_t_forms, .ref h_t_sizes, .ref h_t_items, .ref h_t_moved, .int v_m_finding]))]
abbrev rm_X8_meets : Room := { frames := 0, cells := 0, slots := 0, locals := 0 }
def f_X8_meets (n : Nat) (v_m_finding : Int32) (x1 : Int32) : Option (Int32 × Int32) := some (((-10) - x1), x1)
set_option maxHeartbeats 4000000 in
set_option maxRecDepth 100000 in
theorem c_X8_meets (l : Launch) (dC : Nat → ClassId) (dI : Nat → Nat → Nat) (cI cZ cP cS : ClassId) (sz : Nat) (h_t h_t_turns h_t_phases h_t_ups h_t_typed h_t_texts h_t_diary h_t_longs h_t_awakes h_t_fit h_t_counts h_t_worths h_t_ripes h_t_growths h_t_gains h_t_isThere h_t_forms h_t_sizes h_t_items h_t_moved : Nat) (v_m_hours : Int32) (v_m_months : Int32) (v_m_fitMany : Int32) (v_m_fitFirst : Int32) (v_m_finding : Int32) (x1 : Int32) (n : Nat) (r : Int32) (o_m_finding : Int32) (hf : f_X8_meets n v_m_finding x1 = some (r, o_m_finding)) : Met l yX8_meets wsX8_meets rm_X8_meets (RW (dC, dI) (TY cI cZ cP cS) [.ref h_t, .int x1] sz (wd_X8_meets cI cZ cP cS h_t h_t_turns h_t_phases h_t_ups h_t_typed h_t_texts h_t_diary h_t_longs h_t_awakes h_t_fit h_t_counts h_t_worths h_t_ripes h_t_growths h_t_gains h_t_isThere h_t_forms h_t_sizes h_t_items h_t_moved v_m_hours v_m_months v_m_fitMany v_m_fitFirst v_m_finding)) (RWi (dC, dI) (TY cI cZ cP cS) r sz (wd_X8_meets cI cZ cP cS h_t h_t_turns h_t_phases h_t_ups h_t_typed h_t_texts h_t_diary h_t_longs h_t_awakes h_t_fit h_t_counts h_t_worths h_t_ripes h_t_growths h_t_gains h_t_isThere h_t_forms h_t_sizes h_t_items h_t_moved v_m_hours v_m_months v_m_fitMany v_m_fitFirst v_m_finding) (wd_X8_meets cI cZ cP cS h_t h_t_turns h_t_phases h_t_ups h_t_typed h_t_texts h_t_diary h_t_longs h_t_awakes h_t_fit h_t_counts h_t_worths h_t_ripes h_t_growths h_t_gains h_t_isThere h_t_forms h_t_sizes h_t_items h_t_moved v_m_hours v_m_months v_m_fitMany v_m_fitFirst o_m_finding)) 0 0 (va_A (wd_X8_meets cI cZ cP cS h_t h_t_turns h_t_phases h_t_ups h_t_typed h_t_texts h_t_diary h_t_longs h_t_awakes h_t_fit h_t_counts h_t_worths h_t_ripes h_t_growths h_t_gains h_t_isThere h_t_forms h_t_sizes h_t_items h_t_moved v_m_hours v_m_months v_m_fitMany v_m_fitFirst v_m_finding) sz) := by
  refine Met.ofW (cc := cX8_meets) (maxL := 2) (ret := (some .int)) (by decide) rfl ?_
  intro p e s m args below meth c s₁ B hml hv
  obtain ⟨rfl, hsz, hP, hK, hD0⟩ := hv
  have hx := B.exec
  have hb := B.bytes
  have hr := B.returns
  have hts := atoms_spec (ws := wsX8_meets) B.pre
  have hown : s.vm.findClass RX8 = some m.cls := findClass_of_methodNamed B.named
  have hlocks := B.notSynchronized
  subst hsz
  have hD := hD0.self (sz := s.heap.size)
  have hA : ∀ q : Nat, s.heap.size ≤ q → (va_A (wd_X8_meets cI cZ cP cS h_t h_t_turns h_t_phases h_t_ups h_t_typed h_t_texts h_t_diary h_t_longs h_t_awakes h_t_fit h_t_counts h_t_worths h_t_ripes h_t_growths h_t_gains h_t_isThere h_t_forms h_t_sizes h_t_items h_t_moved v_m_hours v_m_months v_m_fitMany v_m_fitFirst v_m_finding) s.heap.size) q := fun q h => Or.inr h
  have hS : va_S (va_A (wd_X8_meets cI cZ cP cS h_t h_t_turns h_t_phases h_t_ups h_t_typed h_t_texts h_t_diary h_t_longs h_t_awakes h_t_fit h_t_counts h_t_worths h_t_ripes h_t_growths h_t_gains h_t_isThere h_t_forms h_t_sizes h_t_items h_t_moved v_m_hours v_m_months v_m_fitMany v_m_fitFirst v_m_finding) s.heap.size) s.heap s.heap [] := va_S.rf
  have hinX8 : ∀ w ∈ wsX80, w ∈ wsX8_meets := by decide +kernel
  have hl := lv_entry ([.ref h_t, .int x1]) (n := 2) (Nat.le_of_ble_eq_true rfl)
  rw [lg_entry_eq]
  generalize (lg_sl ([.ref h_t, .int x1]) ++ List.replicate (2 - (lg_sl ([.ref h_t, .int x1])).length) Slot.unset).toArray = ls at hl ⊢
  have hl : lv_has ls 2 [(0, .ref h_t), (1, .int x1)] := hl
  obtain ⟨H, hH⟩ : ∃ H : Heap, H = s.heap := ⟨_, rfl⟩
  have hP : va_P (dC, dI) vwCl (wd_X8_meets cI cZ cP cS h_t h_t_turns h_t_phases h_t_ups h_t_typed h_t_texts h_t_diary h_t_longs h_t_awakes h_t_fit h_t_counts h_t_worths h_t_ripes h_t_growths h_t_gains h_t_isThere h_t_forms h_t_sizes h_t_items h_t_moved v_m_hours v_m_months v_m_fitMany v_m_fitFirst v_m_finding) H := by rw [hH]; exact hP
  have hS : va_S (va_A (wd_X8_meets cI cZ cP cS h_t h_t_turns h_t_phases h_t_ups h_t_typed h_t_texts h_t_diary h_t_longs h_t_awakes h_t_fit h_t_counts h_t_worths h_t_ripes h_t_growths h_t_gains h_t_isThere h_t_forms h_t_sizes h_t_items h_t_moved v_m_hours v_m_months v_m_fitMany v_m_fitFirst v_m_finding) s.heap.size) s.heap H [] := by rw [hH]; exact hS
  obtain ⟨locs, hlo⟩ : ∃ L : List Loc, L = [] := ⟨_, rfl⟩
  rw [← hlo] at hS
  suffices hgo : W p l e (headSpec wsX8_meets rm_X8_meets).room s m ([.ref h_t, .int x1] : List Value).toArray below meth c H locs 0 0 (MQ below (RWi (dC, dI) (TY cI cZ cP cS) r s.heap.size (wd_X8_meets cI cZ cP cS h_t h_t_turns h_t_phases h_t_ups h_t_typed h_t_texts h_t_diary h_t_longs h_t_awakes h_t_fit h_t_counts h_t_worths h_t_ripes h_t_growths h_t_gains h_t_isThere h_t_forms h_t_sizes h_t_items h_t_moved v_m_hours v_m_months v_m_fitMany v_m_fitFirst v_m_finding) (wd_X8_meets cI cZ cP cS h_t h_t_turns h_t_phases h_t_ups h_t_typed h_t_texts h_t_diary h_t_longs h_t_awakes h_t_fit h_t_counts h_t_worths h_t_ripes h_t_growths h_t_gains h_t_isThere h_t_forms h_t_sizes h_t_items h_t_moved v_m_hours v_m_months v_m_fitMany v_m_fitFirst o_m_finding)) ([.ref h_t, .int x1] : List Value).toArray s 0 0 (va_A (wd_X8_meets cI cZ cP cS h_t h_t_turns h_t_phases h_t_ups h_t_typed h_t_texts h_t_diary h_t_longs h_t_awakes h_t_fit h_t_counts h_t_worths h_t_ripes h_t_growths h_t_gains h_t_isThere h_t_forms h_t_sizes h_t_items h_t_moved v_m_hours v_m_months v_m_fitMany v_m_fitFirst v_m_finding) s.heap.size)) (F0 m 0 ls []) by rw [hH, hlo] at hgo; exact hgo
  clear hH hlo
  unfold f_X8_meets at hf
  refine lv_aload_n hx hb dX8_meets_0 rfl (lv_at hl 0 rfl) ?_
  refine lv_iload_n hx hb dX8_meets_1 rfl (lv_at hl 1 rfl) ?_
  refine va_put (D := (dC, dI)) (ci := 7) (v := .int x1) (ty := .int) (C := RX8) (T := TX8) (N := 24) hx hb hts hinX8 tyX8 tyX8_ok nmX8 hown hK hP hD hS 0 rfl rfl 23 (by decide) (hts (.fieldLink RX8 229 "SecondSunriseModel" "finding" "I") (by decide +kernel)) (fun _ h9 => h9) rfl (by decide +kernel) rfl rfl (Nat.le_of_ble_eq_true rfl) dX8_meets_2 (fun H locs hP hD hS => ?_)
  have hP : va_P (dC, dI) vwCl (wd_X8_meets cI cZ cP cS h_t h_t_turns h_t_phases h_t_ups h_t_typed h_t_texts h_t_diary h_t_longs h_t_awakes h_t_fit h_t_counts h_t_worths h_t_ripes h_t_growths h_t_gains h_t_isThere h_t_forms h_t_sizes h_t_items h_t_moved v_m_hours v_m_months v_m_fitMany v_m_fitFirst x1) H := hP
  have hD : va_D (va_A (wd_X8_meets cI cZ cP cS h_t h_t_turns h_t_phases h_t_ups h_t_typed h_t_texts h_t_diary h_t_longs h_t_awakes h_t_fit h_t_counts h_t_worths h_t_ripes h_t_growths h_t_gains h_t_isThere h_t_forms h_t_sizes h_t_items h_t_moved v_m_hours v_m_months v_m_fitMany v_m_fitFirst v_m_finding) s.heap.size) (wd_X8_meets cI cZ cP cS h_t h_t_turns h_t_phases h_t_ups h_t_typed h_t_texts h_t_diary h_t_longs h_t_awakes h_t_fit h_t_counts h_t_worths h_t_ripes h_t_growths h_t_gains h_t_isThere h_t_forms h_t_sizes h_t_items h_t_moved v_m_hours v_m_months v_m_fitMany v_m_fitFirst x1) := hD
  refine lv_bipush (v := (-10)) hx hb dX8_meets_5 (by decide) ?_
  refine lv_iload_n hx hb dX8_meets_7 rfl (lv_at hl 1 rfl) ?_
  refine lv_isub hx hb dX8_meets_8 ?_
  have hq0 := Option.some.inj hf
  obtain ⟨eq0, hq1⟩ := Prod.mk.inj hq0
  clear hf hq0
  subst eq0
  subst hq1
  exact W.iret hx hb hr (fun t ht hW => ⟨⟨_, (), rfl, rfl, by rw [ht]; exact hP, va_K.moved hW.alike hK, hD⟩, hS.F ht⟩) hS.2.2 dX8_meets_9
