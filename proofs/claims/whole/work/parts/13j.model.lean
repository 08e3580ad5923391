abbrev wd_X8_sun (cI cZ cP cS : ClassId) (h_t h_t_turns h_t_phases h_t_ups h_t_typed h_t_texts h_t_diary h_t_longs h_t_awakes h_t_fit h_t_counts h_t_worths h_t_ripes h_t_growths h_t_gains h_t_isThere h_t_forms h_t_sizes h_t_items h_t_moved : Nat) (v_m_hours : Int32) (v_m_months : Int32) (v_m_fitMany : Int32) (v_m_fitFirst : Int32) (v_m_finding : Int32) (v_m_turns : Nat → Int32) (v_m_phases : Nat → Int32) (v_m_ups : Nat → Int32) : va_W := [(h_t, .inr (7, [.ref h_t_turns, .ref h_t_phases, .ref h_t_ups, .ref h_t_typed, .ref h_t_texts, .int v_m_hours, .ref h_t_diary, .int v_m_months, .ref h_t_longs, .ref h_t_awakes, .ref h_t_fit, .int v_m_fitMany, .int v_m_fitFirst, .ref h_t_counts, .ref h_t_worths, .ref h_t_ripes, .ref h_t_growths, .ref h_t_gains, .ref h_t_isThere, .ref h_t_forms, .ref h_t_sizes, .ref h_t_items, .ref h_t_moved, .int v_m_finding])), (h_t_turns, .inl (cI, 2, .inl v_m_turns)), (h_t_phases, .inl (cI, 2, .inl v_m_phases)), (h_t_ups, .inl (cI, 2, .inl v_m_ups))]
abbrev rm_X8_sun : Room := { frames := 2, cells := 0, slots := 0, locals := 42 }
def f_X8_sun (n : Nat) (v_m_turns : Nat → Int32) (v_m_phases : Nat → Int32) (v_m_ups : Nat → Int32) (x1 : Int32) (x2 : Int32) (x3 : Int32) : Option (Int32 × (Nat → Int32) × (Nat → Int32) × (Nat → Int32)) := bd1_ (f_X8_isSun n x1) (fun (r1_1 : Int32) => if r1_1 = 0 then some ((-2), v_m_turns, v_m_phases, v_m_ups) else bd1_ (f_X8_in n x2 0 2) (fun (r10_5 : Int32) => if r10_5 = 0 then some ((-2), v_m_turns, v_m_phases, v_m_ups) else lt_ ((if x2 = 0 then 2 else 0) : Int32) (fun v26_9 => jn1_ (fun (q57_0 : Int32) => bd1_ (f_X8_in n x3 v26_9 q57_0) (fun (r57_11 : Int32) => if r57_11 = 0 then some ((-2), v_m_turns, v_m_phases, v_m_ups) else jn1_ (fun (q99_0 : Int32) => if x2 = 0 then ix_ x1 2 (ix_ x1 2 (nz_ x3 (ix_ x1 2 (ix_ x1 2 (jn1_ (fun (q147_0 : Int32) => ix_ x1 2 (some (q99_0, (upd v_m_turns x1.toNatClampNeg x3), (upd v_m_phases x1.toNatClampNeg ((v_m_phases x1.toNatClampNeg) - (v_m_phases x1.toNatClampNeg) / x3 * x3)), (upd v_m_ups x1.toNatClampNeg q147_0)))) (fun k147 => if x3 ≤ (v_m_ups x1.toNatClampNeg) then k147 x3 else ix_ x1 2 (k147 (v_m_ups x1.toNatClampNeg)))))))) else if x2 = 1 then ix_ x1 2 (some (q99_0, v_m_turns, (upd v_m_phases x1.toNatClampNeg x3), v_m_ups)) else ix_ x1 2 (some (q99_0, v_m_turns, v_m_phases, (upd v_m_ups x1.toNatClampNeg x3)))) (fun k99 => if x2 = 0 then ix_ x1 2 (k99 (v_m_turns x1.toNatClampNeg)) else if x2 = 1 then ix_ x1 2 (k99 (v_m_phases x1.toNatClampNeg)) else ix_ x1 2 (k99 (v_m_ups x1.toNatClampNeg))))) (fun k57 => if x2 = 0 then k57 40 else if x2 = 1 then ix_ x1 2 (k57 ((v_m_turns x1.toNatClampNeg) - 1)) else ix_ x1 2 (k57 (v_m_turns x1.toNatClampNeg))))))
set_option maxHeartbeats 4000000 in
set_option maxRecDepth 100000 in
theorem c_X8_sun (l : Launch) (dC : Nat → ClassId) (dI : Nat → Nat → Nat) (cI cZ cP cS : ClassId) (sz : Nat) (h_t h_t_turns h_t_phases h_t_ups h_t_typed h_t_texts h_t_diary h_t_longs h_t_awakes h_t_fit h_t_counts h_t_worths h_t_ripes h_t_growths h_t_gains h_t_isThere h_t_forms h_t_sizes h_t_items h_t_moved : Nat) (v_m_hours : Int32) (v_m_months : Int32) (v_m_fitMany : Int32) (v_m_fitFirst : Int32) (v_m_finding : Int32) (v_m_turns : Nat → Int32) (v_m_phases : Nat → Int32) (v_m_ups : Nat → Int32) (x1 : Int32) (x2 : Int32) (x3 : Int32) (n : Nat) (r : Int32) (o_m_turns : Nat → Int32) (o_m_phases : Nat → Int32) (o_m_ups : Nat → Int32) (hf : f_X8_sun n v_m_turns v_m_phases v_m_ups x1 x2 x3 = some (r, o_m_turns, o_m_phases, o_m_ups)) : Met l yX8_sun wsX8_sun rm_X8_sun (RW (dC, dI) (TY cI cZ cP cS) [.ref h_t, .int x1, .int x2, .int x3] sz (wd_X8_sun cI cZ cP cS h_t h_t_turns h_t_phases h_t_ups h_t_typed h_t_texts h_t_diary h_t_longs h_t_awakes h_t_fit h_t_counts h_t_worths h_t_ripes h_t_growths h_t_gains h_t_isThere h_t_forms h_t_sizes h_t_items h_t_moved v_m_hours v_m_months v_m_fitMany v_m_fitFirst v_m_finding v_m_turns v_m_phases v_m_ups)) (RWi (dC, dI) (TY cI cZ cP cS) r sz (wd_X8_sun cI cZ cP cS h_t h_t_turns h_t_phases h_t_ups h_t_typed h_t_texts h_t_diary h_t_longs h_t_awakes h_t_fit h_t_counts h_t_worths h_t_ripes h_t_growths h_t_gains h_t_isThere h_t_forms h_t_sizes h_t_items h_t_moved v_m_hours v_m_months v_m_fitMany v_m_fitFirst v_m_finding v_m_turns v_m_phases v_m_ups) (wd_X8_sun cI cZ cP cS h_t h_t_turns h_t_phases h_t_ups h_t_typed h_t_texts h_t_diary h_t_longs h_t_awakes h_t_fit h_t_counts h_t_worths h_t_ripes h_t_growths h_t_gains h_t_isThere h_t_forms h_t_sizes h_t_items h_t_moved v_m_hours v_m_months v_m_fitMany v_m_fitFirst v_m_finding o_m_turns o_m_phases o_m_ups)) 0 0 (va_A (wd_X8_sun cI cZ cP cS h_t h_t_turns h_t_phases h_t_ups h_t_typed h_t_texts h_t_diary h_t_longs h_t_awakes h_t_fit h_t_counts h_t_worths h_t_ripes h_t_growths h_t_gains h_t_isThere h_t_forms h_t_sizes h_t_items h_t_moved v_m_hours v_m_months v_m_fitMany v_m_fitFirst v_m_finding v_m_turns v_m_phases v_m_ups) sz) := by
  refine Met.ofW (cc := cX8_sun) (maxL := 5) (ret := (some .int)) (by decide) rfl ?_
  intro p e s m args below meth c s₁ B hml hv
  obtain ⟨rfl, hsz, hP, hK, hD0⟩ := hv
  have hx := B.exec
  have hb := B.bytes
  have hr := B.returns
  have hts := atoms_spec (ws := wsX8_sun) B.pre
  have hown : s.vm.findClass RX8 = some m.cls := findClass_of_methodNamed B.named
  have hlocks := B.notSynchronized
  subst hsz
  have hD := hD0.self (sz := s.heap.size)
  have hA : ∀ q : Nat, s.heap.size ≤ q → (va_A (wd_X8_sun cI cZ cP cS h_t h_t_turns h_t_phases h_t_ups h_t_typed h_t_texts h_t_diary h_t_longs h_t_awakes h_t_fit h_t_counts h_t_worths h_t_ripes h_t_growths h_t_gains h_t_isThere h_t_forms h_t_sizes h_t_items h_t_moved v_m_hours v_m_months v_m_fitMany v_m_fitFirst v_m_finding v_m_turns v_m_phases v_m_ups) s.heap.size) q := fun q h => Or.inr h
  have hS : va_S (va_A (wd_X8_sun cI cZ cP cS h_t h_t_turns h_t_phases h_t_ups h_t_typed h_t_texts h_t_diary h_t_longs h_t_awakes h_t_fit h_t_counts h_t_worths h_t_ripes h_t_growths h_t_gains h_t_isThere h_t_forms h_t_sizes h_t_items h_t_moved v_m_hours v_m_months v_m_fitMany v_m_fitFirst v_m_finding v_m_turns v_m_phases v_m_ups) s.heap.size) s.heap s.heap [] := va_S.rf
  have hinX8 : ∀ w ∈ wsX80, w ∈ wsX8_sun := by decide +kernel
  have hl := lv_entry ([.ref h_t, .int x1, .int x2, .int x3]) (n := 5) (Nat.le_of_ble_eq_true rfl)
  rw [lg_entry_eq]
  generalize (lg_sl ([.ref h_t, .int x1, .int x2, .int x3]) ++ List.replicate (5 - (lg_sl ([.ref h_t, .int x1, .int x2, .int x3])).length) Slot.unset).toArray = ls at hl ⊢
  have hl : lv_has ls 5 [(0, .ref h_t), (1, .int x1), (2, .int x2), (3, .int x3)] := hl
  obtain ⟨H, hH⟩ : ∃ H : Heap, H = s.heap := ⟨_, rfl⟩
  have hP : va_P (dC, dI) vwCl (wd_X8_sun cI cZ cP cS h_t h_t_turns h_t_phases h_t_ups h_t_typed h_t_texts h_t_diary h_t_longs h_t_awakes h_t_fit h_t_counts h_t_worths h_t_ripes h_t_growths h_t_gains h_t_isThere h_t_forms h_t_sizes h_t_items h_t_moved v_m_hours v_m_months v_m_fitMany v_m_fitFirst v_m_finding v_m_turns v_m_phases v_m_ups) H := by rw [hH]; exact hP
  have hS : va_S (va_A (wd_X8_sun cI cZ cP cS h_t h_t_turns h_t_phases h_t_ups h_t_typed h_t_texts h_t_diary h_t_longs h_t_awakes h_t_fit h_t_counts h_t_worths h_t_ripes h_t_growths h_t_gains h_t_isThere h_t_forms h_t_sizes h_t_items h_t_moved v_m_hours v_m_months v_m_fitMany v_m_fitFirst v_m_finding v_m_turns v_m_phases v_m_ups) s.heap.size) s.heap H [] := by rw [hH]; exact hS
  obtain ⟨locs, hlo⟩ : ∃ L : List Loc, L = [] := ⟨_, rfl⟩
  rw [← hlo] at hS
  suffices hgo : W p l e (headSpec wsX8_sun rm_X8_sun).room s m ([.ref h_t, .int x1, .int x2, .int x3] : List Value).toArray below meth c H locs 0 0 (MQ below (RWi (dC, dI) (TY cI cZ cP cS) r s.heap.size (wd_X8_sun cI cZ cP cS h_t h_t_turns h_t_phases h_t_ups h_t_typed h_t_texts h_t_diary h_t_longs h_t_awakes h_t_fit h_t_counts h_t_worths h_t_ripes h_t_growths h_t_gains h_t_isThere h_t_forms h_t_sizes h_t_items h_t_moved v_m_hours v_m_months v_m_fitMany v_m_fitFirst v_m_finding v_m_turns v_m_phases v_m_ups) (wd_X8_sun cI cZ cP cS h_t h_t_turns h_t_phases h_t_ups h_t_typed h_t_texts h_t_diary h_t_longs h_t_awakes h_t_fit h_t_counts h_t_worths h_t_ripes h_t_growths h_t_gains h_t_isThere h_t_forms h_t_sizes h_t_items h_t_moved v_m_hours v_m_months v_m_fitMany v_m_fitFirst v_m_finding o_m_turns o_m_phases o_m_ups)) ([.ref h_t, .int x1, .int x2, .int x3] : List Value).toArray s 0 0 (va_A (wd_X8_sun cI cZ cP cS h_t h_t_turns h_t_phases h_t_ups h_t_typed h_t_texts h_t_diary h_t_longs h_t_awakes h_t_fit h_t_counts h_t_worths h_t_ripes h_t_growths h_t_gains h_t_isThere h_t_forms h_t_sizes h_t_items h_t_moved v_m_hours v_m_months v_m_fitMany v_m_fitFirst v_m_finding v_m_turns v_m_phases v_m_ups) s.heap.size)) (F0 m 0 ls []) by rw [hH, hlo] at hgo; exact hgo
  clear hH hlo
  unfold f_X8_sun at hf
  refine lv_iload_n hx hb dX8_sun_0 rfl (lv_at hl 1 rfl) ?_
  obtain ⟨r1_1, hc_2, hf⟩ := bd1_e hf
  refine vp_callSi (va_runS (As := [.int x1]) (rest := []) ⟨hx, hb, hml, hown, hts⟩ (c_X8_isSun l dC dI cI cZ cP cS   x1 n r1_1 hc_2) (va_cwS 1 hts gX8_sun_X8_isSun rfl rfl rfl (by decide +kernel) ⟨Nat.le_of_ble_eq_true rfl, Nat.le_of_ble_eq_true rfl⟩) (ps_ro hK (hP.sub (ws' := ([] : va_W)) [] rfl)) rfl rfl hl.1 rfl (lv_room (Nat.le_of_ble_eq_true rfl)) dX8_sun_1 ⟨Nat.zero_le _, Nat.zero_le _⟩).run (fun x e_3 => ?_)
  obtain ⟨e_3, hb_4⟩ := e_3
  rw [e_3] at hb_4 ⊢
  refine lv_if_eq (tgt := 63) hx hb dX8_sun_4 (by decide) (fun c4 => ?_) (fun c4 => ?_)
  · rw [if_pos c4] at hf
    refine lv_bipush (v := (-2)) hx hb dX8_sun_63 (by decide) ?_
    have hq0 := Option.some.inj hf
    obtain ⟨eq0, hq1⟩ := Prod.mk.inj hq0
    obtain ⟨eq1, hq2⟩ := Prod.mk.inj hq1
    obtain ⟨eq2, hq3⟩ := Prod.mk.inj hq2
    clear hf hq0 hq1 hq2
    subst eq0
    subst eq1
    subst eq2
    subst hq3
    exact W.iret hx hb hr (fun t ht hW => ⟨⟨_, (), rfl, rfl, by rw [ht]; exact hP, va_K.moved hW.alike hK, hD⟩, hS.F ht⟩) hS.2.2 dX8_sun_65
  · rw [if_neg c4] at hf
    refine lv_iload_n hx hb dX8_sun_7 rfl (lv_at hl 2 rfl) ?_
    refine lv_iconst (v := 0) hx hb dX8_sun_8 (by decide) ?_
    refine lv_iconst (v := 2) hx hb dX8_sun_9 (by decide) ?_
    obtain ⟨r10_5, hc_6, hf⟩ := bd1_e hf
    refine vp_callSi (va_runS (As := [.int x2, .int 0, .int 2]) (rest := []) ⟨hx, hb, hml, hown, hts⟩ (c_X8_in l dC dI cI cZ cP cS   x2 0 2 n r10_5 hc_6) (va_cwS 3 hts gX8_sun_X8_in rfl rfl rfl (by decide +kernel) ⟨Nat.le_of_ble_eq_true rfl, Nat.le_of_ble_eq_true rfl⟩) (ps_ro hK (hP.sub (ws' := ([] : va_W)) [] rfl)) rfl rfl hl.1 rfl (lv_room (Nat.le_of_ble_eq_true rfl)) dX8_sun_10 ⟨Nat.zero_le _, Nat.zero_le _⟩).run (fun x e_7 => ?_)
    obtain ⟨e_7, hb_8⟩ := e_7
    rw [e_7] at hb_8 ⊢
    refine lv_if_eq (tgt := 63) hx hb dX8_sun_13 (by decide) (fun c13 => ?_) (fun c13 => ?_)
    · rw [if_pos c13] at hf
      refine lv_bipush (v := (-2)) hx hb dX8_sun_63 (by decide) ?_
      have hq0 := Option.some.inj hf
      obtain ⟨eq0, hq1⟩ := Prod.mk.inj hq0
      obtain ⟨eq1, hq2⟩ := Prod.mk.inj hq1
      obtain ⟨eq2, hq3⟩ := Prod.mk.inj hq2
      clear hf hq0 hq1 hq2
      subst eq0
      subst eq1
      subst eq2
      subst hq3
      exact W.iret hx hb hr (fun t ht hW => ⟨⟨_, (), rfl, rfl, by rw [ht]; exact hP, va_K.moved hW.alike hK, hD⟩, hS.F ht⟩) hS.2.2 dX8_sun_65
    · rw [if_neg c13] at hf
      refine lv_iload_n hx hb dX8_sun_16 rfl (lv_at hl 3 rfl) ?_
      refine lv_iload_n hx hb dX8_sun_17 rfl (lv_at hl 2 rfl) ?_
      obtain ⟨v26_9, ev26_9, hf⟩ := lt_e hf
      have hj26_10 : ∀ (ls : Array Slot), lv_has ls 5 [(0, .ref h_t), (1, .int x1), (2, .int x2), (3, .int x3)] → W p l e (headSpec wsX8_sun rm_X8_sun).room s m ([.ref h_t, .int x1, .int x2, .int x3] : List Value).toArray below meth c H locs 0 0 (MQ below (RWi (dC, dI) (TY cI cZ cP cS) r s.heap.size (wd_X8_sun cI cZ cP cS h_t h_t_turns h_t_phases h_t_ups h_t_typed h_t_texts h_t_diary h_t_longs h_t_awakes h_t_fit h_t_counts h_t_worths h_t_ripes h_t_growths h_t_gains h_t_isThere h_t_forms h_t_sizes h_t_items h_t_moved v_m_hours v_m_months v_m_fitMany v_m_fitFirst v_m_finding v_m_turns v_m_phases v_m_ups) (wd_X8_sun cI cZ cP cS h_t h_t_turns h_t_phases h_t_ups h_t_typed h_t_texts h_t_diary h_t_longs h_t_awakes h_t_fit h_t_counts h_t_worths h_t_ripes h_t_growths h_t_gains h_t_isThere h_t_forms h_t_sizes h_t_items h_t_moved v_m_hours v_m_months v_m_fitMany v_m_fitFirst v_m_finding o_m_turns o_m_phases o_m_ups)) ([.ref h_t, .int x1, .int x2, .int x3] : List Value).toArray s 0 0 (va_A (wd_X8_sun cI cZ cP cS h_t h_t_turns h_t_phases h_t_ups h_t_typed h_t_texts h_t_diary h_t_longs h_t_awakes h_t_fit h_t_counts h_t_worths h_t_ripes h_t_growths h_t_gains h_t_isThere h_t_forms h_t_sizes h_t_items h_t_moved v_m_hours v_m_months v_m_fitMany v_m_fitFirst v_m_finding v_m_turns v_m_phases v_m_ups) s.heap.size)) (F0 m 26 ls [.int v26_9, .int x3]) := by
        intro ls hl
        refine lv_iload_n hx hb dX8_sun_26 rfl (lv_at hl 2 rfl) ?_
        obtain ⟨k57, ek57, hf⟩ := jn1_e hf
        have hj57 : ∀ (q57_0 : Int32) (ls : Array Slot), lv_has ls 5 [(0, .ref h_t), (1, .int x1), (2, .int x2), (3, .int x3)] → k57 q57_0 = some (r, o_m_turns, o_m_phases, o_m_ups) → W p l e (headSpec wsX8_sun rm_X8_sun).room s m ([.ref h_t, .int x1, .int x2, .int x3] : List Value).toArray below meth c H locs 0 0 (MQ below (RWi (dC, dI) (TY cI cZ cP cS) r s.heap.size (wd_X8_sun cI cZ cP cS h_t h_t_turns h_t_phases h_t_ups h_t_typed h_t_texts h_t_diary h_t_longs h_t_awakes h_t_fit h_t_counts h_t_worths h_t_ripes h_t_growths h_t_gains h_t_isThere h_t_forms h_t_sizes h_t_items h_t_moved v_m_hours v_m_months v_m_fitMany v_m_fitFirst v_m_finding v_m_turns v_m_phases v_m_ups) (wd_X8_sun cI cZ cP cS h_t h_t_turns h_t_phases h_t_ups h_t_typed h_t_texts h_t_diary h_t_longs h_t_awakes h_t_fit h_t_counts h_t_worths h_t_ripes h_t_growths h_t_gains h_t_isThere h_t_forms h_t_sizes h_t_items h_t_moved v_m_hours v_m_months v_m_fitMany v_m_fitFirst v_m_finding o_m_turns o_m_phases o_m_ups)) ([.ref h_t, .int x1, .int x2, .int x3] : List Value).toArray s 0 0 (va_A (wd_X8_sun cI cZ cP cS h_t h_t_turns h_t_phases h_t_ups h_t_typed h_t_texts h_t_diary h_t_longs h_t_awakes h_t_fit h_t_counts h_t_worths h_t_ripes h_t_growths h_t_gains h_t_isThere h_t_forms h_t_sizes h_t_items h_t_moved v_m_hours v_m_months v_m_fitMany v_m_fitFirst v_m_finding v_m_turns v_m_phases v_m_ups) s.heap.size)) (F0 m 57 ls [.int q57_0, .int v26_9, .int x3]) := by
          intro q57_0 ls hl hf
          rw [ek57] at hf
          obtain ⟨r57_11, hc_12, hf⟩ := bd1_e hf
          refine vp_callSi (va_runS (As := [.int x3, .int v26_9, .int q57_0]) (rest := []) ⟨hx, hb, hml, hown, hts⟩ (c_X8_in l dC dI cI cZ cP cS   x3 v26_9 q57_0 n r57_11 hc_12) (va_cwS 3 hts gX8_sun_X8_in rfl rfl rfl (by decide +kernel) ⟨Nat.le_of_ble_eq_true rfl, Nat.le_of_ble_eq_true rfl⟩) (ps_ro hK (hP.sub (ws' := ([] : va_W)) [] rfl)) rfl rfl hl.1 rfl (lv_room (Nat.le_of_ble_eq_true rfl)) dX8_sun_57 ⟨Nat.zero_le _, Nat.zero_le _⟩).run (fun x e_13 => ?_)
          obtain ⟨e_13, hb_14⟩ := e_13
          rw [e_13] at hb_14 ⊢
          refine lv_if_ne (tgt := 66) hx hb dX8_sun_60 (by decide) (fun c60 => ?_) (fun c60 => ?_)
          · rw [if_neg c60] at hf
            refine lv_iload_n hx hb dX8_sun_66 rfl (lv_at hl 2 rfl) ?_
            obtain ⟨k99, ek99, hf⟩ := jn1_e hf
            have hj99 : ∀ (q99_0 : Int32) (ls : Array Slot), lv_has ls 5 [(0, .ref h_t), (1, .int x1), (2, .int x2), (3, .int x3)] → k99 q99_0 = some (r, o_m_turns, o_m_phases, o_m_ups) → W p l e (headSpec wsX8_sun rm_X8_sun).room s m ([.ref h_t, .int x1, .int x2, .int x3] : List Value).toArray below meth c H locs 0 0 (MQ below (RWi (dC, dI) (TY cI cZ cP cS) r s.heap.size (wd_X8_sun cI cZ cP cS h_t h_t_turns h_t_phases h_t_ups h_t_typed h_t_texts h_t_diary h_t_longs h_t_awakes h_t_fit h_t_counts h_t_worths h_t_ripes h_t_growths h_t_gains h_t_isThere h_t_forms h_t_sizes h_t_items h_t_moved v_m_hours v_m_months v_m_fitMany v_m_fitFirst v_m_finding v_m_turns v_m_phases v_m_ups) (wd_X8_sun cI cZ cP cS h_t h_t_turns h_t_phases h_t_ups h_t_typed h_t_texts h_t_diary h_t_longs h_t_awakes h_t_fit h_t_counts h_t_worths h_t_ripes h_t_growths h_t_gains h_t_isThere h_t_forms h_t_sizes h_t_items h_t_moved v_m_hours v_m_months v_m_fitMany v_m_fitFirst v_m_finding o_m_turns o_m_phases o_m_ups)) ([.ref h_t, .int x1, .int x2, .int x3] : List Value).toArray s 0 0 (va_A (wd_X8_sun cI cZ cP cS h_t h_t_turns h_t_phases h_t_ups h_t_typed h_t_texts h_t_diary h_t_longs h_t_awakes h_t_fit h_t_counts h_t_worths h_t_ripes h_t_growths h_t_gains h_t_isThere h_t_forms h_t_sizes h_t_items h_t_moved v_m_hours v_m_months v_m_fitMany v_m_fitFirst v_m_finding v_m_turns v_m_phases v_m_ups) s.heap.size)) (F0 m 99 ls [.int q99_0]) := by
              intro q99_0 ls hl hf
              rw [ek99] at hf
              refine lv_istore (lv' := [(4, .int q99_0), (0, .ref h_t), (1, .int x1), (2, .int x2), (3, .int x3)]) hx hb dX8_sun_99 hl (by decide) rfl (fun ls hl => ?_)
              refine lv_iload_n hx hb dX8_sun_101 rfl (lv_at hl 3 rfl) ?_
              refine lv_if_ne (tgt := 151) hx hb dX8_sun_102 (by decide) (fun c102 => ?_) (fun c102 => ?_)
              · rw [if_neg c102] at hf
                refine lv_iload_n hx hb dX8_sun_151 rfl (lv_at hl 3 rfl) ?_
                refine lv_iconst (v := 1) hx hb dX8_sun_152 (by decide) ?_
                refine lv_icmp_ne (tgt := 166) hx hb dX8_sun_153 (by decide) (fun c153 => ?_) (fun c153 => ?_)
                · rw [if_neg c153] at hf
                  refine lv_aload_n hx hb dX8_sun_166 rfl (lv_at hl 1 rfl) ?_
                  refine va_get (D := (dC, dI)) (ci := 7) (v := .ref h_t_ups) (C := RX8) (T := TX8) (N := 24) hx hb hts hinX8 hown hK hP 0 rfl rfl 2 (by decide) (hts (.fieldLink RX8 16 "SecondSunriseModel" "ups" "[I") (by decide +kernel)) (fun _ h9 => h9) rfl dX8_sun_167 ?_
                  refine lv_iload_n hx hb dX8_sun_170 rfl (lv_at hl 2 rfl) ?_
                  refine lv_iload_n hx hb dX8_sun_171 rfl (lv_at hl 4 rfl) ?_
                  obtain ⟨hi_15, hf⟩ := ix_e hf
                  refine va_iast hx hb hK hP hD hS 3 0 rfl rfl hi_15 dX8_sun_172 (fun H locs hP hD hS => ?_)
                  have hP : va_P (dC, dI) vwCl (wd_X8_sun cI cZ cP cS h_t h_t_turns h_t_phases h_t_ups h_t_typed h_t_texts h_t_diary h_t_longs h_t_awakes h_t_fit h_t_counts h_t_worths h_t_ripes h_t_growths h_t_gains h_t_isThere h_t_forms h_t_sizes h_t_items h_t_moved v_m_hours v_m_months v_m_fitMany v_m_fitFirst v_m_finding v_m_turns v_m_phases (upd v_m_ups x1.toNatClampNeg x3)) H := hP
                  have hD : va_D (va_A (wd_X8_sun cI cZ cP cS h_t h_t_turns h_t_phases h_t_ups h_t_typed h_t_texts h_t_diary h_t_longs h_t_awakes h_t_fit h_t_counts h_t_worths h_t_ripes h_t_growths h_t_gains h_t_isThere h_t_forms h_t_sizes h_t_items h_t_moved v_m_hours v_m_months v_m_fitMany v_m_fitFirst v_m_finding v_m_turns v_m_phases v_m_ups) s.heap.size) (wd_X8_sun cI cZ cP cS h_t h_t_turns h_t_phases h_t_ups h_t_typed h_t_texts h_t_diary h_t_longs h_t_awakes h_t_fit h_t_counts h_t_worths h_t_ripes h_t_growths h_t_gains h_t_isThere h_t_forms h_t_sizes h_t_items h_t_moved v_m_hours v_m_months v_m_fitMany v_m_fitFirst v_m_finding v_m_turns v_m_phases (upd v_m_ups x1.toNatClampNeg x3)) := hD
                  refine lv_iload hx hb dX8_sun_173 (lv_at hl 0 rfl) ?_
                  have hq0 := Option.some.inj hf
                  obtain ⟨eq0, hq1⟩ := Prod.mk.inj hq0
                  obtain ⟨eq1, hq2⟩ := Prod.mk.inj hq1
                  obtain ⟨eq2, hq3⟩ := Prod.mk.inj hq2
                  clear hf hq0 hq1 hq2
                  subst eq0
                  subst eq1
                  subst eq2
                  subst hq3
                  exact W.iret hx hb hr (fun t ht hW => ⟨⟨_, (), rfl, rfl, by rw [ht]; exact hP, va_K.moved hW.alike hK, hD⟩, hS.F ht⟩) hS.2.2 dX8_sun_175
                · rw [if_pos c153] at hf
                  refine lv_aload_n hx hb dX8_sun_156 rfl (lv_at hl 1 rfl) ?_
                  refine va_get (D := (dC, dI)) (ci := 7) (v := .ref h_t_phases) (C := RX8) (T := TX8) (N := 24) hx hb hts hinX8 hown hK hP 0 rfl rfl 1 (by decide) (hts (.fieldLink RX8 13 "SecondSunriseModel" "phases" "[I") (by decide +kernel)) (fun _ h9 => h9) rfl dX8_sun_157 ?_
                  refine lv_iload_n hx hb dX8_sun_160 rfl (lv_at hl 2 rfl) ?_
                  refine lv_iload_n hx hb dX8_sun_161 rfl (lv_at hl 4 rfl) ?_
                  obtain ⟨hi_16, hf⟩ := ix_e hf
                  refine va_iast hx hb hK hP hD hS 2 0 rfl rfl hi_16 dX8_sun_162 (fun H locs hP hD hS => ?_)
                  have hP : va_P (dC, dI) vwCl (wd_X8_sun cI cZ cP cS h_t h_t_turns h_t_phases h_t_ups h_t_typed h_t_texts h_t_diary h_t_longs h_t_awakes h_t_fit h_t_counts h_t_worths h_t_ripes h_t_growths h_t_gains h_t_isThere h_t_forms h_t_sizes h_t_items h_t_moved v_m_hours v_m_months v_m_fitMany v_m_fitFirst v_m_finding v_m_turns (upd v_m_phases x1.toNatClampNeg x3) v_m_ups) H := hP
                  have hD : va_D (va_A (wd_X8_sun cI cZ cP cS h_t h_t_turns h_t_phases h_t_ups h_t_typed h_t_texts h_t_diary h_t_longs h_t_awakes h_t_fit h_t_counts h_t_worths h_t_ripes h_t_growths h_t_gains h_t_isThere h_t_forms h_t_sizes h_t_items h_t_moved v_m_hours v_m_months v_m_fitMany v_m_fitFirst v_m_finding v_m_turns v_m_phases v_m_ups) s.heap.size) (wd_X8_sun cI cZ cP cS h_t h_t_turns h_t_phases h_t_ups h_t_typed h_t_texts h_t_diary h_t_longs h_t_awakes h_t_fit h_t_counts h_t_worths h_t_ripes h_t_growths h_t_gains h_t_isThere h_t_forms h_t_sizes h_t_items h_t_moved v_m_hours v_m_months v_m_fitMany v_m_fitFirst v_m_finding v_m_turns (upd v_m_phases x1.toNatClampNeg x3) v_m_ups) := hD
                  refine lv_goto (tgt := 173) hx hb dX8_sun_163 (by decide) ?_
                  refine lv_iload hx hb dX8_sun_173 (lv_at hl 0 rfl) ?_
                  have hq0 := Option.some.inj hf
                  obtain ⟨eq0, hq1⟩ := Prod.mk.inj hq0
                  obtain ⟨eq1, hq2⟩ := Prod.mk.inj hq1
                  obtain ⟨eq2, hq3⟩ := Prod.mk.inj hq2
                  clear hf hq0 hq1 hq2
                  subst eq0
                  subst eq1
                  subst eq2
                  subst hq3
                  exact W.iret hx hb hr (fun t ht hW => ⟨⟨_, (), rfl, rfl, by rw [ht]; exact hP, va_K.moved hW.alike hK, hD⟩, hS.F ht⟩) hS.2.2 dX8_sun_175
              · rw [if_pos c102] at hf
                refine lv_aload_n hx hb dX8_sun_105 rfl (lv_at hl 1 rfl) ?_
                refine va_get (D := (dC, dI)) (ci := 7) (v := .ref h_t_turns) (C := RX8) (T := TX8) (N := 24) hx hb hts hinX8 hown hK hP 0 rfl rfl 0 (by decide) (hts (.fieldLink RX8 7 "SecondSunriseModel" "turns" "[I") (by decide +kernel)) (fun _ h9 => h9) rfl dX8_sun_106 ?_
                refine lv_iload_n hx hb dX8_sun_109 rfl (lv_at hl 2 rfl) ?_
                refine lv_iload_n hx hb dX8_sun_110 rfl (lv_at hl 4 rfl) ?_
                obtain ⟨hi_17, hf⟩ := ix_e hf
                refine va_iast hx hb hK hP hD hS 1 0 rfl rfl hi_17 dX8_sun_111 (fun H locs hP hD hS => ?_)
                have hP : va_P (dC, dI) vwCl (wd_X8_sun cI cZ cP cS h_t h_t_turns h_t_phases h_t_ups h_t_typed h_t_texts h_t_diary h_t_longs h_t_awakes h_t_fit h_t_counts h_t_worths h_t_ripes h_t_growths h_t_gains h_t_isThere h_t_forms h_t_sizes h_t_items h_t_moved v_m_hours v_m_months v_m_fitMany v_m_fitFirst v_m_finding (upd v_m_turns x1.toNatClampNeg x3) v_m_phases v_m_ups) H := hP
                have hD : va_D (va_A (wd_X8_sun cI cZ cP cS h_t h_t_turns h_t_phases h_t_ups h_t_typed h_t_texts h_t_diary h_t_longs h_t_awakes h_t_fit h_t_counts h_t_worths h_t_ripes h_t_growths h_t_gains h_t_isThere h_t_forms h_t_sizes h_t_items h_t_moved v_m_hours v_m_months v_m_fitMany v_m_fitFirst v_m_finding v_m_turns v_m_phases v_m_ups) s.heap.size) (wd_X8_sun cI cZ cP cS h_t h_t_turns h_t_phases h_t_ups h_t_typed h_t_texts h_t_diary h_t_longs h_t_awakes h_t_fit h_t_counts h_t_worths h_t_ripes h_t_growths h_t_gains h_t_isThere h_t_forms h_t_sizes h_t_items h_t_moved v_m_hours v_m_months v_m_fitMany v_m_fitFirst v_m_finding (upd v_m_turns x1.toNatClampNeg x3) v_m_phases v_m_ups) := hD
                refine lv_aload_n hx hb dX8_sun_112 rfl (lv_at hl 1 rfl) ?_
                refine va_get (D := (dC, dI)) (ci := 7) (v := .ref h_t_phases) (C := RX8) (T := TX8) (N := 24) hx hb hts hinX8 hown hK hP 0 rfl rfl 1 (by decide) (hts (.fieldLink RX8 13 "SecondSunriseModel" "phases" "[I") (by decide +kernel)) (fun _ h9 => h9) rfl dX8_sun_113 ?_
                refine lv_iload_n hx hb dX8_sun_116 rfl (lv_at hl 2 rfl) ?_
                refine lv_dup2_11 hx hb dX8_sun_117 rfl rfl ?_
                obtain ⟨hi_18, hf⟩ := ix_e hf
                refine va_iald hx hb hK hP 2 0 rfl rfl hi_18 dX8_sun_118 ?_
                refine lv_iload_n hx hb dX8_sun_119 rfl (lv_at hl 4 rfl) ?_
                obtain ⟨hz_19, hf⟩ := nz_e hf
                refine lv_irem hx hb dX8_sun_120 hz_19 ?_
                obtain ⟨hi_20, hf⟩ := ix_e hf
                refine va_iast hx hb hK hP hD hS 2 0 rfl rfl hi_20 dX8_sun_121 (fun H locs hP hD hS => ?_)
                have hP : va_P (dC, dI) vwCl (wd_X8_sun cI cZ cP cS h_t h_t_turns h_t_phases h_t_ups h_t_typed h_t_texts h_t_diary h_t_longs h_t_awakes h_t_fit h_t_counts h_t_worths h_t_ripes h_t_growths h_t_gains h_t_isThere h_t_forms h_t_sizes h_t_items h_t_moved v_m_hours v_m_months v_m_fitMany v_m_fitFirst v_m_finding (upd v_m_turns x1.toNatClampNeg x3) (upd v_m_phases x1.toNatClampNeg ((v_m_phases x1.toNatClampNeg) - (v_m_phases x1.toNatClampNeg) / x3 * x3)) v_m_ups) H := hP
                have hD : va_D (va_A (wd_X8_sun cI cZ cP cS h_t h_t_turns h_t_phases h_t_ups h_t_typed h_t_texts h_t_diary h_t_longs h_t_awakes h_t_fit h_t_counts h_t_worths h_t_ripes h_t_growths h_t_gains h_t_isThere h_t_forms h_t_sizes h_t_items h_t_moved v_m_hours v_m_months v_m_fitMany v_m_fitFirst v_m_finding v_m_turns v_m_phases v_m_ups) s.heap.size) (wd_X8_sun cI cZ cP cS h_t h_t_turns h_t_phases h_t_ups h_t_typed h_t_texts h_t_diary h_t_longs h_t_awakes h_t_fit h_t_counts h_t_worths h_t_ripes h_t_growths h_t_gains h_t_isThere h_t_forms h_t_sizes h_t_items h_t_moved v_m_hours v_m_months v_m_fitMany v_m_fitFirst v_m_finding (upd v_m_turns x1.toNatClampNeg x3) (upd v_m_phases x1.toNatClampNeg ((v_m_phases x1.toNatClampNeg) - (v_m_phases x1.toNatClampNeg) / x3 * x3)) v_m_ups) := hD
                refine lv_aload_n hx hb dX8_sun_122 rfl (lv_at hl 1 rfl) ?_
                refine va_get (D := (dC, dI)) (ci := 7) (v := .ref h_t_ups) (C := RX8) (T := TX8) (N := 24) hx hb hts hinX8 hown hK hP 0 rfl rfl 2 (by decide) (hts (.fieldLink RX8 16 "SecondSunriseModel" "ups" "[I") (by decide +kernel)) (fun _ h9 => h9) rfl dX8_sun_123 ?_
                refine lv_iload_n hx hb dX8_sun_126 rfl (lv_at hl 2 rfl) ?_
                refine lv_aload_n hx hb dX8_sun_127 rfl (lv_at hl 1 rfl) ?_
                refine va_get (D := (dC, dI)) (ci := 7) (v := .ref h_t_ups) (C := RX8) (T := TX8) (N := 24) hx hb hts hinX8 hown hK hP 0 rfl rfl 2 (by decide) (hts (.fieldLink RX8 16 "SecondSunriseModel" "ups" "[I") (by decide +kernel)) (fun _ h9 => h9) rfl dX8_sun_128 ?_
                refine lv_iload_n hx hb dX8_sun_131 rfl (lv_at hl 2 rfl) ?_
                obtain ⟨hi_21, hf⟩ := ix_e hf
                refine va_iald hx hb hK hP 3 0 rfl rfl hi_21 dX8_sun_132 ?_
                refine lv_iload_n hx hb dX8_sun_133 rfl (lv_at hl 4 rfl) ?_
                obtain ⟨k147, ek147, hf⟩ := jn1_e hf
                have hj147 : ∀ (q147_0 : Int32) (ls : Array Slot), lv_has ls 5 [(4, .int q99_0)] → k147 q147_0 = some (r, o_m_turns, o_m_phases, o_m_ups) → W p l e (headSpec wsX8_sun rm_X8_sun).room s m ([.ref h_t, .int x1, .int x2, .int x3] : List Value).toArray below meth c H locs 0 0 (MQ below (RWi (dC, dI) (TY cI cZ cP cS) r s.heap.size (wd_X8_sun cI cZ cP cS h_t h_t_turns h_t_phases h_t_ups h_t_typed h_t_texts h_t_diary h_t_longs h_t_awakes h_t_fit h_t_counts h_t_worths h_t_ripes h_t_growths h_t_gains h_t_isThere h_t_forms h_t_sizes h_t_items h_t_moved v_m_hours v_m_months v_m_fitMany v_m_fitFirst v_m_finding v_m_turns v_m_phases v_m_ups) (wd_X8_sun cI cZ cP cS h_t h_t_turns h_t_phases h_t_ups h_t_typed h_t_texts h_t_diary h_t_longs h_t_awakes h_t_fit h_t_counts h_t_worths h_t_ripes h_t_growths h_t_gains h_t_isThere h_t_forms h_t_sizes h_t_items h_t_moved v_m_hours v_m_months v_m_fitMany v_m_fitFirst v_m_finding o_m_turns o_m_phases o_m_ups)) ([.ref h_t, .int x1, .int x2, .int x3] : List Value).toArray s 0 0 (va_A (wd_X8_sun cI cZ cP cS h_t h_t_turns h_t_phases h_t_ups h_t_typed h_t_texts h_t_diary h_t_longs h_t_awakes h_t_fit h_t_counts h_t_worths h_t_ripes h_t_growths h_t_gains h_t_isThere h_t_forms h_t_sizes h_t_items h_t_moved v_m_hours v_m_months v_m_fitMany v_m_fitFirst v_m_finding v_m_turns v_m_phases v_m_ups) s.heap.size)) (F0 m 147 ls [.int q147_0, .int x1, .ref h_t_ups]) := by
                  intro q147_0 ls hl hf
                  rw [ek147] at hf
                  obtain ⟨hi_22, hf⟩ := ix_e hf
                  refine va_iast hx hb hK hP hD hS 3 0 rfl rfl hi_22 dX8_sun_147 (fun H locs hP hD hS => ?_)
                  have hP : va_P (dC, dI) vwCl (wd_X8_sun cI cZ cP cS h_t h_t_turns h_t_phases h_t_ups h_t_typed h_t_texts h_t_diary h_t_longs h_t_awakes h_t_fit h_t_counts h_t_worths h_t_ripes h_t_growths h_t_gains h_t_isThere h_t_forms h_t_sizes h_t_items h_t_moved v_m_hours v_m_months v_m_fitMany v_m_fitFirst v_m_finding (upd v_m_turns x1.toNatClampNeg x3) (upd v_m_phases x1.toNatClampNeg ((v_m_phases x1.toNatClampNeg) - (v_m_phases x1.toNatClampNeg) / x3 * x3)) (upd v_m_ups x1.toNatClampNeg q147_0)) H := hP
                  have hD : va_D (va_A (wd_X8_sun cI cZ cP cS h_t h_t_turns h_t_phases h_t_ups h_t_typed h_t_texts h_t_diary h_t_longs h_t_awakes h_t_fit h_t_counts h_t_worths h_t_ripes h_t_growths h_t_gains h_t_isThere h_t_forms h_t_sizes h_t_items h_t_moved v_m_hours v_m_months v_m_fitMany v_m_fitFirst v_m_finding v_m_turns v_m_phases v_m_ups) s.heap.size) (wd_X8_sun cI cZ cP cS h_t h_t_turns h_t_phases h_t_ups h_t_typed h_t_texts h_t_diary h_t_longs h_t_awakes h_t_fit h_t_counts h_t_worths h_t_ripes h_t_growths h_t_gains h_t_isThere h_t_forms h_t_sizes h_t_items h_t_moved v_m_hours v_m_months v_m_fitMany v_m_fitFirst v_m_finding (upd v_m_turns x1.toNatClampNeg x3) (upd v_m_phases x1.toNatClampNeg ((v_m_phases x1.toNatClampNeg) - (v_m_phases x1.toNatClampNeg) / x3 * x3)) (upd v_m_ups x1.toNatClampNeg q147_0)) := hD
                  refine lv_goto (tgt := 173) hx hb dX8_sun_148 (by decide) ?_
                  refine lv_iload hx hb dX8_sun_173 (lv_at hl 0 rfl) ?_
                  have hq0 := Option.some.inj hf
                  obtain ⟨eq0, hq1⟩ := Prod.mk.inj hq0
                  obtain ⟨eq1, hq2⟩ := Prod.mk.inj hq1
                  obtain ⟨eq2, hq3⟩ := Prod.mk.inj hq2
                  clear hf hq0 hq1 hq2
                  subst eq0
                  subst eq1
                  subst eq2
                  subst hq3
                  exact W.iret hx hb hr (fun t ht hW => ⟨⟨_, (), rfl, rfl, by rw [ht]; exact hP, va_K.moved hW.alike hK, hD⟩, hS.F ht⟩) hS.2.2 dX8_sun_175
                refine lv_icmp_ge (tgt := 146) hx hb dX8_sun_134 (by decide) (fun c134 => ?_) (fun c134 => ?_)
                · rw [if_pos c134] at hf
                  refine lv_iload_n hx hb dX8_sun_146 rfl (lv_at hl 4 rfl) ?_
                  exact hj147 x3 ls (lv_sub hl [0] rfl) hf
                · rw [if_neg c134] at hf
                  refine lv_aload_n hx hb dX8_sun_137 rfl (lv_at hl 1 rfl) ?_
                  refine va_get (D := (dC, dI)) (ci := 7) (v := .ref h_t_ups) (C := RX8) (T := TX8) (N := 24) hx hb hts hinX8 hown hK hP 0 rfl rfl 2 (by decide) (hts (.fieldLink RX8 16 "SecondSunriseModel" "ups" "[I") (by decide +kernel)) (fun _ h9 => h9) rfl dX8_sun_138 ?_
                  refine lv_iload_n hx hb dX8_sun_141 rfl (lv_at hl 2 rfl) ?_
                  obtain ⟨hi_23, hf⟩ := ix_e hf
                  refine va_iald hx hb hK hP 3 0 rfl rfl hi_23 dX8_sun_142 ?_
                  refine lv_goto (tgt := 147) hx hb dX8_sun_143 (by decide) ?_
                  exact hj147 (v_m_ups x1.toNatClampNeg) ls (lv_sub hl [0] rfl) hf
            refine lv_if_ne (tgt := 79) hx hb dX8_sun_67 (by decide) (fun c67 => ?_) (fun c67 => ?_)
            · rw [if_neg c67] at hf
              refine lv_iload_n hx hb dX8_sun_79 rfl (lv_at hl 2 rfl) ?_
              refine lv_iconst (v := 1) hx hb dX8_sun_80 (by decide) ?_
              refine lv_icmp_ne (tgt := 93) hx hb dX8_sun_81 (by decide) (fun c81 => ?_) (fun c81 => ?_)
              · rw [if_neg c81] at hf
                refine lv_aload_n hx hb dX8_sun_93 rfl (lv_at hl 0 rfl) ?_
                refine va_get (D := (dC, dI)) (ci := 7) (v := .ref h_t_ups) (C := RX8) (T := TX8) (N := 24) hx hb hts hinX8 hown hK hP 0 rfl rfl 2 (by decide) (hts (.fieldLink RX8 16 "SecondSunriseModel" "ups" "[I") (by decide +kernel)) (fun _ h9 => h9) rfl dX8_sun_94 ?_
                refine lv_iload_n hx hb dX8_sun_97 rfl (lv_at hl 1 rfl) ?_
                obtain ⟨hi_24, hf⟩ := ix_e hf
                refine va_iald hx hb hK hP 3 0 rfl rfl hi_24 dX8_sun_98 ?_
                exact hj99 (v_m_ups x1.toNatClampNeg) ls (lv_sub hl [0, 1, 2, 3] rfl) hf
              · rw [if_pos c81] at hf
                refine lv_aload_n hx hb dX8_sun_84 rfl (lv_at hl 0 rfl) ?_
                refine va_get (D := (dC, dI)) (ci := 7) (v := .ref h_t_phases) (C := RX8) (T := TX8) (N := 24) hx hb hts hinX8 hown hK hP 0 rfl rfl 1 (by decide) (hts (.fieldLink RX8 13 "SecondSunriseModel" "phases" "[I") (by decide +kernel)) (fun _ h9 => h9) rfl dX8_sun_85 ?_
                refine lv_iload_n hx hb dX8_sun_88 rfl (lv_at hl 1 rfl) ?_
                obtain ⟨hi_25, hf⟩ := ix_e hf
                refine va_iald hx hb hK hP 2 0 rfl rfl hi_25 dX8_sun_89 ?_
                refine lv_goto (tgt := 99) hx hb dX8_sun_90 (by decide) ?_
                exact hj99 (v_m_phases x1.toNatClampNeg) ls (lv_sub hl [0, 1, 2, 3] rfl) hf
            · rw [if_pos c67] at hf
              refine lv_aload_n hx hb dX8_sun_70 rfl (lv_at hl 0 rfl) ?_
              refine va_get (D := (dC, dI)) (ci := 7) (v := .ref h_t_turns) (C := RX8) (T := TX8) (N := 24) hx hb hts hinX8 hown hK hP 0 rfl rfl 0 (by decide) (hts (.fieldLink RX8 7 "SecondSunriseModel" "turns" "[I") (by decide +kernel)) (fun _ h9 => h9) rfl dX8_sun_71 ?_
              refine lv_iload_n hx hb dX8_sun_74 rfl (lv_at hl 1 rfl) ?_
              obtain ⟨hi_26, hf⟩ := ix_e hf
              refine va_iald hx hb hK hP 1 0 rfl rfl hi_26 dX8_sun_75 ?_
              refine lv_goto (tgt := 99) hx hb dX8_sun_76 (by decide) ?_
              exact hj99 (v_m_turns x1.toNatClampNeg) ls (lv_sub hl [0, 1, 2, 3] rfl) hf
          · rw [if_pos c60] at hf
            refine lv_bipush (v := (-2)) hx hb dX8_sun_63 (by decide) ?_
            have hq0 := Option.some.inj hf
            obtain ⟨eq0, hq1⟩ := Prod.mk.inj hq0
            obtain ⟨eq1, hq2⟩ := Prod.mk.inj hq1
            obtain ⟨eq2, hq3⟩ := Prod.mk.inj hq2
            clear hf hq0 hq1 hq2
            subst eq0
            subst eq1
            subst eq2
            subst hq3
            exact W.iret hx hb hr (fun t ht hW => ⟨⟨_, (), rfl, rfl, by rw [ht]; exact hP, va_K.moved hW.alike hK, hD⟩, hS.F ht⟩) hS.2.2 dX8_sun_65
        refine lv_if_ne (tgt := 35) hx hb dX8_sun_27 (by decide) (fun c27 => ?_) (fun c27 => ?_)
        · rw [if_neg c27] at hf
          refine lv_iload_n hx hb dX8_sun_35 rfl (lv_at hl 2 rfl) ?_
          refine lv_iconst (v := 1) hx hb dX8_sun_36 (by decide) ?_
          refine lv_icmp_ne (tgt := 51) hx hb dX8_sun_37 (by decide) (fun c37 => ?_) (fun c37 => ?_)
          · rw [if_neg c37] at hf
            refine lv_aload_n hx hb dX8_sun_51 rfl (lv_at hl 0 rfl) ?_
            refine va_get (D := (dC, dI)) (ci := 7) (v := .ref h_t_turns) (C := RX8) (T := TX8) (N := 24) hx hb hts hinX8 hown hK hP 0 rfl rfl 0 (by decide) (hts (.fieldLink RX8 7 "SecondSunriseModel" "turns" "[I") (by decide +kernel)) (fun _ h9 => h9) rfl dX8_sun_52 ?_
            refine lv_iload_n hx hb dX8_sun_55 rfl (lv_at hl 1 rfl) ?_
            obtain ⟨hi_27, hf⟩ := ix_e hf
            refine va_iald hx hb hK hP 1 0 rfl rfl hi_27 dX8_sun_56 ?_
            exact hj57 (v_m_turns x1.toNatClampNeg) ls (lv_sub hl [0, 1, 2, 3] rfl) hf
          · rw [if_pos c37] at hf
            refine lv_aload_n hx hb dX8_sun_40 rfl (lv_at hl 0 rfl) ?_
            refine va_get (D := (dC, dI)) (ci := 7) (v := .ref h_t_turns) (C := RX8) (T := TX8) (N := 24) hx hb hts hinX8 hown hK hP 0 rfl rfl 0 (by decide) (hts (.fieldLink RX8 7 "SecondSunriseModel" "turns" "[I") (by decide +kernel)) (fun _ h9 => h9) rfl dX8_sun_41 ?_
            refine lv_iload_n hx hb dX8_sun_44 rfl (lv_at hl 1 rfl) ?_
            obtain ⟨hi_28, hf⟩ := ix_e hf
            refine va_iald hx hb hK hP 1 0 rfl rfl hi_28 dX8_sun_45 ?_
            refine lv_iconst (v := 1) hx hb dX8_sun_46 (by decide) ?_
            refine lv_isub hx hb dX8_sun_47 ?_
            refine lv_goto (tgt := 57) hx hb dX8_sun_48 (by decide) ?_
            exact hj57 ((v_m_turns x1.toNatClampNeg) - 1) ls (lv_sub hl [0, 1, 2, 3] rfl) hf
        · rw [if_pos c27] at hf
          refine lv_bipush (v := 40) hx hb dX8_sun_30 (by decide) ?_
          refine lv_goto (tgt := 57) hx hb dX8_sun_32 (by decide) ?_
          exact hj57 40 ls (lv_sub hl [0, 1, 2, 3] rfl) hf
      clear hf
      refine lv_if_ne (tgt := 25) hx hb dX8_sun_18 (by decide) (fun c18 => ?_) (fun c18 => ?_)
      ·
        refine lv_iconst (v := 0) hx hb dX8_sun_25 (by decide) ?_
        rw [if_neg c18] at ev26_9
        subst ev26_9
        exact hj26_10 ls (lv_sub hl [0, 1, 2, 3] rfl)
      ·
        refine lv_iconst (v := 2) hx hb dX8_sun_21 (by decide) ?_
        refine lv_goto (tgt := 26) hx hb dX8_sun_22 (by decide) ?_
        rw [if_pos c18] at ev26_9
        subst ev26_9
        exact hj26_10 ls (lv_sub hl [0, 1, 2, 3] rfl)

abbrev wd_X8_together (cI cZ cP cS : ClassId) (h_t h_t_turns h_t_phases h_t_ups h_t_typed h_t_texts h_t_diary h_t_longs h_t_awakes h_t_fit h_t_counts h_t_worths h_t_ripes h_t_growths h_t_gains h_t_isThere h_t_forms h_t_sizes h_t_items h_t_moved : Nat) (v_m_hours : Int32) (v_m_months : Int32) (v_m_fitMany : Int32) (v_m_fitFirst : Int32) (v_m_finding : Int32) (v_m_turns : Nat → Int32) (v_m_phases : Nat → Int32) (v_m_ups : Nat → Int32) (v_m_awakes : Nat → Int32) : va_W := [(h_t, .inr (7, [.ref h_t_turns, .ref h_t_phases, .ref h_t_ups, .ref h_t_typed, .ref h_t_texts, .int v_m_hours, .ref h_t_diary, .int v_m_months, .ref h_t_longs, .ref h_t_awakes, .ref h_t_fit, .int v_m_fitMany, .int v_m_fitFirst, .ref h_t_counts, .ref h_t_worths, .ref h_t_ripes, .ref h_t_growths, .ref h_t_gains, .ref h_t_isThere, .ref h_t_forms, .ref h_t_sizes, .ref h_t_items, .ref h_t_moved, .int v_m_finding])), (h_t_turns, .inl (cI, 2, .inl v_m_turns)), (h_t_phases, .inl (cI, 2, .inl v_m_phases)), (h_t_ups, .inl (cI, 2, .inl v_m_ups)), (h_t_awakes, .inl (cI, 6, .inl v_m_awakes))]
abbrev rm_X8_together : Room := { frames := 5, cells := 0, slots := 0, locals := 120 }
def f_X8_together (n : Nat) (v_m_turns : Nat → Int32) (v_m_phases : Nat → Int32) (v_m_ups : Nat → Int32) (v_m_awakes : Nat → Int32) (x1 : Int32) (x2 : Int32) (x3 : Int32) (x4 : Int32) : Option (Int32) := bd1_ (f_X8_in n x1 0 63) (fun (r4_1 : Int32) => jn0_ (some (-2)) (fun k49 => if r4_1 = 0 then k49 else bd1_ (f_X8_isHour n x2) (fun (r11_5 : Int32) => if r11_5 = 0 then k49 else bd1_ (f_X8_in n x3 1 100) (fun (r21_9 : Int32) => if r21_9 = 0 then k49 else bd1_ (f_X8_in n x4 0 1) (fun (r31_13 : Int32) => if r31_13 = 0 then k49 else bd1_ (f_X8_togetherOf n v_m_turns v_m_phases v_m_ups v_m_awakes x1 x2 x3 x4) (fun (r43_17 : Int32) => some r43_17))))))
set_option maxHeartbeats 4000000 in
set_option maxRecDepth 100000 in
theorem c_X8_together (l : Launch) (dC : Nat → ClassId) (dI : Nat → Nat → Nat) (cI cZ cP cS : ClassId) (h_t h_t_turns h_t_phases h_t_ups h_t_typed h_t_texts h_t_diary h_t_longs h_t_awakes h_t_fit h_t_counts h_t_worths h_t_ripes h_t_growths h_t_gains h_t_isThere h_t_forms h_t_sizes h_t_items h_t_moved : Nat) (v_m_hours : Int32) (v_m_months : Int32) (v_m_fitMany : Int32) (v_m_fitFirst : Int32) (v_m_finding : Int32) (v_m_turns : Nat → Int32) (v_m_phases : Nat → Int32) (v_m_ups : Nat → Int32) (v_m_awakes : Nat → Int32) (x1 : Int32) (x2 : Int32) (x3 : Int32) (x4 : Int32) (n : Nat) (r : Int32) (hf : f_X8_together n v_m_turns v_m_phases v_m_ups v_m_awakes x1 x2 x3 x4 = some r) : Met l yX8_together wsX8_together rm_X8_together (RO (dC, dI) (TY cI cZ cP cS) [.ref h_t, .int x1, .int x2, .int x3, .int x4] (wd_X8_together cI cZ cP cS h_t h_t_turns h_t_phases h_t_ups h_t_typed h_t_texts h_t_diary h_t_longs h_t_awakes h_t_fit h_t_counts h_t_worths h_t_ripes h_t_growths h_t_gains h_t_isThere h_t_forms h_t_sizes h_t_items h_t_moved v_m_hours v_m_months v_m_fitMany v_m_fitFirst v_m_finding v_m_turns v_m_phases v_m_ups v_m_awakes)) (vp_Si (fun x => x = r)) 0 0 NF := by
  refine Met.ofW (cc := cX8_together) (maxL := 5) (ret := (some .int)) (by decide) rfl ?_
  intro p e s m args below meth c s₁ B hml hv
  obtain ⟨rfl, hP, hK⟩ := hv
  have hx := B.exec
  have hb := B.bytes
  have hr := B.returns
  have hts := atoms_spec (ws := wsX8_together) B.pre
  have hown : s.vm.findClass RX8 = some m.cls := findClass_of_methodNamed B.named
  have hlocks := B.notSynchronized
  have hl := lv_entry ([.ref h_t, .int x1, .int x2, .int x3, .int x4]) (n := 5) (Nat.le_of_ble_eq_true rfl)
  rw [lg_entry_eq]
  generalize (lg_sl ([.ref h_t, .int x1, .int x2, .int x3, .int x4]) ++ List.replicate (5 - (lg_sl ([.ref h_t, .int x1, .int x2, .int x3, .int x4])).length) Slot.unset).toArray = ls at hl ⊢
  have hl : lv_has ls 5 [(0, .ref h_t), (1, .int x1), (2, .int x2), (3, .int x3), (4, .int x4)] := hl
  unfold f_X8_together at hf
  refine lv_iload_n hx hb dX8_together_0 rfl (lv_at hl 1 rfl) ?_
  refine lv_iconst (v := 0) hx hb dX8_together_1 (by decide) ?_
  refine lv_bipush (v := 63) hx hb dX8_together_2 (by decide) ?_
  obtain ⟨r4_1, hc_2, hf⟩ := bd1_e hf
  refine vp_callSi (va_runS (As := [.int x1, .int 0, .int 63]) (rest := []) ⟨hx, hb, hml, hown, hts⟩ (c_X8_in l dC dI cI cZ cP cS   x1 0 63 n r4_1 hc_2) (va_cwS 3 hts gX8_together_X8_in rfl rfl rfl (by decide +kernel) ⟨Nat.le_of_ble_eq_true rfl, Nat.le_of_ble_eq_true rfl⟩) (ps_ro hK (hP.sub (ws' := ([] : va_W)) [] rfl)) rfl rfl hl.1 rfl (lv_room (Nat.le_of_ble_eq_true rfl)) dX8_together_4 ⟨Nat.zero_le _, Nat.zero_le _⟩).run (fun x e_3 => ?_)
  obtain ⟨e_3, hb_4⟩ := e_3
  rw [e_3] at hb_4 ⊢
  obtain ⟨k49, ek49, hf⟩ := jn0_e hf
  have hj49 : ∀ (ls : Array Slot), lv_has ls 5 [] → k49 = some r → W p l e (headSpec wsX8_together rm_X8_together).room s m ([.ref h_t, .int x1, .int x2, .int x3, .int x4] : List Value).toArray below meth c s.heap [] 0 0 (MQ below (vp_Si (fun x => x = r)) ([.ref h_t, .int x1, .int x2, .int x3, .int x4] : List Value).toArray s 0 0 NF) (F0 m 49 ls []) := by
    intro ls hl hf
    rw [ek49] at hf
    refine lv_bipush (v := (-2)) hx hb dX8_together_49 (by decide) ?_
    exact W.iret hx hb hr (fun t ht hW => ⟨_, rfl, Option.some.inj hf, ht⟩) (fun _ h => nomatch h) dX8_together_51
  refine lv_if_eq (tgt := 49) hx hb dX8_together_7 (by decide) (fun c7 => ?_) (fun c7 => ?_)
  · rw [if_pos c7] at hf
    exact hj49 ls (lv_sub hl [] rfl) hf
  · rw [if_neg c7] at hf
    refine lv_iload_n hx hb dX8_together_10 rfl (lv_at hl 2 rfl) ?_
    obtain ⟨r11_5, hc_6, hf⟩ := bd1_e hf
    refine vp_callSi (va_runS (As := [.int x2]) (rest := []) ⟨hx, hb, hml, hown, hts⟩ (c_X8_isHour l dC dI cI cZ cP cS   x2 n r11_5 hc_6) (va_cwS 1 hts gX8_together_X8_isHour rfl rfl rfl (by decide +kernel) ⟨Nat.le_of_ble_eq_true rfl, Nat.le_of_ble_eq_true rfl⟩) (ps_ro hK (hP.sub (ws' := ([] : va_W)) [] rfl)) rfl rfl hl.1 rfl (lv_room (Nat.le_of_ble_eq_true rfl)) dX8_together_11 ⟨Nat.zero_le _, Nat.zero_le _⟩).run (fun x e_7 => ?_)
    obtain ⟨e_7, hb_8⟩ := e_7
    rw [e_7] at hb_8 ⊢
    refine lv_if_eq (tgt := 49) hx hb dX8_together_14 (by decide) (fun c14 => ?_) (fun c14 => ?_)
    · rw [if_pos c14] at hf
      exact hj49 ls (lv_sub hl [] rfl) hf
    · rw [if_neg c14] at hf
      refine lv_iload_n hx hb dX8_together_17 rfl (lv_at hl 3 rfl) ?_
      refine lv_iconst (v := 1) hx hb dX8_together_18 (by decide) ?_
      refine lv_bipush (v := 100) hx hb dX8_together_19 (by decide) ?_
      obtain ⟨r21_9, hc_10, hf⟩ := bd1_e hf
      refine vp_callSi (va_runS (As := [.int x3, .int 1, .int 100]) (rest := []) ⟨hx, hb, hml, hown, hts⟩ (c_X8_in l dC dI cI cZ cP cS   x3 1 100 n r21_9 hc_10) (va_cwS 3 hts gX8_together_X8_in rfl rfl rfl (by decide +kernel) ⟨Nat.le_of_ble_eq_true rfl, Nat.le_of_ble_eq_true rfl⟩) (ps_ro hK (hP.sub (ws' := ([] : va_W)) [] rfl)) rfl rfl hl.1 rfl (lv_room (Nat.le_of_ble_eq_true rfl)) dX8_together_21 ⟨Nat.zero_le _, Nat.zero_le _⟩).run (fun x e_11 => ?_)
      obtain ⟨e_11, hb_12⟩ := e_11
      rw [e_11] at hb_12 ⊢
      refine lv_if_eq (tgt := 49) hx hb dX8_together_24 (by decide) (fun c24 => ?_) (fun c24 => ?_)
      · rw [if_pos c24] at hf
        exact hj49 ls (lv_sub hl [] rfl) hf
      · rw [if_neg c24] at hf
        refine lv_iload hx hb dX8_together_27 (lv_at hl 4 rfl) ?_
        refine lv_iconst (v := 0) hx hb dX8_together_29 (by decide) ?_
        refine lv_iconst (v := 1) hx hb dX8_together_30 (by decide) ?_
        obtain ⟨r31_13, hc_14, hf⟩ := bd1_e hf
        refine vp_callSi (va_runS (As := [.int x4, .int 0, .int 1]) (rest := []) ⟨hx, hb, hml, hown, hts⟩ (c_X8_in l dC dI cI cZ cP cS   x4 0 1 n r31_13 hc_14) (va_cwS 3 hts gX8_together_X8_in rfl rfl rfl (by decide +kernel) ⟨Nat.le_of_ble_eq_true rfl, Nat.le_of_ble_eq_true rfl⟩) (ps_ro hK (hP.sub (ws' := ([] : va_W)) [] rfl)) rfl rfl hl.1 rfl (lv_room (Nat.le_of_ble_eq_true rfl)) dX8_together_31 ⟨Nat.zero_le _, Nat.zero_le _⟩).run (fun x e_15 => ?_)
        obtain ⟨e_15, hb_16⟩ := e_15
        rw [e_15] at hb_16 ⊢
        refine lv_if_eq (tgt := 49) hx hb dX8_together_34 (by decide) (fun c34 => ?_) (fun c34 => ?_)
        · rw [if_pos c34] at hf
          exact hj49 ls (lv_sub hl [] rfl) hf
        · rw [if_neg c34] at hf
          refine lv_aload_n hx hb dX8_together_37 rfl (lv_at hl 0 rfl) ?_
          refine lv_iload_n hx hb dX8_together_38 rfl (lv_at hl 1 rfl) ?_
          refine lv_iload_n hx hb dX8_together_39 rfl (lv_at hl 2 rfl) ?_
          refine lv_iload_n hx hb dX8_together_40 rfl (lv_at hl 3 rfl) ?_
          refine lv_iload hx hb dX8_together_41 (lv_at hl 4 rfl) ?_
          obtain ⟨r43_17, hc_18, hf⟩ := bd1_e hf
          refine vp_callSi (va_runV (As := [.int x1, .int x2, .int x3, .int x4]) (rest := []) ⟨hx, hb, hml, hown, hts⟩ (c_X8_togetherOf l dC dI cI cZ cP cS h_t h_t_turns h_t_phases h_t_ups h_t_typed h_t_texts h_t_diary h_t_longs h_t_awakes h_t_fit h_t_counts h_t_worths h_t_ripes h_t_growths h_t_gains h_t_isThere h_t_forms h_t_sizes h_t_items h_t_moved v_m_hours v_m_months v_m_fitMany v_m_fitFirst v_m_finding v_m_turns v_m_phases v_m_ups v_m_awakes x1 x2 x3 x4 n r43_17 hc_18) (cwV 4 hts gX8_together_X8_togetherOf rfl rfl rfl (by decide +kernel) ⟨Nat.le_of_ble_eq_true rfl, Nat.le_of_ble_eq_true rfl⟩) (pv_ro (ci := 7) (q0 := 0) hK (hP.sub (ws' := (wd_X8_togetherOf cI cZ cP cS h_t h_t_turns h_t_phases h_t_ups h_t_typed h_t_texts h_t_diary h_t_longs h_t_awakes h_t_fit h_t_counts h_t_worths h_t_ripes h_t_growths h_t_gains h_t_isThere h_t_forms h_t_sizes h_t_items h_t_moved v_m_hours v_m_months v_m_fitMany v_m_fitFirst v_m_finding v_m_turns v_m_phases v_m_ups v_m_awakes)) [0, 1, 2, 3, 4] rfl) rfl rfl) rfl rfl hl.1 rfl (lv_room (Nat.le_of_ble_eq_true rfl)) dX8_together_43 ⟨Nat.zero_le _, Nat.zero_le _⟩).run (fun x e_19 => ?_)
          rw [e_19]
          refine lv_goto (tgt := 51) hx hb dX8_together_46 (by decide) ?_
          exact W.iret hx hb hr (fun t ht hW => ⟨_, rfl, Option.some.inj hf, ht⟩) (fun _ h => nomatch h) dX8_together_51

abbrev wd_X8_type (cI cZ cP cS : ClassId) (h_t h_t_turns h_t_phases h_t_ups h_t_typed h_t_texts h_t_diary h_t_longs h_t_awakes h_t_fit h_t_counts h_t_worths h_t_ripes h_t_growths h_t_gains h_t_isThere h_t_forms h_t_sizes h_t_items h_t_moved : Nat) (v_m_hours : Int32) (v_m_months : Int32) (v_m_fitMany : Int32) (v_m_fitFirst : Int32) (v_m_finding : Int32) (v_m_typed : Nat → Int32) (v_m_texts : Nat → Int32) : va_W := [(h_t, .inr (7, [.ref h_t_turns, .ref h_t_phases, .ref h_t_ups, .ref h_t_typed, .ref h_t_texts, .int v_m_hours, .ref h_t_diary, .int v_m_months, .ref h_t_longs, .ref h_t_awakes, .ref h_t_fit, .int v_m_fitMany, .int v_m_fitFirst, .ref h_t_counts, .ref h_t_worths, .ref h_t_ripes, .ref h_t_growths, .ref h_t_gains, .ref h_t_isThere, .ref h_t_forms, .ref h_t_sizes, .ref h_t_items, .ref h_t_moved, .int v_m_finding])), (h_t_typed, .inl (cI, 2, .inl v_m_typed)), (h_t_texts, .inl (cI, 120, .inl v_m_texts))]
abbrev rm_X8_type : Room := { frames := 1, cells := 0, slots := 0, locals := 22 }
def f_X8_type (n : Nat) (v_m_typed : Nat → Int32) (v_m_texts : Nat → Int32) (x1 : Int32) (x2 : Int32) : Option (Int32 × (Nat → Int32) × (Nat → Int32)) := bd1_ (f_X8_in n x1 0 1) (fun (r3_1 : Int32) => if r3_1 = 0 then some ((-2), v_m_typed, v_m_texts) else bd1_ (f_X8_in n x2 0 255) (fun (r14_5 : Int32) => if r14_5 = 0 then some ((-2), v_m_typed, v_m_texts) else ix_ x1 2 (lt_ ((if x1 = 0 then 60 else 20) : Int32) (fun v40_10 => if (v_m_typed x1.toNatClampNeg) = v40_10 then some ((-4), v_m_typed, v_m_texts) else ix_ x1 2 (ix_ ((60 * x1) + (v_m_typed x1.toNatClampNeg)) 120 (ix_ x1 2 (ix_ x1 2 (ix_ x1 2 (some (((upd v_m_typed x1.toNatClampNeg ((v_m_typed x1.toNatClampNeg) + 1)) x1.toNatClampNeg), (upd v_m_typed x1.toNatClampNeg ((v_m_typed x1.toNatClampNeg) + 1)), (upd v_m_texts ((60 * x1) + (v_m_typed x1.toNatClampNeg)).toNatClampNeg x2)))))))))))
set_option maxHeartbeats 4000000 in
set_option maxRecDepth 100000 in
theorem c_X8_type (l : Launch) (dC : Nat → ClassId) (dI : Nat → Nat → Nat) (cI cZ cP cS : ClassId) (sz : Nat) (h_t h_t_turns h_t_phases h_t_ups h_t_typed h_t_texts h_t_diary h_t_longs h_t_awakes h_t_fit h_t_counts h_t_worths h_t_ripes h_t_growths h_t_gains h_t_isThere h_t_forms h_t_sizes h_t_items h_t_moved : Nat) (v_m_hours : Int32) (v_m_months : Int32) (v_m_fitMany : Int32) (v_m_fitFirst : Int32) (v_m_finding : Int32) (v_m_typed : Nat → Int32) (v_m_texts : Nat → Int32) (x1 : Int32) (x2 : Int32) (n : Nat) (r : Int32) (o_m_typed : Nat → Int32) (o_m_texts : Nat → Int32) (hf : f_X8_type n v_m_typed v_m_texts x1 x2 = some (r, o_m_typed, o_m_texts)) : Met l yX8_type wsX8_type rm_X8_type (RW (dC, dI) (TY cI cZ cP cS) [.ref h_t, .int x1, .int x2] sz (wd_X8_type cI cZ cP cS h_t h_t_turns h_t_phases h_t_ups h_t_typed h_t_texts h_t_diary h_t_longs h_t_awakes h_t_fit h_t_counts h_t_worths h_t_ripes h_t_growths h_t_gains h_t_isThere h_t_forms h_t_sizes h_t_items h_t_moved v_m_hours v_m_months v_m_fitMany v_m_fitFirst v_m_finding v_m_typed v_m_texts)) (RWi (dC, dI) (TY cI cZ cP cS) r sz (wd_X8_type cI cZ cP cS h_t h_t_turns h_t_phases h_t_ups h_t_typed h_t_texts h_t_diary h_t_longs h_t_awakes h_t_fit h_t_counts h_t_worths h_t_ripes h_t_growths h_t_gains h_t_isThere h_t_forms h_t_sizes h_t_items h_t_moved v_m_hours v_m_months v_m_fitMany v_m_fitFirst v_m_finding v_m_typed v_m_texts) (wd_X8_type cI cZ cP cS h_t h_t_turns h_t_phases h_t_ups h_t_typed h_t_texts h_t_diary h_t_longs h_t_awakes h_t_fit h_t_counts h_t_worths h_t_ripes h_t_growths h_t_gains h_t_isThere h_t_forms h_t_sizes h_t_items h_t_moved v_m_hours v_m_months v_m_fitMany v_m_fitFirst v_m_finding o_m_typed o_m_texts)) 0 0 (va_A (wd_X8_type cI cZ cP cS h_t h_t_turns h_t_phases h_t_ups h_t_typed h_t_texts h_t_diary h_t_longs h_t_awakes h_t_fit h_t_counts h_t_worths h_t_ripes h_t_growths h_t_gains h_t_isThere h_t_forms h_t_sizes h_t_items h_t_moved v_m_hours v_m_months v_m_fitMany v_m_fitFirst v_m_finding v_m_typed v_m_texts) sz) := by
  refine Met.ofW (cc := cX8_type) (maxL := 3) (ret := (some .int)) (by decide) rfl ?_
  intro p e s m args below meth c s₁ B hml hv
  obtain ⟨rfl, hsz, hP, hK, hD0⟩ := hv
  have hx := B.exec
  have hb := B.bytes
  have hr := B.returns
  have hts := atoms_spec (ws := wsX8_type) B.pre
  have hown : s.vm.findClass RX8 = some m.cls := findClass_of_methodNamed B.named
  have hlocks := B.notSynchronized
  subst hsz
  have hD := hD0.self (sz := s.heap.size)
  have hA : ∀ q : Nat, s.heap.size ≤ q → (va_A (wd_X8_type cI cZ cP cS h_t h_t_turns h_t_phases h_t_ups h_t_typed h_t_texts h_t_diary h_t_longs h_t_awakes h_t_fit h_t_counts h_t_worths h_t_ripes h_t_growths h_t_gains h_t_isThere h_t_forms h_t_sizes h_t_items h_t_moved v_m_hours v_m_months v_m_fitMany v_m_fitFirst v_m_finding v_m_typed v_m_texts) s.heap.size) q := fun q h => Or.inr h
  have hS : va_S (va_A (wd_X8_type cI cZ cP cS h_t h_t_turns h_t_phases h_t_ups h_t_typed h_t_texts h_t_diary h_t_longs h_t_awakes h_t_fit h_t_counts h_t_worths h_t_ripes h_t_growths h_t_gains h_t_isThere h_t_forms h_t_sizes h_t_items h_t_moved v_m_hours v_m_months v_m_fitMany v_m_fitFirst v_m_finding v_m_typed v_m_texts) s.heap.size) s.heap s.heap [] := va_S.rf
  have hinX8 : ∀ w ∈ wsX80, w ∈ wsX8_type := by decide +kernel
  have hl := lv_entry ([.ref h_t, .int x1, .int x2]) (n := 3) (Nat.le_of_ble_eq_true rfl)
  rw [lg_entry_eq]
  generalize (lg_sl ([.ref h_t, .int x1, .int x2]) ++ List.replicate (3 - (lg_sl ([.ref h_t, .int x1, .int x2])).length) Slot.unset).toArray = ls at hl ⊢
  have hl : lv_has ls 3 [(0, .ref h_t), (1, .int x1), (2, .int x2)] := hl
  obtain ⟨H, hH⟩ : ∃ H : Heap, H = s.heap := ⟨_, rfl⟩
  have hP : va_P (dC, dI) vwCl (wd_X8_type cI cZ cP cS h_t h_t_turns h_t_phases h_t_ups h_t_typed h_t_texts h_t_diary h_t_longs h_t_awakes h_t_fit h_t_counts h_t_worths h_t_ripes h_t_growths h_t_gains h_t_isThere h_t_forms h_t_sizes h_t_items h_t_moved v_m_hours v_m_months v_m_fitMany v_m_fitFirst v_m_finding v_m_typed v_m_texts) H := by rw [hH]; exact hP
  have hS : va_S (va_A (wd_X8_type cI cZ cP cS h_t h_t_turns h_t_phases h_t_ups h_t_typed h_t_texts h_t_diary h_t_longs h_t_awakes h_t_fit h_t_counts h_t_worths h_t_ripes h_t_growths h_t_gains h_t_isThere h_t_forms h_t_sizes h_t_items h_t_moved v_m_hours v_m_months v_m_fitMany v_m_fitFirst v_m_finding v_m_typed v_m_texts) s.heap.size) s.heap H [] := by rw [hH]; exact hS
  obtain ⟨locs, hlo⟩ : ∃ L : List Loc, L = [] := ⟨_, rfl⟩
  rw [← hlo] at hS
  suffices hgo : W p l e (headSpec wsX8_type rm_X8_type).room s m ([.ref h_t, .int x1, .int x2] : List Value).toArray below meth c H locs 0 0 (MQ below (RWi (dC, dI) (TY cI cZ cP cS) r s.heap.size (wd_X8_type cI cZ cP cS h_t h_t_turns h_t_phases h_t_ups h_t_typed h_t_texts h_t_diary h_t_longs h_t_awakes h_t_fit h_t_counts h_t_worths h_t_ripes h_t_growths h_t_gains h_t_isThere h_t_forms h_t_sizes h_t_items h_t_moved v_m_hours v_m_months v_m_fitMany v_m_fitFirst v_m_finding v_m_typed v_m_texts) (wd_X8_type cI cZ cP cS h_t h_t_turns h_t_phases h_t_ups h_t_typed h_t_texts h_t_diary h_t_longs h_t_awakes h_t_fit h_t_counts h_t_worths h_t_ripes h_t_growths h_t_gains h_t_isThere h_t_forms h_t_sizes h_t_items h_t_moved v_m_hours v_m_months v_m_fitMany v_m_fitFirst v_m_finding o_m_typed o_m_texts)) ([.ref h_t, .int x1, .int x2] : List Value).toArray s 0 0 (va_A (wd_X8_type cI cZ cP cS h_t h_t_turns h_t_phases h_t_ups h_t_typed h_t_texts h_t_diary h_t_longs h_t_awakes h_t_fit h_t_counts h_t_worths h_t_ripes h_t_growths h_t_gains h_t_isThere h_t_forms h_t_sizes h_t_items h_t_moved v_m_hours v_m_months v_m_fitMany v_m_fitFirst v_m_finding v_m_typed v_m_texts) s.heap.size)) (F0 m 0 ls []) by rw [hH, hlo] at hgo; exact hgo
  clear hH hlo
  unfold f_X8_type at hf
  refine lv_iload_n hx hb dX8_type_0 rfl (lv_at hl 1 rfl) ?_
  refine lv_iconst (v := 0) hx hb dX8_type_1 (by decide) ?_
  refine lv_iconst (v := 1) hx hb dX8_type_2 (by decide) ?_
  obtain ⟨r3_1, hc_2, hf⟩ := bd1_e hf
  refine vp_callSi (va_runS (As := [.int x1, .int 0, .int 1]) (rest := []) ⟨hx, hb, hml, hown, hts⟩ (c_X8_in l dC dI cI cZ cP cS   x1 0 1 n r3_1 hc_2) (va_cwS 3 hts gX8_type_X8_in rfl rfl rfl (by decide +kernel) ⟨Nat.le_of_ble_eq_true rfl, Nat.le_of_ble_eq_true rfl⟩) (ps_ro hK (hP.sub (ws' := ([] : va_W)) [] rfl)) rfl rfl hl.1 rfl (lv_room (Nat.le_of_ble_eq_true rfl)) dX8_type_3 ⟨Nat.zero_le _, Nat.zero_le _⟩).run (fun x e_3 => ?_)
  obtain ⟨e_3, hb_4⟩ := e_3
  rw [e_3] at hb_4 ⊢
  refine lv_if_eq (tgt := 20) hx hb dX8_type_6 (by decide) (fun c6 => ?_) (fun c6 => ?_)
  · rw [if_pos c6] at hf
    refine lv_bipush (v := (-2)) hx hb dX8_type_20 (by decide) ?_
    have hq0 := Option.some.inj hf
    obtain ⟨eq0, hq1⟩ := Prod.mk.inj hq0
    obtain ⟨eq1, hq2⟩ := Prod.mk.inj hq1
    clear hf hq0 hq1
    subst eq0
    subst eq1
    subst hq2
    exact W.iret hx hb hr (fun t ht hW => ⟨⟨_, (), rfl, rfl, by rw [ht]; exact hP, va_K.moved hW.alike hK, hD⟩, hS.F ht⟩) hS.2.2 dX8_type_22
  · rw [if_neg c6] at hf
    refine lv_iload_n hx hb dX8_type_9 rfl (lv_at hl 2 rfl) ?_
    refine lv_iconst (v := 0) hx hb dX8_type_10 (by decide) ?_
    refine lv_sipush (v := 255) hx hb dX8_type_11 (by decide) ?_
    obtain ⟨r14_5, hc_6, hf⟩ := bd1_e hf
    refine vp_callSi (va_runS (As := [.int x2, .int 0, .int 255]) (rest := []) ⟨hx, hb, hml, hown, hts⟩ (c_X8_in l dC dI cI cZ cP cS   x2 0 255 n r14_5 hc_6) (va_cwS 3 hts gX8_type_X8_in rfl rfl rfl (by decide +kernel) ⟨Nat.le_of_ble_eq_true rfl, Nat.le_of_ble_eq_true rfl⟩) (ps_ro hK (hP.sub (ws' := ([] : va_W)) [] rfl)) rfl rfl hl.1 rfl (lv_room (Nat.le_of_ble_eq_true rfl)) dX8_type_14 ⟨Nat.zero_le _, Nat.zero_le _⟩).run (fun x e_7 => ?_)
    obtain ⟨e_7, hb_8⟩ := e_7
    rw [e_7] at hb_8 ⊢
    refine lv_if_ne (tgt := 23) hx hb dX8_type_17 (by decide) (fun c17 => ?_) (fun c17 => ?_)
    · rw [if_neg c17] at hf
      refine lv_aload_n hx hb dX8_type_23 rfl (lv_at hl 0 rfl) ?_
      refine va_get (D := (dC, dI)) (ci := 7) (v := .ref h_t_typed) (C := RX8) (T := TX8) (N := 24) hx hb hts hinX8 hown hK hP 0 rfl rfl 3 (by decide) (hts (.fieldLink RX8 19 "SecondSunriseModel" "typed" "[I") (by decide +kernel)) (fun _ h9 => h9) rfl dX8_type_24 ?_
      refine lv_iload_n hx hb dX8_type_27 rfl (lv_at hl 1 rfl) ?_
      obtain ⟨hi_9, hf⟩ := ix_e hf
      refine va_iald hx hb hK hP 1 0 rfl rfl hi_9 dX8_type_28 ?_
      refine lv_iload_n hx hb dX8_type_29 rfl (lv_at hl 1 rfl) ?_
      obtain ⟨v40_10, ev40_10, hf⟩ := lt_e hf
      have hj40_11 : ∀ (ls : Array Slot), lv_has ls 3 [(0, .ref h_t), (1, .int x1), (2, .int x2)] → W p l e (headSpec wsX8_type rm_X8_type).room s m ([.ref h_t, .int x1, .int x2] : List Value).toArray below meth c H locs 0 0 (MQ below (RWi (dC, dI) (TY cI cZ cP cS) r s.heap.size (wd_X8_type cI cZ cP cS h_t h_t_turns h_t_phases h_t_ups h_t_typed h_t_texts h_t_diary h_t_longs h_t_awakes h_t_fit h_t_counts h_t_worths h_t_ripes h_t_growths h_t_gains h_t_isThere h_t_forms h_t_sizes h_t_items h_t_moved v_m_hours v_m_months v_m_fitMany v_m_fitFirst v_m_finding v_m_typed v_m_texts) (wd_X8_type cI cZ cP cS h_t h_t_turns h_t_phases h_t_ups h_t_typed h_t_texts h_t_diary h_t_longs h_t_awakes h_t_fit h_t_counts h_t_worths h_t_ripes h_t_growths h_t_gains h_t_isThere h_t_forms h_t_sizes h_t_items h_t_moved v_m_hours v_m_months v_m_fitMany v_m_fitFirst v_m_finding o_m_typed o_m_texts)) ([.ref h_t, .int x1, .int x2] : List Value).toArray s 0 0 (va_A (wd_X8_type cI cZ cP cS h_t h_t_turns h_t_phases h_t_ups h_t_typed h_t_texts h_t_diary h_t_longs h_t_awakes h_t_fit h_t_counts h_t_worths h_t_ripes h_t_growths h_t_gains h_t_isThere h_t_forms h_t_sizes h_t_items h_t_moved v_m_hours v_m_months v_m_fitMany v_m_fitFirst v_m_finding v_m_typed v_m_texts) s.heap.size)) (F0 m 40 ls [.int v40_10, .int (v_m_typed x1.toNatClampNeg)]) := by
        intro ls hl
        refine lv_icmp_ne (tgt := 46) hx hb dX8_type_40 (by decide) (fun c40 => ?_) (fun c40 => ?_)
        · rw [if_neg c40] at hf
          refine lv_aload_n hx hb dX8_type_46 rfl (lv_at hl 0 rfl) ?_
          refine va_get (D := (dC, dI)) (ci := 7) (v := .ref h_t_texts) (C := RX8) (T := TX8) (N := 24) hx hb hts hinX8 hown hK hP 0 rfl rfl 4 (by decide) (hts (.fieldLink RX8 22 "SecondSunriseModel" "texts" "[I") (by decide +kernel)) (fun _ h9 => h9) rfl dX8_type_47 ?_
          refine lv_bipush (v := 60) hx hb dX8_type_50 (by decide) ?_
          refine lv_iload_n hx hb dX8_type_52 rfl (lv_at hl 1 rfl) ?_
          refine lv_imul hx hb dX8_type_53 ?_
          refine lv_aload_n hx hb dX8_type_54 rfl (lv_at hl 0 rfl) ?_
          refine va_get (D := (dC, dI)) (ci := 7) (v := .ref h_t_typed) (C := RX8) (T := TX8) (N := 24) hx hb hts hinX8 hown hK hP 0 rfl rfl 3 (by decide) (hts (.fieldLink RX8 19 "SecondSunriseModel" "typed" "[I") (by decide +kernel)) (fun _ h9 => h9) rfl dX8_type_55 ?_
          refine lv_iload_n hx hb dX8_type_58 rfl (lv_at hl 1 rfl) ?_
          obtain ⟨hi_12, hf⟩ := ix_e hf
          refine va_iald hx hb hK hP 1 0 rfl rfl hi_12 dX8_type_59 ?_
          refine lv_iadd hx hb dX8_type_60 ?_
          refine lv_iload_n hx hb dX8_type_61 rfl (lv_at hl 2 rfl) ?_
          obtain ⟨hi_13, hf⟩ := ix_e hf
          refine va_iast hx hb hK hP hD hS 2 0 rfl rfl hi_13 dX8_type_62 (fun H locs hP hD hS => ?_)
          have hP : va_P (dC, dI) vwCl (wd_X8_type cI cZ cP cS h_t h_t_turns h_t_phases h_t_ups h_t_typed h_t_texts h_t_diary h_t_longs h_t_awakes h_t_fit h_t_counts h_t_worths h_t_ripes h_t_growths h_t_gains h_t_isThere h_t_forms h_t_sizes h_t_items h_t_moved v_m_hours v_m_months v_m_fitMany v_m_fitFirst v_m_finding v_m_typed (upd v_m_texts ((60 * x1) + (v_m_typed x1.toNatClampNeg)).toNatClampNeg x2)) H := hP
          have hD : va_D (va_A (wd_X8_type cI cZ cP cS h_t h_t_turns h_t_phases h_t_ups h_t_typed h_t_texts h_t_diary h_t_longs h_t_awakes h_t_fit h_t_counts h_t_worths h_t_ripes h_t_growths h_t_gains h_t_isThere h_t_forms h_t_sizes h_t_items h_t_moved v_m_hours v_m_months v_m_fitMany v_m_fitFirst v_m_finding v_m_typed v_m_texts) s.heap.size) (wd_X8_type cI cZ cP cS h_t h_t_turns h_t_phases h_t_ups h_t_typed h_t_texts h_t_diary h_t_longs h_t_awakes h_t_fit h_t_counts h_t_worths h_t_ripes h_t_growths h_t_gains h_t_isThere h_t_forms h_t_sizes h_t_items h_t_moved v_m_hours v_m_months v_m_fitMany v_m_fitFirst v_m_finding v_m_typed (upd v_m_texts ((60 * x1) + (v_m_typed x1.toNatClampNeg)).toNatClampNeg x2)) := hD
          refine lv_aload_n hx hb dX8_type_63 rfl (lv_at hl 0 rfl) ?_
          refine va_get (D := (dC, dI)) (ci := 7) (v := .ref h_t_typed) (C := RX8) (T := TX8) (N := 24) hx hb hts hinX8 hown hK hP 0 rfl rfl 3 (by decide) (hts (.fieldLink RX8 19 "SecondSunriseModel" "typed" "[I") (by decide +kernel)) (fun _ h9 => h9) rfl dX8_type_64 ?_
          refine lv_iload_n hx hb dX8_type_67 rfl (lv_at hl 1 rfl) ?_
          refine lv_dup2_11 hx hb dX8_type_68 rfl rfl ?_
          obtain ⟨hi_14, hf⟩ := ix_e hf
          refine va_iald hx hb hK hP 1 0 rfl rfl hi_14 dX8_type_69 ?_
          refine lv_iconst (v := 1) hx hb dX8_type_70 (by decide) ?_
          refine lv_iadd hx hb dX8_type_71 ?_
          obtain ⟨hi_15, hf⟩ := ix_e hf
          refine va_iast hx hb hK hP hD hS 1 0 rfl rfl hi_15 dX8_type_72 (fun H locs hP hD hS => ?_)
          have hP : va_P (dC, dI) vwCl (wd_X8_type cI cZ cP cS h_t h_t_turns h_t_phases h_t_ups h_t_typed h_t_texts h_t_diary h_t_longs h_t_awakes h_t_fit h_t_counts h_t_worths h_t_ripes h_t_growths h_t_gains h_t_isThere h_t_forms h_t_sizes h_t_items h_t_moved v_m_hours v_m_months v_m_fitMany v_m_fitFirst v_m_finding (upd v_m_typed x1.toNatClampNeg ((v_m_typed x1.toNatClampNeg) + 1)) (upd v_m_texts ((60 * x1) + (v_m_typed x1.toNatClampNeg)).toNatClampNeg x2)) H := hP
          have hD : va_D (va_A (wd_X8_type cI cZ cP cS h_t h_t_turns h_t_phases h_t_ups h_t_typed h_t_texts h_t_diary h_t_longs h_t_awakes h_t_fit h_t_counts h_t_worths h_t_ripes h_t_growths h_t_gains h_t_isThere h_t_forms h_t_sizes h_t_items h_t_moved v_m_hours v_m_months v_m_fitMany v_m_fitFirst v_m_finding v_m_typed v_m_texts) s.heap.size) (wd_X8_type cI cZ cP cS h_t h_t_turns h_t_phases h_t_ups h_t_typed h_t_texts h_t_diary h_t_longs h_t_awakes h_t_fit h_t_counts h_t_worths h_t_ripes h_t_growths h_t_gains h_t_isThere h_t_forms h_t_sizes h_t_items h_t_moved v_m_hours v_m_months v_m_fitMany v_m_fitFirst v_m_finding (upd v_m_typed x1.toNatClampNeg ((v_m_typed x1.toNatClampNeg) + 1)) (upd v_m_texts ((60 * x1) + (v_m_typed x1.toNatClampNeg)).toNatClampNeg x2)) := hD
          refine lv_aload_n hx hb dX8_type_73 rfl (lv_at hl 0 rfl) ?_
          refine va_get (D := (dC, dI)) (ci := 7) (v := .ref h_t_typed) (C := RX8) (T := TX8) (N := 24) hx hb hts hinX8 hown hK hP 0 rfl rfl 3 (by decide) (hts (.fieldLink RX8 19 "SecondSunriseModel" "typed" "[I") (by decide +kernel)) (fun _ h9 => h9) rfl dX8_type_74 ?_
          refine lv_iload_n hx hb dX8_type_77 rfl (lv_at hl 1 rfl) ?_
          obtain ⟨hi_16, hf⟩ := ix_e hf
          refine va_iald hx hb hK hP 1 0 rfl rfl hi_16 dX8_type_78 ?_
          have hq0 := Option.some.inj hf
          obtain ⟨eq0, hq1⟩ := Prod.mk.inj hq0
          obtain ⟨eq1, hq2⟩ := Prod.mk.inj hq1
          clear hf hq0 hq1
          subst eq0
          subst eq1
          subst hq2
          exact W.iret hx hb hr (fun t ht hW => ⟨⟨_, (), rfl, rfl, by rw [ht]; exact hP, va_K.moved hW.alike hK, hD⟩, hS.F ht⟩) hS.2.2 dX8_type_79
        · rw [if_pos c40] at hf
          refine lv_bipush (v := (-4)) hx hb dX8_type_43 (by decide) ?_
          have hq0 := Option.some.inj hf
          obtain ⟨eq0, hq1⟩ := Prod.mk.inj hq0
          obtain ⟨eq1, hq2⟩ := Prod.mk.inj hq1
          clear hf hq0 hq1
          subst eq0
          subst eq1
          subst hq2
          exact W.iret hx hb hr (fun t ht hW => ⟨⟨_, (), rfl, rfl, by rw [ht]; exact hP, va_K.moved hW.alike hK, hD⟩, hS.F ht⟩) hS.2.2 dX8_type_45
      clear hf
      refine lv_if_ne (tgt := 38) hx hb dX8_type_30 (by decide) (fun c30 => ?_) (fun c30 => ?_)
      ·
        refine lv_bipush (v := 20) hx hb dX8_type_38 (by decide) ?_
        rw [if_neg c30] at ev40_10
        subst ev40_10
        exact hj40_11 ls (lv_sub hl [0, 1, 2] rfl)
      ·
        refine lv_bipush (v := 60) hx hb dX8_type_33 (by decide) ?_
        refine lv_goto (tgt := 40) hx hb dX8_type_35 (by decide) ?_
        rw [if_pos c30] at ev40_10
        subst ev40_10
        exact hj40_11 ls (lv_sub hl [0, 1, 2] rfl)
    · rw [if_pos c17] at hf
      refine lv_bipush (v := (-2)) hx hb dX8_type_20 (by decide) ?_
      have hq0 := Option.some.inj hf
      obtain ⟨eq0, hq1⟩ := Prod.mk.inj hq0
      obtain ⟨eq1, hq2⟩ := Prod.mk.inj hq1
      clear hf hq0 hq1
      subst eq0
      subst eq1
      subst hq2
      exact W.iret hx hb hr (fun t ht hW => ⟨⟨_, (), rfl, rfl, by rw [ht]; exact hP, va_K.moved hW.alike hK, hD⟩, hS.F ht⟩) hS.2.2 dX8_type_22

abbrev wd_X8_undo (cI cZ cP cS : ClassId) (h_t h_t_turns h_t_phases h_t_ups h_t_typed h_t_texts h_t_diary h_t_longs h_t_awakes h_t_fit h_t_counts h_t_worths h_t_ripes h_t_growths h_t_gains h_t_isThere h_t_forms h_t_sizes h_t_items h_t_moved : Nat) (v_m_hours : Int32) (v_m_months : Int32) (v_m_fitMany : Int32) (v_m_fitFirst : Int32) (v_m_finding : Int32) (v_m_typed : Nat → Int32) : va_W := [(h_t, .inr (7, [.ref h_t_turns, .ref h_t_phases, .ref h_t_ups, .ref h_t_typed, .ref h_t_texts, .int v_m_hours, .ref h_t_diary, .int v_m_months, .ref h_t_longs, .ref h_t_awakes, .ref h_t_fit, .int v_m_fitMany, .int v_m_fitFirst, .ref h_t_counts, .ref h_t_worths, .ref h_t_ripes, .ref h_t_growths, .ref h_t_gains, .ref h_t_isThere, .ref h_t_forms, .ref h_t_sizes, .ref h_t_items, .ref h_t_moved, .int v_m_finding])), (h_t_typed, .inl (cI, 2, .inl v_m_typed))]
abbrev rm_X8_undo : Room := { frames := 1, cells := 0, slots := 0, locals := 22 }
def f_X8_undo (n : Nat) (v_m_typed : Nat → Int32) (x1 : Int32) : Option (Int32 × (Nat → Int32)) := bd1_ (f_X8_in n x1 0 1) (fun (r3_1 : Int32) => if r3_1 = 0 then some ((-2), v_m_typed) else ix_ x1 2 (if (v_m_typed x1.toNatClampNeg) = 0 then some ((-3), v_m_typed) else ix_ x1 2 (ix_ x1 2 (ix_ x1 2 (some (((upd v_m_typed x1.toNatClampNeg ((v_m_typed x1.toNatClampNeg) - 1)) x1.toNatClampNeg), (upd v_m_typed x1.toNatClampNeg ((v_m_typed x1.toNatClampNeg) - 1))))))))
set_option maxHeartbeats 4000000 in
set_option maxRecDepth 100000 in
theorem c_X8_undo (l : Launch) (dC : Nat → ClassId) (dI : Nat → Nat → Nat) (cI cZ cP cS : ClassId) (sz : Nat) (h_t h_t_turns h_t_phases h_t_ups h_t_typed h_t_texts h_t_diary h_t_longs h_t_awakes h_t_fit h_t_counts h_t_worths h_t_ripes h_t_growths h_t_gains h_t_isThere h_t_forms h_t_sizes h_t_items h_t_moved : Nat) (v_m_hours : Int32) (v_m_months : Int32) (v_m_fitMany : Int32) (v_m_fitFirst : Int32) (v_m_finding : Int32) (v_m_typed : Nat → Int32) (x1 : Int32) (n : Nat) (r : Int32) (o_m_typed : Nat → Int32) (hf : f_X8_undo n v_m_typed x1 = some (r, o_m_typed)) : Met l yX8_undo wsX8_undo rm_X8_undo (RW (dC, dI) (TY cI cZ cP cS) [.ref h_t, .int x1] sz (wd_X8_undo cI cZ cP cS h_t h_t_turns h_t_phases h_t_ups h_t_typed h_t_texts h_t_diary h_t_longs h_t_awakes h_t_fit h_t_counts h_t_worths h_t_ripes h_t_growths h_t_gains h_t_isThere h_t_forms h_t_sizes h_t_items h_t_moved v_m_hours v_m_months v_m_fitMany v_m_fitFirst v_m_finding v_m_typed)) (RWi (dC, dI) (TY cI cZ cP cS) r sz (wd_X8_undo cI cZ cP cS h_t h_t_turns h_t_phases h_t_ups h_t_typed h_t_texts h_t_diary h_t_longs h_t_awakes h_t_fit h_t_counts h_t_worths h_t_ripes h_t_growths h_t_gains h_t_isThere h_t_forms h_t_sizes h_t_items h_t_moved v_m_hours v_m_months v_m_fitMany v_m_fitFirst v_m_finding v_m_typed) (wd_X8_undo cI cZ cP cS h_t h_t_turns h_t_phases h_t_ups h_t_typed h_t_texts h_t_diary h_t_longs h_t_awakes h_t_fit h_t_counts h_t_worths h_t_ripes h_t_growths h_t_gains h_t_isThere h_t_forms h_t_sizes h_t_items h_t_moved v_m_hours v_m_months v_m_fitMany v_m_fitFirst v_m_finding o_m_typed)) 0 0 (va_A (wd_X8_undo cI cZ cP cS h_t h_t_turns h_t_phases h_t_ups h_t_typed h_t_texts h_t_diary h_t_longs h_t_awakes h_t_fit h_t_counts h_t_worths h_t_ripes h_t_growths h_t_gains h_t_isThere h_t_forms h_t_sizes h_t_items h_t_moved v_m_hours v_m_months v_m_fitMany v_m_fitFirst v_m_finding v_m_typed) sz) := by
  refine Met.ofW (cc := cX8_undo) (maxL := 2) (ret := (some .int)) (by decide) rfl ?_
  intro p e s m args below meth c s₁ B hml hv
  obtain ⟨rfl, hsz, hP, hK, hD0⟩ := hv
  have hx := B.exec
  have hb := B.bytes
  have hr := B.returns
  have hts := atoms_spec (ws := wsX8_undo) B.pre
  have hown : s.vm.findClass RX8 = some m.cls := findClass_of_methodNamed B.named
  have hlocks := B.notSynchronized
  subst hsz
  have hD := hD0.self (sz := s.heap.size)
  have hA : ∀ q : Nat, s.heap.size ≤ q → (va_A (wd_X8_undo cI cZ cP cS h_t h_t_turns h_t_phases h_t_ups h_t_typed h_t_texts h_t_diary h_t_longs h_t_awakes h_t_fit h_t_counts h_t_worths h_t_ripes h_t_growths h_t_gains h_t_isThere h_t_forms h_t_sizes h_t_items h_t_moved v_m_hours v_m_months v_m_fitMany v_m_fitFirst v_m_finding v_m_typed) s.heap.size) q := fun q h => Or.inr h
  have hS : va_S (va_A (wd_X8_undo cI cZ cP cS h_t h_t_turns h_t_phases h_t_ups h_t_typed h_t_texts h_t_diary h_t_longs h_t_awakes h_t_fit h_t_counts h_t_worths h_t_ripes h_t_growths h_t_gains h_t_isThere h_t_forms h_t_sizes h_t_items h_t_moved v_m_hours v_m_months v_m_fitMany v_m_fitFirst v_m_finding v_m_typed) s.heap.size) s.heap s.heap [] := va_S.rf
  have hinX8 : ∀ w ∈ wsX80, w ∈ wsX8_undo := by decide +kernel
  have hl := lv_entry ([.ref h_t, .int x1]) (n := 2) (Nat.le_of_ble_eq_true rfl)
  rw [lg_entry_eq]
  generalize (lg_sl ([.ref h_t, .int x1]) ++ List.replicate (2 - (lg_sl ([.ref h_t, .int x1])).length) Slot.unset).toArray = ls at hl ⊢
  have hl : lv_has ls 2 [(0, .ref h_t), (1, .int x1)] := hl
  obtain ⟨H, hH⟩ : ∃ H : Heap, H = s.heap := ⟨_, rfl⟩
  have hP : va_P (dC, dI) vwCl (wd_X8_undo cI cZ cP cS h_t h_t_turns h_t_phases h_t_ups h_t_typed h_t_texts h_t_diary h_t_longs h_t_awakes h_t_fit h_t_counts h_t_worths h_t_ripes h_t_growths h_t_gains h_t_isThere h_t_forms h_t_sizes h_t_items h_t_moved v_m_hours v_m_months v_m_fitMany v_m_fitFirst v_m_finding v_m_typed) H := by rw [hH]; exact hP
  have hS : va_S (va_A (wd_X8_undo cI cZ cP cS h_t h_t_turns h_t_phases h_t_ups h_t_typed h_t_texts h_t_diary h_t_longs h_t_awakes h_t_fit h_t_counts h_t_worths h_t_ripes h_t_growths h_t_gains h_t_isThere h_t_forms h_t_sizes h_t_items h_t_moved v_m_hours v_m_months v_m_fitMany v_m_fitFirst v_m_finding v_m_typed) s.heap.size) s.heap H [] := by rw [hH]; exact hS
  obtain ⟨locs, hlo⟩ : ∃ L : List Loc, L = [] := ⟨_, rfl⟩
  rw [← hlo] at hS
  suffices hgo : W p l e (headSpec wsX8_undo rm_X8_undo).room s m ([.ref h_t, .int x1] : List Value).toArray below meth c H locs 0 0 (MQ below (RWi (dC, dI) (TY cI cZ cP cS) r s.heap.size (wd_X8_undo cI cZ cP cS h_t h_t_turns h_t_phases h_t_ups h_t_typed h_t_texts h_t_diary h_t_longs h_t_awakes h_t_fit h_t_counts h_t_worths h_t_ripes h_t_growths h_t_gains h_t_isThere h_t_forms h_t_sizes h_t_items h_t_moved v_m_hours v_m_months v_m_fitMany v_m_fitFirst v_m_finding v_m_typed) (wd_X8_undo cI cZ cP cS h_t h_t_turns h_t_phases h_t_ups h_t_typed h_t_texts h_t_diary h_t_longs h_t_awakes h_t_fit h_t_counts h_t_worths h_t_ripes h_t_growths h_t_gains h_t_isThere h_t_forms h_t_sizes h_t_items h_t_moved v_m_hours v_m_months v_m_fitMany v_m_fitFirst v_m_finding o_m_typed)) ([.ref h_t, .int x1] : List Value).toArray s 0 0 (va_A (wd_X8_undo cI cZ cP cS h_t h_t_turns h_t_phases h_t_ups h_t_typed h_t_texts h_t_diary h_t_longs h_t_awakes h_t_fit h_t_counts h_t_worths h_t_ripes h_t_growths h_t_gains h_t_isThere h_t_forms h_t_sizes h_t_items h_t_moved v_m_hours v_m_months v_m_fitMany v_m_fitFirst v_m_finding v_m_typed) s.heap.size)) (F0 m 0 ls []) by rw [hH, hlo] at hgo; exact hgo
  clear hH hlo
  unfold f_X8_undo at hf
  refine lv_iload_n hx hb dX8_undo_0 rfl (lv_at hl 1 rfl) ?_
  refine lv_iconst (v := 0) hx hb dX8_undo_1 (by decide) ?_
  refine lv_iconst (v := 1) hx hb dX8_undo_2 (by decide) ?_
  obtain ⟨r3_1, hc_2, hf⟩ := bd1_e hf
  refine vp_callSi (va_runS (As := [.int x1, .int 0, .int 1]) (rest := []) ⟨hx, hb, hml, hown, hts⟩ (c_X8_in l dC dI cI cZ cP cS   x1 0 1 n r3_1 hc_2) (va_cwS 3 hts gX8_undo_X8_in rfl rfl rfl (by decide +kernel) ⟨Nat.le_of_ble_eq_true rfl, Nat.le_of_ble_eq_true rfl⟩) (ps_ro hK (hP.sub (ws' := ([] : va_W)) [] rfl)) rfl rfl hl.1 rfl (lv_room (Nat.le_of_ble_eq_true rfl)) dX8_undo_3 ⟨Nat.zero_le _, Nat.zero_le _⟩).run (fun x e_3 => ?_)
  obtain ⟨e_3, hb_4⟩ := e_3
  rw [e_3] at hb_4 ⊢
  refine lv_if_ne (tgt := 12) hx hb dX8_undo_6 (by decide) (fun c6 => ?_) (fun c6 => ?_)
  · rw [if_neg c6] at hf
    refine lv_aload_n hx hb dX8_undo_12 rfl (lv_at hl 0 rfl) ?_
    refine va_get (D := (dC, dI)) (ci := 7) (v := .ref h_t_typed) (C := RX8) (T := TX8) (N := 24) hx hb hts hinX8 hown hK hP 0 rfl rfl 3 (by decide) (hts (.fieldLink RX8 19 "SecondSunriseModel" "typed" "[I") (by decide +kernel)) (fun _ h9 => h9) rfl dX8_undo_13 ?_
    refine lv_iload_n hx hb dX8_undo_16 rfl (lv_at hl 1 rfl) ?_
    obtain ⟨hi_5, hf⟩ := ix_e hf
    refine va_iald hx hb hK hP 1 0 rfl rfl hi_5 dX8_undo_17 ?_
    refine lv_if_ne (tgt := 24) hx hb dX8_undo_18 (by decide) (fun c18 => ?_) (fun c18 => ?_)
    · rw [if_neg c18] at hf
      refine lv_aload_n hx hb dX8_undo_24 rfl (lv_at hl 0 rfl) ?_
      refine va_get (D := (dC, dI)) (ci := 7) (v := .ref h_t_typed) (C := RX8) (T := TX8) (N := 24) hx hb hts hinX8 hown hK hP 0 rfl rfl 3 (by decide) (hts (.fieldLink RX8 19 "SecondSunriseModel" "typed" "[I") (by decide +kernel)) (fun _ h9 => h9) rfl dX8_undo_25 ?_
      refine lv_iload_n hx hb dX8_undo_28 rfl (lv_at hl 1 rfl) ?_
      refine lv_dup2_11 hx hb dX8_undo_29 rfl rfl ?_
      obtain ⟨hi_6, hf⟩ := ix_e hf
      refine va_iald hx hb hK hP 1 0 rfl rfl hi_6 dX8_undo_30 ?_
      refine lv_iconst (v := 1) hx hb dX8_undo_31 (by decide) ?_
      refine lv_isub hx hb dX8_undo_32 ?_
      obtain ⟨hi_7, hf⟩ := ix_e hf
      refine va_iast hx hb hK hP hD hS 1 0 rfl rfl hi_7 dX8_undo_33 (fun H locs hP hD hS => ?_)
      have hP : va_P (dC, dI) vwCl (wd_X8_undo cI cZ cP cS h_t h_t_turns h_t_phases h_t_ups h_t_typed h_t_texts h_t_diary h_t_longs h_t_awakes h_t_fit h_t_counts h_t_worths h_t_ripes h_t_growths h_t_gains h_t_isThere h_t_forms h_t_sizes h_t_items h_t_moved v_m_hours v_m_months v_m_fitMany v_m_fitFirst v_m_finding (upd v_m_typed x1.toNatClampNeg ((v_m_typed x1.toNatClampNeg) - 1))) H := hP
      have hD : va_D (va_A (wd_X8_undo cI cZ cP cS h_t h_t_turns h_t_phases h_t_ups h_t_typed h_t_texts h_t_diary h_t_longs h_t_awakes h_t_fit h_t_counts h_t_worths h_t_ripes h_t_growths h_t_gains h_t_isThere h_t_forms h_t_sizes h_t_items h_t_moved v_m_hours v_m_months v_m_fitMany v_m_fitFirst v_m_finding v_m_typed) s.heap.size) (wd_X8_undo cI cZ cP cS h_t h_t_turns h_t_phases h_t_ups h_t_typed h_t_texts h_t_diary h_t_longs h_t_awakes h_t_fit h_t_counts h_t_worths h_t_ripes h_t_growths h_t_gains h_t_isThere h_t_forms h_t_sizes h_t_items h_t_moved v_m_hours v_m_months v_m_fitMany v_m_fitFirst v_m_finding (upd v_m_typed x1.toNatClampNeg ((v_m_typed x1.toNatClampNeg) - 1))) := hD
      refine lv_aload_n hx hb dX8_undo_34 rfl (lv_at hl 0 rfl) ?_
      refine va_get (D := (dC, dI)) (ci := 7) (v := .ref h_t_typed) (C := RX8) (T := TX8) (N := 24) hx hb hts hinX8 hown hK hP 0 rfl rfl 3 (by decide) (hts (.fieldLink RX8 19 "SecondSunriseModel" "typed" "[I") (by decide +kernel)) (fun _ h9 => h9) rfl dX8_undo_35 ?_
      refine lv_iload_n hx hb dX8_undo_38 rfl (lv_at hl 1 rfl) ?_
      obtain ⟨hi_8, hf⟩ := ix_e hf
      refine va_iald hx hb hK hP 1 0 rfl rfl hi_8 dX8_undo_39 ?_
      have hq0 := Option.some.inj hf
      obtain ⟨eq0, hq1⟩ := Prod.mk.inj hq0
      clear hf hq0
      subst eq0
      subst hq1
      exact W.iret hx hb hr (fun t ht hW => ⟨⟨_, (), rfl, rfl, by rw [ht]; exact hP, va_K.moved hW.alike hK, hD⟩, hS.F ht⟩) hS.2.2 dX8_undo_40
    · rw [if_pos c18] at hf
      refine lv_bipush (v := (-3)) hx hb dX8_undo_21 (by decide) ?_
      have hq0 := Option.some.inj hf
      obtain ⟨eq0, hq1⟩ := Prod.mk.inj hq0
      clear hf hq0
      subst eq0
      subst hq1
      exact W.iret hx hb hr (fun t ht hW => ⟨⟨_, (), rfl, rfl, by rw [ht]; exact hP, va_K.moved hW.alike hK, hD⟩, hS.F ht⟩) hS.2.2 dX8_undo_23
  · rw [if_pos c6] at hf
    refine lv_bipush (v := (-2)) hx hb dX8_undo_9 (by decide) ?_
    have hq0 := Option.some.inj hf
    obtain ⟨eq0, hq1⟩ := Prod.mk.inj hq0
    clear hf hq0
    subst eq0
    subst hq1
    exact W.iret hx hb hr (fun t ht hW => ⟨⟨_, (), rfl, rfl, by rw [ht]; exact hP, va_K.moved hW.alike hK, hD⟩, hS.F ht⟩) hS.2.2 dX8_undo_11

abbrev wd_X8_watch (cI cZ cP cS : ClassId) (h_t h_t_turns h_t_phases h_t_ups h_t_typed h_t_texts h_t_diary h_t_longs h_t_awakes h_t_fit h_t_counts h_t_worths h_t_ripes h_t_growths h_t_gains h_t_isThere h_t_forms h_t_sizes h_t_items h_t_moved : Nat) (v_m_hours : Int32) (v_m_months : Int32) (v_m_fitMany : Int32) (v_m_fitFirst : Int32) (v_m_finding : Int32) (v_m_turns : Nat → Int32) (v_m_ups : Nat → Int32) (v_m_typed : Nat → Int32) (v_m_texts : Nat → Int32) (v_m_diary : Nat → Int32) (v_m_longs : Nat → Int32) (v_m_fit : Nat → Int32) (v_m_counts : Nat → Int32) : va_W := [(h_t, .inr (7, [.ref h_t_turns, .ref h_t_phases, .ref h_t_ups, .ref h_t_typed, .ref h_t_texts, .int v_m_hours, .ref h_t_diary, .int v_m_months, .ref h_t_longs, .ref h_t_awakes, .ref h_t_fit, .int v_m_fitMany, .int v_m_fitFirst, .ref h_t_counts, .ref h_t_worths, .ref h_t_ripes, .ref h_t_growths, .ref h_t_gains, .ref h_t_isThere, .ref h_t_forms, .ref h_t_sizes, .ref h_t_items, .ref h_t_moved, .int v_m_finding])), (h_t_turns, .inl (cI, 2, .inl v_m_turns)), (h_t_ups, .inl (cI, 2, .inl v_m_ups)), (h_t_typed, .inl (cI, 2, .inl v_m_typed)), (h_t_texts, .inl (cI, 120, .inl v_m_texts)), (h_t_diary, .inl (cI, 60, .inl v_m_diary)), (h_t_longs, .inl (cI, 7, .inl v_m_longs)), (h_t_fit, .inl (cZ, 1600, .inl v_m_fit)), (h_t_counts, .inl (cI, 4, .inl v_m_counts))]
abbrev rm_X8_watch : Room := { frames := 7, cells := 0, slots := 0, locals := 161 }
def f_X8_watch (n : Nat) (v_m_hours : Int32) (v_m_months : Int32) (v_m_fitMany : Int32) (v_m_fitFirst : Int32) (v_m_turns : Nat → Int32) (v_m_ups : Nat → Int32) (v_m_typed : Nat → Int32) (v_m_texts : Nat → Int32) (v_m_diary : Nat → Int32) (v_m_longs : Nat → Int32) (v_m_fit : Nat → Int32) (v_m_counts : Nat → Int32) (x1 : Int32) : Option (Int32 × Int32 × Int32 × Int32 × Int32 × (Nat → Int32) × (Nat → Int32) × (Nat → Int32) × (Nat → Int32)) := bd1_ (f_X8_in n x1 0 1) (fun (r3_1 : Int32) => if r3_1 = 0 then some ((-2), v_m_hours, v_m_months, v_m_fitMany, v_m_fitFirst, v_m_diary, v_m_longs, v_m_fit, v_m_counts) else bd9_ (f_X8_watchOf n v_m_hours v_m_months v_m_fitMany v_m_fitFirst v_m_turns v_m_ups v_m_typed v_m_texts v_m_diary v_m_longs v_m_fit v_m_counts x1) (fun (r11_5 : Int32) (o11_6 : Int32) (o11_7 : Int32) (o11_8 : Int32) (o11_9 : Int32) (o11_10 : Nat → Int32) (o11_11 : Nat → Int32) (o11_12 : Nat → Int32) (o11_13 : Nat → Int32) => some (r11_5, o11_6, o11_7, o11_8, o11_9, o11_10, o11_11, o11_12, o11_13)))
set_option maxHeartbeats 4000000 in
set_option maxRecDepth 100000 in
theorem c_X8_watch (l : Launch) (dC : Nat → ClassId) (dI : Nat → Nat → Nat) (cI cZ cP cS : ClassId) (sz : Nat) (h_t h_t_turns h_t_phases h_t_ups h_t_typed h_t_texts h_t_diary h_t_longs h_t_awakes h_t_fit h_t_counts h_t_worths h_t_ripes h_t_growths h_t_gains h_t_isThere h_t_forms h_t_sizes h_t_items h_t_moved : Nat) (v_m_hours : Int32) (v_m_months : Int32) (v_m_fitMany : Int32) (v_m_fitFirst : Int32) (v_m_finding : Int32) (v_m_turns : Nat → Int32) (v_m_ups : Nat → Int32) (v_m_typed : Nat → Int32) (v_m_texts : Nat → Int32) (v_m_diary : Nat → Int32) (v_m_longs : Nat → Int32) (v_m_fit : Nat → Int32) (v_m_counts : Nat → Int32) (x1 : Int32) (n : Nat) (r : Int32) (o_m_hours : Int32) (o_m_months : Int32) (o_m_fitMany : Int32) (o_m_fitFirst : Int32) (o_m_diary : Nat → Int32) (o_m_longs : Nat → Int32) (o_m_fit : Nat → Int32) (o_m_counts : Nat → Int32) (hf : f_X8_watch n v_m_hours v_m_months v_m_fitMany v_m_fitFirst v_m_turns v_m_ups v_m_typed v_m_texts v_m_diary v_m_longs v_m_fit v_m_counts x1 = some (r, o_m_hours, o_m_months, o_m_fitMany, o_m_fitFirst, o_m_diary, o_m_longs, o_m_fit, o_m_counts)) : Met l yX8_watch wsX8_watch rm_X8_watch (RW (dC, dI) (TY cI cZ cP cS) [.ref h_t, .int x1] sz (wd_X8_watch cI cZ cP cS h_t h_t_turns h_t_phases h_t_ups h_t_typed h_t_texts h_t_diary h_t_longs h_t_awakes h_t_fit h_t_counts h_t_worths h_t_ripes h_t_growths h_t_gains h_t_isThere h_t_forms h_t_sizes h_t_items h_t_moved v_m_hours v_m_months v_m_fitMany v_m_fitFirst v_m_finding v_m_turns v_m_ups v_m_typed v_m_texts v_m_diary v_m_longs v_m_fit v_m_counts)) (RWi (dC, dI) (TY cI cZ cP cS) r sz (wd_X8_watch cI cZ cP cS h_t h_t_turns h_t_phases h_t_ups h_t_typed h_t_texts h_t_diary h_t_longs h_t_awakes h_t_fit h_t_counts h_t_worths h_t_ripes h_t_growths h_t_gains h_t_isThere h_t_forms h_t_sizes h_t_items h_t_moved v_m_hours v_m_months v_m_fitMany v_m_fitFirst v_m_finding v_m_turns v_m_ups v_m_typed v_m_texts v_m_diary v_m_longs v_m_fit v_m_counts) (wd_X8_watch cI cZ cP cS h_t h_t_turns h_t_phases h_t_ups h_t_typed h_t_texts h_t_diary h_t_longs h_t_awakes h_t_fit h_t_counts h_t_worths h_t_ripes h_t_growths h_t_gains h_t_isThere h_t_forms h_t_sizes h_t_items h_t_moved o_m_hours o_m_months o_m_fitMany o_m_fitFirst v_m_finding v_m_turns v_m_ups v_m_typed v_m_texts o_m_diary o_m_longs o_m_fit o_m_counts)) 0 0 (va_A (wd_X8_watch cI cZ cP cS h_t h_t_turns h_t_phases h_t_ups h_t_typed h_t_texts h_t_diary h_t_longs h_t_awakes h_t_fit h_t_counts h_t_worths h_t_ripes h_t_growths h_t_gains h_t_isThere h_t_forms h_t_sizes h_t_items h_t_moved v_m_hours v_m_months v_m_fitMany v_m_fitFirst v_m_finding v_m_turns v_m_ups v_m_typed v_m_texts v_m_diary v_m_longs v_m_fit v_m_counts) sz) := by
  refine Met.ofW (cc := cX8_watch) (maxL := 2) (ret := (some .int)) (by decide) rfl ?_
  intro p e s m args below meth c s₁ B hml hv
  obtain ⟨rfl, hsz, hP, hK, hD0⟩ := hv
  have hx := B.exec
  have hb := B.bytes
  have hr := B.returns
  have hts := atoms_spec (ws := wsX8_watch) B.pre
  have hown : s.vm.findClass RX8 = some m.cls := findClass_of_methodNamed B.named
  have hlocks := B.notSynchronized
  subst hsz
  have hD := hD0.self (sz := s.heap.size)
  have hA : ∀ q : Nat, s.heap.size ≤ q → (va_A (wd_X8_watch cI cZ cP cS h_t h_t_turns h_t_phases h_t_ups h_t_typed h_t_texts h_t_diary h_t_longs h_t_awakes h_t_fit h_t_counts h_t_worths h_t_ripes h_t_growths h_t_gains h_t_isThere h_t_forms h_t_sizes h_t_items h_t_moved v_m_hours v_m_months v_m_fitMany v_m_fitFirst v_m_finding v_m_turns v_m_ups v_m_typed v_m_texts v_m_diary v_m_longs v_m_fit v_m_counts) s.heap.size) q := fun q h => Or.inr h
  have hS : va_S (va_A (wd_X8_watch cI cZ cP cS h_t h_t_turns h_t_phases h_t_ups h_t_typed h_t_texts h_t_diary h_t_longs h_t_awakes h_t_fit h_t_counts h_t_worths h_t_ripes h_t_growths h_t_gains h_t_isThere h_t_forms h_t_sizes h_t_items h_t_moved v_m_hours v_m_months v_m_fitMany v_m_fitFirst v_m_finding v_m_turns v_m_ups v_m_typed v_m_texts v_m_diary v_m_longs v_m_fit v_m_counts) s.heap.size) s.heap s.heap [] := va_S.rf
  have hl := lv_entry ([.ref h_t, .int x1]) (n := 2) (Nat.le_of_ble_eq_true rfl)
  rw [lg_entry_eq]
  generalize (lg_sl ([.ref h_t, .int x1]) ++ List.replicate (2 - (lg_sl ([.ref h_t, .int x1])).length) Slot.unset).toArray = ls at hl ⊢
  have hl : lv_has ls 2 [(0, .ref h_t), (1, .int x1)] := hl
  obtain ⟨H, hH⟩ : ∃ H : Heap, H = s.heap := ⟨_, rfl⟩
  have hP : va_P (dC, dI) vwCl (wd_X8_watch cI cZ cP cS h_t h_t_turns h_t_phases h_t_ups h_t_typed h_t_texts h_t_diary h_t_longs h_t_awakes h_t_fit h_t_counts h_t_worths h_t_ripes h_t_growths h_t_gains h_t_isThere h_t_forms h_t_sizes h_t_items h_t_moved v_m_hours v_m_months v_m_fitMany v_m_fitFirst v_m_finding v_m_turns v_m_ups v_m_typed v_m_texts v_m_diary v_m_longs v_m_fit v_m_counts) H := by rw [hH]; exact hP
  have hS : va_S (va_A (wd_X8_watch cI cZ cP cS h_t h_t_turns h_t_phases h_t_ups h_t_typed h_t_texts h_t_diary h_t_longs h_t_awakes h_t_fit h_t_counts h_t_worths h_t_ripes h_t_growths h_t_gains h_t_isThere h_t_forms h_t_sizes h_t_items h_t_moved v_m_hours v_m_months v_m_fitMany v_m_fitFirst v_m_finding v_m_turns v_m_ups v_m_typed v_m_texts v_m_diary v_m_longs v_m_fit v_m_counts) s.heap.size) s.heap H [] := by rw [hH]; exact hS
  obtain ⟨locs, hlo⟩ : ∃ L : List Loc, L = [] := ⟨_, rfl⟩
  rw [← hlo] at hS
  suffices hgo : W p l e (headSpec wsX8_watch rm_X8_watch).room s m ([.ref h_t, .int x1] : List Value).toArray below meth c H locs 0 0 (MQ below (RWi (dC, dI) (TY cI cZ cP cS) r s.heap.size (wd_X8_watch cI cZ cP cS h_t h_t_turns h_t_phases h_t_ups h_t_typed h_t_texts h_t_diary h_t_longs h_t_awakes h_t_fit h_t_counts h_t_worths h_t_ripes h_t_growths h_t_gains h_t_isThere h_t_forms h_t_sizes h_t_items h_t_moved v_m_hours v_m_months v_m_fitMany v_m_fitFirst v_m_finding v_m_turns v_m_ups v_m_typed v_m_texts v_m_diary v_m_longs v_m_fit v_m_counts) (wd_X8_watch cI cZ cP cS h_t h_t_turns h_t_phases h_t_ups h_t_typed h_t_texts h_t_diary h_t_longs h_t_awakes h_t_fit h_t_counts h_t_worths h_t_ripes h_t_growths h_t_gains h_t_isThere h_t_forms h_t_sizes h_t_items h_t_moved o_m_hours o_m_months o_m_fitMany o_m_fitFirst v_m_finding v_m_turns v_m_ups v_m_typed v_m_texts o_m_diary o_m_longs o_m_fit o_m_counts)) ([.ref h_t, .int x1] : List Value).toArray s 0 0 (va_A (wd_X8_watch cI cZ cP cS h_t h_t_turns h_t_phases h_t_ups h_t_typed h_t_texts h_t_diary h_t_longs h_t_awakes h_t_fit h_t_counts h_t_worths h_t_ripes h_t_growths h_t_gains h_t_isThere h_t_forms h_t_sizes h_t_items h_t_moved v_m_hours v_m_months v_m_fitMany v_m_fitFirst v_m_finding v_m_turns v_m_ups v_m_typed v_m_texts v_m_diary v_m_longs v_m_fit v_m_counts) s.heap.size)) (F0 m 0 ls []) by rw [hH, hlo] at hgo; exact hgo
  clear hH hlo
  unfold f_X8_watch at hf
  refine lv_iload_n hx hb dX8_watch_0 rfl (lv_at hl 1 rfl) ?_
  refine lv_iconst (v := 0) hx hb dX8_watch_1 (by decide) ?_
  refine lv_iconst (v := 1) hx hb dX8_watch_2 (by decide) ?_
  obtain ⟨r3_1, hc_2, hf⟩ := bd1_e hf
  refine vp_callSi (va_runS (As := [.int x1, .int 0, .int 1]) (rest := []) ⟨hx, hb, hml, hown, hts⟩ (c_X8_in l dC dI cI cZ cP cS   x1 0 1 n r3_1 hc_2) (va_cwS 3 hts gX8_watch_X8_in rfl rfl rfl (by decide +kernel) ⟨Nat.le_of_ble_eq_true rfl, Nat.le_of_ble_eq_true rfl⟩) (ps_ro hK (hP.sub (ws' := ([] : va_W)) [] rfl)) rfl rfl hl.1 rfl (lv_room (Nat.le_of_ble_eq_true rfl)) dX8_watch_3 ⟨Nat.zero_le _, Nat.zero_le _⟩).run (fun x e_3 => ?_)
  obtain ⟨e_3, hb_4⟩ := e_3
  rw [e_3] at hb_4 ⊢
  refine lv_if_eq (tgt := 17) hx hb dX8_watch_6 (by decide) (fun c6 => ?_) (fun c6 => ?_)
  · rw [if_pos c6] at hf
    refine lv_bipush (v := (-2)) hx hb dX8_watch_17 (by decide) ?_
    have hq0 := Option.some.inj hf
    obtain ⟨eq0, hq1⟩ := Prod.mk.inj hq0
    obtain ⟨eq1, hq2⟩ := Prod.mk.inj hq1
    obtain ⟨eq2, hq3⟩ := Prod.mk.inj hq2
    obtain ⟨eq3, hq4⟩ := Prod.mk.inj hq3
    obtain ⟨eq4, hq5⟩ := Prod.mk.inj hq4
    obtain ⟨eq5, hq6⟩ := Prod.mk.inj hq5
    obtain ⟨eq6, hq7⟩ := Prod.mk.inj hq6
    obtain ⟨eq7, hq8⟩ := Prod.mk.inj hq7
    clear hf hq0 hq1 hq2 hq3 hq4 hq5 hq6 hq7
    subst eq0
    subst eq1
    subst eq2
    subst eq3
    subst eq4
    subst eq5
    subst eq6
    subst eq7
    subst hq8
    exact W.iret hx hb hr (fun t ht hW => ⟨⟨_, (), rfl, rfl, by rw [ht]; exact hP, va_K.moved hW.alike hK, hD⟩, hS.F ht⟩) hS.2.2 dX8_watch_19
  · rw [if_neg c6] at hf
    refine lv_aload_n hx hb dX8_watch_9 rfl (lv_at hl 0 rfl) ?_
    refine lv_iload_n hx hb dX8_watch_10 rfl (lv_at hl 1 rfl) ?_
    obtain ⟨r11_5, o11_6, o11_7, o11_8, o11_9, o11_10, o11_11, o11_12, o11_13, hc_14, hf⟩ := bd9_e hf
    refine rwi_call (isC := [0, 1, 2, 3, 4, 5, 6, 7, 8]) (isR := []) (perm := [0, 1, 2, 3, 4, 5, 6, 7, 8]) (wr := []) (ws2 := (wd_X8_watch cI cZ cP cS h_t h_t_turns h_t_phases h_t_ups h_t_typed h_t_texts h_t_diary h_t_longs h_t_awakes h_t_fit h_t_counts h_t_worths h_t_ripes h_t_growths h_t_gains h_t_isThere h_t_forms h_t_sizes h_t_items h_t_moved o11_6 o11_7 o11_8 o11_9 v_m_finding v_m_turns v_m_ups v_m_typed v_m_texts o11_10 o11_11 o11_12 o11_13)) (va_runV (As := [.int x1]) (rest := []) ⟨hx, hb, hml, hown, hts⟩ (c_X8_watchOf l dC dI cI cZ cP cS H.size h_t h_t_turns h_t_phases h_t_ups h_t_typed h_t_texts h_t_diary h_t_longs h_t_awakes h_t_fit h_t_counts h_t_worths h_t_ripes h_t_growths h_t_gains h_t_isThere h_t_forms h_t_sizes h_t_items h_t_moved v_m_hours v_m_months v_m_fitMany v_m_fitFirst v_m_finding v_m_turns v_m_ups v_m_typed v_m_texts v_m_diary v_m_longs v_m_fit v_m_counts x1 n r11_5 o11_6 o11_7 o11_8 o11_9 o11_10 o11_11 o11_12 o11_13 hc_14) (cwV 1 hts gX8_watch_X8_watchOf rfl rfl rfl (by decide +kernel) ⟨Nat.le_of_ble_eq_true rfl, Nat.le_of_ble_eq_true rfl⟩) (pv_rw (ci := 7) (q0 := 0) hK (hP.sub (ws' := (wd_X8_watchOf cI cZ cP cS h_t h_t_turns h_t_phases h_t_ups h_t_typed h_t_texts h_t_diary h_t_longs h_t_awakes h_t_fit h_t_counts h_t_worths h_t_ripes h_t_growths h_t_gains h_t_isThere h_t_forms h_t_sizes h_t_items h_t_moved v_m_hours v_m_months v_m_fitMany v_m_fitFirst v_m_finding v_m_turns v_m_ups v_m_typed v_m_texts v_m_diary v_m_longs v_m_fit v_m_counts)) [0, 1, 2, 3, 4, 5, 6, 7, 8] rfl) (hD.sub (ws' := (wd_X8_watchOf cI cZ cP cS h_t h_t_turns h_t_phases h_t_ups h_t_typed h_t_texts h_t_diary h_t_longs h_t_awakes h_t_fit h_t_counts h_t_worths h_t_ripes h_t_growths h_t_gains h_t_isThere h_t_forms h_t_sizes h_t_items h_t_moved v_m_hours v_m_months v_m_fitMany v_m_fitFirst v_m_finding v_m_turns v_m_ups v_m_typed v_m_texts v_m_diary v_m_longs v_m_fit v_m_counts)) [0, 1, 2, 3, 4, 5, 6, 7, 8] (by decide) rfl) rfl rfl) rfl rfl hl.1 rfl (lv_room (Nat.le_of_ble_eq_true rfl)) dX8_watch_11 ⟨Nat.zero_le _, Nat.zero_le _⟩) hS hA hP hD rfl (by decide) (by decide) rfl (by decide) rfl rfl (fun H locs hP hD hS => ?_)
    refine lv_goto (tgt := 19) hx hb dX8_watch_14 (by decide) ?_
    have hq0 := Option.some.inj hf
    obtain ⟨eq0, hq1⟩ := Prod.mk.inj hq0
    obtain ⟨eq1, hq2⟩ := Prod.mk.inj hq1
    obtain ⟨eq2, hq3⟩ := Prod.mk.inj hq2
    obtain ⟨eq3, hq4⟩ := Prod.mk.inj hq3
    obtain ⟨eq4, hq5⟩ := Prod.mk.inj hq4
    obtain ⟨eq5, hq6⟩ := Prod.mk.inj hq5
    obtain ⟨eq6, hq7⟩ := Prod.mk.inj hq6
    obtain ⟨eq7, hq8⟩ := Prod.mk.inj hq7
    clear hf hq0 hq1 hq2 hq3 hq4 hq5 hq6 hq7
    subst eq0
    subst eq1
    subst eq2
    subst eq3
    subst eq4
    subst eq5
    subst eq6
    subst eq7
    subst hq8
    exact W.iret hx hb hr (fun t ht hW => ⟨⟨_, (), rfl, rfl, by rw [ht]; exact hP, va_K.moved hW.alike hK, hD⟩, hS.F ht⟩) hS.2.2 dX8_watch_19

abbrev wd_X8_wipe (cI cZ cP cS : ClassId) (h_t h_t_turns h_t_phases h_t_ups h_t_typed h_t_texts h_t_diary h_t_longs h_t_awakes h_t_fit h_t_counts h_t_worths h_t_ripes h_t_growths h_t_gains h_t_isThere h_t_forms h_t_sizes h_t_items h_t_moved : Nat) (v_m_hours : Int32) (v_m_months : Int32) (v_m_fitMany : Int32) (v_m_fitFirst : Int32) (v_m_finding : Int32) (v_m_typed : Nat → Int32) : va_W := [(h_t, .inr (7, [.ref h_t_turns, .ref h_t_phases, .ref h_t_ups, .ref h_t_typed, .ref h_t_texts, .int v_m_hours, .ref h_t_diary, .int v_m_months, .ref h_t_longs, .ref h_t_awakes, .ref h_t_fit, .int v_m_fitMany, .int v_m_fitFirst, .ref h_t_counts, .ref h_t_worths, .ref h_t_ripes, .ref h_t_growths, .ref h_t_gains, .ref h_t_isThere, .ref h_t_forms, .ref h_t_sizes, .ref h_t_items, .ref h_t_moved, .int v_m_finding])), (h_t_typed, .inl (cI, 2, .inl v_m_typed))]
abbrev rm_X8_wipe : Room := { frames := 1, cells := 0, slots := 0, locals := 22 }
def f_X8_wipe (n : Nat) (v_m_typed : Nat → Int32) (x1 : Int32) : Option (Int32 × (Nat → Int32)) := bd1_ (f_X8_in n x1 0 1) (fun (r3_1 : Int32) => if r3_1 = 0 then some ((-2), v_m_typed) else ix_ x1 2 (ix_ x1 2 (some ((v_m_typed x1.toNatClampNeg), (upd v_m_typed x1.toNatClampNeg 0)))))
set_option maxHeartbeats 4000000 in
set_option maxRecDepth 100000 in
theorem c_X8_wipe (l : Launch) (dC : Nat → ClassId) (dI : Nat → Nat → Nat) (cI cZ cP cS : ClassId) (sz : Nat) (h_t h_t_turns h_t_phases h_t_ups h_t_typed h_t_texts h_t_diary h_t_longs h_t_awakes h_t_fit h_t_counts h_t_worths h_t_ripes h_t_growths h_t_gains h_t_isThere h_t_forms h_t_sizes h_t_items h_t_moved : Nat) (v_m_hours : Int32) (v_m_months : Int32) (v_m_fitMany : Int32) (v_m_fitFirst : Int32) (v_m_finding : Int32) (v_m_typed : Nat → Int32) (x1 : Int32) (n : Nat) (r : Int32) (o_m_typed : Nat → Int32) (hf : f_X8_wipe n v_m_typed x1 = some (r, o_m_typed)) : Met l yX8_wipe wsX8_wipe rm_X8_wipe (RW (dC, dI) (TY cI cZ cP cS) [.ref h_t, .int x1] sz (wd_X8_wipe cI cZ cP cS h_t h_t_turns h_t_phases h_t_ups h_t_typed h_t_texts h_t_diary h_t_longs h_t_awakes h_t_fit h_t_counts h_t_worths h_t_ripes h_t_growths h_t_gains h_t_isThere h_t_forms h_t_sizes h_t_items h_t_moved v_m_hours v_m_months v_m_fitMany v_m_fitFirst v_m_finding v_m_typed)) (RWi (dC, dI) (TY cI cZ cP cS) r sz (wd_X8_wipe cI cZ cP cS h_t h_t_turns h_t_phases h_t_ups h_t_typed h_t_texts h_t_diary h_t_longs h_t_awakes h_t_fit h_t_counts h_t_worths h_t_ripes h_t_growths h_t_gains h_t_isThere h_t_forms h_t_sizes h_t_items h_t_moved v_m_hours v_m_months v_m_fitMany v_m_fitFirst v_m_finding v_m_typed) (wd_X8_wipe cI cZ cP cS h_t h_t_turns h_t_phases h_t_ups h_t_typed h_t_texts h_t_diary h_t_longs h_t_awakes h_t_fit h_t_counts h_t_worths h_t_ripes h_t_growths h_t_gains h_t_isThere h_t_forms h_t_sizes h_t_items h_t_moved v_m_hours v_m_months v_m_fitMany v_m_fitFirst v_m_finding o_m_typed)) 0 0 (va_A (wd_X8_wipe cI cZ cP cS h_t h_t_turns h_t_phases h_t_ups h_t_typed h_t_texts h_t_diary h_t_longs h_t_awakes h_t_fit h_t_counts h_t_worths h_t_ripes h_t_growths h_t_gains h_t_isThere h_t_forms h_t_sizes h_t_items h_t_moved v_m_hours v_m_months v_m_fitMany v_m_fitFirst v_m_finding v_m_typed) sz) := by
  refine Met.ofW (cc := cX8_wipe) (maxL := 3) (ret := (some .int)) (by decide) rfl ?_
  intro p e s m args below meth c s₁ B hml hv
  obtain ⟨rfl, hsz, hP, hK, hD0⟩ := hv
  have hx := B.exec
  have hb := B.bytes
  have hr := B.returns
  have hts := atoms_spec (ws := wsX8_wipe) B.pre
  have hown : s.vm.findClass RX8 = some m.cls := findClass_of_methodNamed B.named
  have hlocks := B.notSynchronized
  subst hsz
  have hD := hD0.self (sz := s.heap.size)
  have hA : ∀ q : Nat, s.heap.size ≤ q → (va_A (wd_X8_wipe cI cZ cP cS h_t h_t_turns h_t_phases h_t_ups h_t_typed h_t_texts h_t_diary h_t_longs h_t_awakes h_t_fit h_t_counts h_t_worths h_t_ripes h_t_growths h_t_gains h_t_isThere h_t_forms h_t_sizes h_t_items h_t_moved v_m_hours v_m_months v_m_fitMany v_m_fitFirst v_m_finding v_m_typed) s.heap.size) q := fun q h => Or.inr h
  have hS : va_S (va_A (wd_X8_wipe cI cZ cP cS h_t h_t_turns h_t_phases h_t_ups h_t_typed h_t_texts h_t_diary h_t_longs h_t_awakes h_t_fit h_t_counts h_t_worths h_t_ripes h_t_growths h_t_gains h_t_isThere h_t_forms h_t_sizes h_t_items h_t_moved v_m_hours v_m_months v_m_fitMany v_m_fitFirst v_m_finding v_m_typed) s.heap.size) s.heap s.heap [] := va_S.rf
  have hinX8 : ∀ w ∈ wsX80, w ∈ wsX8_wipe := by decide +kernel
  have hl := lv_entry ([.ref h_t, .int x1]) (n := 3) (Nat.le_of_ble_eq_true rfl)
  rw [lg_entry_eq]
  generalize (lg_sl ([.ref h_t, .int x1]) ++ List.replicate (3 - (lg_sl ([.ref h_t, .int x1])).length) Slot.unset).toArray = ls at hl ⊢
  have hl : lv_has ls 3 [(0, .ref h_t), (1, .int x1)] := hl
  obtain ⟨H, hH⟩ : ∃ H : Heap, H = s.heap := ⟨_, rfl⟩
  have hP : va_P (dC, dI) vwCl (wd_X8_wipe cI cZ cP cS h_t h_t_turns h_t_phases h_t_ups h_t_typed h_t_texts h_t_diary h_t_longs h_t_awakes h_t_fit h_t_counts h_t_worths h_t_ripes h_t_growths h_t_gains h_t_isThere h_t_forms h_t_sizes h_t_items h_t_moved v_m_hours v_m_months v_m_fitMany v_m_fitFirst v_m_finding v_m_typed) H := by rw [hH]; exact hP
  have hS : va_S (va_A (wd_X8_wipe cI cZ cP cS h_t h_t_turns h_t_phases h_t_ups h_t_typed h_t_texts h_t_diary h_t_longs h_t_awakes h_t_fit h_t_counts h_t_worths h_t_ripes h_t_growths h_t_gains h_t_isThere h_t_forms h_t_sizes h_t_items h_t_moved v_m_hours v_m_months v_m_fitMany v_m_fitFirst v_m_finding v_m_typed) s.heap.size) s.heap H [] := by rw [hH]; exact hS
  obtain ⟨locs, hlo⟩ : ∃ L : List Loc, L = [] := ⟨_, rfl⟩
  rw [← hlo] at hS
  suffices hgo : W p l e (headSpec wsX8_wipe rm_X8_wipe).room s m ([.ref h_t, .int x1] : List Value).toArray below meth c H locs 0 0 (MQ below (RWi (dC, dI) (TY cI cZ cP cS) r s.heap.size (wd_X8_wipe cI cZ cP cS h_t h_t_turns h_t_phases h_t_ups h_t_typed h_t_texts h_t_diary h_t_longs h_t_awakes h_t_fit h_t_counts h_t_worths h_t_ripes h_t_growths h_t_gains h_t_isThere h_t_forms h_t_sizes h_t_items h_t_moved v_m_hours v_m_months v_m_fitMany v_m_fitFirst v_m_finding v_m_typed) (wd_X8_wipe cI cZ cP cS h_t h_t_turns h_t_phases h_t_ups h_t_typed h_t_texts h_t_diary h_t_longs h_t_awakes h_t_fit h_t_counts h_t_worths h_t_ripes h_t_growths h_t_gains h_t_isThere h_t_forms h_t_sizes h_t_items h_t_moved v_m_hours v_m_months v_m_fitMany v_m_fitFirst v_m_finding o_m_typed)) ([.ref h_t, .int x1] : List Value).toArray s 0 0 (va_A (wd_X8_wipe cI cZ cP cS h_t h_t_turns h_t_phases h_t_ups h_t_typed h_t_texts h_t_diary h_t_longs h_t_awakes h_t_fit h_t_counts h_t_worths h_t_ripes h_t_growths h_t_gains h_t_isThere h_t_forms h_t_sizes h_t_items h_t_moved v_m_hours v_m_months v_m_fitMany v_m_fitFirst v_m_finding v_m_typed) s.heap.size)) (F0 m 0 ls []) by rw [hH, hlo] at hgo; exact hgo
  clear hH hlo
  unfold f_X8_wipe at hf
  refine lv_iload_n hx hb dX8_wipe_0 rfl (lv_at hl 1 rfl) ?_
  refine lv_iconst (v := 0) hx hb dX8_wipe_1 (by decide) ?_
  refine lv_iconst (v := 1) hx hb dX8_wipe_2 (by decide) ?_
  obtain ⟨r3_1, hc_2, hf⟩ := bd1_e hf
  refine vp_callSi (va_runS (As := [.int x1, .int 0, .int 1]) (rest := []) ⟨hx, hb, hml, hown, hts⟩ (c_X8_in l dC dI cI cZ cP cS   x1 0 1 n r3_1 hc_2) (va_cwS 3 hts gX8_wipe_X8_in rfl rfl rfl (by decide +kernel) ⟨Nat.le_of_ble_eq_true rfl, Nat.le_of_ble_eq_true rfl⟩) (ps_ro hK (hP.sub (ws' := ([] : va_W)) [] rfl)) rfl rfl hl.1 rfl (lv_room (Nat.le_of_ble_eq_true rfl)) dX8_wipe_3 ⟨Nat.zero_le _, Nat.zero_le _⟩).run (fun x e_3 => ?_)
  obtain ⟨e_3, hb_4⟩ := e_3
  rw [e_3] at hb_4 ⊢
  refine lv_if_ne (tgt := 12) hx hb dX8_wipe_6 (by decide) (fun c6 => ?_) (fun c6 => ?_)
  · rw [if_neg c6] at hf
    refine lv_aload_n hx hb dX8_wipe_12 rfl (lv_at hl 0 rfl) ?_
    refine va_get (D := (dC, dI)) (ci := 7) (v := .ref h_t_typed) (C := RX8) (T := TX8) (N := 24) hx hb hts hinX8 hown hK hP 0 rfl rfl 3 (by decide) (hts (.fieldLink RX8 19 "SecondSunriseModel" "typed" "[I") (by decide +kernel)) (fun _ h9 => h9) rfl dX8_wipe_13 ?_
    refine lv_iload_n hx hb dX8_wipe_16 rfl (lv_at hl 1 rfl) ?_
    obtain ⟨hi_5, hf⟩ := ix_e hf
    refine va_iald hx hb hK hP 1 0 rfl rfl hi_5 dX8_wipe_17 ?_
    refine lv_istore_n (lv' := [(2, .int (v_m_typed x1.toNatClampNeg)), (0, .ref h_t), (1, .int x1)]) hx hb dX8_wipe_18 rfl hl (by decide) rfl (fun ls hl => ?_)
    refine lv_aload_n hx hb dX8_wipe_19 rfl (lv_at hl 1 rfl) ?_
    refine va_get (D := (dC, dI)) (ci := 7) (v := .ref h_t_typed) (C := RX8) (T := TX8) (N := 24) hx hb hts hinX8 hown hK hP 0 rfl rfl 3 (by decide) (hts (.fieldLink RX8 19 "SecondSunriseModel" "typed" "[I") (by decide +kernel)) (fun _ h9 => h9) rfl dX8_wipe_20 ?_
    refine lv_iload_n hx hb dX8_wipe_23 rfl (lv_at hl 2 rfl) ?_
    refine lv_iconst (v := 0) hx hb dX8_wipe_24 (by decide) ?_
    obtain ⟨hi_6, hf⟩ := ix_e hf
    refine va_iast hx hb hK hP hD hS 1 0 rfl rfl hi_6 dX8_wipe_25 (fun H locs hP hD hS => ?_)
    have hP : va_P (dC, dI) vwCl (wd_X8_wipe cI cZ cP cS h_t h_t_turns h_t_phases h_t_ups h_t_typed h_t_texts h_t_diary h_t_longs h_t_awakes h_t_fit h_t_counts h_t_worths h_t_ripes h_t_growths h_t_gains h_t_isThere h_t_forms h_t_sizes h_t_items h_t_moved v_m_hours v_m_months v_m_fitMany v_m_fitFirst v_m_finding (upd v_m_typed x1.toNatClampNeg 0)) H := hP
    have hD : va_D (va_A (wd_X8_wipe cI cZ cP cS h_t h_t_turns h_t_phases h_t_ups h_t_typed h_t_texts h_t_diary h_t_longs h_t_awakes h_t_fit h_t_counts h_t_worths h_t_ripes h_t_growths h_t_gains h_t_isThere h_t_forms h_t_sizes h_t_items h_t_moved v_m_hours v_m_months v_m_fitMany v_m_fitFirst v_m_finding v_m_typed) s.heap.size) (wd_X8_wipe cI cZ cP cS h_t h_t_turns h_t_phases h_t_ups h_t_typed h_t_texts h_t_diary h_t_longs h_t_awakes h_t_fit h_t_counts h_t_worths h_t_ripes h_t_growths h_t_gains h_t_isThere h_t_forms h_t_sizes h_t_items h_t_moved v_m_hours v_m_months v_m_fitMany v_m_fitFirst v_m_finding (upd v_m_typed x1.toNatClampNeg 0)) := hD
    refine lv_iload_n hx hb dX8_wipe_26 rfl (lv_at hl 0 rfl) ?_
    have hq0 := Option.some.inj hf
    obtain ⟨eq0, hq1⟩ := Prod.mk.inj hq0
    clear hf hq0
    subst eq0
    subst hq1
    exact W.iret hx hb hr (fun t ht hW => ⟨⟨_, (), rfl, rfl, by rw [ht]; exact hP, va_K.moved hW.alike hK, hD⟩, hS.F ht⟩) hS.2.2 dX8_wipe_27
  · rw [if_pos c6] at hf
    refine lv_bipush (v := (-2)) hx hb dX8_wipe_9 (by decide) ?_
    have hq0 := Option.some.inj hf
    obtain ⟨eq0, hq1⟩ := Prod.mk.inj hq0
    clear hf hq0
    subst eq0
    subst hq1
    exact W.iret hx hb hr (fun t ht hW => ⟨⟨_, (), rfl, rfl, by rw [ht]; exact hP, va_K.moved hW.alike hK, hD⟩, hS.F ht⟩) hS.2.2 dX8_wipe_11

abbrev wd_X8_without (cI cZ cP cS : ClassId) (h_t h_t_turns h_t_phases h_t_ups h_t_typed h_t_texts h_t_diary h_t_longs h_t_awakes h_t_fit h_t_counts h_t_worths h_t_ripes h_t_growths h_t_gains h_t_isThere h_t_forms h_t_sizes h_t_items h_t_moved : Nat) (v_m_hours : Int32) (v_m_months : Int32) (v_m_fitMany : Int32) (v_m_fitFirst : Int32) (v_m_finding : Int32) (v_m_turns : Nat → Int32) (v_m_ups : Nat → Int32) : va_W := [(h_t, .inr (7, [.ref h_t_turns, .ref h_t_phases, .ref h_t_ups, .ref h_t_typed, .ref h_t_texts, .int v_m_hours, .ref h_t_diary, .int v_m_months, .ref h_t_longs, .ref h_t_awakes, .ref h_t_fit, .int v_m_fitMany, .int v_m_fitFirst, .ref h_t_counts, .ref h_t_worths, .ref h_t_ripes, .ref h_t_growths, .ref h_t_gains, .ref h_t_isThere, .ref h_t_forms, .ref h_t_sizes, .ref h_t_items, .ref h_t_moved, .int v_m_finding])), (h_t_turns, .inl (cI, 2, .inl v_m_turns)), (h_t_ups, .inl (cI, 2, .inl v_m_ups))]
abbrev rm_X8_without : Room := { frames := 2, cells := 0, slots := 0, locals := 42 }
def f_X8_without (n : Nat) (v_m_turns : Nat → Int32) (v_m_ups : Nat → Int32) (x1 : Int32) : Option (Int32) := bd1_ (f_X8_isSun n x1) (fun (r1_1 : Int32) => if r1_1 = 0 then some (-2) else bd1_ (f_X8_withoutOf n v_m_turns v_m_ups x1) (fun (r9_5 : Int32) => some r9_5))
set_option maxHeartbeats 4000000 in
set_option maxRecDepth 100000 in
theorem c_X8_without (l : Launch) (dC : Nat → ClassId) (dI : Nat → Nat → Nat) (cI cZ cP cS : ClassId) (h_t h_t_turns h_t_phases h_t_ups h_t_typed h_t_texts h_t_diary h_t_longs h_t_awakes h_t_fit h_t_counts h_t_worths h_t_ripes h_t_growths h_t_gains h_t_isThere h_t_forms h_t_sizes h_t_items h_t_moved : Nat) (v_m_hours : Int32) (v_m_months : Int32) (v_m_fitMany : Int32) (v_m_fitFirst : Int32) (v_m_finding : Int32) (v_m_turns : Nat → Int32) (v_m_ups : Nat → Int32) (x1 : Int32) (n : Nat) (r : Int32) (hf : f_X8_without n v_m_turns v_m_ups x1 = some r) : Met l yX8_without wsX8_without rm_X8_without (RO (dC, dI) (TY cI cZ cP cS) [.ref h_t, .int x1] (wd_X8_without cI cZ cP cS h_t h_t_turns h_t_phases h_t_ups h_t_typed h_t_texts h_t_diary h_t_longs h_t_awakes h_t_fit h_t_counts h_t_worths h_t_ripes h_t_growths h_t_gains h_t_isThere h_t_forms h_t_sizes h_t_items h_t_moved v_m_hours v_m_months v_m_fitMany v_m_fitFirst v_m_finding v_m_turns v_m_ups)) (vp_Si (fun x => x = r)) 0 0 NF := by
  refine Met.ofW (cc := cX8_without) (maxL := 2) (ret := (some .int)) (by decide) rfl ?_
  intro p e s m args below meth c s₁ B hml hv
  obtain ⟨rfl, hP, hK⟩ := hv
  have hx := B.exec
  have hb := B.bytes
  have hr := B.returns
  have hts := atoms_spec (ws := wsX8_without) B.pre
  have hown : s.vm.findClass RX8 = some m.cls := findClass_of_methodNamed B.named
  have hlocks := B.notSynchronized
  have hl := lv_entry ([.ref h_t, .int x1]) (n := 2) (Nat.le_of_ble_eq_true rfl)
  rw [lg_entry_eq]
  generalize (lg_sl ([.ref h_t, .int x1]) ++ List.replicate (2 - (lg_sl ([.ref h_t, .int x1])).length) Slot.unset).toArray = ls at hl ⊢
  have hl : lv_has ls 2 [(0, .ref h_t), (1, .int x1)] := hl
  unfold f_X8_without at hf
  refine lv_iload_n hx hb dX8_without_0 rfl (lv_at hl 1 rfl) ?_
  obtain ⟨r1_1, hc_2, hf⟩ := bd1_e hf
  refine vp_callSi (va_runS (As := [.int x1]) (rest := []) ⟨hx, hb, hml, hown, hts⟩ (c_X8_isSun l dC dI cI cZ cP cS   x1 n r1_1 hc_2) (va_cwS 1 hts gX8_without_X8_isSun rfl rfl rfl (by decide +kernel) ⟨Nat.le_of_ble_eq_true rfl, Nat.le_of_ble_eq_true rfl⟩) (ps_ro hK (hP.sub (ws' := ([] : va_W)) [] rfl)) rfl rfl hl.1 rfl (lv_room (Nat.le_of_ble_eq_true rfl)) dX8_without_1 ⟨Nat.zero_le _, Nat.zero_le _⟩).run (fun x e_3 => ?_)
  obtain ⟨e_3, hb_4⟩ := e_3
  rw [e_3] at hb_4 ⊢
  refine lv_if_eq (tgt := 15) hx hb dX8_without_4 (by decide) (fun c4 => ?_) (fun c4 => ?_)
  · rw [if_pos c4] at hf
    refine lv_bipush (v := (-2)) hx hb dX8_without_15 (by decide) ?_
    exact W.iret hx hb hr (fun t ht hW => ⟨_, rfl, Option.some.inj hf, ht⟩) (fun _ h => nomatch h) dX8_without_17
  · rw [if_neg c4] at hf
    refine lv_aload_n hx hb dX8_without_7 rfl (lv_at hl 0 rfl) ?_
    refine lv_iload_n hx hb dX8_without_8 rfl (lv_at hl 1 rfl) ?_
    obtain ⟨r9_5, hc_6, hf⟩ := bd1_e hf
    refine vp_callSi (va_runV (As := [.int x1]) (rest := []) ⟨hx, hb, hml, hown, hts⟩ (c_X8_withoutOf l dC dI cI cZ cP cS h_t h_t_turns h_t_phases h_t_ups h_t_typed h_t_texts h_t_diary h_t_longs h_t_awakes h_t_fit h_t_counts h_t_worths h_t_ripes h_t_growths h_t_gains h_t_isThere h_t_forms h_t_sizes h_t_items h_t_moved v_m_hours v_m_months v_m_fitMany v_m_fitFirst v_m_finding v_m_turns v_m_ups x1 n r9_5 hc_6) (cwV 1 hts gX8_without_X8_withoutOf rfl rfl rfl (by decide +kernel) ⟨Nat.le_of_ble_eq_true rfl, Nat.le_of_ble_eq_true rfl⟩) (pv_ro (ci := 7) (q0 := 0) hK (hP.sub (ws' := (wd_X8_withoutOf cI cZ cP cS h_t h_t_turns h_t_phases h_t_ups h_t_typed h_t_texts h_t_diary h_t_longs h_t_awakes h_t_fit h_t_counts h_t_worths h_t_ripes h_t_growths h_t_gains h_t_isThere h_t_forms h_t_sizes h_t_items h_t_moved v_m_hours v_m_months v_m_fitMany v_m_fitFirst v_m_finding v_m_turns v_m_ups)) [0, 1, 2] rfl) rfl rfl) rfl rfl hl.1 rfl (lv_room (Nat.le_of_ble_eq_true rfl)) dX8_without_9 ⟨Nat.zero_le _, Nat.zero_le _⟩).run (fun x e_7 => ?_)
    rw [e_7]
    refine lv_goto (tgt := 17) hx hb dX8_without_12 (by decide) ?_
    exact W.iret hx hb hr (fun t ht hW => ⟨_, rfl, Option.some.inj hf, ht⟩) (fun _ h => nomatch h) dX8_without_17

abbrev wd_X8_worth (cI cZ cP cS : ClassId) (h_t h_t_turns h_t_phases h_t_ups h_t_typed h_t_texts h_t_diary h_t_longs h_t_awakes h_t_fit h_t_counts h_t_worths h_t_ripes h_t_growths h_t_gains h_t_isThere h_t_forms h_t_sizes h_t_items h_t_moved : Nat) (v_m_hours : Int32) (v_m_months : Int32) (v_m_fitMany : Int32) (v_m_fitFirst : Int32) (v_m_finding : Int32) (v_m_worths : Nat → Int32) : va_W := [(h_t, .inr (7, [.ref h_t_turns, .ref h_t_phases, .ref h_t_ups, .ref h_t_typed, .ref h_t_texts, .int v_m_hours, .ref h_t_diary, .int v_m_months, .ref h_t_longs, .ref h_t_awakes, .ref h_t_fit, .int v_m_fitMany, .int v_m_fitFirst, .ref h_t_counts, .ref h_t_worths, .ref h_t_ripes, .ref h_t_growths, .ref h_t_gains, .ref h_t_isThere, .ref h_t_forms, .ref h_t_sizes, .ref h_t_items, .ref h_t_moved, .int v_m_finding])), (h_t_worths, .inl (cI, 6, .inl v_m_worths))]
abbrev rm_X8_worth : Room := { frames := 2, cells := 0, slots := 0, locals := 42 }
def f_X8_worth (n : Nat) (v_m_worths : Nat → Int32) (x1 : Int32) (x2 : Int32) : Option (Int32 × (Nat → Int32)) := bd1_ (f_X8_isPerson n x1) (fun (r1_1 : Int32) => if r1_1 = 0 then some ((-2), v_m_worths) else bd1_ (f_X8_in n x2 0 99) (fun (r11_5 : Int32) => if r11_5 = 0 then some ((-2), v_m_worths) else ix_ x1 6 (ix_ x1 6 (some ((v_m_worths x1.toNatClampNeg), (upd v_m_worths x1.toNatClampNeg x2))))))
set_option maxHeartbeats 4000000 in
set_option maxRecDepth 100000 in
theorem c_X8_worth (l : Launch) (dC : Nat → ClassId) (dI : Nat → Nat → Nat) (cI cZ cP cS : ClassId) (sz : Nat) (h_t h_t_turns h_t_phases h_t_ups h_t_typed h_t_texts h_t_diary h_t_longs h_t_awakes h_t_fit h_t_counts h_t_worths h_t_ripes h_t_growths h_t_gains h_t_isThere h_t_forms h_t_sizes h_t_items h_t_moved : Nat) (v_m_hours : Int32) (v_m_months : Int32) (v_m_fitMany : Int32) (v_m_fitFirst : Int32) (v_m_finding : Int32) (v_m_worths : Nat → Int32) (x1 : Int32) (x2 : Int32) (n : Nat) (r : Int32) (o_m_worths : Nat → Int32) (hf : f_X8_worth n v_m_worths x1 x2 = some (r, o_m_worths)) : Met l yX8_worth wsX8_worth rm_X8_worth (RW (dC, dI) (TY cI cZ cP cS) [.ref h_t, .int x1, .int x2] sz (wd_X8_worth cI cZ cP cS h_t h_t_turns h_t_phases h_t_ups h_t_typed h_t_texts h_t_diary h_t_longs h_t_awakes h_t_fit h_t_counts h_t_worths h_t_ripes h_t_growths h_t_gains h_t_isThere h_t_forms h_t_sizes h_t_items h_t_moved v_m_hours v_m_months v_m_fitMany v_m_fitFirst v_m_finding v_m_worths)) (RWi (dC, dI) (TY cI cZ cP cS) r sz (wd_X8_worth cI cZ cP cS h_t h_t_turns h_t_phases h_t_ups h_t_typed h_t_texts h_t_diary h_t_longs h_t_awakes h_t_fit h_t_counts h_t_worths h_t_ripes h_t_growths h_t_gains h_t_isThere h_t_forms h_t_sizes h_t_items h_t_moved v_m_hours v_m_months v_m_fitMany v_m_fitFirst v_m_finding v_m_worths) (wd_X8_worth cI cZ cP cS h_t h_t_turns h_t_phases h_t_ups h_t_typed h_t_texts h_t_diary h_t_longs h_t_awakes h_t_fit h_t_counts h_t_worths h_t_ripes h_t_growths h_t_gains h_t_isThere h_t_forms h_t_sizes h_t_items h_t_moved v_m_hours v_m_months v_m_fitMany v_m_fitFirst v_m_finding o_m_worths)) 0 0 (va_A (wd_X8_worth cI cZ cP cS h_t h_t_turns h_t_phases h_t_ups h_t_typed h_t_texts h_t_diary h_t_longs h_t_awakes h_t_fit h_t_counts h_t_worths h_t_ripes h_t_growths h_t_gains h_t_isThere h_t_forms h_t_sizes h_t_items h_t_moved v_m_hours v_m_months v_m_fitMany v_m_fitFirst v_m_finding v_m_worths) sz) := by
  refine Met.ofW (cc := cX8_worth) (maxL := 4) (ret := (some .int)) (by decide) rfl ?_
  intro p e s m args below meth c s₁ B hml hv
  obtain ⟨rfl, hsz, hP, hK, hD0⟩ := hv
  have hx := B.exec
  have hb := B.bytes
  have hr := B.returns
  have hts := atoms_spec (ws := wsX8_worth) B.pre
  have hown : s.vm.findClass RX8 = some m.cls := findClass_of_methodNamed B.named
  have hlocks := B.notSynchronized
  subst hsz
  have hD := hD0.self (sz := s.heap.size)
  have hA : ∀ q : Nat, s.heap.size ≤ q → (va_A (wd_X8_worth cI cZ cP cS h_t h_t_turns h_t_phases h_t_ups h_t_typed h_t_texts h_t_diary h_t_longs h_t_awakes h_t_fit h_t_counts h_t_worths h_t_ripes h_t_growths h_t_gains h_t_isThere h_t_forms h_t_sizes h_t_items h_t_moved v_m_hours v_m_months v_m_fitMany v_m_fitFirst v_m_finding v_m_worths) s.heap.size) q := fun q h => Or.inr h
  have hS : va_S (va_A (wd_X8_worth cI cZ cP cS h_t h_t_turns h_t_phases h_t_ups h_t_typed h_t_texts h_t_diary h_t_longs h_t_awakes h_t_fit h_t_counts h_t_worths h_t_ripes h_t_growths h_t_gains h_t_isThere h_t_forms h_t_sizes h_t_items h_t_moved v_m_hours v_m_months v_m_fitMany v_m_fitFirst v_m_finding v_m_worths) s.heap.size) s.heap s.heap [] := va_S.rf
  have hinX8 : ∀ w ∈ wsX80, w ∈ wsX8_worth := by decide +kernel
  have hl := lv_entry ([.ref h_t, .int x1, .int x2]) (n := 4) (Nat.le_of_ble_eq_true rfl)
  rw [lg_entry_eq]
  generalize (lg_sl ([.ref h_t, .int x1, .int x2]) ++ List.replicate (4 - (lg_sl ([.ref h_t, .int x1, .int x2])).length) Slot.unset).toArray = ls at hl ⊢
  have hl : lv_has ls 4 [(0, .ref h_t), (1, .int x1), (2, .int x2)] := hl
  obtain ⟨H, hH⟩ : ∃ H : Heap, H = s.heap := ⟨_, rfl⟩
  have hP : va_P (dC, dI) vwCl (wd_X8_worth cI cZ cP cS h_t h_t_turns h_t_phases h_t_ups h_t_typed h_t_texts h_t_diary h_t_longs h_t_awakes h_t_fit h_t_counts h_t_worths h_t_ripes h_t_growths h_t_gains h_t_isThere h_t_forms h_t_sizes h_t_items h_t_moved v_m_hours v_m_months v_m_fitMany v_m_fitFirst v_m_finding v_m_worths) H := by rw [hH]; exact hP
  have hS : va_S (va_A (wd_X8_worth cI cZ cP cS h_t h_t_turns h_t_phases h_t_ups h_t_typed h_t_texts h_t_diary h_t_longs h_t_awakes h_t_fit h_t_counts h_t_worths h_t_ripes h_t_growths h_t_gains h_t_isThere h_t_forms h_t_sizes h_t_items h_t_moved v_m_hours v_m_months v_m_fitMany v_m_fitFirst v_m_finding v_m_worths) s.heap.size) s.heap H [] := by rw [hH]; exact hS
  obtain ⟨locs, hlo⟩ : ∃ L : List Loc, L = [] := ⟨_, rfl⟩
  rw [← hlo] at hS
  suffices hgo : W p l e (headSpec wsX8_worth rm_X8_worth).room s m ([.ref h_t, .int x1, .int x2] : List Value).toArray below meth c H locs 0 0 (MQ below (RWi (dC, dI) (TY cI cZ cP cS) r s.heap.size (wd_X8_worth cI cZ cP cS h_t h_t_turns h_t_phases h_t_ups h_t_typed h_t_texts h_t_diary h_t_longs h_t_awakes h_t_fit h_t_counts h_t_worths h_t_ripes h_t_growths h_t_gains h_t_isThere h_t_forms h_t_sizes h_t_items h_t_moved v_m_hours v_m_months v_m_fitMany v_m_fitFirst v_m_finding v_m_worths) (wd_X8_worth cI cZ cP cS h_t h_t_turns h_t_phases h_t_ups h_t_typed h_t_texts h_t_diary h_t_longs h_t_awakes h_t_fit h_t_counts h_t_worths h_t_ripes h_t_growths h_t_gains h_t_isThere h_t_forms h_t_sizes h_t_items h_t_moved v_m_hours v_m_months v_m_fitMany v_m_fitFirst v_m_finding o_m_worths)) ([.ref h_t, .int x1, .int x2] : List Value).toArray s 0 0 (va_A (wd_X8_worth cI cZ cP cS h_t h_t_turns h_t_phases h_t_ups h_t_typed h_t_texts h_t_diary h_t_longs h_t_awakes h_t_fit h_t_counts h_t_worths h_t_ripes h_t_growths h_t_gains h_t_isThere h_t_forms h_t_sizes h_t_items h_t_moved v_m_hours v_m_months v_m_fitMany v_m_fitFirst v_m_finding v_m_worths) s.heap.size)) (F0 m 0 ls []) by rw [hH, hlo] at hgo; exact hgo
  clear hH hlo
  unfold f_X8_worth at hf
  refine lv_iload_n hx hb dX8_worth_0 rfl (lv_at hl 1 rfl) ?_
  obtain ⟨r1_1, hc_2, hf⟩ := bd1_e hf
  refine vp_callSi (va_runS (As := [.int x1]) (rest := []) ⟨hx, hb, hml, hown, hts⟩ (c_X8_isPerson l dC dI cI cZ cP cS   x1 n r1_1 hc_2) (va_cwS 1 hts gX8_worth_X8_isPerson rfl rfl rfl (by decide +kernel) ⟨Nat.le_of_ble_eq_true rfl, Nat.le_of_ble_eq_true rfl⟩) (ps_ro hK (hP.sub (ws' := ([] : va_W)) [] rfl)) rfl rfl hl.1 rfl (lv_room (Nat.le_of_ble_eq_true rfl)) dX8_worth_1 ⟨Nat.zero_le _, Nat.zero_le _⟩).run (fun x e_3 => ?_)
  obtain ⟨e_3, hb_4⟩ := e_3
  rw [e_3] at hb_4 ⊢
  refine lv_if_eq (tgt := 17) hx hb dX8_worth_4 (by decide) (fun c4 => ?_) (fun c4 => ?_)
  · rw [if_pos c4] at hf
    refine lv_bipush (v := (-2)) hx hb dX8_worth_17 (by decide) ?_
    have hq0 := Option.some.inj hf
    obtain ⟨eq0, hq1⟩ := Prod.mk.inj hq0
    clear hf hq0
    subst eq0
    subst hq1
    exact W.iret hx hb hr (fun t ht hW => ⟨⟨_, (), rfl, rfl, by rw [ht]; exact hP, va_K.moved hW.alike hK, hD⟩, hS.F ht⟩) hS.2.2 dX8_worth_19
  · rw [if_neg c4] at hf
    refine lv_iload_n hx hb dX8_worth_7 rfl (lv_at hl 2 rfl) ?_
    refine lv_iconst (v := 0) hx hb dX8_worth_8 (by decide) ?_
    refine lv_bipush (v := 99) hx hb dX8_worth_9 (by decide) ?_
    obtain ⟨r11_5, hc_6, hf⟩ := bd1_e hf
    refine vp_callSi (va_runS (As := [.int x2, .int 0, .int 99]) (rest := []) ⟨hx, hb, hml, hown, hts⟩ (c_X8_in l dC dI cI cZ cP cS   x2 0 99 n r11_5 hc_6) (va_cwS 3 hts gX8_worth_X8_in rfl rfl rfl (by decide +kernel) ⟨Nat.le_of_ble_eq_true rfl, Nat.le_of_ble_eq_true rfl⟩) (ps_ro hK (hP.sub (ws' := ([] : va_W)) [] rfl)) rfl rfl hl.1 rfl (lv_room (Nat.le_of_ble_eq_true rfl)) dX8_worth_11 ⟨Nat.zero_le _, Nat.zero_le _⟩).run (fun x e_7 => ?_)
    obtain ⟨e_7, hb_8⟩ := e_7
    rw [e_7] at hb_8 ⊢
    refine lv_if_ne (tgt := 20) hx hb dX8_worth_14 (by decide) (fun c14 => ?_) (fun c14 => ?_)
    · rw [if_neg c14] at hf
      refine lv_aload_n hx hb dX8_worth_20 rfl (lv_at hl 0 rfl) ?_
      refine va_get (D := (dC, dI)) (ci := 7) (v := .ref h_t_worths) (C := RX8) (T := TX8) (N := 24) hx hb hts hinX8 hown hK hP 0 rfl rfl 14 (by decide) (hts (.fieldLink RX8 41 "SecondSunriseModel" "worths" "[I") (by decide +kernel)) (fun _ h9 => h9) rfl dX8_worth_21 ?_
      refine lv_iload_n hx hb dX8_worth_24 rfl (lv_at hl 1 rfl) ?_
      obtain ⟨hi_9, hf⟩ := ix_e hf
      refine va_iald hx hb hK hP 1 0 rfl rfl hi_9 dX8_worth_25 ?_
      refine lv_istore_n (lv' := [(3, .int (v_m_worths x1.toNatClampNeg)), (0, .ref h_t), (1, .int x1), (2, .int x2)]) hx hb dX8_worth_26 rfl hl (by decide) rfl (fun ls hl => ?_)
      refine lv_aload_n hx hb dX8_worth_27 rfl (lv_at hl 1 rfl) ?_
      refine va_get (D := (dC, dI)) (ci := 7) (v := .ref h_t_worths) (C := RX8) (T := TX8) (N := 24) hx hb hts hinX8 hown hK hP 0 rfl rfl 14 (by decide) (hts (.fieldLink RX8 41 "SecondSunriseModel" "worths" "[I") (by decide +kernel)) (fun _ h9 => h9) rfl dX8_worth_28 ?_
      refine lv_iload_n hx hb dX8_worth_31 rfl (lv_at hl 2 rfl) ?_
      refine lv_iload_n hx hb dX8_worth_32 rfl (lv_at hl 3 rfl) ?_
      obtain ⟨hi_10, hf⟩ := ix_e hf
      refine va_iast hx hb hK hP hD hS 1 0 rfl rfl hi_10 dX8_worth_33 (fun H locs hP hD hS => ?_)
      have hP : va_P (dC, dI) vwCl (wd_X8_worth cI cZ cP cS h_t h_t_turns h_t_phases h_t_ups h_t_typed h_t_texts h_t_diary h_t_longs h_t_awakes h_t_fit h_t_counts h_t_worths h_t_ripes h_t_growths h_t_gains h_t_isThere h_t_forms h_t_sizes h_t_items h_t_moved v_m_hours v_m_months v_m_fitMany v_m_fitFirst v_m_finding (upd v_m_worths x1.toNatClampNeg x2)) H := hP
      have hD : va_D (va_A (wd_X8_worth cI cZ cP cS h_t h_t_turns h_t_phases h_t_ups h_t_typed h_t_texts h_t_diary h_t_longs h_t_awakes h_t_fit h_t_counts h_t_worths h_t_ripes h_t_growths h_t_gains h_t_isThere h_t_forms h_t_sizes h_t_items h_t_moved v_m_hours v_m_months v_m_fitMany v_m_fitFirst v_m_finding v_m_worths) s.heap.size) (wd_X8_worth cI cZ cP cS h_t h_t_turns h_t_phases h_t_ups h_t_typed h_t_texts h_t_diary h_t_longs h_t_awakes h_t_fit h_t_counts h_t_worths h_t_ripes h_t_growths h_t_gains h_t_isThere h_t_forms h_t_sizes h_t_items h_t_moved v_m_hours v_m_months v_m_fitMany v_m_fitFirst v_m_finding (upd v_m_worths x1.toNatClampNeg x2)) := hD
      refine lv_iload_n hx hb dX8_worth_34 rfl (lv_at hl 0 rfl) ?_
      have hq0 := Option.some.inj hf
      obtain ⟨eq0, hq1⟩ := Prod.mk.inj hq0
      clear hf hq0
      subst eq0
      subst hq1
      exact W.iret hx hb hr (fun t ht hW => ⟨⟨_, (), rfl, rfl, by rw [ht]; exact hP, va_K.moved hW.alike hK, hD⟩, hS.F ht⟩) hS.2.2 dX8_worth_35
    · rw [if_pos c14] at hf
      refine lv_bipush (v := (-2)) hx hb dX8_worth_17 (by decide) ?_
      have hq0 := Option.some.inj hf
      obtain ⟨eq0, hq1⟩ := Prod.mk.inj hq0
      clear hf hq0
      subst eq0
      subst hq1
      exact W.iret hx hb hr (fun t ht hW => ⟨⟨_, (), rfl, rfl, by rw [ht]; exact hP, va_K.moved hW.alike hK, hD⟩, hS.F ht⟩) hS.2.2 dX8_worth_19

abbrev wd_X8_write (cI cZ cP cS : ClassId) (h_t h_t_turns h_t_phases h_t_ups h_t_typed h_t_texts h_t_diary h_t_longs h_t_awakes h_t_fit h_t_counts h_t_worths h_t_ripes h_t_growths h_t_gains h_t_isThere h_t_forms h_t_sizes h_t_items h_t_moved : Nat) (v_m_hours : Int32) (v_m_months : Int32) (v_m_fitMany : Int32) (v_m_fitFirst : Int32) (v_m_finding : Int32) (v_m_turns : Nat → Int32) (v_m_phases : Nat → Int32) (v_m_ups : Nat → Int32) (v_m_isThere : Nat → Int32) (v_m_forms : Nat → Int32) (v_m_sizes : Nat → Int32) (v_m_items : Nat → Int32) : va_W := [(h_t, .inr (7, [.ref h_t_turns, .ref h_t_phases, .ref h_t_ups, .ref h_t_typed, .ref h_t_texts, .int v_m_hours, .ref h_t_diary, .int v_m_months, .ref h_t_longs, .ref h_t_awakes, .ref h_t_fit, .int v_m_fitMany, .int v_m_fitFirst, .ref h_t_counts, .ref h_t_worths, .ref h_t_ripes, .ref h_t_growths, .ref h_t_gains, .ref h_t_isThere, .ref h_t_forms, .ref h_t_sizes, .ref h_t_items, .ref h_t_moved, .int v_m_finding])), (h_t_turns, .inl (cI, 2, .inl v_m_turns)), (h_t_phases, .inl (cI, 2, .inl v_m_phases)), (h_t_ups, .inl (cI, 2, .inl v_m_ups)), (h_t_isThere, .inl (cZ, 4, .inl v_m_isThere)), (h_t_forms, .inl (cI, 4, .inl v_m_forms)), (h_t_sizes, .inl (cI, 4, .inl v_m_sizes)), (h_t_items, .inl (cI, 192, .inl v_m_items))]
abbrev rm_X8_write : Room := { frames := 3, cells := 0, slots := 0, locals := 65 }
def L_X8_write_34 (n : Nat) (v_m_turns : Nat → Int32) (v_m_phases : Nat → Int32) (v_m_ups : Nat → Int32) (v_m_forms : Nat → Int32) (v_m_sizes : Nat → Int32) (x1 : Int32) (x2 : Int32) (kx34 : (Nat → Int32) → Option (Int32 × Int32 × (Nat → Int32))) : Nat → Int32 → (Nat → Int32) → Option (Int32 × Int32 × (Nat → Int32))
  | 0, _, _ => none
  | k34 + 1, y34_3, w34_m_items => ix_ x2 4 (if (v_m_sizes x2.toNatClampNeg) ≤ y34_3 then kx34 w34_m_items else bd1_ (f_X8_lightOf n v_m_turns v_m_phases v_m_ups (x1 + y34_3)) (fun (r51_12 : Int32) => bd1_ (f_X8_keep n v_m_forms w34_m_items x2 y34_3 r51_12) (fun (o54_15 : Nat → Int32) => L_X8_write_34 n v_m_turns v_m_phases v_m_ups v_m_forms v_m_sizes x1 x2 kx34 k34 (y34_3 + 1) o54_15)))
theorem L_X8_write_34_s (n : Nat) (v_m_turns : Nat → Int32) (v_m_phases : Nat → Int32) (v_m_ups : Nat → Int32) (v_m_forms : Nat → Int32) (v_m_sizes : Nat → Int32) (x1 : Int32) (x2 : Int32) (kx34 : (Nat → Int32) → Option (Int32 × Int32 × (Nat → Int32))) (k34 : Nat) (y34_3 : Int32) (w34_m_items : Nat → Int32) : L_X8_write_34 n v_m_turns v_m_phases v_m_ups v_m_forms v_m_sizes x1 x2 kx34 (k34 + 1) y34_3 w34_m_items = ix_ x2 4 (if (v_m_sizes x2.toNatClampNeg) ≤ y34_3 then kx34 w34_m_items else bd1_ (f_X8_lightOf n v_m_turns v_m_phases v_m_ups (x1 + y34_3)) (fun (r51_12 : Int32) => bd1_ (f_X8_keep n v_m_forms w34_m_items x2 y34_3 r51_12) (fun (o54_15 : Nat → Int32) => L_X8_write_34 n v_m_turns v_m_phases v_m_ups v_m_forms v_m_sizes x1 x2 kx34 k34 (y34_3 + 1) o54_15))) := rfl
def f_X8_write (n : Nat) (v_m_finding : Int32) (v_m_turns : Nat → Int32) (v_m_phases : Nat → Int32) (v_m_ups : Nat → Int32) (v_m_isThere : Nat → Int32) (v_m_forms : Nat → Int32) (v_m_sizes : Nat → Int32) (v_m_items : Nat → Int32) (x1 : Int32) (x2 : Int32) : Option (Int32 × Int32 × (Nat → Int32)) := bd1_ (f_X8_isHour n x1) (fun (r1_1 : Int32) => if r1_1 = 0 then some ((-2), v_m_finding, v_m_items) else bd1_ (f_X8_isSheet n x2) (fun (r8_5 : Int32) => if r8_5 = 0 then some ((-2), v_m_finding, v_m_items) else ix_ x2 4 (if (v_m_isThere x2.toNatClampNeg) = 0 then bd2_ (f_X8_meets n v_m_finding 1) (fun (r28_18 : Int32) (o28_19 : Int32) => some (r28_18, o28_19, v_m_items)) else jn1_ (fun (u34_m_items : Nat → Int32) => ix_ x2 4 (some ((v_m_sizes x2.toNatClampNeg), v_m_finding, u34_m_items))) (fun kx34 => L_X8_write_34 n v_m_turns v_m_phases v_m_ups v_m_forms v_m_sizes x1 x2 kx34 n 0 v_m_items))))
set_option maxHeartbeats 4000000 in
set_option maxRecDepth 100000 in
theorem c_X8_write (l : Launch) (dC : Nat → ClassId) (dI : Nat → Nat → Nat) (cI cZ cP cS : ClassId) (sz : Nat) (h_t h_t_turns h_t_phases h_t_ups h_t_typed h_t_texts h_t_diary h_t_longs h_t_awakes h_t_fit h_t_counts h_t_worths h_t_ripes h_t_growths h_t_gains h_t_isThere h_t_forms h_t_sizes h_t_items h_t_moved : Nat) (v_m_hours : Int32) (v_m_months : Int32) (v_m_fitMany : Int32) (v_m_fitFirst : Int32) (v_m_finding : Int32) (v_m_turns : Nat → Int32) (v_m_phases : Nat → Int32) (v_m_ups : Nat → Int32) (v_m_isThere : Nat → Int32) (v_m_forms : Nat → Int32) (v_m_sizes : Nat → Int32) (v_m_items : Nat → Int32) (x1 : Int32) (x2 : Int32) (n : Nat) (r : Int32) (o_m_finding : Int32) (o_m_items : Nat → Int32) (hf : f_X8_write n v_m_finding v_m_turns v_m_phases v_m_ups v_m_isThere v_m_forms v_m_sizes v_m_items x1 x2 = some (r, o_m_finding, o_m_items)) : Met l yX8_write wsX8_write rm_X8_write (RW (dC, dI) (TY cI cZ cP cS) [.ref h_t, .int x1, .int x2] sz (wd_X8_write cI cZ cP cS h_t h_t_turns h_t_phases h_t_ups h_t_typed h_t_texts h_t_diary h_t_longs h_t_awakes h_t_fit h_t_counts h_t_worths h_t_ripes h_t_growths h_t_gains h_t_isThere h_t_forms h_t_sizes h_t_items h_t_moved v_m_hours v_m_months v_m_fitMany v_m_fitFirst v_m_finding v_m_turns v_m_phases v_m_ups v_m_isThere v_m_forms v_m_sizes v_m_items)) (RWi (dC, dI) (TY cI cZ cP cS) r sz (wd_X8_write cI cZ cP cS h_t h_t_turns h_t_phases h_t_ups h_t_typed h_t_texts h_t_diary h_t_longs h_t_awakes h_t_fit h_t_counts h_t_worths h_t_ripes h_t_growths h_t_gains h_t_isThere h_t_forms h_t_sizes h_t_items h_t_moved v_m_hours v_m_months v_m_fitMany v_m_fitFirst v_m_finding v_m_turns v_m_phases v_m_ups v_m_isThere v_m_forms v_m_sizes v_m_items) (wd_X8_write cI cZ cP cS h_t h_t_turns h_t_phases h_t_ups h_t_typed h_t_texts h_t_diary h_t_longs h_t_awakes h_t_fit h_t_counts h_t_worths h_t_ripes h_t_growths h_t_gains h_t_isThere h_t_forms h_t_sizes h_t_items h_t_moved v_m_hours v_m_months v_m_fitMany v_m_fitFirst o_m_finding v_m_turns v_m_phases v_m_ups v_m_isThere v_m_forms v_m_sizes o_m_items)) 0 0 (va_A (wd_X8_write cI cZ cP cS h_t h_t_turns h_t_phases h_t_ups h_t_typed h_t_texts h_t_diary h_t_longs h_t_awakes h_t_fit h_t_counts h_t_worths h_t_ripes h_t_growths h_t_gains h_t_isThere h_t_forms h_t_sizes h_t_items h_t_moved v_m_hours v_m_months v_m_fitMany v_m_fitFirst v_m_finding v_m_turns v_m_phases v_m_ups v_m_isThere v_m_forms v_m_sizes v_m_items) sz) := by
  refine Met.ofW (cc := cX8_write) (maxL := 4) (ret := (some .int)) (by decide) rfl ?_
  intro p e s m args below meth c s₁ B hml hv
  obtain ⟨rfl, hsz, hP, hK, hD0⟩ := hv
  have hx := B.exec
  have hb := B.bytes
  have hr := B.returns
  have hts := atoms_spec (ws := wsX8_write) B.pre
  have hown : s.vm.findClass RX8 = some m.cls := findClass_of_methodNamed B.named
  have hlocks := B.notSynchronized
  subst hsz
  have hD := hD0.self (sz := s.heap.size)
  have hA : ∀ q : Nat, s.heap.size ≤ q → (va_A (wd_X8_write cI cZ cP cS h_t h_t_turns h_t_phases h_t_ups h_t_typed h_t_texts h_t_diary h_t_longs h_t_awakes h_t_fit h_t_counts h_t_worths h_t_ripes h_t_growths h_t_gains h_t_isThere h_t_forms h_t_sizes h_t_items h_t_moved v_m_hours v_m_months v_m_fitMany v_m_fitFirst v_m_finding v_m_turns v_m_phases v_m_ups v_m_isThere v_m_forms v_m_sizes v_m_items) s.heap.size) q := fun q h => Or.inr h
  have hS : va_S (va_A (wd_X8_write cI cZ cP cS h_t h_t_turns h_t_phases h_t_ups h_t_typed h_t_texts h_t_diary h_t_longs h_t_awakes h_t_fit h_t_counts h_t_worths h_t_ripes h_t_growths h_t_gains h_t_isThere h_t_forms h_t_sizes h_t_items h_t_moved v_m_hours v_m_months v_m_fitMany v_m_fitFirst v_m_finding v_m_turns v_m_phases v_m_ups v_m_isThere v_m_forms v_m_sizes v_m_items) s.heap.size) s.heap s.heap [] := va_S.rf
  have hinX8 : ∀ w ∈ wsX80, w ∈ wsX8_write := by decide +kernel
  have hl := lv_entry ([.ref h_t, .int x1, .int x2]) (n := 4) (Nat.le_of_ble_eq_true rfl)
  rw [lg_entry_eq]
  generalize (lg_sl ([.ref h_t, .int x1, .int x2]) ++ List.replicate (4 - (lg_sl ([.ref h_t, .int x1, .int x2])).length) Slot.unset).toArray = ls at hl ⊢
  have hl : lv_has ls 4 [(0, .ref h_t), (1, .int x1), (2, .int x2)] := hl
  obtain ⟨H, hH⟩ : ∃ H : Heap, H = s.heap := ⟨_, rfl⟩
  have hP : va_P (dC, dI) vwCl (wd_X8_write cI cZ cP cS h_t h_t_turns h_t_phases h_t_ups h_t_typed h_t_texts h_t_diary h_t_longs h_t_awakes h_t_fit h_t_counts h_t_worths h_t_ripes h_t_growths h_t_gains h_t_isThere h_t_forms h_t_sizes h_t_items h_t_moved v_m_hours v_m_months v_m_fitMany v_m_fitFirst v_m_finding v_m_turns v_m_phases v_m_ups v_m_isThere v_m_forms v_m_sizes v_m_items) H := by rw [hH]; exact hP
  have hS : va_S (va_A (wd_X8_write cI cZ cP cS h_t h_t_turns h_t_phases h_t_ups h_t_typed h_t_texts h_t_diary h_t_longs h_t_awakes h_t_fit h_t_counts h_t_worths h_t_ripes h_t_growths h_t_gains h_t_isThere h_t_forms h_t_sizes h_t_items h_t_moved v_m_hours v_m_months v_m_fitMany v_m_fitFirst v_m_finding v_m_turns v_m_phases v_m_ups v_m_isThere v_m_forms v_m_sizes v_m_items) s.heap.size) s.heap H [] := by rw [hH]; exact hS
  obtain ⟨locs, hlo⟩ : ∃ L : List Loc, L = [] := ⟨_, rfl⟩
  rw [← hlo] at hS
  suffices hgo : W p l e (headSpec wsX8_write rm_X8_write).room s m ([.ref h_t, .int x1, .int x2] : List Value).toArray below meth c H locs 0 0 (MQ below (RWi (dC, dI) (TY cI cZ cP cS) r s.heap.size (wd_X8_write cI cZ cP cS h_t h_t_turns h_t_phases h_t_ups h_t_typed h_t_texts h_t_diary h_t_longs h_t_awakes h_t_fit h_t_counts h_t_worths h_t_ripes h_t_growths h_t_gains h_t_isThere h_t_forms h_t_sizes h_t_items h_t_moved v_m_hours v_m_months v_m_fitMany v_m_fitFirst v_m_finding v_m_turns v_m_phases v_m_ups v_m_isThere v_m_forms v_m_sizes v_m_items) (wd_X8_write cI cZ cP cS h_t h_t_turns h_t_phases h_t_ups h_t_typed h_t_texts h_t_diary h_t_longs h_t_awakes h_t_fit h_t_counts h_t_worths h_t_ripes h_t_growths h_t_gains h_t_isThere h_t_forms h_t_sizes h_t_items h_t_moved v_m_hours v_m_months v_m_fitMany v_m_fitFirst o_m_finding v_m_turns v_m_phases v_m_ups v_m_isThere v_m_forms v_m_sizes o_m_items)) ([.ref h_t, .int x1, .int x2] : List Value).toArray s 0 0 (va_A (wd_X8_write cI cZ cP cS h_t h_t_turns h_t_phases h_t_ups h_t_typed h_t_texts h_t_diary h_t_longs h_t_awakes h_t_fit h_t_counts h_t_worths h_t_ripes h_t_growths h_t_gains h_t_isThere h_t_forms h_t_sizes h_t_items h_t_moved v_m_hours v_m_months v_m_fitMany v_m_fitFirst v_m_finding v_m_turns v_m_phases v_m_ups v_m_isThere v_m_forms v_m_sizes v_m_items) s.heap.size)) (F0 m 0 ls []) by rw [hH, hlo] at hgo; exact hgo
  clear hH hlo
  unfold f_X8_write at hf
  refine lv_iload_n hx hb dX8_write_0 rfl (lv_at hl 1 rfl) ?_
  obtain ⟨r1_1, hc_2, hf⟩ := bd1_e hf
  refine vp_callSi (va_runS (As := [.int x1]) (rest := []) ⟨hx, hb, hml, hown, hts⟩ (c_X8_isHour l dC dI cI cZ cP cS   x1 n r1_1 hc_2) (va_cwS 1 hts gX8_write_X8_isHour rfl rfl rfl (by decide +kernel) ⟨Nat.le_of_ble_eq_true rfl, Nat.le_of_ble_eq_true rfl⟩) (ps_ro hK (hP.sub (ws' := ([] : va_W)) [] rfl)) rfl rfl hl.1 rfl (lv_room (Nat.le_of_ble_eq_true rfl)) dX8_write_1 ⟨Nat.zero_le _, Nat.zero_le _⟩).run (fun x e_3 => ?_)
  obtain ⟨e_3, hb_4⟩ := e_3
  rw [e_3] at hb_4 ⊢
  refine lv_if_eq (tgt := 14) hx hb dX8_write_4 (by decide) (fun c4 => ?_) (fun c4 => ?_)
  · rw [if_pos c4] at hf
    refine lv_bipush (v := (-2)) hx hb dX8_write_14 (by decide) ?_
    have hq0 := Option.some.inj hf
    obtain ⟨eq0, hq1⟩ := Prod.mk.inj hq0
    obtain ⟨eq1, hq2⟩ := Prod.mk.inj hq1
    clear hf hq0 hq1
    subst eq0
    subst eq1
    subst hq2
    exact W.iret hx hb hr (fun t ht hW => ⟨⟨_, (), rfl, rfl, by rw [ht]; exact hP, va_K.moved hW.alike hK, hD⟩, hS.F ht⟩) hS.2.2 dX8_write_16
  · rw [if_neg c4] at hf
    refine lv_iload_n hx hb dX8_write_7 rfl (lv_at hl 2 rfl) ?_
    obtain ⟨r8_5, hc_6, hf⟩ := bd1_e hf
    refine vp_callSi (va_runS (As := [.int x2]) (rest := []) ⟨hx, hb, hml, hown, hts⟩ (c_X8_isSheet l dC dI cI cZ cP cS   x2 n r8_5 hc_6) (va_cwS 1 hts gX8_write_X8_isSheet rfl rfl rfl (by decide +kernel) ⟨Nat.le_of_ble_eq_true rfl, Nat.le_of_ble_eq_true rfl⟩) (ps_ro hK (hP.sub (ws' := ([] : va_W)) [] rfl)) rfl rfl hl.1 rfl (lv_room (Nat.le_of_ble_eq_true rfl)) dX8_write_8 ⟨Nat.zero_le _, Nat.zero_le _⟩).run (fun x e_7 => ?_)
    obtain ⟨e_7, hb_8⟩ := e_7
    rw [e_7] at hb_8 ⊢
    refine lv_if_ne (tgt := 17) hx hb dX8_write_11 (by decide) (fun c11 => ?_) (fun c11 => ?_)
    · rw [if_neg c11] at hf
      refine lv_aload_n hx hb dX8_write_17 rfl (lv_at hl 0 rfl) ?_
      refine va_get (D := (dC, dI)) (ci := 7) (v := .ref h_t_isThere) (C := RX8) (T := TX8) (N := 24) hx hb hts hinX8 hown hK hP 0 rfl rfl 18 (by decide) (hts (.fieldLink RX8 53 "SecondSunriseModel" "isThere" "[Z") (by decide +kernel)) (fun _ h9 => h9) rfl dX8_write_18 ?_
      refine lv_iload_n hx hb dX8_write_21 rfl (lv_at hl 2 rfl) ?_
      obtain ⟨hi_9, hf⟩ := ix_e hf
      refine va_zald hx hb hK hP 4 1 rfl rfl hi_9 dX8_write_22 ?_
      refine lv_if_ne (tgt := 32) hx hb dX8_write_23 (by decide) (fun c23 => ?_) (fun c23 => ?_)
      · rw [if_neg c23] at hf
        refine lv_iconst (v := 0) hx hb dX8_write_32 (by decide) ?_
        refine lv_istore_n (lv' := [(3, .int 0), (0, .ref h_t), (1, .int x1), (2, .int x2)]) hx hb dX8_write_33 rfl hl (by decide) rfl (fun ls hl => ?_)
        obtain ⟨kx34, ekx34, hf⟩ := jn1_e hf
        have hx34 : ∀ (u34_m_items : Nat → Int32) (H : Heap) (locs : List Loc) (ls : Array Slot), lv_has ls 4 [(0, .ref h_t), (2, .int x2)] → va_P (dC, dI) vwCl (wd_X8_write cI cZ cP cS h_t h_t_turns h_t_phases h_t_ups h_t_typed h_t_texts h_t_diary h_t_longs h_t_awakes h_t_fit h_t_counts h_t_worths h_t_ripes h_t_growths h_t_gains h_t_isThere h_t_forms h_t_sizes h_t_items h_t_moved v_m_hours v_m_months v_m_fitMany v_m_fitFirst v_m_finding v_m_turns v_m_phases v_m_ups v_m_isThere v_m_forms v_m_sizes u34_m_items) H → va_D (va_A (wd_X8_write cI cZ cP cS h_t h_t_turns h_t_phases h_t_ups h_t_typed h_t_texts h_t_diary h_t_longs h_t_awakes h_t_fit h_t_counts h_t_worths h_t_ripes h_t_growths h_t_gains h_t_isThere h_t_forms h_t_sizes h_t_items h_t_moved v_m_hours v_m_months v_m_fitMany v_m_fitFirst v_m_finding v_m_turns v_m_phases v_m_ups v_m_isThere v_m_forms v_m_sizes v_m_items) s.heap.size) (wd_X8_write cI cZ cP cS h_t h_t_turns h_t_phases h_t_ups h_t_typed h_t_texts h_t_diary h_t_longs h_t_awakes h_t_fit h_t_counts h_t_worths h_t_ripes h_t_growths h_t_gains h_t_isThere h_t_forms h_t_sizes h_t_items h_t_moved v_m_hours v_m_months v_m_fitMany v_m_fitFirst v_m_finding v_m_turns v_m_phases v_m_ups v_m_isThere v_m_forms v_m_sizes u34_m_items) → va_S (va_A (wd_X8_write cI cZ cP cS h_t h_t_turns h_t_phases h_t_ups h_t_typed h_t_texts h_t_diary h_t_longs h_t_awakes h_t_fit h_t_counts h_t_worths h_t_ripes h_t_growths h_t_gains h_t_isThere h_t_forms h_t_sizes h_t_items h_t_moved v_m_hours v_m_months v_m_fitMany v_m_fitFirst v_m_finding v_m_turns v_m_phases v_m_ups v_m_isThere v_m_forms v_m_sizes v_m_items) s.heap.size) s.heap H locs → kx34 u34_m_items = some (r, o_m_finding, o_m_items) → W p l e (headSpec wsX8_write rm_X8_write).room s m ([.ref h_t, .int x1, .int x2] : List Value).toArray below meth c H locs 0 0 (MQ below (RWi (dC, dI) (TY cI cZ cP cS) r s.heap.size (wd_X8_write cI cZ cP cS h_t h_t_turns h_t_phases h_t_ups h_t_typed h_t_texts h_t_diary h_t_longs h_t_awakes h_t_fit h_t_counts h_t_worths h_t_ripes h_t_growths h_t_gains h_t_isThere h_t_forms h_t_sizes h_t_items h_t_moved v_m_hours v_m_months v_m_fitMany v_m_fitFirst v_m_finding v_m_turns v_m_phases v_m_ups v_m_isThere v_m_forms v_m_sizes v_m_items) (wd_X8_write cI cZ cP cS h_t h_t_turns h_t_phases h_t_ups h_t_typed h_t_texts h_t_diary h_t_longs h_t_awakes h_t_fit h_t_counts h_t_worths h_t_ripes h_t_growths h_t_gains h_t_isThere h_t_forms h_t_sizes h_t_items h_t_moved v_m_hours v_m_months v_m_fitMany v_m_fitFirst o_m_finding v_m_turns v_m_phases v_m_ups v_m_isThere v_m_forms v_m_sizes o_m_items)) ([.ref h_t, .int x1, .int x2] : List Value).toArray s 0 0 (va_A (wd_X8_write cI cZ cP cS h_t h_t_turns h_t_phases h_t_ups h_t_typed h_t_texts h_t_diary h_t_longs h_t_awakes h_t_fit h_t_counts h_t_worths h_t_ripes h_t_growths h_t_gains h_t_isThere h_t_forms h_t_sizes h_t_items h_t_moved v_m_hours v_m_months v_m_fitMany v_m_fitFirst v_m_finding v_m_turns v_m_phases v_m_ups v_m_isThere v_m_forms v_m_sizes v_m_items) s.heap.size)) (F0 m 63 ls []) := by
          intro u34_m_items H locs ls hl hP hD hS hf
          rw [ekx34] at hf
          refine lv_aload_n hx hb dX8_write_63 rfl (lv_at hl 0 rfl) ?_
          refine va_get (D := (dC, dI)) (ci := 7) (v := .ref h_t_sizes) (C := RX8) (T := TX8) (N := 24) hx hb hts hinX8 hown hK hP 0 rfl rfl 20 (by decide) (hts (.fieldLink RX8 59 "SecondSunriseModel" "sizes" "[I") (by decide +kernel)) (fun _ h9 => h9) rfl dX8_write_64 ?_
          refine lv_iload_n hx hb dX8_write_67 rfl (lv_at hl 1 rfl) ?_
          obtain ⟨hi_10, hf⟩ := ix_e hf
          refine va_iald hx hb hK hP 6 0 rfl rfl hi_10 dX8_write_68 ?_
          have hq0 := Option.some.inj hf
          obtain ⟨eq0, hq1⟩ := Prod.mk.inj hq0
          obtain ⟨eq1, hq2⟩ := Prod.mk.inj hq1
          clear hf hq0 hq1
          subst eq0
          subst eq1
          subst hq2
          exact W.iret hx hb hr (fun t ht hW => ⟨⟨_, (), rfl, rfl, by rw [ht]; exact hP, va_K.moved hW.alike hK, hD⟩, hS.F ht⟩) hS.2.2 dX8_write_69
        have hL34 : ∀ (k34 : Nat) (y34_3 : Int32) (w34_m_items : Nat → Int32) (H : Heap) (locs : List Loc) (ls : Array Slot), lv_has ls 4 [(0, .ref h_t), (1, .int x1), (2, .int x2), (3, .int y34_3)] → va_P (dC, dI) vwCl (wd_X8_write cI cZ cP cS h_t h_t_turns h_t_phases h_t_ups h_t_typed h_t_texts h_t_diary h_t_longs h_t_awakes h_t_fit h_t_counts h_t_worths h_t_ripes h_t_growths h_t_gains h_t_isThere h_t_forms h_t_sizes h_t_items h_t_moved v_m_hours v_m_months v_m_fitMany v_m_fitFirst v_m_finding v_m_turns v_m_phases v_m_ups v_m_isThere v_m_forms v_m_sizes w34_m_items) H → va_D (va_A (wd_X8_write cI cZ cP cS h_t h_t_turns h_t_phases h_t_ups h_t_typed h_t_texts h_t_diary h_t_longs h_t_awakes h_t_fit h_t_counts h_t_worths h_t_ripes h_t_growths h_t_gains h_t_isThere h_t_forms h_t_sizes h_t_items h_t_moved v_m_hours v_m_months v_m_fitMany v_m_fitFirst v_m_finding v_m_turns v_m_phases v_m_ups v_m_isThere v_m_forms v_m_sizes v_m_items) s.heap.size) (wd_X8_write cI cZ cP cS h_t h_t_turns h_t_phases h_t_ups h_t_typed h_t_texts h_t_diary h_t_longs h_t_awakes h_t_fit h_t_counts h_t_worths h_t_ripes h_t_growths h_t_gains h_t_isThere h_t_forms h_t_sizes h_t_items h_t_moved v_m_hours v_m_months v_m_fitMany v_m_fitFirst v_m_finding v_m_turns v_m_phases v_m_ups v_m_isThere v_m_forms v_m_sizes w34_m_items) → va_S (va_A (wd_X8_write cI cZ cP cS h_t h_t_turns h_t_phases h_t_ups h_t_typed h_t_texts h_t_diary h_t_longs h_t_awakes h_t_fit h_t_counts h_t_worths h_t_ripes h_t_growths h_t_gains h_t_isThere h_t_forms h_t_sizes h_t_items h_t_moved v_m_hours v_m_months v_m_fitMany v_m_fitFirst v_m_finding v_m_turns v_m_phases v_m_ups v_m_isThere v_m_forms v_m_sizes v_m_items) s.heap.size) s.heap H locs → L_X8_write_34 n v_m_turns v_m_phases v_m_ups v_m_forms v_m_sizes x1 x2 kx34 k34 y34_3 w34_m_items = some (r, o_m_finding, o_m_items) → W p l e (headSpec wsX8_write rm_X8_write).room s m ([.ref h_t, .int x1, .int x2] : List Value).toArray below meth c H locs 0 0 (MQ below (RWi (dC, dI) (TY cI cZ cP cS) r s.heap.size (wd_X8_write cI cZ cP cS h_t h_t_turns h_t_phases h_t_ups h_t_typed h_t_texts h_t_diary h_t_longs h_t_awakes h_t_fit h_t_counts h_t_worths h_t_ripes h_t_growths h_t_gains h_t_isThere h_t_forms h_t_sizes h_t_items h_t_moved v_m_hours v_m_months v_m_fitMany v_m_fitFirst v_m_finding v_m_turns v_m_phases v_m_ups v_m_isThere v_m_forms v_m_sizes v_m_items) (wd_X8_write cI cZ cP cS h_t h_t_turns h_t_phases h_t_ups h_t_typed h_t_texts h_t_diary h_t_longs h_t_awakes h_t_fit h_t_counts h_t_worths h_t_ripes h_t_growths h_t_gains h_t_isThere h_t_forms h_t_sizes h_t_items h_t_moved v_m_hours v_m_months v_m_fitMany v_m_fitFirst o_m_finding v_m_turns v_m_phases v_m_ups v_m_isThere v_m_forms v_m_sizes o_m_items)) ([.ref h_t, .int x1, .int x2] : List Value).toArray s 0 0 (va_A (wd_X8_write cI cZ cP cS h_t h_t_turns h_t_phases h_t_ups h_t_typed h_t_texts h_t_diary h_t_longs h_t_awakes h_t_fit h_t_counts h_t_worths h_t_ripes h_t_growths h_t_gains h_t_isThere h_t_forms h_t_sizes h_t_items h_t_moved v_m_hours v_m_months v_m_fitMany v_m_fitFirst v_m_finding v_m_turns v_m_phases v_m_ups v_m_isThere v_m_forms v_m_sizes v_m_items) s.heap.size)) (F0 m 34 ls []) := by
          intro k34
          induction k34 with
          | zero =>
            intro y34_3 w34_m_items H locs ls hl hP hD hS hf
            exact absurd hf (fun h => Option.some_ne_none _ h.symm)
          | succ k34 ih =>
            intro y34_3 w34_m_items H locs ls hl hP hD hS hf
            rw [L_X8_write_34_s] at hf
            refine lv_iload_n hx hb dX8_write_34 rfl (lv_at hl 3 rfl) ?_
            refine lv_aload_n hx hb dX8_write_35 rfl (lv_at hl 0 rfl) ?_
            refine va_get (D := (dC, dI)) (ci := 7) (v := .ref h_t_sizes) (C := RX8) (T := TX8) (N := 24) hx hb hts hinX8 hown hK hP 0 rfl rfl 20 (by decide) (hts (.fieldLink RX8 59 "SecondSunriseModel" "sizes" "[I") (by decide +kernel)) (fun _ h9 => h9) rfl dX8_write_36 ?_
            refine lv_iload_n hx hb dX8_write_39 rfl (lv_at hl 2 rfl) ?_
            obtain ⟨hi_11, hf⟩ := ix_e hf
            refine va_iald hx hb hK hP 6 0 rfl rfl hi_11 dX8_write_40 ?_
            refine lv_icmp_ge (tgt := 63) hx hb dX8_write_41 (by decide) (fun c41 => ?_) (fun c41 => ?_)
            · rw [if_pos c41] at hf
              exact hx34 w34_m_items H locs ls (lv_sub hl [0, 2] rfl) hP hD hS hf
            · rw [if_neg c41] at hf
              refine lv_aload_n hx hb dX8_write_44 rfl (lv_at hl 0 rfl) ?_
              refine lv_iload_n hx hb dX8_write_45 rfl (lv_at hl 2 rfl) ?_
              refine lv_iload_n hx hb dX8_write_46 rfl (lv_at hl 3 rfl) ?_
              refine lv_aload_n hx hb dX8_write_47 rfl (lv_at hl 0 rfl) ?_
              refine lv_iload_n hx hb dX8_write_48 rfl (lv_at hl 1 rfl) ?_
              refine lv_iload_n hx hb dX8_write_49 rfl (lv_at hl 3 rfl) ?_
              refine lv_iadd hx hb dX8_write_50 ?_
              obtain ⟨r51_12, hc_13, hf⟩ := bd1_e hf
              refine vp_callSi (va_runV (As := [.int (x1 + y34_3)]) (rest := [.int y34_3, .int x2, .ref h_t]) ⟨hx, hb, hml, hown, hts⟩ (c_X8_lightOf l dC dI cI cZ cP cS h_t h_t_turns h_t_phases h_t_ups h_t_typed h_t_texts h_t_diary h_t_longs h_t_awakes h_t_fit h_t_counts h_t_worths h_t_ripes h_t_growths h_t_gains h_t_isThere h_t_forms h_t_sizes h_t_items h_t_moved v_m_hours v_m_months v_m_fitMany v_m_fitFirst v_m_finding v_m_turns v_m_phases v_m_ups (x1 + y34_3) n r51_12 hc_13) (cwV 1 hts gX8_write_X8_lightOf rfl rfl rfl (by decide +kernel) ⟨Nat.le_of_ble_eq_true rfl, Nat.le_of_ble_eq_true rfl⟩) (pv_ro (ci := 7) (q0 := 0) hK (hP.sub (ws' := (wd_X8_lightOf cI cZ cP cS h_t h_t_turns h_t_phases h_t_ups h_t_typed h_t_texts h_t_diary h_t_longs h_t_awakes h_t_fit h_t_counts h_t_worths h_t_ripes h_t_growths h_t_gains h_t_isThere h_t_forms h_t_sizes h_t_items h_t_moved v_m_hours v_m_months v_m_fitMany v_m_fitFirst v_m_finding v_m_turns v_m_phases v_m_ups)) [0, 1, 2, 3] rfl) rfl rfl) rfl rfl hl.1 rfl (lv_room (Nat.le_of_ble_eq_true rfl)) dX8_write_51 ⟨Nat.zero_le _, Nat.zero_le _⟩).run (fun x e_14 => ?_)
              rw [e_14]
              obtain ⟨o54_15, hc_16, hf⟩ := bd1_e hf
              refine rwv_call (isC := [0, 5, 7]) (isR := [1, 2, 3, 4, 6]) (perm := [5, 0, 1, 2, 3, 6, 4, 7]) (wr := [(h_t_turns, .inl (cI, 2, .inl v_m_turns)), (h_t_phases, .inl (cI, 2, .inl v_m_phases)), (h_t_ups, .inl (cI, 2, .inl v_m_ups)), (h_t_isThere, .inl (cZ, 4, .inl v_m_isThere)), (h_t_sizes, .inl (cI, 4, .inl v_m_sizes))]) (ws2 := (wd_X8_write cI cZ cP cS h_t h_t_turns h_t_phases h_t_ups h_t_typed h_t_texts h_t_diary h_t_longs h_t_awakes h_t_fit h_t_counts h_t_worths h_t_ripes h_t_growths h_t_gains h_t_isThere h_t_forms h_t_sizes h_t_items h_t_moved v_m_hours v_m_months v_m_fitMany v_m_fitFirst v_m_finding v_m_turns v_m_phases v_m_ups v_m_isThere v_m_forms v_m_sizes o54_15)) (va_runV (As := [.int x2, .int y34_3, .int r51_12]) (rest := []) ⟨hx, hb, hml, hown, hts⟩ (c_X8_keep l dC dI cI cZ cP cS H.size h_t h_t_turns h_t_phases h_t_ups h_t_typed h_t_texts h_t_diary h_t_longs h_t_awakes h_t_fit h_t_counts h_t_worths h_t_ripes h_t_growths h_t_gains h_t_isThere h_t_forms h_t_sizes h_t_items h_t_moved v_m_hours v_m_months v_m_fitMany v_m_fitFirst v_m_finding v_m_forms w34_m_items x2 y34_3 r51_12 n o54_15 hc_16) (cwV 3 hts gX8_write_X8_keep rfl rfl rfl (by decide +kernel) ⟨Nat.le_of_ble_eq_true rfl, Nat.le_of_ble_eq_true rfl⟩) (pv_rw (ci := 7) (q0 := 0) hK (hP.sub (ws' := (wd_X8_keep cI cZ cP cS h_t h_t_turns h_t_phases h_t_ups h_t_typed h_t_texts h_t_diary h_t_longs h_t_awakes h_t_fit h_t_counts h_t_worths h_t_ripes h_t_growths h_t_gains h_t_isThere h_t_forms h_t_sizes h_t_items h_t_moved v_m_hours v_m_months v_m_fitMany v_m_fitFirst v_m_finding v_m_forms w34_m_items)) [0, 5, 7] rfl) (hD.sub (ws' := (wd_X8_keep cI cZ cP cS h_t h_t_turns h_t_phases h_t_ups h_t_typed h_t_texts h_t_diary h_t_longs h_t_awakes h_t_fit h_t_counts h_t_worths h_t_ripes h_t_growths h_t_gains h_t_isThere h_t_forms h_t_sizes h_t_items h_t_moved v_m_hours v_m_months v_m_fitMany v_m_fitFirst v_m_finding v_m_forms w34_m_items)) [0, 5, 7] (by decide) rfl) rfl rfl) rfl rfl hl.1 rfl (lv_room (Nat.le_of_ble_eq_true rfl)) dX8_write_54 ⟨Nat.zero_le _, Nat.zero_le _⟩) hS hA hP hD rfl (by decide) (by decide) rfl (by decide) rfl rfl (fun H locs hP hD hS => ?_)
              refine lv_iinc (v := (y34_3 + 1)) (lv' := [(3, .int (y34_3 + 1)), (0, .ref h_t), (1, .int x1), (2, .int x2)]) hx hb dX8_write_57 hl (k := 3) rfl rfl (by decide) rfl (fun ls hl => ?_)
              refine lv_goto (tgt := 34) hx hb dX8_write_60 (by decide) ?_
              exact ih (y34_3 + 1) o54_15 H locs ls (lv_sub hl [1, 2, 3, 0] rfl) hP hD hS hf
        exact hL34 n 0 v_m_items H locs ls (lv_sub hl [1, 2, 3, 0] rfl) hP hD hS hf
      · rw [if_pos c23] at hf
        refine lv_aload_n hx hb dX8_write_26 rfl (lv_at hl 0 rfl) ?_
        refine lv_iconst (v := 1) hx hb dX8_write_27 (by decide) ?_
        obtain ⟨r28_18, o28_19, hc_20, hf⟩ := bd2_e hf
        refine rwi_call (isC := [0]) (isR := [1, 2, 3, 4, 5, 6, 7]) (perm := [7, 0, 1, 2, 3, 4, 5, 6]) (wr := [(h_t_turns, .inl (cI, 2, .inl v_m_turns)), (h_t_phases, .inl (cI, 2, .inl v_m_phases)), (h_t_ups, .inl (cI, 2, .inl v_m_ups)), (h_t_isThere, .inl (cZ, 4, .inl v_m_isThere)), (h_t_forms, .inl (cI, 4, .inl v_m_forms)), (h_t_sizes, .inl (cI, 4, .inl v_m_sizes)), (h_t_items, .inl (cI, 192, .inl v_m_items))]) (ws2 := (wd_X8_write cI cZ cP cS h_t h_t_turns h_t_phases h_t_ups h_t_typed h_t_texts h_t_diary h_t_longs h_t_awakes h_t_fit h_t_counts h_t_worths h_t_ripes h_t_growths h_t_gains h_t_isThere h_t_forms h_t_sizes h_t_items h_t_moved v_m_hours v_m_months v_m_fitMany v_m_fitFirst o28_19 v_m_turns v_m_phases v_m_ups v_m_isThere v_m_forms v_m_sizes v_m_items)) (va_runV (As := [.int 1]) (rest := []) ⟨hx, hb, hml, hown, hts⟩ (c_X8_meets l dC dI cI cZ cP cS H.size h_t h_t_turns h_t_phases h_t_ups h_t_typed h_t_texts h_t_diary h_t_longs h_t_awakes h_t_fit h_t_counts h_t_worths h_t_ripes h_t_growths h_t_gains h_t_isThere h_t_forms h_t_sizes h_t_items h_t_moved v_m_hours v_m_months v_m_fitMany v_m_fitFirst v_m_finding 1 n r28_18 o28_19 hc_20) (cwV 1 hts gX8_write_X8_meets rfl rfl rfl (by decide +kernel) ⟨Nat.le_of_ble_eq_true rfl, Nat.le_of_ble_eq_true rfl⟩) (pv_rw (ci := 7) (q0 := 0) hK (hP.sub (ws' := (wd_X8_meets cI cZ cP cS h_t h_t_turns h_t_phases h_t_ups h_t_typed h_t_texts h_t_diary h_t_longs h_t_awakes h_t_fit h_t_counts h_t_worths h_t_ripes h_t_growths h_t_gains h_t_isThere h_t_forms h_t_sizes h_t_items h_t_moved v_m_hours v_m_months v_m_fitMany v_m_fitFirst v_m_finding)) [0] rfl) (hD.sub (ws' := (wd_X8_meets cI cZ cP cS h_t h_t_turns h_t_phases h_t_ups h_t_typed h_t_texts h_t_diary h_t_longs h_t_awakes h_t_fit h_t_counts h_t_worths h_t_ripes h_t_growths h_t_gains h_t_isThere h_t_forms h_t_sizes h_t_items h_t_moved v_m_hours v_m_months v_m_fitMany v_m_fitFirst v_m_finding)) [0] (by decide) rfl) rfl rfl) rfl rfl hl.1 rfl (lv_room (Nat.le_of_ble_eq_true rfl)) dX8_write_28 ⟨Nat.zero_le _, Nat.zero_le _⟩) hS hA hP hD rfl (by decide) (by decide) rfl (by decide) rfl rfl (fun H locs hP hD hS => ?_)
        have hq0 := Option.some.inj hf
        obtain ⟨eq0, hq1⟩ := Prod.mk.inj hq0
        obtain ⟨eq1, hq2⟩ := Prod.mk.inj hq1
        clear hf hq0 hq1
        subst eq0
        subst eq1
        subst hq2
        exact W.iret hx hb hr (fun t ht hW => ⟨⟨_, (), rfl, rfl, by rw [ht]; exact hP, va_K.moved hW.alike hK, hD⟩, hS.F ht⟩) hS.2.2 dX8_write_31
    · rw [if_pos c11] at hf
      refine lv_bipush (v := (-2)) hx hb dX8_write_14 (by decide) ?_
      have hq0 := Option.some.inj hf
      obtain ⟨eq0, hq1⟩ := Prod.mk.inj hq0
      obtain ⟨eq1, hq2⟩ := Prod.mk.inj hq1
      clear hf hq0 hq1
      subst eq0
      subst eq1
      subst hq2
      exact W.iret hx hb hr (fun t ht hW => ⟨⟨_, (), rfl, rfl, by rw [ht]; exact hP, va_K.moved hW.alike hK, hD⟩, hS.F ht⟩) hS.2.2 dX8_write_16
