abbrev wd_X8_driftOf (cI cZ cP cS : ClassId) (h_t h_t_turns h_t_phases h_t_ups h_t_typed h_t_texts h_t_diary h_t_longs h_t_awakes h_t_fit h_t_counts h_t_worths h_t_ripes h_t_growths h_t_gains h_t_isThere h_t_forms h_t_sizes h_t_items h_t_moved : Nat) (v_m_hours : Int32) (v_m_months : Int32) (v_m_fitMany : Int32) (v_m_fitFirst : Int32) (v_m_finding : Int32) (v_m_turns : Nat → Int32) (v_m_phases : Nat → Int32) (v_m_ups : Nat → Int32) (v_m_typed : Nat → Int32) (v_m_texts : Nat → Int32) (v_m_diary : Nat → Int32) (v_m_longs : Nat → Int32) : va_W := [(h_t, .inr (7, [.ref h_t_turns, .ref h_t_phases, .ref h_t_ups, .ref h_t_typed, .ref h_t_texts, .int v_m_hours, .ref h_t_diary, .int v_m_months, .ref h_t_longs, .ref h_t_awakes, .ref h_t_fit, .int v_m_fitMany, .int v_m_fitFirst, .ref h_t_counts, .ref h_t_worths, .ref h_t_ripes, .ref h_t_growths, .ref h_t_gains, .ref h_t_isThere, .ref h_t_forms, .ref h_t_sizes, .ref h_t_items, .ref h_t_moved, .int v_m_finding])), (h_t_turns, .inl (cI, 2, .inl v_m_turns)), (h_t_phases, .inl (cI, 2, .inl v_m_phases)), (h_t_ups, .inl (cI, 2, .inl v_m_ups)), (h_t_typed, .inl (cI, 2, .inl v_m_typed)), (h_t_texts, .inl (cI, 120, .inl v_m_texts)), (h_t_diary, .inl (cI, 60, .inl v_m_diary)), (h_t_longs, .inl (cI, 7, .inl v_m_longs))]
abbrev rm_X8_driftOf : Room := { frames := 5, cells := 0, slots := 0, locals := 112 }
def L_X8_driftOf_31 (n : Nat) (v_m_turns : Nat → Int32) (v_m_phases : Nat → Int32) (x1 : Int32) (x2 : Int32) (o1_2 : Int32) (o1_4 : Nat → Int32) (kx31 : Int32 → Option (Int32 × Int32 × Int32 × (Nat → Int32) × (Nat → Int32))) : Nat → Int32 → Int32 → Int32 → Option (Int32 × Int32 × Int32 × (Nat → Int32) × (Nat → Int32))
  | 0, _, _, _ => none
  | k31 + 1, y31_3, y31_4, y31_5 => if x2 ≤ y31_5 then kx31 y31_3 else bd1_ (f_X8_awayOf n v_m_turns v_m_phases x1 y31_4) (fun (r41_8 : Int32) => lt_ ((if r41_8 ≤ y31_3 then y31_3 else r41_8) : Int32) (fun v58_11 => nz_ o1_2 (ix_ (y31_5 - y31_5 / o1_2 * o1_2) 7 (L_X8_driftOf_31 n v_m_turns v_m_phases x1 x2 o1_2 o1_4 kx31 k31 v58_11 (y31_4 + (o1_4 (y31_5 - y31_5 / o1_2 * o1_2).toNatClampNeg)) (y31_5 + 1)))))
theorem L_X8_driftOf_31_s (n : Nat) (v_m_turns : Nat → Int32) (v_m_phases : Nat → Int32) (x1 : Int32) (x2 : Int32) (o1_2 : Int32) (o1_4 : Nat → Int32) (kx31 : Int32 → Option (Int32 × Int32 × Int32 × (Nat → Int32) × (Nat → Int32))) (k31 : Nat) (y31_3 : Int32) (y31_4 : Int32) (y31_5 : Int32) : L_X8_driftOf_31 n v_m_turns v_m_phases x1 x2 o1_2 o1_4 kx31 (k31 + 1) y31_3 y31_4 y31_5 = if x2 ≤ y31_5 then kx31 y31_3 else bd1_ (f_X8_awayOf n v_m_turns v_m_phases x1 y31_4) (fun (r41_8 : Int32) => lt_ ((if r41_8 ≤ y31_3 then y31_3 else r41_8) : Int32) (fun v58_11 => nz_ o1_2 (ix_ (y31_5 - y31_5 / o1_2 * o1_2) 7 (L_X8_driftOf_31 n v_m_turns v_m_phases x1 x2 o1_2 o1_4 kx31 k31 v58_11 (y31_4 + (o1_4 (y31_5 - y31_5 / o1_2 * o1_2).toNatClampNeg)) (y31_5 + 1))))) := rfl
def f_X8_driftOf (n : Nat) (v_m_hours : Int32) (v_m_months : Int32) (v_m_turns : Nat → Int32) (v_m_phases : Nat → Int32) (v_m_ups : Nat → Int32) (v_m_typed : Nat → Int32) (v_m_texts : Nat → Int32) (v_m_diary : Nat → Int32) (v_m_longs : Nat → Int32) (x1 : Int32) (x2 : Int32) : Option (Int32 × Int32 × Int32 × (Nat → Int32) × (Nat → Int32)) := bd4_ (f_X8_reads n v_m_hours v_m_months v_m_typed v_m_texts v_m_diary v_m_longs) (fun (o1_1 : Int32) (o1_2 : Int32) (o1_3 : Nat → Int32) (o1_4 : Nat → Int32) => if o1_2 = 0 then some ((-3), o1_1, o1_2, o1_3, o1_4) else ix_ x1 2 (if (v_m_ups x1.toNatClampNeg) = 0 then some ((-3), o1_1, o1_2, o1_3, o1_4) else jn1_ (fun (z31_3 : Int32) => some (z31_3, o1_1, o1_2, o1_3, o1_4)) (fun kx31 => L_X8_driftOf_31 n v_m_turns v_m_phases x1 x2 o1_2 o1_4 kx31 n 0 0 0)))
set_option maxHeartbeats 4000000 in
set_option maxRecDepth 100000 in
theorem c_X8_driftOf (l : Launch) (dC : Nat → ClassId) (dI : Nat → Nat → Nat) (cI cZ cP cS : ClassId) (sz : Nat) (h_t h_t_turns h_t_phases h_t_ups h_t_typed h_t_texts h_t_diary h_t_longs h_t_awakes h_t_fit h_t_counts h_t_worths h_t_ripes h_t_growths h_t_gains h_t_isThere h_t_forms h_t_sizes h_t_items h_t_moved : Nat) (v_m_hours : Int32) (v_m_months : Int32) (v_m_fitMany : Int32) (v_m_fitFirst : Int32) (v_m_finding : Int32) (v_m_turns : Nat → Int32) (v_m_phases : Nat → Int32) (v_m_ups : Nat → Int32) (v_m_typed : Nat → Int32) (v_m_texts : Nat → Int32) (v_m_diary : Nat → Int32) (v_m_longs : Nat → Int32) (x1 : Int32) (x2 : Int32) (n : Nat) (r : Int32) (o_m_hours : Int32) (o_m_months : Int32) (o_m_diary : Nat → Int32) (o_m_longs : Nat → Int32) (hf : f_X8_driftOf n v_m_hours v_m_months v_m_turns v_m_phases v_m_ups v_m_typed v_m_texts v_m_diary v_m_longs x1 x2 = some (r, o_m_hours, o_m_months, o_m_diary, o_m_longs)) : Met l yX8_driftOf wsX8_driftOf rm_X8_driftOf (RW (dC, dI) (TY cI cZ cP cS) [.ref h_t, .int x1, .int x2] sz (wd_X8_driftOf cI cZ cP cS h_t h_t_turns h_t_phases h_t_ups h_t_typed h_t_texts h_t_diary h_t_longs h_t_awakes h_t_fit h_t_counts h_t_worths h_t_ripes h_t_growths h_t_gains h_t_isThere h_t_forms h_t_sizes h_t_items h_t_moved v_m_hours v_m_months v_m_fitMany v_m_fitFirst v_m_finding v_m_turns v_m_phases v_m_ups v_m_typed v_m_texts v_m_diary v_m_longs)) (RWi (dC, dI) (TY cI cZ cP cS) r sz (wd_X8_driftOf cI cZ cP cS h_t h_t_turns h_t_phases h_t_ups h_t_typed h_t_texts h_t_diary h_t_longs h_t_awakes h_t_fit h_t_counts h_t_worths h_t_ripes h_t_growths h_t_gains h_t_isThere h_t_forms h_t_sizes h_t_items h_t_moved v_m_hours v_m_months v_m_fitMany v_m_fitFirst v_m_finding v_m_turns v_m_phases v_m_ups v_m_typed v_m_texts v_m_diary v_m_longs) (wd_X8_driftOf cI cZ cP cS h_t h_t_turns h_t_phases h_t_ups h_t_typed h_t_texts h_t_diary h_t_longs h_t_awakes h_t_fit h_t_counts h_t_worths h_t_ripes h_t_growths h_t_gains h_t_isThere h_t_forms h_t_sizes h_t_items h_t_moved o_m_hours o_m_months v_m_fitMany v_m_fitFirst v_m_finding v_m_turns v_m_phases v_m_ups v_m_typed v_m_texts o_m_diary o_m_longs)) 0 0 (va_A (wd_X8_driftOf cI cZ cP cS h_t h_t_turns h_t_phases h_t_ups h_t_typed h_t_texts h_t_diary h_t_longs h_t_awakes h_t_fit h_t_counts h_t_worths h_t_ripes h_t_growths h_t_gains h_t_isThere h_t_forms h_t_sizes h_t_items h_t_moved v_m_hours v_m_months v_m_fitMany v_m_fitFirst v_m_finding v_m_turns v_m_phases v_m_ups v_m_typed v_m_texts v_m_diary v_m_longs) sz) := by
  refine Met.ofW (cc := cX8_driftOf) (maxL := 7) (ret := (some .int)) (by decide) rfl ?_
  intro p e s m args below meth c s₁ B hml hv
  obtain ⟨rfl, hsz, hP, hK, hD0⟩ := hv
  have hx := B.exec
  have hb := B.bytes
  have hr := B.returns
  have hts := atoms_spec (ws := wsX8_driftOf) B.pre
  have hown : s.vm.findClass RX8 = some m.cls := findClass_of_methodNamed B.named
  have hlocks := B.notSynchronized
  subst hsz
  have hD := hD0.self (sz := s.heap.size)
  have hA : ∀ q : Nat, s.heap.size ≤ q → (va_A (wd_X8_driftOf cI cZ cP cS h_t h_t_turns h_t_phases h_t_ups h_t_typed h_t_texts h_t_diary h_t_longs h_t_awakes h_t_fit h_t_counts h_t_worths h_t_ripes h_t_growths h_t_gains h_t_isThere h_t_forms h_t_sizes h_t_items h_t_moved v_m_hours v_m_months v_m_fitMany v_m_fitFirst v_m_finding v_m_turns v_m_phases v_m_ups v_m_typed v_m_texts v_m_diary v_m_longs) s.heap.size) q := fun q h => Or.inr h
  have hS : va_S (va_A (wd_X8_driftOf cI cZ cP cS h_t h_t_turns h_t_phases h_t_ups h_t_typed h_t_texts h_t_diary h_t_longs h_t_awakes h_t_fit h_t_counts h_t_worths h_t_ripes h_t_growths h_t_gains h_t_isThere h_t_forms h_t_sizes h_t_items h_t_moved v_m_hours v_m_months v_m_fitMany v_m_fitFirst v_m_finding v_m_turns v_m_phases v_m_ups v_m_typed v_m_texts v_m_diary v_m_longs) s.heap.size) s.heap s.heap [] := va_S.rf
  have hinX8 : ∀ w ∈ wsX80, w ∈ wsX8_driftOf := by decide +kernel
  have hl := lv_entry ([.ref h_t, .int x1, .int x2]) (n := 7) (Nat.le_of_ble_eq_true rfl)
  rw [lg_entry_eq]
  generalize (lg_sl ([.ref h_t, .int x1, .int x2]) ++ List.replicate (7 - (lg_sl ([.ref h_t, .int x1, .int x2])).length) Slot.unset).toArray = ls at hl ⊢
  have hl : lv_has ls 7 [(0, .ref h_t), (1, .int x1), (2, .int x2)] := hl
  obtain ⟨H, hH⟩ : ∃ H : Heap, H = s.heap := ⟨_, rfl⟩
  have hP : va_P (dC, dI) vwCl (wd_X8_driftOf cI cZ cP cS h_t h_t_turns h_t_phases h_t_ups h_t_typed h_t_texts h_t_diary h_t_longs h_t_awakes h_t_fit h_t_counts h_t_worths h_t_ripes h_t_growths h_t_gains h_t_isThere h_t_forms h_t_sizes h_t_items h_t_moved v_m_hours v_m_months v_m_fitMany v_m_fitFirst v_m_finding v_m_turns v_m_phases v_m_ups v_m_typed v_m_texts v_m_diary v_m_longs) H := by rw [hH]; exact hP
  have hS : va_S (va_A (wd_X8_driftOf cI cZ cP cS h_t h_t_turns h_t_phases h_t_ups h_t_typed h_t_texts h_t_diary h_t_longs h_t_awakes h_t_fit h_t_counts h_t_worths h_t_ripes h_t_growths h_t_gains h_t_isThere h_t_forms h_t_sizes h_t_items h_t_moved v_m_hours v_m_months v_m_fitMany v_m_fitFirst v_m_finding v_m_turns v_m_phases v_m_ups v_m_typed v_m_texts v_m_diary v_m_longs) s.heap.size) s.heap H [] := by rw [hH]; exact hS
  obtain ⟨locs, hlo⟩ : ∃ L : List Loc, L = [] := ⟨_, rfl⟩
  rw [← hlo] at hS
  suffices hgo : W p l e (headSpec wsX8_driftOf rm_X8_driftOf).room s m ([.ref h_t, .int x1, .int x2] : List Value).toArray below meth c H locs 0 0 (MQ below (RWi (dC, dI) (TY cI cZ cP cS) r s.heap.size (wd_X8_driftOf cI cZ cP cS h_t h_t_turns h_t_phases h_t_ups h_t_typed h_t_texts h_t_diary h_t_longs h_t_awakes h_t_fit h_t_counts h_t_worths h_t_ripes h_t_growths h_t_gains h_t_isThere h_t_forms h_t_sizes h_t_items h_t_moved v_m_hours v_m_months v_m_fitMany v_m_fitFirst v_m_finding v_m_turns v_m_phases v_m_ups v_m_typed v_m_texts v_m_diary v_m_longs) (wd_X8_driftOf cI cZ cP cS h_t h_t_turns h_t_phases h_t_ups h_t_typed h_t_texts h_t_diary h_t_longs h_t_awakes h_t_fit h_t_counts h_t_worths h_t_ripes h_t_growths h_t_gains h_t_isThere h_t_forms h_t_sizes h_t_items h_t_moved o_m_hours o_m_months v_m_fitMany v_m_fitFirst v_m_finding v_m_turns v_m_phases v_m_ups v_m_typed v_m_texts o_m_diary o_m_longs)) ([.ref h_t, .int x1, .int x2] : List Value).toArray s 0 0 (va_A (wd_X8_driftOf cI cZ cP cS h_t h_t_turns h_t_phases h_t_ups h_t_typed h_t_texts h_t_diary h_t_longs h_t_awakes h_t_fit h_t_counts h_t_worths h_t_ripes h_t_growths h_t_gains h_t_isThere h_t_forms h_t_sizes h_t_items h_t_moved v_m_hours v_m_months v_m_fitMany v_m_fitFirst v_m_finding v_m_turns v_m_phases v_m_ups v_m_typed v_m_texts v_m_diary v_m_longs) s.heap.size)) (F0 m 0 ls []) by rw [hH, hlo] at hgo; exact hgo
  clear hH hlo
  unfold f_X8_driftOf at hf
  refine lv_aload_n hx hb dX8_driftOf_0 rfl (lv_at hl 0 rfl) ?_
  obtain ⟨o1_1, o1_2, o1_3, o1_4, hc_5, hf⟩ := bd4_e hf
  refine rwv_call (isC := [0, 4, 5, 6, 7]) (isR := [1, 2, 3]) (perm := [3, 0, 1, 2, 4, 5, 6, 7]) (wr := [(h_t_turns, .inl (cI, 2, .inl v_m_turns)), (h_t_phases, .inl (cI, 2, .inl v_m_phases)), (h_t_ups, .inl (cI, 2, .inl v_m_ups))]) (ws2 := (wd_X8_driftOf cI cZ cP cS h_t h_t_turns h_t_phases h_t_ups h_t_typed h_t_texts h_t_diary h_t_longs h_t_awakes h_t_fit h_t_counts h_t_worths h_t_ripes h_t_growths h_t_gains h_t_isThere h_t_forms h_t_sizes h_t_items h_t_moved o1_1 o1_2 v_m_fitMany v_m_fitFirst v_m_finding v_m_turns v_m_phases v_m_ups v_m_typed v_m_texts o1_3 o1_4)) (va_runV (As := []) (rest := []) ⟨hx, hb, hml, hown, hts⟩ (c_X8_reads l dC dI cI cZ cP cS H.size h_t h_t_turns h_t_phases h_t_ups h_t_typed h_t_texts h_t_diary h_t_longs h_t_awakes h_t_fit h_t_counts h_t_worths h_t_ripes h_t_growths h_t_gains h_t_isThere h_t_forms h_t_sizes h_t_items h_t_moved v_m_hours v_m_months v_m_fitMany v_m_fitFirst v_m_finding v_m_typed v_m_texts v_m_diary v_m_longs  n o1_1 o1_2 o1_3 o1_4 hc_5) (cwV 0 hts gX8_driftOf_X8_reads rfl rfl rfl (by decide +kernel) ⟨Nat.le_of_ble_eq_true rfl, Nat.le_of_ble_eq_true rfl⟩) (pv_rw (ci := 7) (q0 := 0) hK (hP.sub (ws' := (wd_X8_reads cI cZ cP cS h_t h_t_turns h_t_phases h_t_ups h_t_typed h_t_texts h_t_diary h_t_longs h_t_awakes h_t_fit h_t_counts h_t_worths h_t_ripes h_t_growths h_t_gains h_t_isThere h_t_forms h_t_sizes h_t_items h_t_moved v_m_hours v_m_months v_m_fitMany v_m_fitFirst v_m_finding v_m_typed v_m_texts v_m_diary v_m_longs)) [0, 4, 5, 6, 7] rfl) (hD.sub (ws' := (wd_X8_reads cI cZ cP cS h_t h_t_turns h_t_phases h_t_ups h_t_typed h_t_texts h_t_diary h_t_longs h_t_awakes h_t_fit h_t_counts h_t_worths h_t_ripes h_t_growths h_t_gains h_t_isThere h_t_forms h_t_sizes h_t_items h_t_moved v_m_hours v_m_months v_m_fitMany v_m_fitFirst v_m_finding v_m_typed v_m_texts v_m_diary v_m_longs)) [0, 4, 5, 6, 7] (by decide) rfl) rfl rfl) rfl rfl hl.1 rfl (lv_room (Nat.le_of_ble_eq_true rfl)) dX8_driftOf_1 ⟨Nat.zero_le _, Nat.zero_le _⟩) hS hA hP hD rfl (by decide) (by decide) rfl (by decide) rfl rfl (fun H locs hP hD hS => ?_)
  refine lv_aload_n hx hb dX8_driftOf_4 rfl (lv_at hl 0 rfl) ?_
  refine va_get (D := (dC, dI)) (ci := 7) (v := .int o1_2) (C := RX8) (T := TX8) (N := 24) hx hb hts hinX8 hown hK hP 0 rfl rfl 7 (by decide) (hts (.fieldLink RX8 83 "SecondSunriseModel" "months" "I") (by decide +kernel)) (fun _ h9 => h9) rfl dX8_driftOf_5 ?_
  refine lv_if_eq (tgt := 20) hx hb dX8_driftOf_8 (by decide) (fun c8 => ?_) (fun c8 => ?_)
  · rw [if_pos c8] at hf
    refine lv_bipush (v := (-3)) hx hb dX8_driftOf_20 (by decide) ?_
    have hq0 := Option.some.inj hf
    obtain ⟨eq0, hq1⟩ := Prod.mk.inj hq0
    obtain ⟨eq1, hq2⟩ := Prod.mk.inj hq1
    obtain ⟨eq2, hq3⟩ := Prod.mk.inj hq2
    obtain ⟨eq3, hq4⟩ := Prod.mk.inj hq3
    clear hf hq0 hq1 hq2 hq3
    subst eq0
    subst eq1
    subst eq2
    subst eq3
    subst hq4
    exact W.iret hx hb hr (fun t ht hW => ⟨⟨_, (), rfl, rfl, by rw [ht]; exact hP, va_K.moved hW.alike hK, hD⟩, hS.F ht⟩) hS.2.2 dX8_driftOf_22
  · rw [if_neg c8] at hf
    refine lv_aload_n hx hb dX8_driftOf_11 rfl (lv_at hl 0 rfl) ?_
    refine va_get (D := (dC, dI)) (ci := 7) (v := .ref h_t_ups) (C := RX8) (T := TX8) (N := 24) hx hb hts hinX8 hown hK hP 0 rfl rfl 2 (by decide) (hts (.fieldLink RX8 16 "SecondSunriseModel" "ups" "[I") (by decide +kernel)) (fun _ h9 => h9) rfl dX8_driftOf_12 ?_
    refine lv_iload_n hx hb dX8_driftOf_15 rfl (lv_at hl 1 rfl) ?_
    obtain ⟨hi_7, hf⟩ := ix_e hf
    refine va_iald hx hb hK hP 3 0 rfl rfl hi_7 dX8_driftOf_16 ?_
    refine lv_if_ne (tgt := 23) hx hb dX8_driftOf_17 (by decide) (fun c17 => ?_) (fun c17 => ?_)
    · rw [if_neg c17] at hf
      refine lv_iconst (v := 0) hx hb dX8_driftOf_23 (by decide) ?_
      refine lv_istore_n (lv' := [(3, .int 0), (0, .ref h_t), (1, .int x1), (2, .int x2)]) hx hb dX8_driftOf_24 rfl hl (by decide) rfl (fun ls hl => ?_)
      refine lv_iconst (v := 0) hx hb dX8_driftOf_25 (by decide) ?_
      refine lv_istore (lv' := [(4, .int 0), (3, .int 0), (0, .ref h_t), (1, .int x1), (2, .int x2)]) hx hb dX8_driftOf_26 hl (by decide) rfl (fun ls hl => ?_)
      refine lv_iconst (v := 0) hx hb dX8_driftOf_28 (by decide) ?_
      refine lv_istore (lv' := [(5, .int 0), (4, .int 0), (3, .int 0), (0, .ref h_t), (1, .int x1), (2, .int x2)]) hx hb dX8_driftOf_29 hl (by decide) rfl (fun ls hl => ?_)
      obtain ⟨kx31, ekx31, hf⟩ := jn1_e hf
      have hx31 : ∀ (z31_3 : Int32) (ls : Array Slot), lv_has ls 7 [(3, .int z31_3)] → kx31 z31_3 = some (r, o_m_hours, o_m_months, o_m_diary, o_m_longs) → W p l e (headSpec wsX8_driftOf rm_X8_driftOf).room s m ([.ref h_t, .int x1, .int x2] : List Value).toArray below meth c H locs 0 0 (MQ below (RWi (dC, dI) (TY cI cZ cP cS) r s.heap.size (wd_X8_driftOf cI cZ cP cS h_t h_t_turns h_t_phases h_t_ups h_t_typed h_t_texts h_t_diary h_t_longs h_t_awakes h_t_fit h_t_counts h_t_worths h_t_ripes h_t_growths h_t_gains h_t_isThere h_t_forms h_t_sizes h_t_items h_t_moved v_m_hours v_m_months v_m_fitMany v_m_fitFirst v_m_finding v_m_turns v_m_phases v_m_ups v_m_typed v_m_texts v_m_diary v_m_longs) (wd_X8_driftOf cI cZ cP cS h_t h_t_turns h_t_phases h_t_ups h_t_typed h_t_texts h_t_diary h_t_longs h_t_awakes h_t_fit h_t_counts h_t_worths h_t_ripes h_t_growths h_t_gains h_t_isThere h_t_forms h_t_sizes h_t_items h_t_moved o_m_hours o_m_months v_m_fitMany v_m_fitFirst v_m_finding v_m_turns v_m_phases v_m_ups v_m_typed v_m_texts o_m_diary o_m_longs)) ([.ref h_t, .int x1, .int x2] : List Value).toArray s 0 0 (va_A (wd_X8_driftOf cI cZ cP cS h_t h_t_turns h_t_phases h_t_ups h_t_typed h_t_texts h_t_diary h_t_longs h_t_awakes h_t_fit h_t_counts h_t_worths h_t_ripes h_t_growths h_t_gains h_t_isThere h_t_forms h_t_sizes h_t_items h_t_moved v_m_hours v_m_months v_m_fitMany v_m_fitFirst v_m_finding v_m_turns v_m_phases v_m_ups v_m_typed v_m_texts v_m_diary v_m_longs) s.heap.size)) (F0 m 82 ls []) := by
        intro z31_3 ls hl hf
        rw [ekx31] at hf
        refine lv_iload_n hx hb dX8_driftOf_82 rfl (lv_at hl 0 rfl) ?_
        have hq0 := Option.some.inj hf
        obtain ⟨eq0, hq1⟩ := Prod.mk.inj hq0
        obtain ⟨eq1, hq2⟩ := Prod.mk.inj hq1
        obtain ⟨eq2, hq3⟩ := Prod.mk.inj hq2
        obtain ⟨eq3, hq4⟩ := Prod.mk.inj hq3
        clear hf hq0 hq1 hq2 hq3
        subst eq0
        subst eq1
        subst eq2
        subst eq3
        subst hq4
        exact W.iret hx hb hr (fun t ht hW => ⟨⟨_, (), rfl, rfl, by rw [ht]; exact hP, va_K.moved hW.alike hK, hD⟩, hS.F ht⟩) hS.2.2 dX8_driftOf_83
      have hL31 : ∀ (k31 : Nat) (y31_3 : Int32) (y31_4 : Int32) (y31_5 : Int32) (ls : Array Slot), lv_has ls 7 [(0, .ref h_t), (1, .int x1), (2, .int x2), (3, .int y31_3), (4, .int y31_4), (5, .int y31_5)] → L_X8_driftOf_31 n v_m_turns v_m_phases x1 x2 o1_2 o1_4 kx31 k31 y31_3 y31_4 y31_5 = some (r, o_m_hours, o_m_months, o_m_diary, o_m_longs) → W p l e (headSpec wsX8_driftOf rm_X8_driftOf).room s m ([.ref h_t, .int x1, .int x2] : List Value).toArray below meth c H locs 0 0 (MQ below (RWi (dC, dI) (TY cI cZ cP cS) r s.heap.size (wd_X8_driftOf cI cZ cP cS h_t h_t_turns h_t_phases h_t_ups h_t_typed h_t_texts h_t_diary h_t_longs h_t_awakes h_t_fit h_t_counts h_t_worths h_t_ripes h_t_growths h_t_gains h_t_isThere h_t_forms h_t_sizes h_t_items h_t_moved v_m_hours v_m_months v_m_fitMany v_m_fitFirst v_m_finding v_m_turns v_m_phases v_m_ups v_m_typed v_m_texts v_m_diary v_m_longs) (wd_X8_driftOf cI cZ cP cS h_t h_t_turns h_t_phases h_t_ups h_t_typed h_t_texts h_t_diary h_t_longs h_t_awakes h_t_fit h_t_counts h_t_worths h_t_ripes h_t_growths h_t_gains h_t_isThere h_t_forms h_t_sizes h_t_items h_t_moved o_m_hours o_m_months v_m_fitMany v_m_fitFirst v_m_finding v_m_turns v_m_phases v_m_ups v_m_typed v_m_texts o_m_diary o_m_longs)) ([.ref h_t, .int x1, .int x2] : List Value).toArray s 0 0 (va_A (wd_X8_driftOf cI cZ cP cS h_t h_t_turns h_t_phases h_t_ups h_t_typed h_t_texts h_t_diary h_t_longs h_t_awakes h_t_fit h_t_counts h_t_worths h_t_ripes h_t_growths h_t_gains h_t_isThere h_t_forms h_t_sizes h_t_items h_t_moved v_m_hours v_m_months v_m_fitMany v_m_fitFirst v_m_finding v_m_turns v_m_phases v_m_ups v_m_typed v_m_texts v_m_diary v_m_longs) s.heap.size)) (F0 m 31 ls []) := by
        intro k31
        induction k31 with
        | zero =>
          intro y31_3 y31_4 y31_5 ls hl hf
          exact absurd hf (fun h => Option.some_ne_none _ h.symm)
        | succ k31 ih =>
          intro y31_3 y31_4 y31_5 ls hl hf
          rw [L_X8_driftOf_31_s] at hf
          refine lv_iload hx hb dX8_driftOf_31 (lv_at hl 5 rfl) ?_
          refine lv_iload_n hx hb dX8_driftOf_33 rfl (lv_at hl 2 rfl) ?_
          refine lv_icmp_ge (tgt := 82) hx hb dX8_driftOf_34 (by decide) (fun c34 => ?_) (fun c34 => ?_)
          · rw [if_pos c34] at hf
            exact hx31 y31_3 ls (lv_sub hl [3] rfl) hf
          · rw [if_neg c34] at hf
            refine lv_aload_n hx hb dX8_driftOf_37 rfl (lv_at hl 0 rfl) ?_
            refine lv_iload_n hx hb dX8_driftOf_38 rfl (lv_at hl 1 rfl) ?_
            refine lv_iload hx hb dX8_driftOf_39 (lv_at hl 4 rfl) ?_
            obtain ⟨r41_8, hc_9, hf⟩ := bd1_e hf
            refine vp_callSi (va_runV (As := [.int x1, .int y31_4]) (rest := []) ⟨hx, hb, hml, hown, hts⟩ (c_X8_awayOf l dC dI cI cZ cP cS h_t h_t_turns h_t_phases h_t_ups h_t_typed h_t_texts h_t_diary h_t_longs h_t_awakes h_t_fit h_t_counts h_t_worths h_t_ripes h_t_growths h_t_gains h_t_isThere h_t_forms h_t_sizes h_t_items h_t_moved o1_1 o1_2 v_m_fitMany v_m_fitFirst v_m_finding v_m_turns v_m_phases x1 y31_4 n r41_8 hc_9) (cwV 2 hts gX8_driftOf_X8_awayOf rfl rfl rfl (by decide +kernel) ⟨Nat.le_of_ble_eq_true rfl, Nat.le_of_ble_eq_true rfl⟩) (pv_ro (ci := 7) (q0 := 0) hK (hP.sub (ws' := (wd_X8_awayOf cI cZ cP cS h_t h_t_turns h_t_phases h_t_ups h_t_typed h_t_texts h_t_diary h_t_longs h_t_awakes h_t_fit h_t_counts h_t_worths h_t_ripes h_t_growths h_t_gains h_t_isThere h_t_forms h_t_sizes h_t_items h_t_moved o1_1 o1_2 v_m_fitMany v_m_fitFirst v_m_finding v_m_turns v_m_phases)) [0, 1, 2] rfl) rfl rfl) rfl rfl hl.1 rfl (lv_room (Nat.le_of_ble_eq_true rfl)) dX8_driftOf_41 ⟨Nat.zero_le _, Nat.zero_le _⟩).run (fun x e_10 => ?_)
            rw [e_10]
            refine lv_istore (lv' := [(6, .int r41_8), (0, .ref h_t), (1, .int x1), (2, .int x2), (3, .int y31_3), (4, .int y31_4), (5, .int y31_5)]) hx hb dX8_driftOf_44 hl (by decide) rfl (fun ls hl => ?_)
            refine lv_iload hx hb dX8_driftOf_46 (lv_at hl 0 rfl) ?_
            refine lv_iload_n hx hb dX8_driftOf_48 rfl (lv_at hl 4 rfl) ?_
            obtain ⟨v58_11, ev58_11, hf⟩ := lt_e hf
            have hj58_12 : ∀ (ls : Array Slot), lv_has ls 7 [(0, .ref h_t), (1, .int x1), (2, .int x2), (4, .int y31_4), (5, .int y31_5)] → W p l e (headSpec wsX8_driftOf rm_X8_driftOf).room s m ([.ref h_t, .int x1, .int x2] : List Value).toArray below meth c H locs 0 0 (MQ below (RWi (dC, dI) (TY cI cZ cP cS) r s.heap.size (wd_X8_driftOf cI cZ cP cS h_t h_t_turns h_t_phases h_t_ups h_t_typed h_t_texts h_t_diary h_t_longs h_t_awakes h_t_fit h_t_counts h_t_worths h_t_ripes h_t_growths h_t_gains h_t_isThere h_t_forms h_t_sizes h_t_items h_t_moved v_m_hours v_m_months v_m_fitMany v_m_fitFirst v_m_finding v_m_turns v_m_phases v_m_ups v_m_typed v_m_texts v_m_diary v_m_longs) (wd_X8_driftOf cI cZ cP cS h_t h_t_turns h_t_phases h_t_ups h_t_typed h_t_texts h_t_diary h_t_longs h_t_awakes h_t_fit h_t_counts h_t_worths h_t_ripes h_t_growths h_t_gains h_t_isThere h_t_forms h_t_sizes h_t_items h_t_moved o_m_hours o_m_months v_m_fitMany v_m_fitFirst v_m_finding v_m_turns v_m_phases v_m_ups v_m_typed v_m_texts o_m_diary o_m_longs)) ([.ref h_t, .int x1, .int x2] : List Value).toArray s 0 0 (va_A (wd_X8_driftOf cI cZ cP cS h_t h_t_turns h_t_phases h_t_ups h_t_typed h_t_texts h_t_diary h_t_longs h_t_awakes h_t_fit h_t_counts h_t_worths h_t_ripes h_t_growths h_t_gains h_t_isThere h_t_forms h_t_sizes h_t_items h_t_moved v_m_hours v_m_months v_m_fitMany v_m_fitFirst v_m_finding v_m_turns v_m_phases v_m_ups v_m_typed v_m_texts v_m_diary v_m_longs) s.heap.size)) (F0 m 58 ls [.int v58_11]) := by
              intro ls hl
              refine lv_istore_n (lv' := [(3, .int v58_11), (0, .ref h_t), (1, .int x1), (2, .int x2), (4, .int y31_4), (5, .int y31_5)]) hx hb dX8_driftOf_58 rfl hl (by decide) rfl (fun ls hl => ?_)
              refine lv_iload hx hb dX8_driftOf_59 (lv_at hl 4 rfl) ?_
              refine lv_aload_n hx hb dX8_driftOf_61 rfl (lv_at hl 1 rfl) ?_
              refine va_get (D := (dC, dI)) (ci := 7) (v := .ref h_t_longs) (C := RX8) (T := TX8) (N := 24) hx hb hts hinX8 hown hK hP 0 rfl rfl 8 (by decide) (hts (.fieldLink RX8 28 "SecondSunriseModel" "longs" "[I") (by decide +kernel)) (fun _ h9 => h9) rfl dX8_driftOf_62 ?_
              refine lv_iload hx hb dX8_driftOf_65 (lv_at hl 5 rfl) ?_
              refine lv_aload_n hx hb dX8_driftOf_67 rfl (lv_at hl 1 rfl) ?_
              refine va_get (D := (dC, dI)) (ci := 7) (v := .int o1_2) (C := RX8) (T := TX8) (N := 24) hx hb hts hinX8 hown hK hP 0 rfl rfl 7 (by decide) (hts (.fieldLink RX8 83 "SecondSunriseModel" "months" "I") (by decide +kernel)) (fun _ h9 => h9) rfl dX8_driftOf_68 ?_
              obtain ⟨hz_13, hf⟩ := nz_e hf
              refine lv_irem hx hb dX8_driftOf_71 hz_13 ?_
              obtain ⟨hi_14, hf⟩ := ix_e hf
              refine va_iald hx hb hK hP 7 0 rfl rfl hi_14 dX8_driftOf_72 ?_
              refine lv_iadd hx hb dX8_driftOf_73 ?_
              refine lv_istore (lv' := [(4, .int (y31_4 + (o1_4 (y31_5 - y31_5 / o1_2 * o1_2).toNatClampNeg))), (3, .int v58_11), (0, .ref h_t), (1, .int x1), (2, .int x2), (5, .int y31_5)]) hx hb dX8_driftOf_74 hl (by decide) rfl (fun ls hl => ?_)
              refine lv_iinc (v := (y31_5 + 1)) (lv' := [(5, .int (y31_5 + 1)), (4, .int (y31_4 + (o1_4 (y31_5 - y31_5 / o1_2 * o1_2).toNatClampNeg))), (3, .int v58_11), (0, .ref h_t), (1, .int x1), (2, .int x2)]) hx hb dX8_driftOf_76 hl (k := 5) rfl rfl (by decide) rfl (fun ls hl => ?_)
              refine lv_goto (tgt := 31) hx hb dX8_driftOf_79 (by decide) ?_
              exact ih v58_11 (y31_4 + (o1_4 (y31_5 - y31_5 / o1_2 * o1_2).toNatClampNeg)) (y31_5 + 1) ls (lv_sub hl [3, 4, 5, 2, 1, 0] rfl) hf
            clear hf
            refine lv_icmp_le (tgt := 57) hx hb dX8_driftOf_49 (by decide) (fun c49 => ?_) (fun c49 => ?_)
            ·
              refine lv_iload_n hx hb dX8_driftOf_57 rfl (lv_at hl 4 rfl) ?_
              rw [if_pos c49] at ev58_11
              subst ev58_11
              exact hj58_12 ls (lv_sub hl [1, 2, 3, 5, 6] rfl)
            ·
              refine lv_iload hx hb dX8_driftOf_52 (lv_at hl 0 rfl) ?_
              refine lv_goto (tgt := 58) hx hb dX8_driftOf_54 (by decide) ?_
              rw [if_neg c49] at ev58_11
              subst ev58_11
              exact hj58_12 ls (lv_sub hl [1, 2, 3, 5, 6] rfl)
      exact hL31 n 0 0 0 ls (lv_sub hl [3, 4, 5, 2, 1, 0] rfl) hf
    · rw [if_pos c17] at hf
      refine lv_bipush (v := (-3)) hx hb dX8_driftOf_20 (by decide) ?_
      have hq0 := Option.some.inj hf
      obtain ⟨eq0, hq1⟩ := Prod.mk.inj hq0
      obtain ⟨eq1, hq2⟩ := Prod.mk.inj hq1
      obtain ⟨eq2, hq3⟩ := Prod.mk.inj hq2
      obtain ⟨eq3, hq4⟩ := Prod.mk.inj hq3
      clear hf hq0 hq1 hq2 hq3
      subst eq0
      subst eq1
      subst eq2
      subst eq3
      subst hq4
      exact W.iret hx hb hr (fun t ht hW => ⟨⟨_, (), rfl, rfl, by rw [ht]; exact hP, va_K.moved hW.alike hK, hD⟩, hS.F ht⟩) hS.2.2 dX8_driftOf_22

abbrev wd_X8_isUpBy (cI cZ cP cS : ClassId) (h_t h_t_turns h_t_phases h_t_ups h_t_typed h_t_texts h_t_diary h_t_longs h_t_awakes h_t_fit h_t_counts h_t_worths h_t_ripes h_t_growths h_t_gains h_t_isThere h_t_forms h_t_sizes h_t_items h_t_moved : Nat) (v_m_hours : Int32) (v_m_months : Int32) (v_m_fitMany : Int32) (v_m_fitFirst : Int32) (v_m_finding : Int32) (v_m_turns : Nat → Int32) (v_m_ups : Nat → Int32) : va_W := [(h_t, .inr (7, [.ref h_t_turns, .ref h_t_phases, .ref h_t_ups, .ref h_t_typed, .ref h_t_texts, .int v_m_hours, .ref h_t_diary, .int v_m_months, .ref h_t_longs, .ref h_t_awakes, .ref h_t_fit, .int v_m_fitMany, .int v_m_fitFirst, .ref h_t_counts, .ref h_t_worths, .ref h_t_ripes, .ref h_t_growths, .ref h_t_gains, .ref h_t_isThere, .ref h_t_forms, .ref h_t_sizes, .ref h_t_items, .ref h_t_moved, .int v_m_finding])), (h_t_turns, .inl (cI, 2, .inl v_m_turns)), (h_t_ups, .inl (cI, 2, .inl v_m_ups))]
abbrev rm_X8_isUpBy : Room := { frames := 0, cells := 0, slots := 0, locals := 0 }
def f_X8_isUpBy (n : Nat) (v_m_turns : Nat → Int32) (v_m_ups : Nat → Int32) (x1 : Int32) (x2 : Int32) (x3 : Int32) : Option (Int32) := ix_ x1 2 (nz_ (v_m_turns x1.toNatClampNeg) (ix_ x1 2 (if (v_m_ups x1.toNatClampNeg) ≤ ((x3 + x2) - (x3 + x2) / (v_m_turns x1.toNatClampNeg) * (v_m_turns x1.toNatClampNeg)) then some 0 else some 1)))
set_option maxHeartbeats 4000000 in
set_option maxRecDepth 100000 in
theorem c_X8_isUpBy (l : Launch) (dC : Nat → ClassId) (dI : Nat → Nat → Nat) (cI cZ cP cS : ClassId) (h_t h_t_turns h_t_phases h_t_ups h_t_typed h_t_texts h_t_diary h_t_longs h_t_awakes h_t_fit h_t_counts h_t_worths h_t_ripes h_t_growths h_t_gains h_t_isThere h_t_forms h_t_sizes h_t_items h_t_moved : Nat) (v_m_hours : Int32) (v_m_months : Int32) (v_m_fitMany : Int32) (v_m_fitFirst : Int32) (v_m_finding : Int32) (v_m_turns : Nat → Int32) (v_m_ups : Nat → Int32) (x1 : Int32) (x2 : Int32) (x3 : Int32) (n : Nat) (r : Int32) (hf : f_X8_isUpBy n v_m_turns v_m_ups x1 x2 x3 = some r) : Met l yX8_isUpBy wsX8_isUpBy rm_X8_isUpBy (RO (dC, dI) (TY cI cZ cP cS) [.ref h_t, .int x1, .int x2, .int x3] (wd_X8_isUpBy cI cZ cP cS h_t h_t_turns h_t_phases h_t_ups h_t_typed h_t_texts h_t_diary h_t_longs h_t_awakes h_t_fit h_t_counts h_t_worths h_t_ripes h_t_growths h_t_gains h_t_isThere h_t_forms h_t_sizes h_t_items h_t_moved v_m_hours v_m_months v_m_fitMany v_m_fitFirst v_m_finding v_m_turns v_m_ups)) (vp_Si (fun x => x = r ∧ narrow .boolean (.int x) = .int x)) 0 0 NF := by
  refine Met.ofW (cc := cX8_isUpBy) (maxL := 4) (ret := (some .boolean)) (by decide) rfl ?_
  intro p e s m args below meth c s₁ B hml hv
  obtain ⟨rfl, hP, hK⟩ := hv
  have hx := B.exec
  have hb := B.bytes
  have hr := B.returns
  have hts := atoms_spec (ws := wsX8_isUpBy) B.pre
  have hown : s.vm.findClass RX8 = some m.cls := findClass_of_methodNamed B.named
  have hlocks := B.notSynchronized
  have hinX8 : ∀ w ∈ wsX80, w ∈ wsX8_isUpBy := by decide +kernel
  have hl := lv_entry ([.ref h_t, .int x1, .int x2, .int x3]) (n := 4) (Nat.le_of_ble_eq_true rfl)
  rw [lg_entry_eq]
  generalize (lg_sl ([.ref h_t, .int x1, .int x2, .int x3]) ++ List.replicate (4 - (lg_sl ([.ref h_t, .int x1, .int x2, .int x3])).length) Slot.unset).toArray = ls at hl ⊢
  have hl : lv_has ls 4 [(0, .ref h_t), (1, .int x1), (2, .int x2), (3, .int x3)] := hl
  unfold f_X8_isUpBy at hf
  refine lv_iload_n hx hb dX8_isUpBy_0 rfl (lv_at hl 3 rfl) ?_
  refine lv_iload_n hx hb dX8_isUpBy_1 rfl (lv_at hl 2 rfl) ?_
  refine lv_iadd hx hb dX8_isUpBy_2 ?_
  refine lv_aload_n hx hb dX8_isUpBy_3 rfl (lv_at hl 0 rfl) ?_
  refine va_get (D := (dC, dI)) (ci := 7) (v := .ref h_t_turns) (C := RX8) (T := TX8) (N := 24) hx hb hts hinX8 hown hK hP 0 rfl rfl 0 (by decide) (hts (.fieldLink RX8 7 "SecondSunriseModel" "turns" "[I") (by decide +kernel)) (fun _ h9 => h9) rfl dX8_isUpBy_4 ?_
  refine lv_iload_n hx hb dX8_isUpBy_7 rfl (lv_at hl 1 rfl) ?_
  obtain ⟨hi_1, hf⟩ := ix_e hf
  refine va_iald hx hb hK hP 1 0 rfl rfl hi_1 dX8_isUpBy_8 ?_
  obtain ⟨hz_2, hf⟩ := nz_e hf
  refine lv_irem hx hb dX8_isUpBy_9 hz_2 ?_
  refine lv_aload_n hx hb dX8_isUpBy_10 rfl (lv_at hl 0 rfl) ?_
  refine va_get (D := (dC, dI)) (ci := 7) (v := .ref h_t_ups) (C := RX8) (T := TX8) (N := 24) hx hb hts hinX8 hown hK hP 0 rfl rfl 2 (by decide) (hts (.fieldLink RX8 16 "SecondSunriseModel" "ups" "[I") (by decide +kernel)) (fun _ h9 => h9) rfl dX8_isUpBy_11 ?_
  refine lv_iload_n hx hb dX8_isUpBy_14 rfl (lv_at hl 1 rfl) ?_
  obtain ⟨hi_3, hf⟩ := ix_e hf
  refine va_iald hx hb hK hP 2 0 rfl rfl hi_3 dX8_isUpBy_15 ?_
  refine lv_icmp_ge (tgt := 23) hx hb dX8_isUpBy_16 (by decide) (fun c16 => ?_) (fun c16 => ?_)
  · rw [if_pos c16] at hf
    refine lv_iconst (v := 0) hx hb dX8_isUpBy_23 (by decide) ?_
    exact W.zret hx hb hr (by decide) (fun t ht hW => ⟨_, rfl, ⟨Option.some.inj hf, (by decide)⟩, ht⟩) (fun _ h => nomatch h) dX8_isUpBy_24
  · rw [if_neg c16] at hf
    refine lv_iconst (v := 1) hx hb dX8_isUpBy_19 (by decide) ?_
    refine lv_goto (tgt := 24) hx hb dX8_isUpBy_20 (by decide) ?_
    exact W.zret hx hb hr (by decide) (fun t ht hW => ⟨_, rfl, ⟨Option.some.inj hf, (by decide)⟩, ht⟩) (fun _ h => nomatch h) dX8_isUpBy_24

abbrev wd_X8_doFit (cI cZ cP cS : ClassId) (h_t h_t_turns h_t_phases h_t_ups h_t_typed h_t_texts h_t_diary h_t_longs h_t_awakes h_t_fit h_t_counts h_t_worths h_t_ripes h_t_growths h_t_gains h_t_isThere h_t_forms h_t_sizes h_t_items h_t_moved : Nat) (v_m_hours : Int32) (v_m_months : Int32) (v_m_fitMany : Int32) (v_m_fitFirst : Int32) (v_m_finding : Int32) (v_m_turns : Nat → Int32) (v_m_ups : Nat → Int32) (v_m_diary : Nat → Int32) : va_W := [(h_t, .inr (7, [.ref h_t_turns, .ref h_t_phases, .ref h_t_ups, .ref h_t_typed, .ref h_t_texts, .int v_m_hours, .ref h_t_diary, .int v_m_months, .ref h_t_longs, .ref h_t_awakes, .ref h_t_fit, .int v_m_fitMany, .int v_m_fitFirst, .ref h_t_counts, .ref h_t_worths, .ref h_t_ripes, .ref h_t_growths, .ref h_t_gains, .ref h_t_isThere, .ref h_t_forms, .ref h_t_sizes, .ref h_t_items, .ref h_t_moved, .int v_m_finding])), (h_t_turns, .inl (cI, 2, .inl v_m_turns)), (h_t_ups, .inl (cI, 2, .inl v_m_ups)), (h_t_diary, .inl (cI, 60, .inl v_m_diary))]
abbrev rm_X8_doFit : Room := { frames := 1, cells := 0, slots := 0, locals := 23 }
def L_X8_doFit_2 (n : Nat) (v_m_hours : Int32) (v_m_turns : Nat → Int32) (v_m_ups : Nat → Int32) (v_m_diary : Nat → Int32) (x1 : Int32) (x2 : Int32) (kx2 : Option (Int32)) : Nat → Int32 → Option (Int32)
  | 0, _ => none
  | k2 + 1, y2_3 => if v_m_hours ≤ y2_3 then kx2 else bd1_ (f_X8_isUpBy n v_m_turns v_m_ups 0 x1 y2_3) (fun (r14_1 : Int32) => lt_ ((if r14_1 = 0 then 0 else 1) : Int32) (fun v25_5 => bd1_ (f_X8_isUpBy n v_m_turns v_m_ups 1 x2 y2_3) (fun (r29_7 : Int32) => lt_ ((if r29_7 = 0 then 0 else 2) : Int32) (fun v40_11 => ix_ y2_3 60 (jn0_ (L_X8_doFit_2 n v_m_hours v_m_turns v_m_ups v_m_diary x1 x2 kx2 k2 (y2_3 + 1)) (fun k66 => if (v_m_diary y2_3.toNatClampNeg) = (-1) then k66 else ix_ y2_3 60 (if (v_m_diary y2_3.toNatClampNeg) = (v25_5 + v40_11) then k66 else some 0)))))))
theorem L_X8_doFit_2_s (n : Nat) (v_m_hours : Int32) (v_m_turns : Nat → Int32) (v_m_ups : Nat → Int32) (v_m_diary : Nat → Int32) (x1 : Int32) (x2 : Int32) (kx2 : Option (Int32)) (k2 : Nat) (y2_3 : Int32) : L_X8_doFit_2 n v_m_hours v_m_turns v_m_ups v_m_diary x1 x2 kx2 (k2 + 1) y2_3 = if v_m_hours ≤ y2_3 then kx2 else bd1_ (f_X8_isUpBy n v_m_turns v_m_ups 0 x1 y2_3) (fun (r14_1 : Int32) => lt_ ((if r14_1 = 0 then 0 else 1) : Int32) (fun v25_5 => bd1_ (f_X8_isUpBy n v_m_turns v_m_ups 1 x2 y2_3) (fun (r29_7 : Int32) => lt_ ((if r29_7 = 0 then 0 else 2) : Int32) (fun v40_11 => ix_ y2_3 60 (jn0_ (L_X8_doFit_2 n v_m_hours v_m_turns v_m_ups v_m_diary x1 x2 kx2 k2 (y2_3 + 1)) (fun k66 => if (v_m_diary y2_3.toNatClampNeg) = (-1) then k66 else ix_ y2_3 60 (if (v_m_diary y2_3.toNatClampNeg) = (v25_5 + v40_11) then k66 else some 0))))))) := rfl
def f_X8_doFit (n : Nat) (v_m_hours : Int32) (v_m_turns : Nat → Int32) (v_m_ups : Nat → Int32) (v_m_diary : Nat → Int32) (x1 : Int32) (x2 : Int32) : Option (Int32) := jn0_ (some 1) (fun kx2 => L_X8_doFit_2 n v_m_hours v_m_turns v_m_ups v_m_diary x1 x2 kx2 n 0)
set_option maxHeartbeats 4000000 in
set_option maxRecDepth 100000 in
theorem c_X8_doFit (l : Launch) (dC : Nat → ClassId) (dI : Nat → Nat → Nat) (cI cZ cP cS : ClassId) (h_t h_t_turns h_t_phases h_t_ups h_t_typed h_t_texts h_t_diary h_t_longs h_t_awakes h_t_fit h_t_counts h_t_worths h_t_ripes h_t_growths h_t_gains h_t_isThere h_t_forms h_t_sizes h_t_items h_t_moved : Nat) (v_m_hours : Int32) (v_m_months : Int32) (v_m_fitMany : Int32) (v_m_fitFirst : Int32) (v_m_finding : Int32) (v_m_turns : Nat → Int32) (v_m_ups : Nat → Int32) (v_m_diary : Nat → Int32) (x1 : Int32) (x2 : Int32) (n : Nat) (r : Int32) (hf : f_X8_doFit n v_m_hours v_m_turns v_m_ups v_m_diary x1 x2 = some r) : Met l yX8_doFit wsX8_doFit rm_X8_doFit (RO (dC, dI) (TY cI cZ cP cS) [.ref h_t, .int x1, .int x2] (wd_X8_doFit cI cZ cP cS h_t h_t_turns h_t_phases h_t_ups h_t_typed h_t_texts h_t_diary h_t_longs h_t_awakes h_t_fit h_t_counts h_t_worths h_t_ripes h_t_growths h_t_gains h_t_isThere h_t_forms h_t_sizes h_t_items h_t_moved v_m_hours v_m_months v_m_fitMany v_m_fitFirst v_m_finding v_m_turns v_m_ups v_m_diary)) (vp_Si (fun x => x = r ∧ narrow .boolean (.int x) = .int x)) 0 0 NF := by
  refine Met.ofW (cc := cX8_doFit) (maxL := 5) (ret := (some .boolean)) (by decide) rfl ?_
  intro p e s m args below meth c s₁ B hml hv
  obtain ⟨rfl, hP, hK⟩ := hv
  have hx := B.exec
  have hb := B.bytes
  have hr := B.returns
  have hts := atoms_spec (ws := wsX8_doFit) B.pre
  have hown : s.vm.findClass RX8 = some m.cls := findClass_of_methodNamed B.named
  have hlocks := B.notSynchronized
  have hinX8 : ∀ w ∈ wsX80, w ∈ wsX8_doFit := by decide +kernel
  have hl := lv_entry ([.ref h_t, .int x1, .int x2]) (n := 5) (Nat.le_of_ble_eq_true rfl)
  rw [lg_entry_eq]
  generalize (lg_sl ([.ref h_t, .int x1, .int x2]) ++ List.replicate (5 - (lg_sl ([.ref h_t, .int x1, .int x2])).length) Slot.unset).toArray = ls at hl ⊢
  have hl : lv_has ls 5 [(0, .ref h_t), (1, .int x1), (2, .int x2)] := hl
  unfold f_X8_doFit at hf
  refine lv_iconst (v := 0) hx hb dX8_doFit_0 (by decide) ?_
  refine lv_istore_n (lv' := [(3, .int 0), (0, .ref h_t), (1, .int x1), (2, .int x2)]) hx hb dX8_doFit_1 rfl hl (by decide) rfl (fun ls hl => ?_)
  obtain ⟨kx2, ekx2, hf⟩ := jn0_e hf
  have hx2 : ∀ (ls : Array Slot), lv_has ls 5 [] → kx2 = some r → W p l e (headSpec wsX8_doFit rm_X8_doFit).room s m ([.ref h_t, .int x1, .int x2] : List Value).toArray below meth c s.heap [] 0 0 (MQ below (vp_Si (fun x => x = r ∧ narrow .boolean (.int x) = .int x)) ([.ref h_t, .int x1, .int x2] : List Value).toArray s 0 0 NF) (F0 m 72 ls []) := by
    intro ls hl hf
    rw [ekx2] at hf
    refine lv_iconst (v := 1) hx hb dX8_doFit_72 (by decide) ?_
    exact W.zret hx hb hr (by decide) (fun t ht hW => ⟨_, rfl, ⟨Option.some.inj hf, (by decide)⟩, ht⟩) (fun _ h => nomatch h) dX8_doFit_73
  have hL2 : ∀ (k2 : Nat) (y2_3 : Int32) (ls : Array Slot), lv_has ls 5 [(0, .ref h_t), (1, .int x1), (2, .int x2), (3, .int y2_3)] → L_X8_doFit_2 n v_m_hours v_m_turns v_m_ups v_m_diary x1 x2 kx2 k2 y2_3 = some r → W p l e (headSpec wsX8_doFit rm_X8_doFit).room s m ([.ref h_t, .int x1, .int x2] : List Value).toArray below meth c s.heap [] 0 0 (MQ below (vp_Si (fun x => x = r ∧ narrow .boolean (.int x) = .int x)) ([.ref h_t, .int x1, .int x2] : List Value).toArray s 0 0 NF) (F0 m 2 ls []) := by
    intro k2
    induction k2 with
    | zero =>
      intro y2_3 ls hl hf
      exact absurd hf (fun h => Option.some_ne_none _ h.symm)
    | succ k2 ih =>
      intro y2_3 ls hl hf
      rw [L_X8_doFit_2_s] at hf
      refine lv_iload_n hx hb dX8_doFit_2 rfl (lv_at hl 3 rfl) ?_
      refine lv_aload_n hx hb dX8_doFit_3 rfl (lv_at hl 0 rfl) ?_
      refine va_get (D := (dC, dI)) (ci := 7) (v := .int v_m_hours) (C := RX8) (T := TX8) (N := 24) hx hb hts hinX8 hown hK hP 0 rfl rfl 5 (by decide) (hts (.fieldLink RX8 79 "SecondSunriseModel" "hours" "I") (by decide +kernel)) (fun _ h9 => h9) rfl dX8_doFit_4 ?_
      refine lv_icmp_ge (tgt := 72) hx hb dX8_doFit_7 (by decide) (fun c7 => ?_) (fun c7 => ?_)
      · rw [if_pos c7] at hf
        exact hx2 ls (lv_sub hl [] rfl) hf
      · rw [if_neg c7] at hf
        refine lv_aload_n hx hb dX8_doFit_10 rfl (lv_at hl 0 rfl) ?_
        refine lv_iconst (v := 0) hx hb dX8_doFit_11 (by decide) ?_
        refine lv_iload_n hx hb dX8_doFit_12 rfl (lv_at hl 1 rfl) ?_
        refine lv_iload_n hx hb dX8_doFit_13 rfl (lv_at hl 3 rfl) ?_
        obtain ⟨r14_1, hc_2, hf⟩ := bd1_e hf
        refine vp_callSi (va_runV (As := [.int 0, .int x1, .int y2_3]) (rest := []) ⟨hx, hb, hml, hown, hts⟩ (c_X8_isUpBy l dC dI cI cZ cP cS h_t h_t_turns h_t_phases h_t_ups h_t_typed h_t_texts h_t_diary h_t_longs h_t_awakes h_t_fit h_t_counts h_t_worths h_t_ripes h_t_growths h_t_gains h_t_isThere h_t_forms h_t_sizes h_t_items h_t_moved v_m_hours v_m_months v_m_fitMany v_m_fitFirst v_m_finding v_m_turns v_m_ups 0 x1 y2_3 n r14_1 hc_2) (cwV 3 hts gX8_doFit_X8_isUpBy rfl rfl rfl (by decide +kernel) ⟨Nat.le_of_ble_eq_true rfl, Nat.le_of_ble_eq_true rfl⟩) (pv_ro (ci := 7) (q0 := 0) hK (hP.sub (ws' := (wd_X8_isUpBy cI cZ cP cS h_t h_t_turns h_t_phases h_t_ups h_t_typed h_t_texts h_t_diary h_t_longs h_t_awakes h_t_fit h_t_counts h_t_worths h_t_ripes h_t_growths h_t_gains h_t_isThere h_t_forms h_t_sizes h_t_items h_t_moved v_m_hours v_m_months v_m_fitMany v_m_fitFirst v_m_finding v_m_turns v_m_ups)) [0, 1, 2] rfl) rfl rfl) rfl rfl hl.1 rfl (lv_room (Nat.le_of_ble_eq_true rfl)) dX8_doFit_14 ⟨Nat.zero_le _, Nat.zero_le _⟩).run (fun x e_3 => ?_)
        obtain ⟨e_3, hb_4⟩ := e_3
        rw [e_3] at hb_4 ⊢
        obtain ⟨v25_5, ev25_5, hf⟩ := lt_e hf
        have hj25_6 : ∀ (ls : Array Slot), lv_has ls 5 [(0, .ref h_t), (1, .int x1), (2, .int x2), (3, .int y2_3)] → W p l e (headSpec wsX8_doFit rm_X8_doFit).room s m ([.ref h_t, .int x1, .int x2] : List Value).toArray below meth c s.heap [] 0 0 (MQ below (vp_Si (fun x => x = r ∧ narrow .boolean (.int x) = .int x)) ([.ref h_t, .int x1, .int x2] : List Value).toArray s 0 0 NF) (F0 m 25 ls [.int v25_5]) := by
          intro ls hl
          refine lv_aload_n hx hb dX8_doFit_25 rfl (lv_at hl 0 rfl) ?_
          refine lv_iconst (v := 1) hx hb dX8_doFit_26 (by decide) ?_
          refine lv_iload_n hx hb dX8_doFit_27 rfl (lv_at hl 2 rfl) ?_
          refine lv_iload_n hx hb dX8_doFit_28 rfl (lv_at hl 3 rfl) ?_
          obtain ⟨r29_7, hc_8, hf⟩ := bd1_e hf
          refine vp_callSi (va_runV (As := [.int 1, .int x2, .int y2_3]) (rest := [.int v25_5]) ⟨hx, hb, hml, hown, hts⟩ (c_X8_isUpBy l dC dI cI cZ cP cS h_t h_t_turns h_t_phases h_t_ups h_t_typed h_t_texts h_t_diary h_t_longs h_t_awakes h_t_fit h_t_counts h_t_worths h_t_ripes h_t_growths h_t_gains h_t_isThere h_t_forms h_t_sizes h_t_items h_t_moved v_m_hours v_m_months v_m_fitMany v_m_fitFirst v_m_finding v_m_turns v_m_ups 1 x2 y2_3 n r29_7 hc_8) (cwV 3 hts gX8_doFit_X8_isUpBy rfl rfl rfl (by decide +kernel) ⟨Nat.le_of_ble_eq_true rfl, Nat.le_of_ble_eq_true rfl⟩) (pv_ro (ci := 7) (q0 := 0) hK (hP.sub (ws' := (wd_X8_isUpBy cI cZ cP cS h_t h_t_turns h_t_phases h_t_ups h_t_typed h_t_texts h_t_diary h_t_longs h_t_awakes h_t_fit h_t_counts h_t_worths h_t_ripes h_t_growths h_t_gains h_t_isThere h_t_forms h_t_sizes h_t_items h_t_moved v_m_hours v_m_months v_m_fitMany v_m_fitFirst v_m_finding v_m_turns v_m_ups)) [0, 1, 2] rfl) rfl rfl) rfl rfl hl.1 rfl (lv_room (Nat.le_of_ble_eq_true rfl)) dX8_doFit_29 ⟨Nat.zero_le _, Nat.zero_le _⟩).run (fun x e_9 => ?_)
          obtain ⟨e_9, hb_10⟩ := e_9
          rw [e_9] at hb_10 ⊢
          obtain ⟨v40_11, ev40_11, hf⟩ := lt_e hf
          have hj40_12 : ∀ (ls : Array Slot), lv_has ls 5 [(0, .ref h_t), (1, .int x1), (2, .int x2), (3, .int y2_3)] → W p l e (headSpec wsX8_doFit rm_X8_doFit).room s m ([.ref h_t, .int x1, .int x2] : List Value).toArray below meth c s.heap [] 0 0 (MQ below (vp_Si (fun x => x = r ∧ narrow .boolean (.int x) = .int x)) ([.ref h_t, .int x1, .int x2] : List Value).toArray s 0 0 NF) (F0 m 40 ls [.int v40_11, .int v25_5]) := by
            intro ls hl
            refine lv_iadd hx hb dX8_doFit_40 ?_
            refine lv_istore (lv' := [(4, .int (v25_5 + v40_11)), (0, .ref h_t), (1, .int x1), (2, .int x2), (3, .int y2_3)]) hx hb dX8_doFit_41 hl (by decide) rfl (fun ls hl => ?_)
            refine lv_aload_n hx hb dX8_doFit_43 rfl (lv_at hl 1 rfl) ?_
            refine va_get (D := (dC, dI)) (ci := 7) (v := .ref h_t_diary) (C := RX8) (T := TX8) (N := 24) hx hb hts hinX8 hown hK hP 0 rfl rfl 6 (by decide) (hts (.fieldLink RX8 25 "SecondSunriseModel" "diary" "[I") (by decide +kernel)) (fun _ h9 => h9) rfl dX8_doFit_44 ?_
            refine lv_iload_n hx hb dX8_doFit_47 rfl (lv_at hl 4 rfl) ?_
            obtain ⟨hi_13, hf⟩ := ix_e hf
            refine va_iald hx hb hK hP 3 0 rfl rfl hi_13 dX8_doFit_48 ?_
            refine lv_iconst (v := (-1)) hx hb dX8_doFit_49 (by decide) ?_
            obtain ⟨k66, ek66, hf⟩ := jn0_e hf
            have hj66 : ∀ (ls : Array Slot), lv_has ls 5 [(0, .ref h_t), (1, .int x1), (2, .int x2), (3, .int y2_3)] → k66 = some r → W p l e (headSpec wsX8_doFit rm_X8_doFit).room s m ([.ref h_t, .int x1, .int x2] : List Value).toArray below meth c s.heap [] 0 0 (MQ below (vp_Si (fun x => x = r ∧ narrow .boolean (.int x) = .int x)) ([.ref h_t, .int x1, .int x2] : List Value).toArray s 0 0 NF) (F0 m 66 ls []) := by
              intro ls hl hf
              rw [ek66] at hf
              refine lv_iinc (v := (y2_3 + 1)) (lv' := [(3, .int (y2_3 + 1)), (0, .ref h_t), (1, .int x1), (2, .int x2)]) hx hb dX8_doFit_66 hl (k := 3) rfl rfl (by decide) rfl (fun ls hl => ?_)
              refine lv_goto (tgt := 2) hx hb dX8_doFit_69 (by decide) ?_
              exact ih (y2_3 + 1) ls (lv_sub hl [1, 2, 3, 0] rfl) hf
            refine lv_icmp_eq (tgt := 66) hx hb dX8_doFit_50 (by decide) (fun c50 => ?_) (fun c50 => ?_)
            · rw [if_pos c50] at hf
              exact hj66 ls (lv_sub hl [1, 2, 3, 4] rfl) hf
            · rw [if_neg c50] at hf
              refine lv_aload_n hx hb dX8_doFit_53 rfl (lv_at hl 1 rfl) ?_
              refine va_get (D := (dC, dI)) (ci := 7) (v := .ref h_t_diary) (C := RX8) (T := TX8) (N := 24) hx hb hts hinX8 hown hK hP 0 rfl rfl 6 (by decide) (hts (.fieldLink RX8 25 "SecondSunriseModel" "diary" "[I") (by decide +kernel)) (fun _ h9 => h9) rfl dX8_doFit_54 ?_
              refine lv_iload_n hx hb dX8_doFit_57 rfl (lv_at hl 4 rfl) ?_
              obtain ⟨hi_14, hf⟩ := ix_e hf
              refine va_iald hx hb hK hP 3 0 rfl rfl hi_14 dX8_doFit_58 ?_
              refine lv_iload hx hb dX8_doFit_59 (lv_at hl 0 rfl) ?_
              refine lv_icmp_eq (tgt := 66) hx hb dX8_doFit_61 (by decide) (fun c61 => ?_) (fun c61 => ?_)
              · rw [if_pos c61] at hf
                exact hj66 ls (lv_sub hl [1, 2, 3, 4] rfl) hf
              · rw [if_neg c61] at hf
                refine lv_iconst (v := 0) hx hb dX8_doFit_64 (by decide) ?_
                exact W.zret hx hb hr (by decide) (fun t ht hW => ⟨_, rfl, ⟨Option.some.inj hf, (by decide)⟩, ht⟩) (fun _ h => nomatch h) dX8_doFit_65
          clear hf
          refine lv_if_eq (tgt := 39) hx hb dX8_doFit_32 (by decide) (fun c32 => ?_) (fun c32 => ?_)
          ·
            refine lv_iconst (v := 0) hx hb dX8_doFit_39 (by decide) ?_
            rw [if_pos c32] at ev40_11
            subst ev40_11
            exact hj40_12 ls (lv_sub hl [0, 1, 2, 3] rfl)
          ·
            refine lv_iconst (v := 2) hx hb dX8_doFit_35 (by decide) ?_
            refine lv_goto (tgt := 40) hx hb dX8_doFit_36 (by decide) ?_
            rw [if_neg c32] at ev40_11
            subst ev40_11
            exact hj40_12 ls (lv_sub hl [0, 1, 2, 3] rfl)
        clear hf
        refine lv_if_eq (tgt := 24) hx hb dX8_doFit_17 (by decide) (fun c17 => ?_) (fun c17 => ?_)
        ·
          refine lv_iconst (v := 0) hx hb dX8_doFit_24 (by decide) ?_
          rw [if_pos c17] at ev25_5
          subst ev25_5
          exact hj25_6 ls (lv_sub hl [0, 1, 2, 3] rfl)
        ·
          refine lv_iconst (v := 1) hx hb dX8_doFit_20 (by decide) ?_
          refine lv_goto (tgt := 25) hx hb dX8_doFit_21 (by decide) ?_
          rw [if_neg c17] at ev25_5
          subst ev25_5
          exact hj25_6 ls (lv_sub hl [0, 1, 2, 3] rfl)
  exact hL2 n 0 ls (lv_sub hl [1, 2, 3, 0] rfl) hf

abbrev wd_X8_laysFits (cI cZ cP cS : ClassId) (h_t h_t_turns h_t_phases h_t_ups h_t_typed h_t_texts h_t_diary h_t_longs h_t_awakes h_t_fit h_t_counts h_t_worths h_t_ripes h_t_growths h_t_gains h_t_isThere h_t_forms h_t_sizes h_t_items h_t_moved : Nat) (v_m_hours : Int32) (v_m_months : Int32) (v_m_fitMany : Int32) (v_m_fitFirst : Int32) (v_m_finding : Int32) (v_m_turns : Nat → Int32) (v_m_ups : Nat → Int32) (v_m_typed : Nat → Int32) (v_m_texts : Nat → Int32) (v_m_diary : Nat → Int32) (v_m_longs : Nat → Int32) (v_m_fit : Nat → Int32) : va_W := [(h_t, .inr (7, [.ref h_t_turns, .ref h_t_phases, .ref h_t_ups, .ref h_t_typed, .ref h_t_texts, .int v_m_hours, .ref h_t_diary, .int v_m_months, .ref h_t_longs, .ref h_t_awakes, .ref h_t_fit, .int v_m_fitMany, .int v_m_fitFirst, .ref h_t_counts, .ref h_t_worths, .ref h_t_ripes, .ref h_t_growths, .ref h_t_gains, .ref h_t_isThere, .ref h_t_forms, .ref h_t_sizes, .ref h_t_items, .ref h_t_moved, .int v_m_finding])), (h_t_turns, .inl (cI, 2, .inl v_m_turns)), (h_t_ups, .inl (cI, 2, .inl v_m_ups)), (h_t_typed, .inl (cI, 2, .inl v_m_typed)), (h_t_texts, .inl (cI, 120, .inl v_m_texts)), (h_t_diary, .inl (cI, 60, .inl v_m_diary)), (h_t_longs, .inl (cI, 7, .inl v_m_longs)), (h_t_fit, .inl (cZ, 1600, .inl v_m_fit))]
abbrev rm_X8_laysFits : Room := { frames := 5, cells := 0, slots := 0, locals := 112 }
def L_X8_laysFits_28 (n : Nat) (v_m_turns : Nat → Int32) (v_m_ups : Nat → Int32) (o1_1 : Int32) (o1_3 : Nat → Int32) (y16_1 : Int32) (kx28 : Int32 → Int32 → (Nat → Int32) → Option (Int32 × Int32 × Int32 × Int32 × (Nat → Int32) × (Nat → Int32) × (Nat → Int32))) : Nat → Int32 → Int32 → Int32 → (Nat → Int32) → Option (Int32 × Int32 × Int32 × Int32 × (Nat → Int32) × (Nat → Int32) × (Nat → Int32))
  | 0, _, _, _, _ => none
  | k28 + 1, y28_2, w28_m_fitMany, w28_m_fitFirst, w28_m_fit => if (v_m_turns (1 : Int32).toNatClampNeg) ≤ y28_2 then kx28 w28_m_fitMany w28_m_fitFirst w28_m_fit else bd1_ (f_X8_doFit n o1_1 v_m_turns v_m_ups o1_3 y16_1 y28_2) (fun (r41_7 : Int32) => ix_ ((40 * y16_1) + y28_2) 1600 (jn1_ (fun (q82_0 : Int32) => lt_ ((if r41_7 = 0 then 0 else 1) : Int32) (fun v99_12 => L_X8_laysFits_28 n v_m_turns v_m_ups o1_1 o1_3 y16_1 kx28 k28 (y28_2 + 1) (w28_m_fitMany + v99_12) q82_0 (upd w28_m_fit ((40 * y16_1) + y28_2).toNatClampNeg (vp_nar .boolean r41_7)))) (fun k82 => jn0_ (k82 w28_m_fitFirst) (fun k78 => if r41_7 = 0 then k78 else if w28_m_fitMany = 0 then k82 ((40 * y16_1) + y28_2) else k78))))
theorem L_X8_laysFits_28_s (n : Nat) (v_m_turns : Nat → Int32) (v_m_ups : Nat → Int32) (o1_1 : Int32) (o1_3 : Nat → Int32) (y16_1 : Int32) (kx28 : Int32 → Int32 → (Nat → Int32) → Option (Int32 × Int32 × Int32 × Int32 × (Nat → Int32) × (Nat → Int32) × (Nat → Int32))) (k28 : Nat) (y28_2 : Int32) (w28_m_fitMany : Int32) (w28_m_fitFirst : Int32) (w28_m_fit : Nat → Int32) : L_X8_laysFits_28 n v_m_turns v_m_ups o1_1 o1_3 y16_1 kx28 (k28 + 1) y28_2 w28_m_fitMany w28_m_fitFirst w28_m_fit = if (v_m_turns (1 : Int32).toNatClampNeg) ≤ y28_2 then kx28 w28_m_fitMany w28_m_fitFirst w28_m_fit else bd1_ (f_X8_doFit n o1_1 v_m_turns v_m_ups o1_3 y16_1 y28_2) (fun (r41_7 : Int32) => ix_ ((40 * y16_1) + y28_2) 1600 (jn1_ (fun (q82_0 : Int32) => lt_ ((if r41_7 = 0 then 0 else 1) : Int32) (fun v99_12 => L_X8_laysFits_28 n v_m_turns v_m_ups o1_1 o1_3 y16_1 kx28 k28 (y28_2 + 1) (w28_m_fitMany + v99_12) q82_0 (upd w28_m_fit ((40 * y16_1) + y28_2).toNatClampNeg (vp_nar .boolean r41_7)))) (fun k82 => jn0_ (k82 w28_m_fitFirst) (fun k78 => if r41_7 = 0 then k78 else if w28_m_fitMany = 0 then k82 ((40 * y16_1) + y28_2) else k78)))) := rfl
def L_X8_laysFits_16 (n : Nat) (v_m_turns : Nat → Int32) (v_m_ups : Nat → Int32) (o1_1 : Int32) (o1_3 : Nat → Int32) (kx16 : Int32 → Int32 → (Nat → Int32) → Option (Int32 × Int32 × Int32 × Int32 × (Nat → Int32) × (Nat → Int32) × (Nat → Int32))) : Nat → Int32 → Int32 → Int32 → (Nat → Int32) → Option (Int32 × Int32 × Int32 × Int32 × (Nat → Int32) × (Nat → Int32) × (Nat → Int32))
  | 0, _, _, _, _ => none
  | k16 + 1, y16_1, w16_m_fitMany, w16_m_fitFirst, w16_m_fit => if (v_m_turns (0 : Int32).toNatClampNeg) ≤ y16_1 then kx16 w16_m_fitMany w16_m_fitFirst w16_m_fit else jn3_ (fun (u28_m_fitMany : Int32) (u28_m_fitFirst : Int32) (u28_m_fit : Nat → Int32) => L_X8_laysFits_16 n v_m_turns v_m_ups o1_1 o1_3 kx16 k16 (y16_1 + 1) u28_m_fitMany u28_m_fitFirst u28_m_fit) (fun kx28 => L_X8_laysFits_28 n v_m_turns v_m_ups o1_1 o1_3 y16_1 kx28 n 0 w16_m_fitMany w16_m_fitFirst w16_m_fit)
theorem L_X8_laysFits_16_s (n : Nat) (v_m_turns : Nat → Int32) (v_m_ups : Nat → Int32) (o1_1 : Int32) (o1_3 : Nat → Int32) (kx16 : Int32 → Int32 → (Nat → Int32) → Option (Int32 × Int32 × Int32 × Int32 × (Nat → Int32) × (Nat → Int32) × (Nat → Int32))) (k16 : Nat) (y16_1 : Int32) (w16_m_fitMany : Int32) (w16_m_fitFirst : Int32) (w16_m_fit : Nat → Int32) : L_X8_laysFits_16 n v_m_turns v_m_ups o1_1 o1_3 kx16 (k16 + 1) y16_1 w16_m_fitMany w16_m_fitFirst w16_m_fit = if (v_m_turns (0 : Int32).toNatClampNeg) ≤ y16_1 then kx16 w16_m_fitMany w16_m_fitFirst w16_m_fit else jn3_ (fun (u28_m_fitMany : Int32) (u28_m_fitFirst : Int32) (u28_m_fit : Nat → Int32) => L_X8_laysFits_16 n v_m_turns v_m_ups o1_1 o1_3 kx16 k16 (y16_1 + 1) u28_m_fitMany u28_m_fitFirst u28_m_fit) (fun kx28 => L_X8_laysFits_28 n v_m_turns v_m_ups o1_1 o1_3 y16_1 kx28 n 0 w16_m_fitMany w16_m_fitFirst w16_m_fit) := rfl
def f_X8_laysFits (n : Nat) (v_m_hours : Int32) (v_m_months : Int32) (v_m_fitMany : Int32) (v_m_fitFirst : Int32) (v_m_turns : Nat → Int32) (v_m_ups : Nat → Int32) (v_m_typed : Nat → Int32) (v_m_texts : Nat → Int32) (v_m_diary : Nat → Int32) (v_m_longs : Nat → Int32) (v_m_fit : Nat → Int32) : Option (Int32 × Int32 × Int32 × Int32 × (Nat → Int32) × (Nat → Int32) × (Nat → Int32)) := bd4_ (f_X8_reads n v_m_hours v_m_months v_m_typed v_m_texts v_m_diary v_m_longs) (fun (o1_1 : Int32) (o1_2 : Int32) (o1_3 : Nat → Int32) (o1_4 : Nat → Int32) => jn3_ (fun (u16_m_fitMany : Int32) (u16_m_fitFirst : Int32) (u16_m_fit : Nat → Int32) => some (o1_1, o1_2, u16_m_fitMany, u16_m_fitFirst, o1_3, o1_4, u16_m_fit)) (fun kx16 => L_X8_laysFits_16 n v_m_turns v_m_ups o1_1 o1_3 kx16 n 0 0 (-1) v_m_fit))
set_option maxHeartbeats 4000000 in
set_option maxRecDepth 100000 in
theorem c_X8_laysFits (l : Launch) (dC : Nat → ClassId) (dI : Nat → Nat → Nat) (cI cZ cP cS : ClassId) (sz : Nat) (h_t h_t_turns h_t_phases h_t_ups h_t_typed h_t_texts h_t_diary h_t_longs h_t_awakes h_t_fit h_t_counts h_t_worths h_t_ripes h_t_growths h_t_gains h_t_isThere h_t_forms h_t_sizes h_t_items h_t_moved : Nat) (v_m_hours : Int32) (v_m_months : Int32) (v_m_fitMany : Int32) (v_m_fitFirst : Int32) (v_m_finding : Int32) (v_m_turns : Nat → Int32) (v_m_ups : Nat → Int32) (v_m_typed : Nat → Int32) (v_m_texts : Nat → Int32) (v_m_diary : Nat → Int32) (v_m_longs : Nat → Int32) (v_m_fit : Nat → Int32) (n : Nat) (o_m_hours : Int32) (o_m_months : Int32) (o_m_fitMany : Int32) (o_m_fitFirst : Int32) (o_m_diary : Nat → Int32) (o_m_longs : Nat → Int32) (o_m_fit : Nat → Int32) (hf : f_X8_laysFits n v_m_hours v_m_months v_m_fitMany v_m_fitFirst v_m_turns v_m_ups v_m_typed v_m_texts v_m_diary v_m_longs v_m_fit = some (o_m_hours, o_m_months, o_m_fitMany, o_m_fitFirst, o_m_diary, o_m_longs, o_m_fit)) : Met l yX8_laysFits wsX8_laysFits rm_X8_laysFits (RW (dC, dI) (TY cI cZ cP cS) [.ref h_t] sz (wd_X8_laysFits cI cZ cP cS h_t h_t_turns h_t_phases h_t_ups h_t_typed h_t_texts h_t_diary h_t_longs h_t_awakes h_t_fit h_t_counts h_t_worths h_t_ripes h_t_growths h_t_gains h_t_isThere h_t_forms h_t_sizes h_t_items h_t_moved v_m_hours v_m_months v_m_fitMany v_m_fitFirst v_m_finding v_m_turns v_m_ups v_m_typed v_m_texts v_m_diary v_m_longs v_m_fit)) (RWv (dC, dI) (TY cI cZ cP cS) sz (wd_X8_laysFits cI cZ cP cS h_t h_t_turns h_t_phases h_t_ups h_t_typed h_t_texts h_t_diary h_t_longs h_t_awakes h_t_fit h_t_counts h_t_worths h_t_ripes h_t_growths h_t_gains h_t_isThere h_t_forms h_t_sizes h_t_items h_t_moved v_m_hours v_m_months v_m_fitMany v_m_fitFirst v_m_finding v_m_turns v_m_ups v_m_typed v_m_texts v_m_diary v_m_longs v_m_fit) (wd_X8_laysFits cI cZ cP cS h_t h_t_turns h_t_phases h_t_ups h_t_typed h_t_texts h_t_diary h_t_longs h_t_awakes h_t_fit h_t_counts h_t_worths h_t_ripes h_t_growths h_t_gains h_t_isThere h_t_forms h_t_sizes h_t_items h_t_moved o_m_hours o_m_months o_m_fitMany o_m_fitFirst v_m_finding v_m_turns v_m_ups v_m_typed v_m_texts o_m_diary o_m_longs o_m_fit)) 0 0 (va_A (wd_X8_laysFits cI cZ cP cS h_t h_t_turns h_t_phases h_t_ups h_t_typed h_t_texts h_t_diary h_t_longs h_t_awakes h_t_fit h_t_counts h_t_worths h_t_ripes h_t_growths h_t_gains h_t_isThere h_t_forms h_t_sizes h_t_items h_t_moved v_m_hours v_m_months v_m_fitMany v_m_fitFirst v_m_finding v_m_turns v_m_ups v_m_typed v_m_texts v_m_diary v_m_longs v_m_fit) sz) := by
  refine Met.ofW (cc := cX8_laysFits) (maxL := 4) (ret := none) (by decide) rfl ?_
  intro p e s m args below meth c s₁ B hml hv
  obtain ⟨rfl, hsz, hP, hK, hD0⟩ := hv
  have hx := B.exec
  have hb := B.bytes
  have hr := B.returns
  have hts := atoms_spec (ws := wsX8_laysFits) B.pre
  have hown : s.vm.findClass RX8 = some m.cls := findClass_of_methodNamed B.named
  have hlocks := B.notSynchronized
  subst hsz
  have hD := hD0.self (sz := s.heap.size)
  have hA : ∀ q : Nat, s.heap.size ≤ q → (va_A (wd_X8_laysFits cI cZ cP cS h_t h_t_turns h_t_phases h_t_ups h_t_typed h_t_texts h_t_diary h_t_longs h_t_awakes h_t_fit h_t_counts h_t_worths h_t_ripes h_t_growths h_t_gains h_t_isThere h_t_forms h_t_sizes h_t_items h_t_moved v_m_hours v_m_months v_m_fitMany v_m_fitFirst v_m_finding v_m_turns v_m_ups v_m_typed v_m_texts v_m_diary v_m_longs v_m_fit) s.heap.size) q := fun q h => Or.inr h
  have hS : va_S (va_A (wd_X8_laysFits cI cZ cP cS h_t h_t_turns h_t_phases h_t_ups h_t_typed h_t_texts h_t_diary h_t_longs h_t_awakes h_t_fit h_t_counts h_t_worths h_t_ripes h_t_growths h_t_gains h_t_isThere h_t_forms h_t_sizes h_t_items h_t_moved v_m_hours v_m_months v_m_fitMany v_m_fitFirst v_m_finding v_m_turns v_m_ups v_m_typed v_m_texts v_m_diary v_m_longs v_m_fit) s.heap.size) s.heap s.heap [] := va_S.rf
  have hinX8 : ∀ w ∈ wsX80, w ∈ wsX8_laysFits := by decide +kernel
  have hl := lv_entry ([.ref h_t]) (n := 4) (Nat.le_of_ble_eq_true rfl)
  rw [lg_entry_eq]
  generalize (lg_sl ([.ref h_t]) ++ List.replicate (4 - (lg_sl ([.ref h_t])).length) Slot.unset).toArray = ls at hl ⊢
  have hl : lv_has ls 4 [(0, .ref h_t)] := hl
  obtain ⟨H, hH⟩ : ∃ H : Heap, H = s.heap := ⟨_, rfl⟩
  have hP : va_P (dC, dI) vwCl (wd_X8_laysFits cI cZ cP cS h_t h_t_turns h_t_phases h_t_ups h_t_typed h_t_texts h_t_diary h_t_longs h_t_awakes h_t_fit h_t_counts h_t_worths h_t_ripes h_t_growths h_t_gains h_t_isThere h_t_forms h_t_sizes h_t_items h_t_moved v_m_hours v_m_months v_m_fitMany v_m_fitFirst v_m_finding v_m_turns v_m_ups v_m_typed v_m_texts v_m_diary v_m_longs v_m_fit) H := by rw [hH]; exact hP
  have hS : va_S (va_A (wd_X8_laysFits cI cZ cP cS h_t h_t_turns h_t_phases h_t_ups h_t_typed h_t_texts h_t_diary h_t_longs h_t_awakes h_t_fit h_t_counts h_t_worths h_t_ripes h_t_growths h_t_gains h_t_isThere h_t_forms h_t_sizes h_t_items h_t_moved v_m_hours v_m_months v_m_fitMany v_m_fitFirst v_m_finding v_m_turns v_m_ups v_m_typed v_m_texts v_m_diary v_m_longs v_m_fit) s.heap.size) s.heap H [] := by rw [hH]; exact hS
  obtain ⟨locs, hlo⟩ : ∃ L : List Loc, L = [] := ⟨_, rfl⟩
  rw [← hlo] at hS
  suffices hgo : W p l e (headSpec wsX8_laysFits rm_X8_laysFits).room s m ([.ref h_t] : List Value).toArray below meth c H locs 0 0 (MQ below (RWv (dC, dI) (TY cI cZ cP cS) s.heap.size (wd_X8_laysFits cI cZ cP cS h_t h_t_turns h_t_phases h_t_ups h_t_typed h_t_texts h_t_diary h_t_longs h_t_awakes h_t_fit h_t_counts h_t_worths h_t_ripes h_t_growths h_t_gains h_t_isThere h_t_forms h_t_sizes h_t_items h_t_moved v_m_hours v_m_months v_m_fitMany v_m_fitFirst v_m_finding v_m_turns v_m_ups v_m_typed v_m_texts v_m_diary v_m_longs v_m_fit) (wd_X8_laysFits cI cZ cP cS h_t h_t_turns h_t_phases h_t_ups h_t_typed h_t_texts h_t_diary h_t_longs h_t_awakes h_t_fit h_t_counts h_t_worths h_t_ripes h_t_growths h_t_gains h_t_isThere h_t_forms h_t_sizes h_t_items h_t_moved o_m_hours o_m_months o_m_fitMany o_m_fitFirst v_m_finding v_m_turns v_m_ups v_m_typed v_m_texts o_m_diary o_m_longs o_m_fit)) ([.ref h_t] : List Value).toArray s 0 0 (va_A (wd_X8_laysFits cI cZ cP cS h_t h_t_turns h_t_phases h_t_ups h_t_typed h_t_texts h_t_diary h_t_longs h_t_awakes h_t_fit h_t_counts h_t_worths h_t_ripes h_t_growths h_t_gains h_t_isThere h_t_forms h_t_sizes h_t_items h_t_moved v_m_hours v_m_months v_m_fitMany v_m_fitFirst v_m_finding v_m_turns v_m_ups v_m_typed v_m_texts v_m_diary v_m_longs v_m_fit) s.heap.size)) (F0 m 0 ls []) by rw [hH, hlo] at hgo; exact hgo
  clear hH hlo
  unfold f_X8_laysFits at hf
  refine lv_aload_n hx hb dX8_laysFits_0 rfl (lv_at hl 0 rfl) ?_
  obtain ⟨o1_1, o1_2, o1_3, o1_4, hc_5, hf⟩ := bd4_e hf
  refine rwv_call (isC := [0, 3, 4, 5, 6]) (isR := [1, 2, 7]) (perm := [3, 0, 1, 4, 5, 6, 7, 2]) (wr := [(h_t_turns, .inl (cI, 2, .inl v_m_turns)), (h_t_ups, .inl (cI, 2, .inl v_m_ups)), (h_t_fit, .inl (cZ, 1600, .inl v_m_fit))]) (ws2 := (wd_X8_laysFits cI cZ cP cS h_t h_t_turns h_t_phases h_t_ups h_t_typed h_t_texts h_t_diary h_t_longs h_t_awakes h_t_fit h_t_counts h_t_worths h_t_ripes h_t_growths h_t_gains h_t_isThere h_t_forms h_t_sizes h_t_items h_t_moved o1_1 o1_2 v_m_fitMany v_m_fitFirst v_m_finding v_m_turns v_m_ups v_m_typed v_m_texts o1_3 o1_4 v_m_fit)) (va_runV (As := []) (rest := []) ⟨hx, hb, hml, hown, hts⟩ (c_X8_reads l dC dI cI cZ cP cS H.size h_t h_t_turns h_t_phases h_t_ups h_t_typed h_t_texts h_t_diary h_t_longs h_t_awakes h_t_fit h_t_counts h_t_worths h_t_ripes h_t_growths h_t_gains h_t_isThere h_t_forms h_t_sizes h_t_items h_t_moved v_m_hours v_m_months v_m_fitMany v_m_fitFirst v_m_finding v_m_typed v_m_texts v_m_diary v_m_longs  n o1_1 o1_2 o1_3 o1_4 hc_5) (cwV 0 hts gX8_laysFits_X8_reads rfl rfl rfl (by decide +kernel) ⟨Nat.le_of_ble_eq_true rfl, Nat.le_of_ble_eq_true rfl⟩) (pv_rw (ci := 7) (q0 := 0) hK (hP.sub (ws' := (wd_X8_reads cI cZ cP cS h_t h_t_turns h_t_phases h_t_ups h_t_typed h_t_texts h_t_diary h_t_longs h_t_awakes h_t_fit h_t_counts h_t_worths h_t_ripes h_t_growths h_t_gains h_t_isThere h_t_forms h_t_sizes h_t_items h_t_moved v_m_hours v_m_months v_m_fitMany v_m_fitFirst v_m_finding v_m_typed v_m_texts v_m_diary v_m_longs)) [0, 3, 4, 5, 6] rfl) (hD.sub (ws' := (wd_X8_reads cI cZ cP cS h_t h_t_turns h_t_phases h_t_ups h_t_typed h_t_texts h_t_diary h_t_longs h_t_awakes h_t_fit h_t_counts h_t_worths h_t_ripes h_t_growths h_t_gains h_t_isThere h_t_forms h_t_sizes h_t_items h_t_moved v_m_hours v_m_months v_m_fitMany v_m_fitFirst v_m_finding v_m_typed v_m_texts v_m_diary v_m_longs)) [0, 3, 4, 5, 6] (by decide) rfl) rfl rfl) rfl rfl hl.1 rfl (lv_room (Nat.le_of_ble_eq_true rfl)) dX8_laysFits_1 ⟨Nat.zero_le _, Nat.zero_le _⟩) hS hA hP hD rfl (by decide) (by decide) rfl (by decide) rfl rfl (fun H locs hP hD hS => ?_)
  refine lv_aload_n hx hb dX8_laysFits_4 rfl (lv_at hl 0 rfl) ?_
  refine lv_iconst (v := 0) hx hb dX8_laysFits_5 (by decide) ?_
  refine va_put (D := (dC, dI)) (ci := 7) (v := .int 0) (ty := .int) (C := RX8) (T := TX8) (N := 24) hx hb hts hinX8 tyX8 tyX8_ok nmX8 hown hK hP hD hS 0 rfl rfl 11 (by decide) (hts (.fieldLink RX8 176 "SecondSunriseModel" "fitMany" "I") (by decide +kernel)) (fun _ h9 => h9) rfl (by decide +kernel) rfl rfl (Nat.le_of_ble_eq_true rfl) dX8_laysFits_6 (fun H locs hP hD hS => ?_)
  have hP : va_P (dC, dI) vwCl (wd_X8_laysFits cI cZ cP cS h_t h_t_turns h_t_phases h_t_ups h_t_typed h_t_texts h_t_diary h_t_longs h_t_awakes h_t_fit h_t_counts h_t_worths h_t_ripes h_t_growths h_t_gains h_t_isThere h_t_forms h_t_sizes h_t_items h_t_moved o1_1 o1_2 0 v_m_fitFirst v_m_finding v_m_turns v_m_ups v_m_typed v_m_texts o1_3 o1_4 v_m_fit) H := hP
  have hD : va_D (va_A (wd_X8_laysFits cI cZ cP cS h_t h_t_turns h_t_phases h_t_ups h_t_typed h_t_texts h_t_diary h_t_longs h_t_awakes h_t_fit h_t_counts h_t_worths h_t_ripes h_t_growths h_t_gains h_t_isThere h_t_forms h_t_sizes h_t_items h_t_moved v_m_hours v_m_months v_m_fitMany v_m_fitFirst v_m_finding v_m_turns v_m_ups v_m_typed v_m_texts v_m_diary v_m_longs v_m_fit) s.heap.size) (wd_X8_laysFits cI cZ cP cS h_t h_t_turns h_t_phases h_t_ups h_t_typed h_t_texts h_t_diary h_t_longs h_t_awakes h_t_fit h_t_counts h_t_worths h_t_ripes h_t_growths h_t_gains h_t_isThere h_t_forms h_t_sizes h_t_items h_t_moved o1_1 o1_2 0 v_m_fitFirst v_m_finding v_m_turns v_m_ups v_m_typed v_m_texts o1_3 o1_4 v_m_fit) := hD
  refine lv_aload_n hx hb dX8_laysFits_9 rfl (lv_at hl 0 rfl) ?_
  refine lv_iconst (v := (-1)) hx hb dX8_laysFits_10 (by decide) ?_
  refine va_put (D := (dC, dI)) (ci := 7) (v := .int (-1)) (ty := .int) (C := RX8) (T := TX8) (N := 24) hx hb hts hinX8 tyX8 tyX8_ok nmX8 hown hK hP hD hS 0 rfl rfl 12 (by decide) (hts (.fieldLink RX8 179 "SecondSunriseModel" "fitFirst" "I") (by decide +kernel)) (fun _ h9 => h9) rfl (by decide +kernel) rfl rfl (Nat.le_of_ble_eq_true rfl) dX8_laysFits_11 (fun H locs hP hD hS => ?_)
  have hP : va_P (dC, dI) vwCl (wd_X8_laysFits cI cZ cP cS h_t h_t_turns h_t_phases h_t_ups h_t_typed h_t_texts h_t_diary h_t_longs h_t_awakes h_t_fit h_t_counts h_t_worths h_t_ripes h_t_growths h_t_gains h_t_isThere h_t_forms h_t_sizes h_t_items h_t_moved o1_1 o1_2 0 (-1) v_m_finding v_m_turns v_m_ups v_m_typed v_m_texts o1_3 o1_4 v_m_fit) H := hP
  have hD : va_D (va_A (wd_X8_laysFits cI cZ cP cS h_t h_t_turns h_t_phases h_t_ups h_t_typed h_t_texts h_t_diary h_t_longs h_t_awakes h_t_fit h_t_counts h_t_worths h_t_ripes h_t_growths h_t_gains h_t_isThere h_t_forms h_t_sizes h_t_items h_t_moved v_m_hours v_m_months v_m_fitMany v_m_fitFirst v_m_finding v_m_turns v_m_ups v_m_typed v_m_texts v_m_diary v_m_longs v_m_fit) s.heap.size) (wd_X8_laysFits cI cZ cP cS h_t h_t_turns h_t_phases h_t_ups h_t_typed h_t_texts h_t_diary h_t_longs h_t_awakes h_t_fit h_t_counts h_t_worths h_t_ripes h_t_growths h_t_gains h_t_isThere h_t_forms h_t_sizes h_t_items h_t_moved o1_1 o1_2 0 (-1) v_m_finding v_m_turns v_m_ups v_m_typed v_m_texts o1_3 o1_4 v_m_fit) := hD
  refine lv_iconst (v := 0) hx hb dX8_laysFits_14 (by decide) ?_
  refine lv_istore_n (lv' := [(1, .int 0), (0, .ref h_t)]) hx hb dX8_laysFits_15 rfl hl (by decide) rfl (fun ls hl => ?_)
  obtain ⟨kx16, ekx16, hf⟩ := jn3_e hf
  have hx16 : ∀ (u16_m_fitMany : Int32) (u16_m_fitFirst : Int32) (u16_m_fit : Nat → Int32) (H : Heap) (locs : List Loc) (ls : Array Slot), lv_has ls 4 [] → va_P (dC, dI) vwCl (wd_X8_laysFits cI cZ cP cS h_t h_t_turns h_t_phases h_t_ups h_t_typed h_t_texts h_t_diary h_t_longs h_t_awakes h_t_fit h_t_counts h_t_worths h_t_ripes h_t_growths h_t_gains h_t_isThere h_t_forms h_t_sizes h_t_items h_t_moved o1_1 o1_2 u16_m_fitMany u16_m_fitFirst v_m_finding v_m_turns v_m_ups v_m_typed v_m_texts o1_3 o1_4 u16_m_fit) H → va_D (va_A (wd_X8_laysFits cI cZ cP cS h_t h_t_turns h_t_phases h_t_ups h_t_typed h_t_texts h_t_diary h_t_longs h_t_awakes h_t_fit h_t_counts h_t_worths h_t_ripes h_t_growths h_t_gains h_t_isThere h_t_forms h_t_sizes h_t_items h_t_moved v_m_hours v_m_months v_m_fitMany v_m_fitFirst v_m_finding v_m_turns v_m_ups v_m_typed v_m_texts v_m_diary v_m_longs v_m_fit) s.heap.size) (wd_X8_laysFits cI cZ cP cS h_t h_t_turns h_t_phases h_t_ups h_t_typed h_t_texts h_t_diary h_t_longs h_t_awakes h_t_fit h_t_counts h_t_worths h_t_ripes h_t_growths h_t_gains h_t_isThere h_t_forms h_t_sizes h_t_items h_t_moved o1_1 o1_2 u16_m_fitMany u16_m_fitFirst v_m_finding v_m_turns v_m_ups v_m_typed v_m_texts o1_3 o1_4 u16_m_fit) → va_S (va_A (wd_X8_laysFits cI cZ cP cS h_t h_t_turns h_t_phases h_t_ups h_t_typed h_t_texts h_t_diary h_t_longs h_t_awakes h_t_fit h_t_counts h_t_worths h_t_ripes h_t_growths h_t_gains h_t_isThere h_t_forms h_t_sizes h_t_items h_t_moved v_m_hours v_m_months v_m_fitMany v_m_fitFirst v_m_finding v_m_turns v_m_ups v_m_typed v_m_texts v_m_diary v_m_longs v_m_fit) s.heap.size) s.heap H locs → kx16 u16_m_fitMany u16_m_fitFirst u16_m_fit = some (o_m_hours, o_m_months, o_m_fitMany, o_m_fitFirst, o_m_diary, o_m_longs, o_m_fit) → W p l e (headSpec wsX8_laysFits rm_X8_laysFits).room s m ([.ref h_t] : List Value).toArray below meth c H locs 0 0 (MQ below (RWv (dC, dI) (TY cI cZ cP cS) s.heap.size (wd_X8_laysFits cI cZ cP cS h_t h_t_turns h_t_phases h_t_ups h_t_typed h_t_texts h_t_diary h_t_longs h_t_awakes h_t_fit h_t_counts h_t_worths h_t_ripes h_t_growths h_t_gains h_t_isThere h_t_forms h_t_sizes h_t_items h_t_moved v_m_hours v_m_months v_m_fitMany v_m_fitFirst v_m_finding v_m_turns v_m_ups v_m_typed v_m_texts v_m_diary v_m_longs v_m_fit) (wd_X8_laysFits cI cZ cP cS h_t h_t_turns h_t_phases h_t_ups h_t_typed h_t_texts h_t_diary h_t_longs h_t_awakes h_t_fit h_t_counts h_t_worths h_t_ripes h_t_growths h_t_gains h_t_isThere h_t_forms h_t_sizes h_t_items h_t_moved o_m_hours o_m_months o_m_fitMany o_m_fitFirst v_m_finding v_m_turns v_m_ups v_m_typed v_m_texts o_m_diary o_m_longs o_m_fit)) ([.ref h_t] : List Value).toArray s 0 0 (va_A (wd_X8_laysFits cI cZ cP cS h_t h_t_turns h_t_phases h_t_ups h_t_typed h_t_texts h_t_diary h_t_longs h_t_awakes h_t_fit h_t_counts h_t_worths h_t_ripes h_t_growths h_t_gains h_t_isThere h_t_forms h_t_sizes h_t_items h_t_moved v_m_hours v_m_months v_m_fitMany v_m_fitFirst v_m_finding v_m_turns v_m_ups v_m_typed v_m_texts v_m_diary v_m_longs v_m_fit) s.heap.size)) (F0 m 115 ls []) := by
    intro u16_m_fitMany u16_m_fitFirst u16_m_fit H locs ls hl hP hD hS hf
    rw [ekx16] at hf
    have hq0 := Option.some.inj hf
    obtain ⟨eq0, hq1⟩ := Prod.mk.inj hq0
    obtain ⟨eq1, hq2⟩ := Prod.mk.inj hq1
    obtain ⟨eq2, hq3⟩ := Prod.mk.inj hq2
    obtain ⟨eq3, hq4⟩ := Prod.mk.inj hq3
    obtain ⟨eq4, hq5⟩ := Prod.mk.inj hq4
    obtain ⟨eq5, hq6⟩ := Prod.mk.inj hq5
    clear hf hq0 hq1 hq2 hq3 hq4 hq5
    subst eq0
    subst eq1
    subst eq2
    subst eq3
    subst eq4
    subst eq5
    subst hq6
    exact W.vret hx hb hr (fun t ht hW => ⟨⟨(), rfl, trivial, by rw [ht]; exact hP, va_K.moved hW.alike hK, hD⟩, hS.F ht⟩) hS.2.2 dX8_laysFits_115
  have hL16 : ∀ (k16 : Nat) (y16_1 : Int32) (w16_m_fitMany : Int32) (w16_m_fitFirst : Int32) (w16_m_fit : Nat → Int32) (H : Heap) (locs : List Loc) (ls : Array Slot), lv_has ls 4 [(0, .ref h_t), (1, .int y16_1)] → va_P (dC, dI) vwCl (wd_X8_laysFits cI cZ cP cS h_t h_t_turns h_t_phases h_t_ups h_t_typed h_t_texts h_t_diary h_t_longs h_t_awakes h_t_fit h_t_counts h_t_worths h_t_ripes h_t_growths h_t_gains h_t_isThere h_t_forms h_t_sizes h_t_items h_t_moved o1_1 o1_2 w16_m_fitMany w16_m_fitFirst v_m_finding v_m_turns v_m_ups v_m_typed v_m_texts o1_3 o1_4 w16_m_fit) H → va_D (va_A (wd_X8_laysFits cI cZ cP cS h_t h_t_turns h_t_phases h_t_ups h_t_typed h_t_texts h_t_diary h_t_longs h_t_awakes h_t_fit h_t_counts h_t_worths h_t_ripes h_t_growths h_t_gains h_t_isThere h_t_forms h_t_sizes h_t_items h_t_moved v_m_hours v_m_months v_m_fitMany v_m_fitFirst v_m_finding v_m_turns v_m_ups v_m_typed v_m_texts v_m_diary v_m_longs v_m_fit) s.heap.size) (wd_X8_laysFits cI cZ cP cS h_t h_t_turns h_t_phases h_t_ups h_t_typed h_t_texts h_t_diary h_t_longs h_t_awakes h_t_fit h_t_counts h_t_worths h_t_ripes h_t_growths h_t_gains h_t_isThere h_t_forms h_t_sizes h_t_items h_t_moved o1_1 o1_2 w16_m_fitMany w16_m_fitFirst v_m_finding v_m_turns v_m_ups v_m_typed v_m_texts o1_3 o1_4 w16_m_fit) → va_S (va_A (wd_X8_laysFits cI cZ cP cS h_t h_t_turns h_t_phases h_t_ups h_t_typed h_t_texts h_t_diary h_t_longs h_t_awakes h_t_fit h_t_counts h_t_worths h_t_ripes h_t_growths h_t_gains h_t_isThere h_t_forms h_t_sizes h_t_items h_t_moved v_m_hours v_m_months v_m_fitMany v_m_fitFirst v_m_finding v_m_turns v_m_ups v_m_typed v_m_texts v_m_diary v_m_longs v_m_fit) s.heap.size) s.heap H locs → L_X8_laysFits_16 n v_m_turns v_m_ups o1_1 o1_3 kx16 k16 y16_1 w16_m_fitMany w16_m_fitFirst w16_m_fit = some (o_m_hours, o_m_months, o_m_fitMany, o_m_fitFirst, o_m_diary, o_m_longs, o_m_fit) → W p l e (headSpec wsX8_laysFits rm_X8_laysFits).room s m ([.ref h_t] : List Value).toArray below meth c H locs 0 0 (MQ below (RWv (dC, dI) (TY cI cZ cP cS) s.heap.size (wd_X8_laysFits cI cZ cP cS h_t h_t_turns h_t_phases h_t_ups h_t_typed h_t_texts h_t_diary h_t_longs h_t_awakes h_t_fit h_t_counts h_t_worths h_t_ripes h_t_growths h_t_gains h_t_isThere h_t_forms h_t_sizes h_t_items h_t_moved v_m_hours v_m_months v_m_fitMany v_m_fitFirst v_m_finding v_m_turns v_m_ups v_m_typed v_m_texts v_m_diary v_m_longs v_m_fit) (wd_X8_laysFits cI cZ cP cS h_t h_t_turns h_t_phases h_t_ups h_t_typed h_t_texts h_t_diary h_t_longs h_t_awakes h_t_fit h_t_counts h_t_worths h_t_ripes h_t_growths h_t_gains h_t_isThere h_t_forms h_t_sizes h_t_items h_t_moved o_m_hours o_m_months o_m_fitMany o_m_fitFirst v_m_finding v_m_turns v_m_ups v_m_typed v_m_texts o_m_diary o_m_longs o_m_fit)) ([.ref h_t] : List Value).toArray s 0 0 (va_A (wd_X8_laysFits cI cZ cP cS h_t h_t_turns h_t_phases h_t_ups h_t_typed h_t_texts h_t_diary h_t_longs h_t_awakes h_t_fit h_t_counts h_t_worths h_t_ripes h_t_growths h_t_gains h_t_isThere h_t_forms h_t_sizes h_t_items h_t_moved v_m_hours v_m_months v_m_fitMany v_m_fitFirst v_m_finding v_m_turns v_m_ups v_m_typed v_m_texts v_m_diary v_m_longs v_m_fit) s.heap.size)) (F0 m 16 ls []) := by
    intro k16
    induction k16 with
    | zero =>
      intro y16_1 w16_m_fitMany w16_m_fitFirst w16_m_fit H locs ls hl hP hD hS hf
      exact absurd hf (fun h => Option.some_ne_none _ h.symm)
    | succ k16 ih =>
      intro y16_1 w16_m_fitMany w16_m_fitFirst w16_m_fit H locs ls hl hP hD hS hf
      rw [L_X8_laysFits_16_s] at hf
      refine lv_iload_n hx hb dX8_laysFits_16 rfl (lv_at hl 1 rfl) ?_
      refine lv_aload_n hx hb dX8_laysFits_17 rfl (lv_at hl 0 rfl) ?_
      refine va_get (D := (dC, dI)) (ci := 7) (v := .ref h_t_turns) (C := RX8) (T := TX8) (N := 24) hx hb hts hinX8 hown hK hP 0 rfl rfl 0 (by decide) (hts (.fieldLink RX8 7 "SecondSunriseModel" "turns" "[I") (by decide +kernel)) (fun _ h9 => h9) rfl dX8_laysFits_18 ?_
      refine lv_iconst (v := 0) hx hb dX8_laysFits_21 (by decide) ?_
      refine va_iald hx hb hK hP 1 0 rfl rfl (show vp_in 0 2 by unfold vp_in; decide) dX8_laysFits_22 ?_
      refine lv_icmp_ge (tgt := 115) hx hb dX8_laysFits_23 (by decide) (fun c23 => ?_) (fun c23 => ?_)
      · rw [if_pos c23] at hf
        exact hx16 w16_m_fitMany w16_m_fitFirst w16_m_fit H locs ls (lv_sub hl [] rfl) hP hD hS hf
      · rw [if_neg c23] at hf
        refine lv_iconst (v := 0) hx hb dX8_laysFits_26 (by decide) ?_
        refine lv_istore_n (lv' := [(2, .int 0), (0, .ref h_t), (1, .int y16_1)]) hx hb dX8_laysFits_27 rfl hl (by decide) rfl (fun ls hl => ?_)
        obtain ⟨kx28, ekx28, hf⟩ := jn3_e hf
        have hx28 : ∀ (u28_m_fitMany : Int32) (u28_m_fitFirst : Int32) (u28_m_fit : Nat → Int32) (H : Heap) (locs : List Loc) (ls : Array Slot), lv_has ls 4 [(0, .ref h_t), (1, .int y16_1)] → va_P (dC, dI) vwCl (wd_X8_laysFits cI cZ cP cS h_t h_t_turns h_t_phases h_t_ups h_t_typed h_t_texts h_t_diary h_t_longs h_t_awakes h_t_fit h_t_counts h_t_worths h_t_ripes h_t_growths h_t_gains h_t_isThere h_t_forms h_t_sizes h_t_items h_t_moved o1_1 o1_2 u28_m_fitMany u28_m_fitFirst v_m_finding v_m_turns v_m_ups v_m_typed v_m_texts o1_3 o1_4 u28_m_fit) H → va_D (va_A (wd_X8_laysFits cI cZ cP cS h_t h_t_turns h_t_phases h_t_ups h_t_typed h_t_texts h_t_diary h_t_longs h_t_awakes h_t_fit h_t_counts h_t_worths h_t_ripes h_t_growths h_t_gains h_t_isThere h_t_forms h_t_sizes h_t_items h_t_moved v_m_hours v_m_months v_m_fitMany v_m_fitFirst v_m_finding v_m_turns v_m_ups v_m_typed v_m_texts v_m_diary v_m_longs v_m_fit) s.heap.size) (wd_X8_laysFits cI cZ cP cS h_t h_t_turns h_t_phases h_t_ups h_t_typed h_t_texts h_t_diary h_t_longs h_t_awakes h_t_fit h_t_counts h_t_worths h_t_ripes h_t_growths h_t_gains h_t_isThere h_t_forms h_t_sizes h_t_items h_t_moved o1_1 o1_2 u28_m_fitMany u28_m_fitFirst v_m_finding v_m_turns v_m_ups v_m_typed v_m_texts o1_3 o1_4 u28_m_fit) → va_S (va_A (wd_X8_laysFits cI cZ cP cS h_t h_t_turns h_t_phases h_t_ups h_t_typed h_t_texts h_t_diary h_t_longs h_t_awakes h_t_fit h_t_counts h_t_worths h_t_ripes h_t_growths h_t_gains h_t_isThere h_t_forms h_t_sizes h_t_items h_t_moved v_m_hours v_m_months v_m_fitMany v_m_fitFirst v_m_finding v_m_turns v_m_ups v_m_typed v_m_texts v_m_diary v_m_longs v_m_fit) s.heap.size) s.heap H locs → kx28 u28_m_fitMany u28_m_fitFirst u28_m_fit = some (o_m_hours, o_m_months, o_m_fitMany, o_m_fitFirst, o_m_diary, o_m_longs, o_m_fit) → W p l e (headSpec wsX8_laysFits rm_X8_laysFits).room s m ([.ref h_t] : List Value).toArray below meth c H locs 0 0 (MQ below (RWv (dC, dI) (TY cI cZ cP cS) s.heap.size (wd_X8_laysFits cI cZ cP cS h_t h_t_turns h_t_phases h_t_ups h_t_typed h_t_texts h_t_diary h_t_longs h_t_awakes h_t_fit h_t_counts h_t_worths h_t_ripes h_t_growths h_t_gains h_t_isThere h_t_forms h_t_sizes h_t_items h_t_moved v_m_hours v_m_months v_m_fitMany v_m_fitFirst v_m_finding v_m_turns v_m_ups v_m_typed v_m_texts v_m_diary v_m_longs v_m_fit) (wd_X8_laysFits cI cZ cP cS h_t h_t_turns h_t_phases h_t_ups h_t_typed h_t_texts h_t_diary h_t_longs h_t_awakes h_t_fit h_t_counts h_t_worths h_t_ripes h_t_growths h_t_gains h_t_isThere h_t_forms h_t_sizes h_t_items h_t_moved o_m_hours o_m_months o_m_fitMany o_m_fitFirst v_m_finding v_m_turns v_m_ups v_m_typed v_m_texts o_m_diary o_m_longs o_m_fit)) ([.ref h_t] : List Value).toArray s 0 0 (va_A (wd_X8_laysFits cI cZ cP cS h_t h_t_turns h_t_phases h_t_ups h_t_typed h_t_texts h_t_diary h_t_longs h_t_awakes h_t_fit h_t_counts h_t_worths h_t_ripes h_t_growths h_t_gains h_t_isThere h_t_forms h_t_sizes h_t_items h_t_moved v_m_hours v_m_months v_m_fitMany v_m_fitFirst v_m_finding v_m_turns v_m_ups v_m_typed v_m_texts v_m_diary v_m_longs v_m_fit) s.heap.size)) (F0 m 109 ls []) := by
          intro u28_m_fitMany u28_m_fitFirst u28_m_fit H locs ls hl hP hD hS hf
          rw [ekx28] at hf
          refine lv_iinc (v := (y16_1 + 1)) (lv' := [(1, .int (y16_1 + 1)), (0, .ref h_t)]) hx hb dX8_laysFits_109 hl (k := 1) rfl rfl (by decide) rfl (fun ls hl => ?_)
          refine lv_goto (tgt := 16) hx hb dX8_laysFits_112 (by decide) ?_
          exact ih (y16_1 + 1) u28_m_fitMany u28_m_fitFirst u28_m_fit H locs ls (lv_sub hl [1, 0] rfl) hP hD hS hf
        have hL28 : ∀ (k28 : Nat) (y28_2 : Int32) (w28_m_fitMany : Int32) (w28_m_fitFirst : Int32) (w28_m_fit : Nat → Int32) (H : Heap) (locs : List Loc) (ls : Array Slot), lv_has ls 4 [(0, .ref h_t), (1, .int y16_1), (2, .int y28_2)] → va_P (dC, dI) vwCl (wd_X8_laysFits cI cZ cP cS h_t h_t_turns h_t_phases h_t_ups h_t_typed h_t_texts h_t_diary h_t_longs h_t_awakes h_t_fit h_t_counts h_t_worths h_t_ripes h_t_growths h_t_gains h_t_isThere h_t_forms h_t_sizes h_t_items h_t_moved o1_1 o1_2 w28_m_fitMany w28_m_fitFirst v_m_finding v_m_turns v_m_ups v_m_typed v_m_texts o1_3 o1_4 w28_m_fit) H → va_D (va_A (wd_X8_laysFits cI cZ cP cS h_t h_t_turns h_t_phases h_t_ups h_t_typed h_t_texts h_t_diary h_t_longs h_t_awakes h_t_fit h_t_counts h_t_worths h_t_ripes h_t_growths h_t_gains h_t_isThere h_t_forms h_t_sizes h_t_items h_t_moved v_m_hours v_m_months v_m_fitMany v_m_fitFirst v_m_finding v_m_turns v_m_ups v_m_typed v_m_texts v_m_diary v_m_longs v_m_fit) s.heap.size) (wd_X8_laysFits cI cZ cP cS h_t h_t_turns h_t_phases h_t_ups h_t_typed h_t_texts h_t_diary h_t_longs h_t_awakes h_t_fit h_t_counts h_t_worths h_t_ripes h_t_growths h_t_gains h_t_isThere h_t_forms h_t_sizes h_t_items h_t_moved o1_1 o1_2 w28_m_fitMany w28_m_fitFirst v_m_finding v_m_turns v_m_ups v_m_typed v_m_texts o1_3 o1_4 w28_m_fit) → va_S (va_A (wd_X8_laysFits cI cZ cP cS h_t h_t_turns h_t_phases h_t_ups h_t_typed h_t_texts h_t_diary h_t_longs h_t_awakes h_t_fit h_t_counts h_t_worths h_t_ripes h_t_growths h_t_gains h_t_isThere h_t_forms h_t_sizes h_t_items h_t_moved v_m_hours v_m_months v_m_fitMany v_m_fitFirst v_m_finding v_m_turns v_m_ups v_m_typed v_m_texts v_m_diary v_m_longs v_m_fit) s.heap.size) s.heap H locs → L_X8_laysFits_28 n v_m_turns v_m_ups o1_1 o1_3 y16_1 kx28 k28 y28_2 w28_m_fitMany w28_m_fitFirst w28_m_fit = some (o_m_hours, o_m_months, o_m_fitMany, o_m_fitFirst, o_m_diary, o_m_longs, o_m_fit) → W p l e (headSpec wsX8_laysFits rm_X8_laysFits).room s m ([.ref h_t] : List Value).toArray below meth c H locs 0 0 (MQ below (RWv (dC, dI) (TY cI cZ cP cS) s.heap.size (wd_X8_laysFits cI cZ cP cS h_t h_t_turns h_t_phases h_t_ups h_t_typed h_t_texts h_t_diary h_t_longs h_t_awakes h_t_fit h_t_counts h_t_worths h_t_ripes h_t_growths h_t_gains h_t_isThere h_t_forms h_t_sizes h_t_items h_t_moved v_m_hours v_m_months v_m_fitMany v_m_fitFirst v_m_finding v_m_turns v_m_ups v_m_typed v_m_texts v_m_diary v_m_longs v_m_fit) (wd_X8_laysFits cI cZ cP cS h_t h_t_turns h_t_phases h_t_ups h_t_typed h_t_texts h_t_diary h_t_longs h_t_awakes h_t_fit h_t_counts h_t_worths h_t_ripes h_t_growths h_t_gains h_t_isThere h_t_forms h_t_sizes h_t_items h_t_moved o_m_hours o_m_months o_m_fitMany o_m_fitFirst v_m_finding v_m_turns v_m_ups v_m_typed v_m_texts o_m_diary o_m_longs o_m_fit)) ([.ref h_t] : List Value).toArray s 0 0 (va_A (wd_X8_laysFits cI cZ cP cS h_t h_t_turns h_t_phases h_t_ups h_t_typed h_t_texts h_t_diary h_t_longs h_t_awakes h_t_fit h_t_counts h_t_worths h_t_ripes h_t_growths h_t_gains h_t_isThere h_t_forms h_t_sizes h_t_items h_t_moved v_m_hours v_m_months v_m_fitMany v_m_fitFirst v_m_finding v_m_turns v_m_ups v_m_typed v_m_texts v_m_diary v_m_longs v_m_fit) s.heap.size)) (F0 m 28 ls []) := by
          intro k28
          induction k28 with
          | zero =>
            intro y28_2 w28_m_fitMany w28_m_fitFirst w28_m_fit H locs ls hl hP hD hS hf
            exact absurd hf (fun h => Option.some_ne_none _ h.symm)
          | succ k28 ih =>
            intro y28_2 w28_m_fitMany w28_m_fitFirst w28_m_fit H locs ls hl hP hD hS hf
            rw [L_X8_laysFits_28_s] at hf
            refine lv_iload_n hx hb dX8_laysFits_28 rfl (lv_at hl 2 rfl) ?_
            refine lv_aload_n hx hb dX8_laysFits_29 rfl (lv_at hl 0 rfl) ?_
            refine va_get (D := (dC, dI)) (ci := 7) (v := .ref h_t_turns) (C := RX8) (T := TX8) (N := 24) hx hb hts hinX8 hown hK hP 0 rfl rfl 0 (by decide) (hts (.fieldLink RX8 7 "SecondSunriseModel" "turns" "[I") (by decide +kernel)) (fun _ h9 => h9) rfl dX8_laysFits_30 ?_
            refine lv_iconst (v := 1) hx hb dX8_laysFits_33 (by decide) ?_
            refine va_iald hx hb hK hP 1 0 rfl rfl (show vp_in 1 2 by unfold vp_in; decide) dX8_laysFits_34 ?_
            refine lv_icmp_ge (tgt := 109) hx hb dX8_laysFits_35 (by decide) (fun c35 => ?_) (fun c35 => ?_)
            · rw [if_pos c35] at hf
              exact hx28 w28_m_fitMany w28_m_fitFirst w28_m_fit H locs ls (lv_sub hl [0, 1] rfl) hP hD hS hf
            · rw [if_neg c35] at hf
              refine lv_aload_n hx hb dX8_laysFits_38 rfl (lv_at hl 0 rfl) ?_
              refine lv_iload_n hx hb dX8_laysFits_39 rfl (lv_at hl 1 rfl) ?_
              refine lv_iload_n hx hb dX8_laysFits_40 rfl (lv_at hl 2 rfl) ?_
              obtain ⟨r41_7, hc_8, hf⟩ := bd1_e hf
              refine vp_callSi (va_runV (As := [.int y16_1, .int y28_2]) (rest := []) ⟨hx, hb, hml, hown, hts⟩ (c_X8_doFit l dC dI cI cZ cP cS h_t h_t_turns h_t_phases h_t_ups h_t_typed h_t_texts h_t_diary h_t_longs h_t_awakes h_t_fit h_t_counts h_t_worths h_t_ripes h_t_growths h_t_gains h_t_isThere h_t_forms h_t_sizes h_t_items h_t_moved o1_1 o1_2 w28_m_fitMany w28_m_fitFirst v_m_finding v_m_turns v_m_ups o1_3 y16_1 y28_2 n r41_7 hc_8) (cwV 2 hts gX8_laysFits_X8_doFit rfl rfl rfl (by decide +kernel) ⟨Nat.le_of_ble_eq_true rfl, Nat.le_of_ble_eq_true rfl⟩) (pv_ro (ci := 7) (q0 := 0) hK (hP.sub (ws' := (wd_X8_doFit cI cZ cP cS h_t h_t_turns h_t_phases h_t_ups h_t_typed h_t_texts h_t_diary h_t_longs h_t_awakes h_t_fit h_t_counts h_t_worths h_t_ripes h_t_growths h_t_gains h_t_isThere h_t_forms h_t_sizes h_t_items h_t_moved o1_1 o1_2 w28_m_fitMany w28_m_fitFirst v_m_finding v_m_turns v_m_ups o1_3)) [0, 1, 2, 5] rfl) rfl rfl) rfl rfl hl.1 rfl (lv_room (Nat.le_of_ble_eq_true rfl)) dX8_laysFits_41 ⟨Nat.zero_le _, Nat.zero_le _⟩).run (fun x e_9 => ?_)
              obtain ⟨e_9, hb_10⟩ := e_9
              rw [e_9] at hb_10 ⊢
              refine lv_istore_n (lv' := [(3, .int r41_7), (0, .ref h_t), (1, .int y16_1), (2, .int y28_2)]) hx hb dX8_laysFits_44 rfl hl (by decide) rfl (fun ls hl => ?_)
              refine lv_aload_n hx hb dX8_laysFits_45 rfl (lv_at hl 1 rfl) ?_
              refine va_get (D := (dC, dI)) (ci := 7) (v := .ref h_t_fit) (C := RX8) (T := TX8) (N := 24) hx hb hts hinX8 hown hK hP 0 rfl rfl 10 (by decide) (hts (.fieldLink RX8 34 "SecondSunriseModel" "fit" "[Z") (by decide +kernel)) (fun _ h9 => h9) rfl dX8_laysFits_46 ?_
              refine lv_bipush (v := 40) hx hb dX8_laysFits_49 (by decide) ?_
              refine lv_iload_n hx hb dX8_laysFits_51 rfl (lv_at hl 2 rfl) ?_
              refine lv_imul hx hb dX8_laysFits_52 ?_
              refine lv_iload_n hx hb dX8_laysFits_53 rfl (lv_at hl 3 rfl) ?_
              refine lv_iadd hx hb dX8_laysFits_54 ?_
              refine lv_iload_n hx hb dX8_laysFits_55 rfl (lv_at hl 0 rfl) ?_
              obtain ⟨hi_11, hf⟩ := ix_e hf
              refine va_zast hx hb hK hP hD hS 7 1 rfl rfl hi_11 dX8_laysFits_56 (fun H locs hP hD hS => ?_)
              have hP : va_P (dC, dI) vwCl (wd_X8_laysFits cI cZ cP cS h_t h_t_turns h_t_phases h_t_ups h_t_typed h_t_texts h_t_diary h_t_longs h_t_awakes h_t_fit h_t_counts h_t_worths h_t_ripes h_t_growths h_t_gains h_t_isThere h_t_forms h_t_sizes h_t_items h_t_moved o1_1 o1_2 w28_m_fitMany w28_m_fitFirst v_m_finding v_m_turns v_m_ups v_m_typed v_m_texts o1_3 o1_4 (upd w28_m_fit ((40 * y16_1) + y28_2).toNatClampNeg (vp_nar .boolean r41_7))) H := hP
              have hD : va_D (va_A (wd_X8_laysFits cI cZ cP cS h_t h_t_turns h_t_phases h_t_ups h_t_typed h_t_texts h_t_diary h_t_longs h_t_awakes h_t_fit h_t_counts h_t_worths h_t_ripes h_t_growths h_t_gains h_t_isThere h_t_forms h_t_sizes h_t_items h_t_moved v_m_hours v_m_months v_m_fitMany v_m_fitFirst v_m_finding v_m_turns v_m_ups v_m_typed v_m_texts v_m_diary v_m_longs v_m_fit) s.heap.size) (wd_X8_laysFits cI cZ cP cS h_t h_t_turns h_t_phases h_t_ups h_t_typed h_t_texts h_t_diary h_t_longs h_t_awakes h_t_fit h_t_counts h_t_worths h_t_ripes h_t_growths h_t_gains h_t_isThere h_t_forms h_t_sizes h_t_items h_t_moved o1_1 o1_2 w28_m_fitMany w28_m_fitFirst v_m_finding v_m_turns v_m_ups v_m_typed v_m_texts o1_3 o1_4 (upd w28_m_fit ((40 * y16_1) + y28_2).toNatClampNeg (vp_nar .boolean r41_7))) := hD
              refine lv_aload_n hx hb dX8_laysFits_57 rfl (lv_at hl 1 rfl) ?_
              refine lv_iload_n hx hb dX8_laysFits_58 rfl (lv_at hl 0 rfl) ?_
              obtain ⟨k82, ek82, hf⟩ := jn1_e hf
              have hj82 : ∀ (q82_0 : Int32) (ls : Array Slot), lv_has ls 4 [(0, .ref h_t), (1, .int y16_1), (2, .int y28_2), (3, .int r41_7)] → k82 q82_0 = some (o_m_hours, o_m_months, o_m_fitMany, o_m_fitFirst, o_m_diary, o_m_longs, o_m_fit) → W p l e (headSpec wsX8_laysFits rm_X8_laysFits).room s m ([.ref h_t] : List Value).toArray below meth c H locs 0 0 (MQ below (RWv (dC, dI) (TY cI cZ cP cS) s.heap.size (wd_X8_laysFits cI cZ cP cS h_t h_t_turns h_t_phases h_t_ups h_t_typed h_t_texts h_t_diary h_t_longs h_t_awakes h_t_fit h_t_counts h_t_worths h_t_ripes h_t_growths h_t_gains h_t_isThere h_t_forms h_t_sizes h_t_items h_t_moved v_m_hours v_m_months v_m_fitMany v_m_fitFirst v_m_finding v_m_turns v_m_ups v_m_typed v_m_texts v_m_diary v_m_longs v_m_fit) (wd_X8_laysFits cI cZ cP cS h_t h_t_turns h_t_phases h_t_ups h_t_typed h_t_texts h_t_diary h_t_longs h_t_awakes h_t_fit h_t_counts h_t_worths h_t_ripes h_t_growths h_t_gains h_t_isThere h_t_forms h_t_sizes h_t_items h_t_moved o_m_hours o_m_months o_m_fitMany o_m_fitFirst v_m_finding v_m_turns v_m_ups v_m_typed v_m_texts o_m_diary o_m_longs o_m_fit)) ([.ref h_t] : List Value).toArray s 0 0 (va_A (wd_X8_laysFits cI cZ cP cS h_t h_t_turns h_t_phases h_t_ups h_t_typed h_t_texts h_t_diary h_t_longs h_t_awakes h_t_fit h_t_counts h_t_worths h_t_ripes h_t_growths h_t_gains h_t_isThere h_t_forms h_t_sizes h_t_items h_t_moved v_m_hours v_m_months v_m_fitMany v_m_fitFirst v_m_finding v_m_turns v_m_ups v_m_typed v_m_texts v_m_diary v_m_longs v_m_fit) s.heap.size)) (F0 m 82 ls [.int q82_0, .ref h_t]) := by
                intro q82_0 ls hl hf
                rw [ek82] at hf
                refine va_put (D := (dC, dI)) (ci := 7) (v := .int q82_0) (ty := .int) (C := RX8) (T := TX8) (N := 24) hx hb hts hinX8 tyX8 tyX8_ok nmX8 hown hK hP hD hS 0 rfl rfl 12 (by decide) (hts (.fieldLink RX8 179 "SecondSunriseModel" "fitFirst" "I") (by decide +kernel)) (fun _ h9 => h9) rfl (by decide +kernel) rfl rfl (Nat.le_of_ble_eq_true rfl) dX8_laysFits_82 (fun H locs hP hD hS => ?_)
                have hP : va_P (dC, dI) vwCl (wd_X8_laysFits cI cZ cP cS h_t h_t_turns h_t_phases h_t_ups h_t_typed h_t_texts h_t_diary h_t_longs h_t_awakes h_t_fit h_t_counts h_t_worths h_t_ripes h_t_growths h_t_gains h_t_isThere h_t_forms h_t_sizes h_t_items h_t_moved o1_1 o1_2 w28_m_fitMany q82_0 v_m_finding v_m_turns v_m_ups v_m_typed v_m_texts o1_3 o1_4 (upd w28_m_fit ((40 * y16_1) + y28_2).toNatClampNeg (vp_nar .boolean r41_7))) H := hP
                have hD : va_D (va_A (wd_X8_laysFits cI cZ cP cS h_t h_t_turns h_t_phases h_t_ups h_t_typed h_t_texts h_t_diary h_t_longs h_t_awakes h_t_fit h_t_counts h_t_worths h_t_ripes h_t_growths h_t_gains h_t_isThere h_t_forms h_t_sizes h_t_items h_t_moved v_m_hours v_m_months v_m_fitMany v_m_fitFirst v_m_finding v_m_turns v_m_ups v_m_typed v_m_texts v_m_diary v_m_longs v_m_fit) s.heap.size) (wd_X8_laysFits cI cZ cP cS h_t h_t_turns h_t_phases h_t_ups h_t_typed h_t_texts h_t_diary h_t_longs h_t_awakes h_t_fit h_t_counts h_t_worths h_t_ripes h_t_growths h_t_gains h_t_isThere h_t_forms h_t_sizes h_t_items h_t_moved o1_1 o1_2 w28_m_fitMany q82_0 v_m_finding v_m_turns v_m_ups v_m_typed v_m_texts o1_3 o1_4 (upd w28_m_fit ((40 * y16_1) + y28_2).toNatClampNeg (vp_nar .boolean r41_7))) := hD
                refine lv_aload_n hx hb dX8_laysFits_85 rfl (lv_at hl 0 rfl) ?_
                refine lv_dup hx hb dX8_laysFits_86 rfl ?_
                refine va_get (D := (dC, dI)) (ci := 7) (v := .int w28_m_fitMany) (C := RX8) (T := TX8) (N := 24) hx hb hts hinX8 hown hK hP 0 rfl rfl 11 (by decide) (hts (.fieldLink RX8 176 "SecondSunriseModel" "fitMany" "I") (by decide +kernel)) (fun _ h9 => h9) rfl dX8_laysFits_87 ?_
                refine lv_iload_n hx hb dX8_laysFits_90 rfl (lv_at hl 3 rfl) ?_
                obtain ⟨v99_12, ev99_12, hf⟩ := lt_e hf
                have hj99_13 : ∀ (ls : Array Slot), lv_has ls 4 [(0, .ref h_t), (1, .int y16_1), (2, .int y28_2)] → W p l e (headSpec wsX8_laysFits rm_X8_laysFits).room s m ([.ref h_t] : List Value).toArray below meth c H locs 0 0 (MQ below (RWv (dC, dI) (TY cI cZ cP cS) s.heap.size (wd_X8_laysFits cI cZ cP cS h_t h_t_turns h_t_phases h_t_ups h_t_typed h_t_texts h_t_diary h_t_longs h_t_awakes h_t_fit h_t_counts h_t_worths h_t_ripes h_t_growths h_t_gains h_t_isThere h_t_forms h_t_sizes h_t_items h_t_moved v_m_hours v_m_months v_m_fitMany v_m_fitFirst v_m_finding v_m_turns v_m_ups v_m_typed v_m_texts v_m_diary v_m_longs v_m_fit) (wd_X8_laysFits cI cZ cP cS h_t h_t_turns h_t_phases h_t_ups h_t_typed h_t_texts h_t_diary h_t_longs h_t_awakes h_t_fit h_t_counts h_t_worths h_t_ripes h_t_growths h_t_gains h_t_isThere h_t_forms h_t_sizes h_t_items h_t_moved o_m_hours o_m_months o_m_fitMany o_m_fitFirst v_m_finding v_m_turns v_m_ups v_m_typed v_m_texts o_m_diary o_m_longs o_m_fit)) ([.ref h_t] : List Value).toArray s 0 0 (va_A (wd_X8_laysFits cI cZ cP cS h_t h_t_turns h_t_phases h_t_ups h_t_typed h_t_texts h_t_diary h_t_longs h_t_awakes h_t_fit h_t_counts h_t_worths h_t_ripes h_t_growths h_t_gains h_t_isThere h_t_forms h_t_sizes h_t_items h_t_moved v_m_hours v_m_months v_m_fitMany v_m_fitFirst v_m_finding v_m_turns v_m_ups v_m_typed v_m_texts v_m_diary v_m_longs v_m_fit) s.heap.size)) (F0 m 99 ls [.int v99_12, .int w28_m_fitMany, .ref h_t]) := by
                  intro ls hl
                  refine lv_iadd hx hb dX8_laysFits_99 ?_
                  refine va_put (D := (dC, dI)) (ci := 7) (v := .int (w28_m_fitMany + v99_12)) (ty := .int) (C := RX8) (T := TX8) (N := 24) hx hb hts hinX8 tyX8 tyX8_ok nmX8 hown hK hP hD hS 0 rfl rfl 11 (by decide) (hts (.fieldLink RX8 176 "SecondSunriseModel" "fitMany" "I") (by decide +kernel)) (fun _ h9 => h9) rfl (by decide +kernel) rfl rfl (Nat.le_of_ble_eq_true rfl) dX8_laysFits_100 (fun H locs hP hD hS => ?_)
                  have hP : va_P (dC, dI) vwCl (wd_X8_laysFits cI cZ cP cS h_t h_t_turns h_t_phases h_t_ups h_t_typed h_t_texts h_t_diary h_t_longs h_t_awakes h_t_fit h_t_counts h_t_worths h_t_ripes h_t_growths h_t_gains h_t_isThere h_t_forms h_t_sizes h_t_items h_t_moved o1_1 o1_2 (w28_m_fitMany + v99_12) q82_0 v_m_finding v_m_turns v_m_ups v_m_typed v_m_texts o1_3 o1_4 (upd w28_m_fit ((40 * y16_1) + y28_2).toNatClampNeg (vp_nar .boolean r41_7))) H := hP
                  have hD : va_D (va_A (wd_X8_laysFits cI cZ cP cS h_t h_t_turns h_t_phases h_t_ups h_t_typed h_t_texts h_t_diary h_t_longs h_t_awakes h_t_fit h_t_counts h_t_worths h_t_ripes h_t_growths h_t_gains h_t_isThere h_t_forms h_t_sizes h_t_items h_t_moved v_m_hours v_m_months v_m_fitMany v_m_fitFirst v_m_finding v_m_turns v_m_ups v_m_typed v_m_texts v_m_diary v_m_longs v_m_fit) s.heap.size) (wd_X8_laysFits cI cZ cP cS h_t h_t_turns h_t_phases h_t_ups h_t_typed h_t_texts h_t_diary h_t_longs h_t_awakes h_t_fit h_t_counts h_t_worths h_t_ripes h_t_growths h_t_gains h_t_isThere h_t_forms h_t_sizes h_t_items h_t_moved o1_1 o1_2 (w28_m_fitMany + v99_12) q82_0 v_m_finding v_m_turns v_m_ups v_m_typed v_m_texts o1_3 o1_4 (upd w28_m_fit ((40 * y16_1) + y28_2).toNatClampNeg (vp_nar .boolean r41_7))) := hD
                  refine lv_iinc (v := (y28_2 + 1)) (lv' := [(2, .int (y28_2 + 1)), (0, .ref h_t), (1, .int y16_1)]) hx hb dX8_laysFits_103 hl (k := 2) rfl rfl (by decide) rfl (fun ls hl => ?_)
                  refine lv_goto (tgt := 28) hx hb dX8_laysFits_106 (by decide) ?_
                  exact ih (y28_2 + 1) (w28_m_fitMany + v99_12) q82_0 (upd w28_m_fit ((40 * y16_1) + y28_2).toNatClampNeg (vp_nar .boolean r41_7)) H locs ls (lv_sub hl [1, 2, 0] rfl) hP hD hS hf
                clear hf
                refine lv_if_eq (tgt := 98) hx hb dX8_laysFits_91 (by decide) (fun c91 => ?_) (fun c91 => ?_)
                ·
                  refine lv_iconst (v := 0) hx hb dX8_laysFits_98 (by decide) ?_
                  rw [if_pos c91] at ev99_12
                  subst ev99_12
                  exact hj99_13 ls (lv_sub hl [0, 1, 2] rfl)
                ·
                  refine lv_iconst (v := 1) hx hb dX8_laysFits_94 (by decide) ?_
                  refine lv_goto (tgt := 99) hx hb dX8_laysFits_95 (by decide) ?_
                  rw [if_neg c91] at ev99_12
                  subst ev99_12
                  exact hj99_13 ls (lv_sub hl [0, 1, 2] rfl)
              obtain ⟨k78, ek78, hf⟩ := jn0_e hf
              have hj78 : ∀ (ls : Array Slot), lv_has ls 4 [(0, .ref h_t), (1, .int y16_1), (2, .int y28_2), (3, .int r41_7)] → k78 = some (o_m_hours, o_m_months, o_m_fitMany, o_m_fitFirst, o_m_diary, o_m_longs, o_m_fit) → W p l e (headSpec wsX8_laysFits rm_X8_laysFits).room s m ([.ref h_t] : List Value).toArray below meth c H locs 0 0 (MQ below (RWv (dC, dI) (TY cI cZ cP cS) s.heap.size (wd_X8_laysFits cI cZ cP cS h_t h_t_turns h_t_phases h_t_ups h_t_typed h_t_texts h_t_diary h_t_longs h_t_awakes h_t_fit h_t_counts h_t_worths h_t_ripes h_t_growths h_t_gains h_t_isThere h_t_forms h_t_sizes h_t_items h_t_moved v_m_hours v_m_months v_m_fitMany v_m_fitFirst v_m_finding v_m_turns v_m_ups v_m_typed v_m_texts v_m_diary v_m_longs v_m_fit) (wd_X8_laysFits cI cZ cP cS h_t h_t_turns h_t_phases h_t_ups h_t_typed h_t_texts h_t_diary h_t_longs h_t_awakes h_t_fit h_t_counts h_t_worths h_t_ripes h_t_growths h_t_gains h_t_isThere h_t_forms h_t_sizes h_t_items h_t_moved o_m_hours o_m_months o_m_fitMany o_m_fitFirst v_m_finding v_m_turns v_m_ups v_m_typed v_m_texts o_m_diary o_m_longs o_m_fit)) ([.ref h_t] : List Value).toArray s 0 0 (va_A (wd_X8_laysFits cI cZ cP cS h_t h_t_turns h_t_phases h_t_ups h_t_typed h_t_texts h_t_diary h_t_longs h_t_awakes h_t_fit h_t_counts h_t_worths h_t_ripes h_t_growths h_t_gains h_t_isThere h_t_forms h_t_sizes h_t_items h_t_moved v_m_hours v_m_months v_m_fitMany v_m_fitFirst v_m_finding v_m_turns v_m_ups v_m_typed v_m_texts v_m_diary v_m_longs v_m_fit) s.heap.size)) (F0 m 78 ls [.ref h_t]) := by
                intro ls hl hf
                rw [ek78] at hf
                refine lv_aload_n hx hb dX8_laysFits_78 rfl (lv_at hl 0 rfl) ?_
                refine va_get (D := (dC, dI)) (ci := 7) (v := .int w28_m_fitFirst) (C := RX8) (T := TX8) (N := 24) hx hb hts hinX8 hown hK hP 0 rfl rfl 12 (by decide) (hts (.fieldLink RX8 179 "SecondSunriseModel" "fitFirst" "I") (by decide +kernel)) (fun _ h9 => h9) rfl dX8_laysFits_79 ?_
                exact hj82 w28_m_fitFirst ls (lv_sub hl [0, 1, 2, 3] rfl) hf
              refine lv_if_eq (tgt := 78) hx hb dX8_laysFits_59 (by decide) (fun c59 => ?_) (fun c59 => ?_)
              · rw [if_pos c59] at hf
                exact hj78 ls (lv_sub hl [1, 2, 3, 0] rfl) hf
              · rw [if_neg c59] at hf
                refine lv_aload_n hx hb dX8_laysFits_62 rfl (lv_at hl 1 rfl) ?_
                refine va_get (D := (dC, dI)) (ci := 7) (v := .int w28_m_fitMany) (C := RX8) (T := TX8) (N := 24) hx hb hts hinX8 hown hK hP 0 rfl rfl 11 (by decide) (hts (.fieldLink RX8 176 "SecondSunriseModel" "fitMany" "I") (by decide +kernel)) (fun _ h9 => h9) rfl dX8_laysFits_63 ?_
                refine lv_if_ne (tgt := 78) hx hb dX8_laysFits_66 (by decide) (fun c66 => ?_) (fun c66 => ?_)
                · rw [if_neg c66] at hf
                  exact hj78 ls (lv_sub hl [1, 2, 3, 0] rfl) hf
                · rw [if_pos c66] at hf
                  refine lv_bipush (v := 40) hx hb dX8_laysFits_69 (by decide) ?_
                  refine lv_iload_n hx hb dX8_laysFits_71 rfl (lv_at hl 2 rfl) ?_
                  refine lv_imul hx hb dX8_laysFits_72 ?_
                  refine lv_iload_n hx hb dX8_laysFits_73 rfl (lv_at hl 3 rfl) ?_
                  refine lv_iadd hx hb dX8_laysFits_74 ?_
                  refine lv_goto (tgt := 82) hx hb dX8_laysFits_75 (by decide) ?_
                  exact hj82 ((40 * y16_1) + y28_2) ls (lv_sub hl [1, 2, 3, 0] rfl) hf
        exact hL28 n 0 w16_m_fitMany w16_m_fitFirst w16_m_fit H locs ls (lv_sub hl [1, 2, 0] rfl) hP hD hS hf
  exact hL16 n 0 0 (-1) v_m_fit H locs ls (lv_sub hl [1, 0] rfl) hP hD hS hf

abbrev wd_X8_fitsOf (cI cZ cP cS : ClassId) (h_t h_t_turns h_t_phases h_t_ups h_t_typed h_t_texts h_t_diary h_t_longs h_t_awakes h_t_fit h_t_counts h_t_worths h_t_ripes h_t_growths h_t_gains h_t_isThere h_t_forms h_t_sizes h_t_items h_t_moved : Nat) (v_m_hours : Int32) (v_m_months : Int32) (v_m_fitMany : Int32) (v_m_fitFirst : Int32) (v_m_finding : Int32) (v_m_turns : Nat → Int32) (v_m_ups : Nat → Int32) (v_m_typed : Nat → Int32) (v_m_texts : Nat → Int32) (v_m_diary : Nat → Int32) (v_m_longs : Nat → Int32) (v_m_fit : Nat → Int32) : va_W := [(h_t, .inr (7, [.ref h_t_turns, .ref h_t_phases, .ref h_t_ups, .ref h_t_typed, .ref h_t_texts, .int v_m_hours, .ref h_t_diary, .int v_m_months, .ref h_t_longs, .ref h_t_awakes, .ref h_t_fit, .int v_m_fitMany, .int v_m_fitFirst, .ref h_t_counts, .ref h_t_worths, .ref h_t_ripes, .ref h_t_growths, .ref h_t_gains, .ref h_t_isThere, .ref h_t_forms, .ref h_t_sizes, .ref h_t_items, .ref h_t_moved, .int v_m_finding])), (h_t_turns, .inl (cI, 2, .inl v_m_turns)), (h_t_ups, .inl (cI, 2, .inl v_m_ups)), (h_t_typed, .inl (cI, 2, .inl v_m_typed)), (h_t_texts, .inl (cI, 120, .inl v_m_texts)), (h_t_diary, .inl (cI, 60, .inl v_m_diary)), (h_t_longs, .inl (cI, 7, .inl v_m_longs)), (h_t_fit, .inl (cZ, 1600, .inl v_m_fit))]
abbrev rm_X8_fitsOf : Room := { frames := 6, cells := 0, slots := 0, locals := 135 }
def f_X8_fitsOf (n : Nat) (v_m_hours : Int32) (v_m_months : Int32) (v_m_fitMany : Int32) (v_m_fitFirst : Int32) (v_m_turns : Nat → Int32) (v_m_ups : Nat → Int32) (v_m_typed : Nat → Int32) (v_m_texts : Nat → Int32) (v_m_diary : Nat → Int32) (v_m_longs : Nat → Int32) (v_m_fit : Nat → Int32) (x1 : Int32) : Option (Int32 × Int32 × Int32 × Int32 × Int32 × (Nat → Int32) × (Nat → Int32) × (Nat → Int32)) := bd7_ (f_X8_laysFits n v_m_hours v_m_months v_m_fitMany v_m_fitFirst v_m_turns v_m_ups v_m_typed v_m_texts v_m_diary v_m_longs v_m_fit) (fun (o1_1 : Int32) (o1_2 : Int32) (o1_3 : Int32) (o1_4 : Int32) (o1_5 : Nat → Int32) (o1_6 : Nat → Int32) (o1_7 : Nat → Int32) => if x1 = 0 then some (o1_3, o1_1, o1_2, o1_3, o1_4, o1_5, o1_6, o1_7) else some (o1_4, o1_1, o1_2, o1_3, o1_4, o1_5, o1_6, o1_7))
set_option maxHeartbeats 4000000 in
set_option maxRecDepth 100000 in
theorem c_X8_fitsOf (l : Launch) (dC : Nat → ClassId) (dI : Nat → Nat → Nat) (cI cZ cP cS : ClassId) (sz : Nat) (h_t h_t_turns h_t_phases h_t_ups h_t_typed h_t_texts h_t_diary h_t_longs h_t_awakes h_t_fit h_t_counts h_t_worths h_t_ripes h_t_growths h_t_gains h_t_isThere h_t_forms h_t_sizes h_t_items h_t_moved : Nat) (v_m_hours : Int32) (v_m_months : Int32) (v_m_fitMany : Int32) (v_m_fitFirst : Int32) (v_m_finding : Int32) (v_m_turns : Nat → Int32) (v_m_ups : Nat → Int32) (v_m_typed : Nat → Int32) (v_m_texts : Nat → Int32) (v_m_diary : Nat → Int32) (v_m_longs : Nat → Int32) (v_m_fit : Nat → Int32) (x1 : Int32) (n : Nat) (r : Int32) (o_m_hours : Int32) (o_m_months : Int32) (o_m_fitMany : Int32) (o_m_fitFirst : Int32) (o_m_diary : Nat → Int32) (o_m_longs : Nat → Int32) (o_m_fit : Nat → Int32) (hf : f_X8_fitsOf n v_m_hours v_m_months v_m_fitMany v_m_fitFirst v_m_turns v_m_ups v_m_typed v_m_texts v_m_diary v_m_longs v_m_fit x1 = some (r, o_m_hours, o_m_months, o_m_fitMany, o_m_fitFirst, o_m_diary, o_m_longs, o_m_fit)) : Met l yX8_fitsOf wsX8_fitsOf rm_X8_fitsOf (RW (dC, dI) (TY cI cZ cP cS) [.ref h_t, .int x1] sz (wd_X8_fitsOf cI cZ cP cS h_t h_t_turns h_t_phases h_t_ups h_t_typed h_t_texts h_t_diary h_t_longs h_t_awakes h_t_fit h_t_counts h_t_worths h_t_ripes h_t_growths h_t_gains h_t_isThere h_t_forms h_t_sizes h_t_items h_t_moved v_m_hours v_m_months v_m_fitMany v_m_fitFirst v_m_finding v_m_turns v_m_ups v_m_typed v_m_texts v_m_diary v_m_longs v_m_fit)) (RWi (dC, dI) (TY cI cZ cP cS) r sz (wd_X8_fitsOf cI cZ cP cS h_t h_t_turns h_t_phases h_t_ups h_t_typed h_t_texts h_t_diary h_t_longs h_t_awakes h_t_fit h_t_counts h_t_worths h_t_ripes h_t_growths h_t_gains h_t_isThere h_t_forms h_t_sizes h_t_items h_t_moved v_m_hours v_m_months v_m_fitMany v_m_fitFirst v_m_finding v_m_turns v_m_ups v_m_typed v_m_texts v_m_diary v_m_longs v_m_fit) (wd_X8_fitsOf cI cZ cP cS h_t h_t_turns h_t_phases h_t_ups h_t_typed h_t_texts h_t_diary h_t_longs h_t_awakes h_t_fit h_t_counts h_t_worths h_t_ripes h_t_growths h_t_gains h_t_isThere h_t_forms h_t_sizes h_t_items h_t_moved o_m_hours o_m_months o_m_fitMany o_m_fitFirst v_m_finding v_m_turns v_m_ups v_m_typed v_m_texts o_m_diary o_m_longs o_m_fit)) 0 0 (va_A (wd_X8_fitsOf cI cZ cP cS h_t h_t_turns h_t_phases h_t_ups h_t_typed h_t_texts h_t_diary h_t_longs h_t_awakes h_t_fit h_t_counts h_t_worths h_t_ripes h_t_growths h_t_gains h_t_isThere h_t_forms h_t_sizes h_t_items h_t_moved v_m_hours v_m_months v_m_fitMany v_m_fitFirst v_m_finding v_m_turns v_m_ups v_m_typed v_m_texts v_m_diary v_m_longs v_m_fit) sz) := by
  refine Met.ofW (cc := cX8_fitsOf) (maxL := 2) (ret := (some .int)) (by decide) rfl ?_
  intro p e s m args below meth c s₁ B hml hv
  obtain ⟨rfl, hsz, hP, hK, hD0⟩ := hv
  have hx := B.exec
  have hb := B.bytes
  have hr := B.returns
  have hts := atoms_spec (ws := wsX8_fitsOf) B.pre
  have hown : s.vm.findClass RX8 = some m.cls := findClass_of_methodNamed B.named
  have hlocks := B.notSynchronized
  subst hsz
  have hD := hD0.self (sz := s.heap.size)
  have hA : ∀ q : Nat, s.heap.size ≤ q → (va_A (wd_X8_fitsOf cI cZ cP cS h_t h_t_turns h_t_phases h_t_ups h_t_typed h_t_texts h_t_diary h_t_longs h_t_awakes h_t_fit h_t_counts h_t_worths h_t_ripes h_t_growths h_t_gains h_t_isThere h_t_forms h_t_sizes h_t_items h_t_moved v_m_hours v_m_months v_m_fitMany v_m_fitFirst v_m_finding v_m_turns v_m_ups v_m_typed v_m_texts v_m_diary v_m_longs v_m_fit) s.heap.size) q := fun q h => Or.inr h
  have hS : va_S (va_A (wd_X8_fitsOf cI cZ cP cS h_t h_t_turns h_t_phases h_t_ups h_t_typed h_t_texts h_t_diary h_t_longs h_t_awakes h_t_fit h_t_counts h_t_worths h_t_ripes h_t_growths h_t_gains h_t_isThere h_t_forms h_t_sizes h_t_items h_t_moved v_m_hours v_m_months v_m_fitMany v_m_fitFirst v_m_finding v_m_turns v_m_ups v_m_typed v_m_texts v_m_diary v_m_longs v_m_fit) s.heap.size) s.heap s.heap [] := va_S.rf
  have hinX8 : ∀ w ∈ wsX80, w ∈ wsX8_fitsOf := by decide +kernel
  have hl := lv_entry ([.ref h_t, .int x1]) (n := 2) (Nat.le_of_ble_eq_true rfl)
  rw [lg_entry_eq]
  generalize (lg_sl ([.ref h_t, .int x1]) ++ List.replicate (2 - (lg_sl ([.ref h_t, .int x1])).length) Slot.unset).toArray = ls at hl ⊢
  have hl : lv_has ls 2 [(0, .ref h_t), (1, .int x1)] := hl
  obtain ⟨H, hH⟩ : ∃ H : Heap, H = s.heap := ⟨_, rfl⟩
  have hP : va_P (dC, dI) vwCl (wd_X8_fitsOf cI cZ cP cS h_t h_t_turns h_t_phases h_t_ups h_t_typed h_t_texts h_t_diary h_t_longs h_t_awakes h_t_fit h_t_counts h_t_worths h_t_ripes h_t_growths h_t_gains h_t_isThere h_t_forms h_t_sizes h_t_items h_t_moved v_m_hours v_m_months v_m_fitMany v_m_fitFirst v_m_finding v_m_turns v_m_ups v_m_typed v_m_texts v_m_diary v_m_longs v_m_fit) H := by rw [hH]; exact hP
  have hS : va_S (va_A (wd_X8_fitsOf cI cZ cP cS h_t h_t_turns h_t_phases h_t_ups h_t_typed h_t_texts h_t_diary h_t_longs h_t_awakes h_t_fit h_t_counts h_t_worths h_t_ripes h_t_growths h_t_gains h_t_isThere h_t_forms h_t_sizes h_t_items h_t_moved v_m_hours v_m_months v_m_fitMany v_m_fitFirst v_m_finding v_m_turns v_m_ups v_m_typed v_m_texts v_m_diary v_m_longs v_m_fit) s.heap.size) s.heap H [] := by rw [hH]; exact hS
  obtain ⟨locs, hlo⟩ : ∃ L : List Loc, L = [] := ⟨_, rfl⟩
  rw [← hlo] at hS
  suffices hgo : W p l e (headSpec wsX8_fitsOf rm_X8_fitsOf).room s m ([.ref h_t, .int x1] : List Value).toArray below meth c H locs 0 0 (MQ below (RWi (dC, dI) (TY cI cZ cP cS) r s.heap.size (wd_X8_fitsOf cI cZ cP cS h_t h_t_turns h_t_phases h_t_ups h_t_typed h_t_texts h_t_diary h_t_longs h_t_awakes h_t_fit h_t_counts h_t_worths h_t_ripes h_t_growths h_t_gains h_t_isThere h_t_forms h_t_sizes h_t_items h_t_moved v_m_hours v_m_months v_m_fitMany v_m_fitFirst v_m_finding v_m_turns v_m_ups v_m_typed v_m_texts v_m_diary v_m_longs v_m_fit) (wd_X8_fitsOf cI cZ cP cS h_t h_t_turns h_t_phases h_t_ups h_t_typed h_t_texts h_t_diary h_t_longs h_t_awakes h_t_fit h_t_counts h_t_worths h_t_ripes h_t_growths h_t_gains h_t_isThere h_t_forms h_t_sizes h_t_items h_t_moved o_m_hours o_m_months o_m_fitMany o_m_fitFirst v_m_finding v_m_turns v_m_ups v_m_typed v_m_texts o_m_diary o_m_longs o_m_fit)) ([.ref h_t, .int x1] : List Value).toArray s 0 0 (va_A (wd_X8_fitsOf cI cZ cP cS h_t h_t_turns h_t_phases h_t_ups h_t_typed h_t_texts h_t_diary h_t_longs h_t_awakes h_t_fit h_t_counts h_t_worths h_t_ripes h_t_growths h_t_gains h_t_isThere h_t_forms h_t_sizes h_t_items h_t_moved v_m_hours v_m_months v_m_fitMany v_m_fitFirst v_m_finding v_m_turns v_m_ups v_m_typed v_m_texts v_m_diary v_m_longs v_m_fit) s.heap.size)) (F0 m 0 ls []) by rw [hH, hlo] at hgo; exact hgo
  clear hH hlo
  unfold f_X8_fitsOf at hf
  refine lv_aload_n hx hb dX8_fitsOf_0 rfl (lv_at hl 0 rfl) ?_
  obtain ⟨o1_1, o1_2, o1_3, o1_4, o1_5, o1_6, o1_7, hc_8, hf⟩ := bd7_e hf
  refine rwv_call (isC := [0, 1, 2, 3, 4, 5, 6, 7]) (isR := []) (perm := [0, 1, 2, 3, 4, 5, 6, 7]) (wr := []) (ws2 := (wd_X8_fitsOf cI cZ cP cS h_t h_t_turns h_t_phases h_t_ups h_t_typed h_t_texts h_t_diary h_t_longs h_t_awakes h_t_fit h_t_counts h_t_worths h_t_ripes h_t_growths h_t_gains h_t_isThere h_t_forms h_t_sizes h_t_items h_t_moved o1_1 o1_2 o1_3 o1_4 v_m_finding v_m_turns v_m_ups v_m_typed v_m_texts o1_5 o1_6 o1_7)) (va_runV (As := []) (rest := []) ⟨hx, hb, hml, hown, hts⟩ (c_X8_laysFits l dC dI cI cZ cP cS H.size h_t h_t_turns h_t_phases h_t_ups h_t_typed h_t_texts h_t_diary h_t_longs h_t_awakes h_t_fit h_t_counts h_t_worths h_t_ripes h_t_growths h_t_gains h_t_isThere h_t_forms h_t_sizes h_t_items h_t_moved v_m_hours v_m_months v_m_fitMany v_m_fitFirst v_m_finding v_m_turns v_m_ups v_m_typed v_m_texts v_m_diary v_m_longs v_m_fit  n o1_1 o1_2 o1_3 o1_4 o1_5 o1_6 o1_7 hc_8) (cwV 0 hts gX8_fitsOf_X8_laysFits rfl rfl rfl (by decide +kernel) ⟨Nat.le_of_ble_eq_true rfl, Nat.le_of_ble_eq_true rfl⟩) (pv_rw (ci := 7) (q0 := 0) hK (hP.sub (ws' := (wd_X8_laysFits cI cZ cP cS h_t h_t_turns h_t_phases h_t_ups h_t_typed h_t_texts h_t_diary h_t_longs h_t_awakes h_t_fit h_t_counts h_t_worths h_t_ripes h_t_growths h_t_gains h_t_isThere h_t_forms h_t_sizes h_t_items h_t_moved v_m_hours v_m_months v_m_fitMany v_m_fitFirst v_m_finding v_m_turns v_m_ups v_m_typed v_m_texts v_m_diary v_m_longs v_m_fit)) [0, 1, 2, 3, 4, 5, 6, 7] rfl) (hD.sub (ws' := (wd_X8_laysFits cI cZ cP cS h_t h_t_turns h_t_phases h_t_ups h_t_typed h_t_texts h_t_diary h_t_longs h_t_awakes h_t_fit h_t_counts h_t_worths h_t_ripes h_t_growths h_t_gains h_t_isThere h_t_forms h_t_sizes h_t_items h_t_moved v_m_hours v_m_months v_m_fitMany v_m_fitFirst v_m_finding v_m_turns v_m_ups v_m_typed v_m_texts v_m_diary v_m_longs v_m_fit)) [0, 1, 2, 3, 4, 5, 6, 7] (by decide) rfl) rfl rfl) rfl rfl hl.1 rfl (lv_room (Nat.le_of_ble_eq_true rfl)) dX8_fitsOf_1 ⟨Nat.zero_le _, Nat.zero_le _⟩) hS hA hP hD rfl (by decide) (by decide) rfl (by decide) rfl rfl (fun H locs hP hD hS => ?_)
  refine lv_iload_n hx hb dX8_fitsOf_4 rfl (lv_at hl 1 rfl) ?_
  refine lv_if_ne (tgt := 15) hx hb dX8_fitsOf_5 (by decide) (fun c5 => ?_) (fun c5 => ?_)
  · rw [if_neg c5] at hf
    refine lv_aload_n hx hb dX8_fitsOf_15 rfl (lv_at hl 0 rfl) ?_
    refine va_get (D := (dC, dI)) (ci := 7) (v := .int o1_4) (C := RX8) (T := TX8) (N := 24) hx hb hts hinX8 hown hK hP 0 rfl rfl 12 (by decide) (hts (.fieldLink RX8 179 "SecondSunriseModel" "fitFirst" "I") (by decide +kernel)) (fun _ h9 => h9) rfl dX8_fitsOf_16 ?_
    have hq0 := Option.some.inj hf
    obtain ⟨eq0, hq1⟩ := Prod.mk.inj hq0
    obtain ⟨eq1, hq2⟩ := Prod.mk.inj hq1
    obtain ⟨eq2, hq3⟩ := Prod.mk.inj hq2
    obtain ⟨eq3, hq4⟩ := Prod.mk.inj hq3
    obtain ⟨eq4, hq5⟩ := Prod.mk.inj hq4
    obtain ⟨eq5, hq6⟩ := Prod.mk.inj hq5
    obtain ⟨eq6, hq7⟩ := Prod.mk.inj hq6
    clear hf hq0 hq1 hq2 hq3 hq4 hq5 hq6
    subst eq0
    subst eq1
    subst eq2
    subst eq3
    subst eq4
    subst eq5
    subst eq6
    subst hq7
    exact W.iret hx hb hr (fun t ht hW => ⟨⟨_, (), rfl, rfl, by rw [ht]; exact hP, va_K.moved hW.alike hK, hD⟩, hS.F ht⟩) hS.2.2 dX8_fitsOf_19
  · rw [if_pos c5] at hf
    refine lv_aload_n hx hb dX8_fitsOf_8 rfl (lv_at hl 0 rfl) ?_
    refine va_get (D := (dC, dI)) (ci := 7) (v := .int o1_3) (C := RX8) (T := TX8) (N := 24) hx hb hts hinX8 hown hK hP 0 rfl rfl 11 (by decide) (hts (.fieldLink RX8 176 "SecondSunriseModel" "fitMany" "I") (by decide +kernel)) (fun _ h9 => h9) rfl dX8_fitsOf_9 ?_
    refine lv_goto (tgt := 19) hx hb dX8_fitsOf_12 (by decide) ?_
    have hq0 := Option.some.inj hf
    obtain ⟨eq0, hq1⟩ := Prod.mk.inj hq0
    obtain ⟨eq1, hq2⟩ := Prod.mk.inj hq1
    obtain ⟨eq2, hq3⟩ := Prod.mk.inj hq2
    obtain ⟨eq3, hq4⟩ := Prod.mk.inj hq3
    obtain ⟨eq4, hq5⟩ := Prod.mk.inj hq4
    obtain ⟨eq5, hq6⟩ := Prod.mk.inj hq5
    obtain ⟨eq6, hq7⟩ := Prod.mk.inj hq6
    clear hf hq0 hq1 hq2 hq3 hq4 hq5 hq6
    subst eq0
    subst eq1
    subst eq2
    subst eq3
    subst eq4
    subst eq5
    subst eq6
    subst hq7
    exact W.iret hx hb hr (fun t ht hW => ⟨⟨_, (), rfl, rfl, by rw [ht]; exact hP, va_K.moved hW.alike hK, hD⟩, hS.F ht⟩) hS.2.2 dX8_fitsOf_19

abbrev wd_X8_lastsOf (cI cZ cP cS : ClassId) (h_t h_t_turns h_t_phases h_t_ups h_t_typed h_t_texts h_t_diary h_t_longs h_t_awakes h_t_fit h_t_counts h_t_worths h_t_ripes h_t_growths h_t_gains h_t_isThere h_t_forms h_t_sizes h_t_items h_t_moved : Nat) (v_m_hours : Int32) (v_m_months : Int32) (v_m_fitMany : Int32) (v_m_fitFirst : Int32) (v_m_finding : Int32) (v_m_turns : Nat → Int32) (v_m_phases : Nat → Int32) (v_m_ups : Nat → Int32) : va_W := [(h_t, .inr (7, [.ref h_t_turns, .ref h_t_phases, .ref h_t_ups, .ref h_t_typed, .ref h_t_texts, .int v_m_hours, .ref h_t_diary, .int v_m_months, .ref h_t_longs, .ref h_t_awakes, .ref h_t_fit, .int v_m_fitMany, .int v_m_fitFirst, .ref h_t_counts, .ref h_t_worths, .ref h_t_ripes, .ref h_t_growths, .ref h_t_gains, .ref h_t_isThere, .ref h_t_forms, .ref h_t_sizes, .ref h_t_items, .ref h_t_moved, .int v_m_finding])), (h_t_turns, .inl (cI, 2, .inl v_m_turns)), (h_t_phases, .inl (cI, 2, .inl v_m_phases)), (h_t_ups, .inl (cI, 2, .inl v_m_ups))]
abbrev rm_X8_lastsOf : Room := { frames := 3, cells := 0, slots := 0, locals := 65 }
def L_X8_lastsOf_7 (n : Nat) (v_m_turns : Nat → Int32) (v_m_phases : Nat → Int32) (v_m_ups : Nat → Int32) (x1 : Int32) (r1_1 : Int32) (kx7 : Int32 → Option (Int32)) : Nat → Int32 → Option (Int32)
  | 0, _ => none
  | k7 + 1, y7_3 => if r1_1 ≤ y7_3 then kx7 y7_3 else bd1_ (f_X8_lightOf n v_m_turns v_m_phases v_m_ups (x1 + y7_3)) (fun (r16_4 : Int32) => bd1_ (f_X8_lightOf n v_m_turns v_m_phases v_m_ups x1) (fun (r21_7 : Int32) => if r16_4 = r21_7 then L_X8_lastsOf_7 n v_m_turns v_m_phases v_m_ups x1 r1_1 kx7 k7 (y7_3 + 1) else kx7 y7_3))
theorem L_X8_lastsOf_7_s (n : Nat) (v_m_turns : Nat → Int32) (v_m_phases : Nat → Int32) (v_m_ups : Nat → Int32) (x1 : Int32) (r1_1 : Int32) (kx7 : Int32 → Option (Int32)) (k7 : Nat) (y7_3 : Int32) : L_X8_lastsOf_7 n v_m_turns v_m_phases v_m_ups x1 r1_1 kx7 (k7 + 1) y7_3 = if r1_1 ≤ y7_3 then kx7 y7_3 else bd1_ (f_X8_lightOf n v_m_turns v_m_phases v_m_ups (x1 + y7_3)) (fun (r16_4 : Int32) => bd1_ (f_X8_lightOf n v_m_turns v_m_phases v_m_ups x1) (fun (r21_7 : Int32) => if r16_4 = r21_7 then L_X8_lastsOf_7 n v_m_turns v_m_phases v_m_ups x1 r1_1 kx7 k7 (y7_3 + 1) else kx7 y7_3)) := rfl
def f_X8_lastsOf (n : Nat) (v_m_turns : Nat → Int32) (v_m_phases : Nat → Int32) (v_m_ups : Nat → Int32) (x1 : Int32) : Option (Int32) := bd1_ (f_X8_roundNow n v_m_turns) (fun (r1_1 : Int32) => jn1_ (fun (z7_3 : Int32) => some z7_3) (fun kx7 => L_X8_lastsOf_7 n v_m_turns v_m_phases v_m_ups x1 r1_1 kx7 n 1))
set_option maxHeartbeats 4000000 in
set_option maxRecDepth 100000 in
theorem c_X8_lastsOf (l : Launch) (dC : Nat → ClassId) (dI : Nat → Nat → Nat) (cI cZ cP cS : ClassId) (h_t h_t_turns h_t_phases h_t_ups h_t_typed h_t_texts h_t_diary h_t_longs h_t_awakes h_t_fit h_t_counts h_t_worths h_t_ripes h_t_growths h_t_gains h_t_isThere h_t_forms h_t_sizes h_t_items h_t_moved : Nat) (v_m_hours : Int32) (v_m_months : Int32) (v_m_fitMany : Int32) (v_m_fitFirst : Int32) (v_m_finding : Int32) (v_m_turns : Nat → Int32) (v_m_phases : Nat → Int32) (v_m_ups : Nat → Int32) (x1 : Int32) (n : Nat) (r : Int32) (hf : f_X8_lastsOf n v_m_turns v_m_phases v_m_ups x1 = some r) : Met l yX8_lastsOf wsX8_lastsOf rm_X8_lastsOf (RO (dC, dI) (TY cI cZ cP cS) [.ref h_t, .int x1] (wd_X8_lastsOf cI cZ cP cS h_t h_t_turns h_t_phases h_t_ups h_t_typed h_t_texts h_t_diary h_t_longs h_t_awakes h_t_fit h_t_counts h_t_worths h_t_ripes h_t_growths h_t_gains h_t_isThere h_t_forms h_t_sizes h_t_items h_t_moved v_m_hours v_m_months v_m_fitMany v_m_fitFirst v_m_finding v_m_turns v_m_phases v_m_ups)) (vp_Si (fun x => x = r)) 0 0 NF := by
  refine Met.ofW (cc := cX8_lastsOf) (maxL := 4) (ret := (some .int)) (by decide) rfl ?_
  intro p e s m args below meth c s₁ B hml hv
  obtain ⟨rfl, hP, hK⟩ := hv
  have hx := B.exec
  have hb := B.bytes
  have hr := B.returns
  have hts := atoms_spec (ws := wsX8_lastsOf) B.pre
  have hown : s.vm.findClass RX8 = some m.cls := findClass_of_methodNamed B.named
  have hlocks := B.notSynchronized
  have hl := lv_entry ([.ref h_t, .int x1]) (n := 4) (Nat.le_of_ble_eq_true rfl)
  rw [lg_entry_eq]
  generalize (lg_sl ([.ref h_t, .int x1]) ++ List.replicate (4 - (lg_sl ([.ref h_t, .int x1])).length) Slot.unset).toArray = ls at hl ⊢
  have hl : lv_has ls 4 [(0, .ref h_t), (1, .int x1)] := hl
  unfold f_X8_lastsOf at hf
  refine lv_aload_n hx hb dX8_lastsOf_0 rfl (lv_at hl 0 rfl) ?_
  obtain ⟨r1_1, hc_2, hf⟩ := bd1_e hf
  refine vp_callSi (va_runV (As := []) (rest := []) ⟨hx, hb, hml, hown, hts⟩ (c_X8_roundNow l dC dI cI cZ cP cS h_t h_t_turns h_t_phases h_t_ups h_t_typed h_t_texts h_t_diary h_t_longs h_t_awakes h_t_fit h_t_counts h_t_worths h_t_ripes h_t_growths h_t_gains h_t_isThere h_t_forms h_t_sizes h_t_items h_t_moved v_m_hours v_m_months v_m_fitMany v_m_fitFirst v_m_finding v_m_turns  n r1_1 hc_2) (cwV 0 hts gX8_lastsOf_X8_roundNow rfl rfl rfl (by decide +kernel) ⟨Nat.le_of_ble_eq_true rfl, Nat.le_of_ble_eq_true rfl⟩) (pv_ro (ci := 7) (q0 := 0) hK (hP.sub (ws' := (wd_X8_roundNow cI cZ cP cS h_t h_t_turns h_t_phases h_t_ups h_t_typed h_t_texts h_t_diary h_t_longs h_t_awakes h_t_fit h_t_counts h_t_worths h_t_ripes h_t_growths h_t_gains h_t_isThere h_t_forms h_t_sizes h_t_items h_t_moved v_m_hours v_m_months v_m_fitMany v_m_fitFirst v_m_finding v_m_turns)) [0, 1] rfl) rfl rfl) rfl rfl hl.1 rfl (lv_room (Nat.le_of_ble_eq_true rfl)) dX8_lastsOf_1 ⟨Nat.zero_le _, Nat.zero_le _⟩).run (fun x e_3 => ?_)
  rw [e_3]
  refine lv_istore_n (lv' := [(2, .int r1_1), (0, .ref h_t), (1, .int x1)]) hx hb dX8_lastsOf_4 rfl hl (by decide) rfl (fun ls hl => ?_)
  refine lv_iconst (v := 1) hx hb dX8_lastsOf_5 (by decide) ?_
  refine lv_istore_n (lv' := [(3, .int 1), (2, .int r1_1), (0, .ref h_t), (1, .int x1)]) hx hb dX8_lastsOf_6 rfl hl (by decide) rfl (fun ls hl => ?_)
  obtain ⟨kx7, ekx7, hf⟩ := jn1_e hf
  have hx7 : ∀ (z7_3 : Int32) (ls : Array Slot), lv_has ls 4 [(3, .int z7_3)] → kx7 z7_3 = some r → W p l e (headSpec wsX8_lastsOf rm_X8_lastsOf).room s m ([.ref h_t, .int x1] : List Value).toArray below meth c s.heap [] 0 0 (MQ below (vp_Si (fun x => x = r)) ([.ref h_t, .int x1] : List Value).toArray s 0 0 NF) (F0 m 33 ls []) := by
    intro z7_3 ls hl hf
    rw [ekx7] at hf
    refine lv_iload_n hx hb dX8_lastsOf_33 rfl (lv_at hl 0 rfl) ?_
    exact W.iret hx hb hr (fun t ht hW => ⟨_, rfl, Option.some.inj hf, ht⟩) (fun _ h => nomatch h) dX8_lastsOf_34
  have hL7 : ∀ (k7 : Nat) (y7_3 : Int32) (ls : Array Slot), lv_has ls 4 [(0, .ref h_t), (1, .int x1), (2, .int r1_1), (3, .int y7_3)] → L_X8_lastsOf_7 n v_m_turns v_m_phases v_m_ups x1 r1_1 kx7 k7 y7_3 = some r → W p l e (headSpec wsX8_lastsOf rm_X8_lastsOf).room s m ([.ref h_t, .int x1] : List Value).toArray below meth c s.heap [] 0 0 (MQ below (vp_Si (fun x => x = r)) ([.ref h_t, .int x1] : List Value).toArray s 0 0 NF) (F0 m 7 ls []) := by
    intro k7
    induction k7 with
    | zero =>
      intro y7_3 ls hl hf
      exact absurd hf (fun h => Option.some_ne_none _ h.symm)
    | succ k7 ih =>
      intro y7_3 ls hl hf
      rw [L_X8_lastsOf_7_s] at hf
      refine lv_iload_n hx hb dX8_lastsOf_7 rfl (lv_at hl 3 rfl) ?_
      refine lv_iload_n hx hb dX8_lastsOf_8 rfl (lv_at hl 2 rfl) ?_
      refine lv_icmp_ge (tgt := 33) hx hb dX8_lastsOf_9 (by decide) (fun c9 => ?_) (fun c9 => ?_)
      · rw [if_pos c9] at hf
        exact hx7 y7_3 ls (lv_sub hl [3] rfl) hf
      · rw [if_neg c9] at hf
        refine lv_aload_n hx hb dX8_lastsOf_12 rfl (lv_at hl 0 rfl) ?_
        refine lv_iload_n hx hb dX8_lastsOf_13 rfl (lv_at hl 1 rfl) ?_
        refine lv_iload_n hx hb dX8_lastsOf_14 rfl (lv_at hl 3 rfl) ?_
        refine lv_iadd hx hb dX8_lastsOf_15 ?_
        obtain ⟨r16_4, hc_5, hf⟩ := bd1_e hf
        refine vp_callSi (va_runV (As := [.int (x1 + y7_3)]) (rest := []) ⟨hx, hb, hml, hown, hts⟩ (c_X8_lightOf l dC dI cI cZ cP cS h_t h_t_turns h_t_phases h_t_ups h_t_typed h_t_texts h_t_diary h_t_longs h_t_awakes h_t_fit h_t_counts h_t_worths h_t_ripes h_t_growths h_t_gains h_t_isThere h_t_forms h_t_sizes h_t_items h_t_moved v_m_hours v_m_months v_m_fitMany v_m_fitFirst v_m_finding v_m_turns v_m_phases v_m_ups (x1 + y7_3) n r16_4 hc_5) (cwV 1 hts gX8_lastsOf_X8_lightOf rfl rfl rfl (by decide +kernel) ⟨Nat.le_of_ble_eq_true rfl, Nat.le_of_ble_eq_true rfl⟩) (pv_ro (ci := 7) (q0 := 0) hK (hP.sub (ws' := (wd_X8_lightOf cI cZ cP cS h_t h_t_turns h_t_phases h_t_ups h_t_typed h_t_texts h_t_diary h_t_longs h_t_awakes h_t_fit h_t_counts h_t_worths h_t_ripes h_t_growths h_t_gains h_t_isThere h_t_forms h_t_sizes h_t_items h_t_moved v_m_hours v_m_months v_m_fitMany v_m_fitFirst v_m_finding v_m_turns v_m_phases v_m_ups)) [0, 1, 2, 3] rfl) rfl rfl) rfl rfl hl.1 rfl (lv_room (Nat.le_of_ble_eq_true rfl)) dX8_lastsOf_16 ⟨Nat.zero_le _, Nat.zero_le _⟩).run (fun x e_6 => ?_)
        rw [e_6]
        refine lv_aload_n hx hb dX8_lastsOf_19 rfl (lv_at hl 0 rfl) ?_
        refine lv_iload_n hx hb dX8_lastsOf_20 rfl (lv_at hl 1 rfl) ?_
        obtain ⟨r21_7, hc_8, hf⟩ := bd1_e hf
        refine vp_callSi (va_runV (As := [.int x1]) (rest := [.int r16_4]) ⟨hx, hb, hml, hown, hts⟩ (c_X8_lightOf l dC dI cI cZ cP cS h_t h_t_turns h_t_phases h_t_ups h_t_typed h_t_texts h_t_diary h_t_longs h_t_awakes h_t_fit h_t_counts h_t_worths h_t_ripes h_t_growths h_t_gains h_t_isThere h_t_forms h_t_sizes h_t_items h_t_moved v_m_hours v_m_months v_m_fitMany v_m_fitFirst v_m_finding v_m_turns v_m_phases v_m_ups x1 n r21_7 hc_8) (cwV 1 hts gX8_lastsOf_X8_lightOf rfl rfl rfl (by decide +kernel) ⟨Nat.le_of_ble_eq_true rfl, Nat.le_of_ble_eq_true rfl⟩) (pv_ro (ci := 7) (q0 := 0) hK (hP.sub (ws' := (wd_X8_lightOf cI cZ cP cS h_t h_t_turns h_t_phases h_t_ups h_t_typed h_t_texts h_t_diary h_t_longs h_t_awakes h_t_fit h_t_counts h_t_worths h_t_ripes h_t_growths h_t_gains h_t_isThere h_t_forms h_t_sizes h_t_items h_t_moved v_m_hours v_m_months v_m_fitMany v_m_fitFirst v_m_finding v_m_turns v_m_phases v_m_ups)) [0, 1, 2, 3] rfl) rfl rfl) rfl rfl hl.1 rfl (lv_room (Nat.le_of_ble_eq_true rfl)) dX8_lastsOf_21 ⟨Nat.zero_le _, Nat.zero_le _⟩).run (fun x e_9 => ?_)
        rw [e_9]
        refine lv_icmp_ne (tgt := 33) hx hb dX8_lastsOf_24 (by decide) (fun c24 => ?_) (fun c24 => ?_)
        · rw [if_neg c24] at hf
          exact hx7 y7_3 ls (lv_sub hl [3] rfl) hf
        · rw [if_pos c24] at hf
          refine lv_iinc (v := (y7_3 + 1)) (lv' := [(3, .int (y7_3 + 1)), (0, .ref h_t), (1, .int x1), (2, .int r1_1)]) hx hb dX8_lastsOf_27 hl (k := 3) rfl rfl (by decide) rfl (fun ls hl => ?_)
          refine lv_goto (tgt := 7) hx hb dX8_lastsOf_30 (by decide) ?_
          exact ih (y7_3 + 1) ls (lv_sub hl [1, 2, 3, 0] rfl) hf
  exact hL7 n 1 ls (lv_sub hl [2, 3, 1, 0] rfl) hf

abbrev wd_X8_nextOf (cI cZ cP cS : ClassId) (h_t h_t_turns h_t_phases h_t_ups h_t_typed h_t_texts h_t_diary h_t_longs h_t_awakes h_t_fit h_t_counts h_t_worths h_t_ripes h_t_growths h_t_gains h_t_isThere h_t_forms h_t_sizes h_t_items h_t_moved : Nat) (v_m_hours : Int32) (v_m_months : Int32) (v_m_fitMany : Int32) (v_m_fitFirst : Int32) (v_m_finding : Int32) (v_m_turns : Nat → Int32) (v_m_phases : Nat → Int32) (v_m_ups : Nat → Int32) : va_W := [(h_t, .inr (7, [.ref h_t_turns, .ref h_t_phases, .ref h_t_ups, .ref h_t_typed, .ref h_t_texts, .int v_m_hours, .ref h_t_diary, .int v_m_months, .ref h_t_longs, .ref h_t_awakes, .ref h_t_fit, .int v_m_fitMany, .int v_m_fitFirst, .ref h_t_counts, .ref h_t_worths, .ref h_t_ripes, .ref h_t_growths, .ref h_t_gains, .ref h_t_isThere, .ref h_t_forms, .ref h_t_sizes, .ref h_t_items, .ref h_t_moved, .int v_m_finding])), (h_t_turns, .inl (cI, 2, .inl v_m_turns)), (h_t_phases, .inl (cI, 2, .inl v_m_phases)), (h_t_ups, .inl (cI, 2, .inl v_m_ups))]
abbrev rm_X8_nextOf : Room := { frames := 3, cells := 0, slots := 0, locals := 65 }
def L_X8_nextOf_8 (n : Nat) (v_m_turns : Nat → Int32) (v_m_phases : Nat → Int32) (v_m_ups : Nat → Int32) (x1 : Int32) (x2 : Int32) (r1_1 : Int32) (kx8 : Option (Int32)) : Nat → Int32 → Option (Int32)
  | 0, _ => none
  | k8 + 1, y8_4 => if (x1 + r1_1) ≤ y8_4 then kx8 else bd1_ (f_X8_lightOf n v_m_turns v_m_phases v_m_ups y8_4) (fun (r19_4 : Int32) => if r19_4 = x2 then some y8_4 else L_X8_nextOf_8 n v_m_turns v_m_phases v_m_ups x1 x2 r1_1 kx8 k8 (y8_4 + 1))
theorem L_X8_nextOf_8_s (n : Nat) (v_m_turns : Nat → Int32) (v_m_phases : Nat → Int32) (v_m_ups : Nat → Int32) (x1 : Int32) (x2 : Int32) (r1_1 : Int32) (kx8 : Option (Int32)) (k8 : Nat) (y8_4 : Int32) : L_X8_nextOf_8 n v_m_turns v_m_phases v_m_ups x1 x2 r1_1 kx8 (k8 + 1) y8_4 = if (x1 + r1_1) ≤ y8_4 then kx8 else bd1_ (f_X8_lightOf n v_m_turns v_m_phases v_m_ups y8_4) (fun (r19_4 : Int32) => if r19_4 = x2 then some y8_4 else L_X8_nextOf_8 n v_m_turns v_m_phases v_m_ups x1 x2 r1_1 kx8 k8 (y8_4 + 1)) := rfl
def f_X8_nextOf (n : Nat) (v_m_turns : Nat → Int32) (v_m_phases : Nat → Int32) (v_m_ups : Nat → Int32) (x1 : Int32) (x2 : Int32) : Option (Int32) := bd1_ (f_X8_roundNow n v_m_turns) (fun (r1_1 : Int32) => jn0_ (some (-1)) (fun kx8 => L_X8_nextOf_8 n v_m_turns v_m_phases v_m_ups x1 x2 r1_1 kx8 n x1))
set_option maxHeartbeats 4000000 in
set_option maxRecDepth 100000 in
theorem c_X8_nextOf (l : Launch) (dC : Nat → ClassId) (dI : Nat → Nat → Nat) (cI cZ cP cS : ClassId) (h_t h_t_turns h_t_phases h_t_ups h_t_typed h_t_texts h_t_diary h_t_longs h_t_awakes h_t_fit h_t_counts h_t_worths h_t_ripes h_t_growths h_t_gains h_t_isThere h_t_forms h_t_sizes h_t_items h_t_moved : Nat) (v_m_hours : Int32) (v_m_months : Int32) (v_m_fitMany : Int32) (v_m_fitFirst : Int32) (v_m_finding : Int32) (v_m_turns : Nat → Int32) (v_m_phases : Nat → Int32) (v_m_ups : Nat → Int32) (x1 : Int32) (x2 : Int32) (n : Nat) (r : Int32) (hf : f_X8_nextOf n v_m_turns v_m_phases v_m_ups x1 x2 = some r) : Met l yX8_nextOf wsX8_nextOf rm_X8_nextOf (RO (dC, dI) (TY cI cZ cP cS) [.ref h_t, .int x1, .int x2] (wd_X8_nextOf cI cZ cP cS h_t h_t_turns h_t_phases h_t_ups h_t_typed h_t_texts h_t_diary h_t_longs h_t_awakes h_t_fit h_t_counts h_t_worths h_t_ripes h_t_growths h_t_gains h_t_isThere h_t_forms h_t_sizes h_t_items h_t_moved v_m_hours v_m_months v_m_fitMany v_m_fitFirst v_m_finding v_m_turns v_m_phases v_m_ups)) (vp_Si (fun x => x = r)) 0 0 NF := by
  refine Met.ofW (cc := cX8_nextOf) (maxL := 5) (ret := (some .int)) (by decide) rfl ?_
  intro p e s m args below meth c s₁ B hml hv
  obtain ⟨rfl, hP, hK⟩ := hv
  have hx := B.exec
  have hb := B.bytes
  have hr := B.returns
  have hts := atoms_spec (ws := wsX8_nextOf) B.pre
  have hown : s.vm.findClass RX8 = some m.cls := findClass_of_methodNamed B.named
  have hlocks := B.notSynchronized
  have hl := lv_entry ([.ref h_t, .int x1, .int x2]) (n := 5) (Nat.le_of_ble_eq_true rfl)
  rw [lg_entry_eq]
  generalize (lg_sl ([.ref h_t, .int x1, .int x2]) ++ List.replicate (5 - (lg_sl ([.ref h_t, .int x1, .int x2])).length) Slot.unset).toArray = ls at hl ⊢
  have hl : lv_has ls 5 [(0, .ref h_t), (1, .int x1), (2, .int x2)] := hl
  unfold f_X8_nextOf at hf
  refine lv_aload_n hx hb dX8_nextOf_0 rfl (lv_at hl 0 rfl) ?_
  obtain ⟨r1_1, hc_2, hf⟩ := bd1_e hf
  refine vp_callSi (va_runV (As := []) (rest := []) ⟨hx, hb, hml, hown, hts⟩ (c_X8_roundNow l dC dI cI cZ cP cS h_t h_t_turns h_t_phases h_t_ups h_t_typed h_t_texts h_t_diary h_t_longs h_t_awakes h_t_fit h_t_counts h_t_worths h_t_ripes h_t_growths h_t_gains h_t_isThere h_t_forms h_t_sizes h_t_items h_t_moved v_m_hours v_m_months v_m_fitMany v_m_fitFirst v_m_finding v_m_turns  n r1_1 hc_2) (cwV 0 hts gX8_nextOf_X8_roundNow rfl rfl rfl (by decide +kernel) ⟨Nat.le_of_ble_eq_true rfl, Nat.le_of_ble_eq_true rfl⟩) (pv_ro (ci := 7) (q0 := 0) hK (hP.sub (ws' := (wd_X8_roundNow cI cZ cP cS h_t h_t_turns h_t_phases h_t_ups h_t_typed h_t_texts h_t_diary h_t_longs h_t_awakes h_t_fit h_t_counts h_t_worths h_t_ripes h_t_growths h_t_gains h_t_isThere h_t_forms h_t_sizes h_t_items h_t_moved v_m_hours v_m_months v_m_fitMany v_m_fitFirst v_m_finding v_m_turns)) [0, 1] rfl) rfl rfl) rfl rfl hl.1 rfl (lv_room (Nat.le_of_ble_eq_true rfl)) dX8_nextOf_1 ⟨Nat.zero_le _, Nat.zero_le _⟩).run (fun x e_3 => ?_)
  rw [e_3]
  refine lv_istore_n (lv' := [(3, .int r1_1), (0, .ref h_t), (1, .int x1), (2, .int x2)]) hx hb dX8_nextOf_4 rfl hl (by decide) rfl (fun ls hl => ?_)
  refine lv_iload_n hx hb dX8_nextOf_5 rfl (lv_at hl 2 rfl) ?_
  refine lv_istore (lv' := [(4, .int x1), (3, .int r1_1), (0, .ref h_t), (1, .int x1), (2, .int x2)]) hx hb dX8_nextOf_6 hl (by decide) rfl (fun ls hl => ?_)
  obtain ⟨kx8, ekx8, hf⟩ := jn0_e hf
  have hx8 : ∀ (ls : Array Slot), lv_has ls 5 [] → kx8 = some r → W p l e (headSpec wsX8_nextOf rm_X8_nextOf).room s m ([.ref h_t, .int x1, .int x2] : List Value).toArray below meth c s.heap [] 0 0 (MQ below (vp_Si (fun x => x = r)) ([.ref h_t, .int x1, .int x2] : List Value).toArray s 0 0 NF) (F0 m 35 ls []) := by
    intro ls hl hf
    rw [ekx8] at hf
    refine lv_iconst (v := (-1)) hx hb dX8_nextOf_35 (by decide) ?_
    exact W.iret hx hb hr (fun t ht hW => ⟨_, rfl, Option.some.inj hf, ht⟩) (fun _ h => nomatch h) dX8_nextOf_36
  have hL8 : ∀ (k8 : Nat) (y8_4 : Int32) (ls : Array Slot), lv_has ls 5 [(0, .ref h_t), (1, .int x1), (2, .int x2), (3, .int r1_1), (4, .int y8_4)] → L_X8_nextOf_8 n v_m_turns v_m_phases v_m_ups x1 x2 r1_1 kx8 k8 y8_4 = some r → W p l e (headSpec wsX8_nextOf rm_X8_nextOf).room s m ([.ref h_t, .int x1, .int x2] : List Value).toArray below meth c s.heap [] 0 0 (MQ below (vp_Si (fun x => x = r)) ([.ref h_t, .int x1, .int x2] : List Value).toArray s 0 0 NF) (F0 m 8 ls []) := by
    intro k8
    induction k8 with
    | zero =>
      intro y8_4 ls hl hf
      exact absurd hf (fun h => Option.some_ne_none _ h.symm)
    | succ k8 ih =>
      intro y8_4 ls hl hf
      rw [L_X8_nextOf_8_s] at hf
      refine lv_iload hx hb dX8_nextOf_8 (lv_at hl 4 rfl) ?_
      refine lv_iload_n hx hb dX8_nextOf_10 rfl (lv_at hl 1 rfl) ?_
      refine lv_iload_n hx hb dX8_nextOf_11 rfl (lv_at hl 3 rfl) ?_
      refine lv_iadd hx hb dX8_nextOf_12 ?_
      refine lv_icmp_ge (tgt := 35) hx hb dX8_nextOf_13 (by decide) (fun c13 => ?_) (fun c13 => ?_)
      · rw [if_pos c13] at hf
        exact hx8 ls (lv_sub hl [] rfl) hf
      · rw [if_neg c13] at hf
        refine lv_aload_n hx hb dX8_nextOf_16 rfl (lv_at hl 0 rfl) ?_
        refine lv_iload hx hb dX8_nextOf_17 (lv_at hl 4 rfl) ?_
        obtain ⟨r19_4, hc_5, hf⟩ := bd1_e hf
        refine vp_callSi (va_runV (As := [.int y8_4]) (rest := []) ⟨hx, hb, hml, hown, hts⟩ (c_X8_lightOf l dC dI cI cZ cP cS h_t h_t_turns h_t_phases h_t_ups h_t_typed h_t_texts h_t_diary h_t_longs h_t_awakes h_t_fit h_t_counts h_t_worths h_t_ripes h_t_growths h_t_gains h_t_isThere h_t_forms h_t_sizes h_t_items h_t_moved v_m_hours v_m_months v_m_fitMany v_m_fitFirst v_m_finding v_m_turns v_m_phases v_m_ups y8_4 n r19_4 hc_5) (cwV 1 hts gX8_nextOf_X8_lightOf rfl rfl rfl (by decide +kernel) ⟨Nat.le_of_ble_eq_true rfl, Nat.le_of_ble_eq_true rfl⟩) (pv_ro (ci := 7) (q0 := 0) hK (hP.sub (ws' := (wd_X8_lightOf cI cZ cP cS h_t h_t_turns h_t_phases h_t_ups h_t_typed h_t_texts h_t_diary h_t_longs h_t_awakes h_t_fit h_t_counts h_t_worths h_t_ripes h_t_growths h_t_gains h_t_isThere h_t_forms h_t_sizes h_t_items h_t_moved v_m_hours v_m_months v_m_fitMany v_m_fitFirst v_m_finding v_m_turns v_m_phases v_m_ups)) [0, 1, 2, 3] rfl) rfl rfl) rfl rfl hl.1 rfl (lv_room (Nat.le_of_ble_eq_true rfl)) dX8_nextOf_19 ⟨Nat.zero_le _, Nat.zero_le _⟩).run (fun x e_6 => ?_)
        rw [e_6]
        refine lv_iload_n hx hb dX8_nextOf_22 rfl (lv_at hl 2 rfl) ?_
        refine lv_icmp_ne (tgt := 29) hx hb dX8_nextOf_23 (by decide) (fun c23 => ?_) (fun c23 => ?_)
        · rw [if_neg c23] at hf
          refine lv_iinc (v := (y8_4 + 1)) (lv' := [(4, .int (y8_4 + 1)), (0, .ref h_t), (1, .int x1), (2, .int x2), (3, .int r1_1)]) hx hb dX8_nextOf_29 hl (k := 4) rfl rfl (by decide) rfl (fun ls hl => ?_)
          refine lv_goto (tgt := 8) hx hb dX8_nextOf_32 (by decide) ?_
          exact ih (y8_4 + 1) ls (lv_sub hl [1, 2, 3, 4, 0] rfl) hf
        · rw [if_pos c23] at hf
          refine lv_iload hx hb dX8_nextOf_26 (lv_at hl 4 rfl) ?_
          exact W.iret hx hb hr (fun t ht hW => ⟨_, rfl, Option.some.inj hf, ht⟩) (fun _ h => nomatch h) dX8_nextOf_28
  exact hL8 n x1 ls (lv_sub hl [2, 3, 4, 1, 0] rfl) hf
