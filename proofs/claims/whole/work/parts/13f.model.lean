abbrev wd_X8_togetherOf (cI cZ cP cS : ClassId) (h_t h_t_turns h_t_phases h_t_ups h_t_typed h_t_texts h_t_diary h_t_longs h_t_awakes h_t_fit h_t_counts h_t_worths h_t_ripes h_t_growths h_t_gains h_t_isThere h_t_forms h_t_sizes h_t_items h_t_moved : Nat) (v_m_hours : Int32) (v_m_months : Int32) (v_m_fitMany : Int32) (v_m_fitFirst : Int32) (v_m_finding : Int32) (v_m_turns : Nat → Int32) (v_m_phases : Nat → Int32) (v_m_ups : Nat → Int32) (v_m_awakes : Nat → Int32) : va_W := [(h_t, .inr (7, [.ref h_t_turns, .ref h_t_phases, .ref h_t_ups, .ref h_t_typed, .ref h_t_texts, .int v_m_hours, .ref h_t_diary, .int v_m_months, .ref h_t_longs, .ref h_t_awakes, .ref h_t_fit, .int v_m_fitMany, .int v_m_fitFirst, .ref h_t_counts, .ref h_t_worths, .ref h_t_ripes, .ref h_t_growths, .ref h_t_gains, .ref h_t_isThere, .ref h_t_forms, .ref h_t_sizes, .ref h_t_items, .ref h_t_moved, .int v_m_finding])), (h_t_turns, .inl (cI, 2, .inl v_m_turns)), (h_t_phases, .inl (cI, 2, .inl v_m_phases)), (h_t_ups, .inl (cI, 2, .inl v_m_ups)), (h_t_awakes, .inl (cI, 6, .inl v_m_awakes))]
abbrev rm_X8_togetherOf : Room := { frames := 4, cells := 0, slots := 0, locals := 90 }
def L_X8_togetherOf_35 (n : Nat) (v_m_turns : Nat → Int32) (v_m_phases : Nat → Int32) (v_m_ups : Nat → Int32) (x2 : Int32) (x3 : Int32) (x4 : Int32) (r2_1 : Int32) (r8_4 : Int32) (kx35 : Int32 → Int32 → Option (Int32)) : Nat → Int32 → Int32 → Int32 → Int32 → Option (Int32)
  | 0, _, _, _, _ => none
  | k35 + 1, y35_7, y35_8, y35_9, y35_10 => if (x2 + r8_4) ≤ y35_10 then kx35 y35_8 y35_9 else if x4 = 1 then bd1_ (f_X8_lightOf n v_m_turns v_m_phases v_m_ups ((y35_10 - 1) + x3)) (fun (r61_10 : Int32) => bd1_ (f_X8_lightOf n v_m_turns v_m_phases v_m_ups (y35_10 - 1)) (fun (r74_13 : Int32) => lt_ ((if (y35_7 + (((r2_1 >>> (r61_10 &&& 31)) &&& 1) - ((r2_1 >>> (r74_13 &&& 31)) &&& 1))) ≤ y35_8 then y35_9 else y35_10) : Int32) (fun v98_16 => lt_ ((if (y35_7 + (((r2_1 >>> (r61_10 &&& 31)) &&& 1) - ((r2_1 >>> (r74_13 &&& 31)) &&& 1))) ≤ y35_8 then y35_8 else (y35_7 + (((r2_1 >>> (r61_10 &&& 31)) &&& 1) - ((r2_1 >>> (r74_13 &&& 31)) &&& 1)))) : Int32) (fun v114_18 => L_X8_togetherOf_35 n v_m_turns v_m_phases v_m_ups x2 x3 x4 r2_1 r8_4 kx35 k35 (y35_7 + (((r2_1 >>> (r61_10 &&& 31)) &&& 1) - ((r2_1 >>> (r74_13 &&& 31)) &&& 1))) v114_18 v98_16 (y35_10 + 1))))) else kx35 y35_8 y35_9
theorem L_X8_togetherOf_35_s (n : Nat) (v_m_turns : Nat → Int32) (v_m_phases : Nat → Int32) (v_m_ups : Nat → Int32) (x2 : Int32) (x3 : Int32) (x4 : Int32) (r2_1 : Int32) (r8_4 : Int32) (kx35 : Int32 → Int32 → Option (Int32)) (k35 : Nat) (y35_7 : Int32) (y35_8 : Int32) (y35_9 : Int32) (y35_10 : Int32) : L_X8_togetherOf_35 n v_m_turns v_m_phases v_m_ups x2 x3 x4 r2_1 r8_4 kx35 (k35 + 1) y35_7 y35_8 y35_9 y35_10 = if (x2 + r8_4) ≤ y35_10 then kx35 y35_8 y35_9 else if x4 = 1 then bd1_ (f_X8_lightOf n v_m_turns v_m_phases v_m_ups ((y35_10 - 1) + x3)) (fun (r61_10 : Int32) => bd1_ (f_X8_lightOf n v_m_turns v_m_phases v_m_ups (y35_10 - 1)) (fun (r74_13 : Int32) => lt_ ((if (y35_7 + (((r2_1 >>> (r61_10 &&& 31)) &&& 1) - ((r2_1 >>> (r74_13 &&& 31)) &&& 1))) ≤ y35_8 then y35_9 else y35_10) : Int32) (fun v98_16 => lt_ ((if (y35_7 + (((r2_1 >>> (r61_10 &&& 31)) &&& 1) - ((r2_1 >>> (r74_13 &&& 31)) &&& 1))) ≤ y35_8 then y35_8 else (y35_7 + (((r2_1 >>> (r61_10 &&& 31)) &&& 1) - ((r2_1 >>> (r74_13 &&& 31)) &&& 1)))) : Int32) (fun v114_18 => L_X8_togetherOf_35 n v_m_turns v_m_phases v_m_ups x2 x3 x4 r2_1 r8_4 kx35 k35 (y35_7 + (((r2_1 >>> (r61_10 &&& 31)) &&& 1) - ((r2_1 >>> (r74_13 &&& 31)) &&& 1))) v114_18 v98_16 (y35_10 + 1))))) else kx35 y35_8 y35_9 := rfl
def f_X8_togetherOf (n : Nat) (v_m_turns : Nat → Int32) (v_m_phases : Nat → Int32) (v_m_ups : Nat → Int32) (v_m_awakes : Nat → Int32) (x1 : Int32) (x2 : Int32) (x3 : Int32) (x4 : Int32) : Option (Int32) := bd1_ (f_X8_lightsOf n v_m_awakes x1) (fun (r2_1 : Int32) => bd1_ (f_X8_roundNow n v_m_turns) (fun (r8_4 : Int32) => bd1_ (f_X8_awakeHours n v_m_turns v_m_phases v_m_ups r2_1 x2 x3) (fun (r18_7 : Int32) => jn2_ (fun (z35_8 : Int32) (z35_9 : Int32) => if x4 = 0 then some z35_8 else some z35_9) (fun kx35 => L_X8_togetherOf_35 n v_m_turns v_m_phases v_m_ups x2 x3 x4 r2_1 r8_4 kx35 n r18_7 r18_7 x2 (x2 + 1)))))
set_option maxHeartbeats 4000000 in
set_option maxRecDepth 100000 in
theorem c_X8_togetherOf (l : Launch) (dC : Nat → ClassId) (dI : Nat → Nat → Nat) (cI cZ cP cS : ClassId) (h_t h_t_turns h_t_phases h_t_ups h_t_typed h_t_texts h_t_diary h_t_longs h_t_awakes h_t_fit h_t_counts h_t_worths h_t_ripes h_t_growths h_t_gains h_t_isThere h_t_forms h_t_sizes h_t_items h_t_moved : Nat) (v_m_hours : Int32) (v_m_months : Int32) (v_m_fitMany : Int32) (v_m_fitFirst : Int32) (v_m_finding : Int32) (v_m_turns : Nat → Int32) (v_m_phases : Nat → Int32) (v_m_ups : Nat → Int32) (v_m_awakes : Nat → Int32) (x1 : Int32) (x2 : Int32) (x3 : Int32) (x4 : Int32) (n : Nat) (r : Int32) (hf : f_X8_togetherOf n v_m_turns v_m_phases v_m_ups v_m_awakes x1 x2 x3 x4 = some r) : Met l yX8_togetherOf wsX8_togetherOf rm_X8_togetherOf (RO (dC, dI) (TY cI cZ cP cS) [.ref h_t, .int x1, .int x2, .int x3, .int x4] (wd_X8_togetherOf cI cZ cP cS h_t h_t_turns h_t_phases h_t_ups h_t_typed h_t_texts h_t_diary h_t_longs h_t_awakes h_t_fit h_t_counts h_t_worths h_t_ripes h_t_growths h_t_gains h_t_isThere h_t_forms h_t_sizes h_t_items h_t_moved v_m_hours v_m_months v_m_fitMany v_m_fitFirst v_m_finding v_m_turns v_m_phases v_m_ups v_m_awakes)) (vp_Si (fun x => x = r)) 0 0 NF := by
  refine Met.ofW (cc := cX8_togetherOf) (maxL := 11) (ret := (some .int)) (by decide) rfl ?_
  intro p e s m args below meth c s₁ B hml hv
  obtain ⟨rfl, hP, hK⟩ := hv
  have hx := B.exec
  have hb := B.bytes
  have hr := B.returns
  have hts := atoms_spec (ws := wsX8_togetherOf) B.pre
  have hown : s.vm.findClass RX8 = some m.cls := findClass_of_methodNamed B.named
  have hlocks := B.notSynchronized
  have hl := lv_entry ([.ref h_t, .int x1, .int x2, .int x3, .int x4]) (n := 11) (Nat.le_of_ble_eq_true rfl)
  rw [lg_entry_eq]
  generalize (lg_sl ([.ref h_t, .int x1, .int x2, .int x3, .int x4]) ++ List.replicate (11 - (lg_sl ([.ref h_t, .int x1, .int x2, .int x3, .int x4])).length) Slot.unset).toArray = ls at hl ⊢
  have hl : lv_has ls 11 [(0, .ref h_t), (1, .int x1), (2, .int x2), (3, .int x3), (4, .int x4)] := hl
  unfold f_X8_togetherOf at hf
  refine lv_aload_n hx hb dX8_togetherOf_0 rfl (lv_at hl 0 rfl) ?_
  refine lv_iload_n hx hb dX8_togetherOf_1 rfl (lv_at hl 1 rfl) ?_
  obtain ⟨r2_1, hc_2, hf⟩ := bd1_e hf
  refine vp_callSi (va_runV (As := [.int x1]) (rest := []) ⟨hx, hb, hml, hown, hts⟩ (c_X8_lightsOf l dC dI cI cZ cP cS h_t h_t_turns h_t_phases h_t_ups h_t_typed h_t_texts h_t_diary h_t_longs h_t_awakes h_t_fit h_t_counts h_t_worths h_t_ripes h_t_growths h_t_gains h_t_isThere h_t_forms h_t_sizes h_t_items h_t_moved v_m_hours v_m_months v_m_fitMany v_m_fitFirst v_m_finding v_m_awakes x1 n r2_1 hc_2) (cwV 1 hts gX8_togetherOf_X8_lightsOf rfl rfl rfl (by decide +kernel) ⟨Nat.le_of_ble_eq_true rfl, Nat.le_of_ble_eq_true rfl⟩) (pv_ro (ci := 7) (q0 := 0) hK (hP.sub (ws' := (wd_X8_lightsOf cI cZ cP cS h_t h_t_turns h_t_phases h_t_ups h_t_typed h_t_texts h_t_diary h_t_longs h_t_awakes h_t_fit h_t_counts h_t_worths h_t_ripes h_t_growths h_t_gains h_t_isThere h_t_forms h_t_sizes h_t_items h_t_moved v_m_hours v_m_months v_m_fitMany v_m_fitFirst v_m_finding v_m_awakes)) [0, 4] rfl) rfl rfl) rfl rfl hl.1 rfl (lv_room (Nat.le_of_ble_eq_true rfl)) dX8_togetherOf_2 ⟨Nat.zero_le _, Nat.zero_le _⟩).run (fun x e_3 => ?_)
  rw [e_3]
  refine lv_istore (lv' := [(5, .int r2_1), (0, .ref h_t), (1, .int x1), (2, .int x2), (3, .int x3), (4, .int x4)]) hx hb dX8_togetherOf_5 hl (by decide) rfl (fun ls hl => ?_)
  refine lv_aload_n hx hb dX8_togetherOf_7 rfl (lv_at hl 1 rfl) ?_
  obtain ⟨r8_4, hc_5, hf⟩ := bd1_e hf
  refine vp_callSi (va_runV (As := []) (rest := []) ⟨hx, hb, hml, hown, hts⟩ (c_X8_roundNow l dC dI cI cZ cP cS h_t h_t_turns h_t_phases h_t_ups h_t_typed h_t_texts h_t_diary h_t_longs h_t_awakes h_t_fit h_t_counts h_t_worths h_t_ripes h_t_growths h_t_gains h_t_isThere h_t_forms h_t_sizes h_t_items h_t_moved v_m_hours v_m_months v_m_fitMany v_m_fitFirst v_m_finding v_m_turns  n r8_4 hc_5) (cwV 0 hts gX8_togetherOf_X8_roundNow rfl rfl rfl (by decide +kernel) ⟨Nat.le_of_ble_eq_true rfl, Nat.le_of_ble_eq_true rfl⟩) (pv_ro (ci := 7) (q0 := 0) hK (hP.sub (ws' := (wd_X8_roundNow cI cZ cP cS h_t h_t_turns h_t_phases h_t_ups h_t_typed h_t_texts h_t_diary h_t_longs h_t_awakes h_t_fit h_t_counts h_t_worths h_t_ripes h_t_growths h_t_gains h_t_isThere h_t_forms h_t_sizes h_t_items h_t_moved v_m_hours v_m_months v_m_fitMany v_m_fitFirst v_m_finding v_m_turns)) [0, 1] rfl) rfl rfl) rfl rfl hl.1 rfl (lv_room (Nat.le_of_ble_eq_true rfl)) dX8_togetherOf_8 ⟨Nat.zero_le _, Nat.zero_le _⟩).run (fun x e_6 => ?_)
  rw [e_6]
  refine lv_istore (lv' := [(6, .int r8_4), (5, .int r2_1), (0, .ref h_t), (1, .int x1), (2, .int x2), (3, .int x3), (4, .int x4)]) hx hb dX8_togetherOf_11 hl (by decide) rfl (fun ls hl => ?_)
  refine lv_aload_n hx hb dX8_togetherOf_13 rfl (lv_at hl 2 rfl) ?_
  refine lv_iload hx hb dX8_togetherOf_14 (lv_at hl 1 rfl) ?_
  refine lv_iload_n hx hb dX8_togetherOf_16 rfl (lv_at hl 4 rfl) ?_
  refine lv_iload_n hx hb dX8_togetherOf_17 rfl (lv_at hl 5 rfl) ?_
  obtain ⟨r18_7, hc_8, hf⟩ := bd1_e hf
  refine vp_callSi (va_runV (As := [.int r2_1, .int x2, .int x3]) (rest := []) ⟨hx, hb, hml, hown, hts⟩ (c_X8_awakeHours l dC dI cI cZ cP cS h_t h_t_turns h_t_phases h_t_ups h_t_typed h_t_texts h_t_diary h_t_longs h_t_awakes h_t_fit h_t_counts h_t_worths h_t_ripes h_t_growths h_t_gains h_t_isThere h_t_forms h_t_sizes h_t_items h_t_moved v_m_hours v_m_months v_m_fitMany v_m_fitFirst v_m_finding v_m_turns v_m_phases v_m_ups r2_1 x2 x3 n r18_7 hc_8) (cwV 3 hts gX8_togetherOf_X8_awakeHours rfl rfl rfl (by decide +kernel) ⟨Nat.le_of_ble_eq_true rfl, Nat.le_of_ble_eq_true rfl⟩) (pv_ro (ci := 7) (q0 := 0) hK (hP.sub (ws' := (wd_X8_awakeHours cI cZ cP cS h_t h_t_turns h_t_phases h_t_ups h_t_typed h_t_texts h_t_diary h_t_longs h_t_awakes h_t_fit h_t_counts h_t_worths h_t_ripes h_t_growths h_t_gains h_t_isThere h_t_forms h_t_sizes h_t_items h_t_moved v_m_hours v_m_months v_m_fitMany v_m_fitFirst v_m_finding v_m_turns v_m_phases v_m_ups)) [0, 1, 2, 3] rfl) rfl rfl) rfl rfl hl.1 rfl (lv_room (Nat.le_of_ble_eq_true rfl)) dX8_togetherOf_18 ⟨Nat.zero_le _, Nat.zero_le _⟩).run (fun x e_9 => ?_)
  rw [e_9]
  refine lv_istore (lv' := [(7, .int r18_7), (6, .int r8_4), (5, .int r2_1), (0, .ref h_t), (1, .int x1), (2, .int x2), (3, .int x3), (4, .int x4)]) hx hb dX8_togetherOf_21 hl (by decide) rfl (fun ls hl => ?_)
  refine lv_iload hx hb dX8_togetherOf_23 (lv_at hl 0 rfl) ?_
  refine lv_istore (lv' := [(8, .int r18_7), (7, .int r18_7), (6, .int r8_4), (5, .int r2_1), (0, .ref h_t), (1, .int x1), (2, .int x2), (3, .int x3), (4, .int x4)]) hx hb dX8_togetherOf_25 hl (by decide) rfl (fun ls hl => ?_)
  refine lv_iload_n hx hb dX8_togetherOf_27 rfl (lv_at hl 6 rfl) ?_
  refine lv_istore (lv' := [(9, .int x2), (8, .int r18_7), (7, .int r18_7), (6, .int r8_4), (5, .int r2_1), (0, .ref h_t), (1, .int x1), (2, .int x2), (3, .int x3), (4, .int x4)]) hx hb dX8_togetherOf_28 hl (by decide) rfl (fun ls hl => ?_)
  refine lv_iload_n hx hb dX8_togetherOf_30 rfl (lv_at hl 7 rfl) ?_
  refine lv_iconst (v := 1) hx hb dX8_togetherOf_31 (by decide) ?_
  refine lv_iadd hx hb dX8_togetherOf_32 ?_
  refine lv_istore (lv' := [(10, .int (x2 + 1)), (9, .int x2), (8, .int r18_7), (7, .int r18_7), (6, .int r8_4), (5, .int r2_1), (0, .ref h_t), (1, .int x1), (2, .int x2), (3, .int x3), (4, .int x4)]) hx hb dX8_togetherOf_33 hl (by decide) rfl (fun ls hl => ?_)
  obtain ⟨kx35, ekx35, hf⟩ := jn2_e hf
  have hx35 : ∀ (z35_8 : Int32) (z35_9 : Int32) (ls : Array Slot), lv_has ls 11 [(4, .int x4), (8, .int z35_8), (9, .int z35_9)] → kx35 z35_8 z35_9 = some r → W p l e (headSpec wsX8_togetherOf rm_X8_togetherOf).room s m ([.ref h_t, .int x1, .int x2, .int x3, .int x4] : List Value).toArray below meth c s.heap [] 0 0 (MQ below (vp_Si (fun x => x = r)) ([.ref h_t, .int x1, .int x2, .int x3, .int x4] : List Value).toArray s 0 0 NF) (F0 m 122 ls []) := by
    intro z35_8 z35_9 ls hl hf
    rw [ekx35] at hf
    refine lv_iload hx hb dX8_togetherOf_122 (lv_at hl 0 rfl) ?_
    refine lv_if_ne (tgt := 132) hx hb dX8_togetherOf_124 (by decide) (fun c124 => ?_) (fun c124 => ?_)
    · rw [if_neg c124] at hf
      refine lv_iload hx hb dX8_togetherOf_132 (lv_at hl 2 rfl) ?_
      exact W.iret hx hb hr (fun t ht hW => ⟨_, rfl, Option.some.inj hf, ht⟩) (fun _ h => nomatch h) dX8_togetherOf_134
    · rw [if_pos c124] at hf
      refine lv_iload hx hb dX8_togetherOf_127 (lv_at hl 1 rfl) ?_
      refine lv_goto (tgt := 134) hx hb dX8_togetherOf_129 (by decide) ?_
      exact W.iret hx hb hr (fun t ht hW => ⟨_, rfl, Option.some.inj hf, ht⟩) (fun _ h => nomatch h) dX8_togetherOf_134
  have hL35 : ∀ (k35 : Nat) (y35_7 : Int32) (y35_8 : Int32) (y35_9 : Int32) (y35_10 : Int32) (ls : Array Slot), lv_has ls 11 [(0, .ref h_t), (2, .int x2), (3, .int x3), (4, .int x4), (5, .int r2_1), (6, .int r8_4), (7, .int y35_7), (8, .int y35_8), (9, .int y35_9), (10, .int y35_10)] → L_X8_togetherOf_35 n v_m_turns v_m_phases v_m_ups x2 x3 x4 r2_1 r8_4 kx35 k35 y35_7 y35_8 y35_9 y35_10 = some r → W p l e (headSpec wsX8_togetherOf rm_X8_togetherOf).room s m ([.ref h_t, .int x1, .int x2, .int x3, .int x4] : List Value).toArray below meth c s.heap [] 0 0 (MQ below (vp_Si (fun x => x = r)) ([.ref h_t, .int x1, .int x2, .int x3, .int x4] : List Value).toArray s 0 0 NF) (F0 m 35 ls []) := by
    intro k35
    induction k35 with
    | zero =>
      intro y35_7 y35_8 y35_9 y35_10 ls hl hf
      exact absurd hf (fun h => Option.some_ne_none _ h.symm)
    | succ k35 ih =>
      intro y35_7 y35_8 y35_9 y35_10 ls hl hf
      rw [L_X8_togetherOf_35_s] at hf
      refine lv_iload hx hb dX8_togetherOf_35 (lv_at hl 9 rfl) ?_
      refine lv_iload_n hx hb dX8_togetherOf_37 rfl (lv_at hl 1 rfl) ?_
      refine lv_iload hx hb dX8_togetherOf_38 (lv_at hl 5 rfl) ?_
      refine lv_iadd hx hb dX8_togetherOf_40 ?_
      refine lv_icmp_ge (tgt := 122) hx hb dX8_togetherOf_41 (by decide) (fun c41 => ?_) (fun c41 => ?_)
      · rw [if_pos c41] at hf
        exact hx35 y35_8 y35_9 ls (lv_sub hl [3, 7, 8] rfl) hf
      · rw [if_neg c41] at hf
        refine lv_iload hx hb dX8_togetherOf_44 (lv_at hl 3 rfl) ?_
        refine lv_iconst (v := 1) hx hb dX8_togetherOf_46 (by decide) ?_
        refine lv_icmp_ne (tgt := 122) hx hb dX8_togetherOf_47 (by decide) (fun c47 => ?_) (fun c47 => ?_)
        · rw [if_neg c47] at hf
          exact hx35 y35_8 y35_9 ls (lv_sub hl [3, 7, 8] rfl) hf
        · rw [if_pos c47] at hf
          refine lv_iload hx hb dX8_togetherOf_50 (lv_at hl 6 rfl) ?_
          refine lv_iload hx hb dX8_togetherOf_52 (lv_at hl 4 rfl) ?_
          refine lv_aload_n hx hb dX8_togetherOf_54 rfl (lv_at hl 0 rfl) ?_
          refine lv_iload hx hb dX8_togetherOf_55 (lv_at hl 9 rfl) ?_
          refine lv_iconst (v := 1) hx hb dX8_togetherOf_57 (by decide) ?_
          refine lv_isub hx hb dX8_togetherOf_58 ?_
          refine lv_iload_n hx hb dX8_togetherOf_59 rfl (lv_at hl 2 rfl) ?_
          refine lv_iadd hx hb dX8_togetherOf_60 ?_
          obtain ⟨r61_10, hc_11, hf⟩ := bd1_e hf
          refine vp_callSi (va_runV (As := [.int ((y35_10 - 1) + x3)]) (rest := [.int r2_1, .int y35_7]) ⟨hx, hb, hml, hown, hts⟩ (c_X8_lightOf l dC dI cI cZ cP cS h_t h_t_turns h_t_phases h_t_ups h_t_typed h_t_texts h_t_diary h_t_longs h_t_awakes h_t_fit h_t_counts h_t_worths h_t_ripes h_t_growths h_t_gains h_t_isThere h_t_forms h_t_sizes h_t_items h_t_moved v_m_hours v_m_months v_m_fitMany v_m_fitFirst v_m_finding v_m_turns v_m_phases v_m_ups ((y35_10 - 1) + x3) n r61_10 hc_11) (cwV 1 hts gX8_togetherOf_X8_lightOf rfl rfl rfl (by decide +kernel) ⟨Nat.le_of_ble_eq_true rfl, Nat.le_of_ble_eq_true rfl⟩) (pv_ro (ci := 7) (q0 := 0) hK (hP.sub (ws' := (wd_X8_lightOf cI cZ cP cS h_t h_t_turns h_t_phases h_t_ups h_t_typed h_t_texts h_t_diary h_t_longs h_t_awakes h_t_fit h_t_counts h_t_worths h_t_ripes h_t_growths h_t_gains h_t_isThere h_t_forms h_t_sizes h_t_items h_t_moved v_m_hours v_m_months v_m_fitMany v_m_fitFirst v_m_finding v_m_turns v_m_phases v_m_ups)) [0, 1, 2, 3] rfl) rfl rfl) rfl rfl hl.1 rfl (lv_room (Nat.le_of_ble_eq_true rfl)) dX8_togetherOf_61 ⟨Nat.zero_le _, Nat.zero_le _⟩).run (fun x e_12 => ?_)
          rw [e_12]
          refine lv_ishr hx hb dX8_togetherOf_64 ?_
          refine lv_iconst (v := 1) hx hb dX8_togetherOf_65 (by decide) ?_
          refine lv_iand hx hb dX8_togetherOf_66 ?_
          refine lv_iload hx hb dX8_togetherOf_67 (lv_at hl 4 rfl) ?_
          refine lv_aload_n hx hb dX8_togetherOf_69 rfl (lv_at hl 0 rfl) ?_
          refine lv_iload hx hb dX8_togetherOf_70 (lv_at hl 9 rfl) ?_
          refine lv_iconst (v := 1) hx hb dX8_togetherOf_72 (by decide) ?_
          refine lv_isub hx hb dX8_togetherOf_73 ?_
          obtain ⟨r74_13, hc_14, hf⟩ := bd1_e hf
          refine vp_callSi (va_runV (As := [.int (y35_10 - 1)]) (rest := [.int r2_1, .int ((r2_1 >>> (r61_10 &&& 31)) &&& 1), .int y35_7]) ⟨hx, hb, hml, hown, hts⟩ (c_X8_lightOf l dC dI cI cZ cP cS h_t h_t_turns h_t_phases h_t_ups h_t_typed h_t_texts h_t_diary h_t_longs h_t_awakes h_t_fit h_t_counts h_t_worths h_t_ripes h_t_growths h_t_gains h_t_isThere h_t_forms h_t_sizes h_t_items h_t_moved v_m_hours v_m_months v_m_fitMany v_m_fitFirst v_m_finding v_m_turns v_m_phases v_m_ups (y35_10 - 1) n r74_13 hc_14) (cwV 1 hts gX8_togetherOf_X8_lightOf rfl rfl rfl (by decide +kernel) ⟨Nat.le_of_ble_eq_true rfl, Nat.le_of_ble_eq_true rfl⟩) (pv_ro (ci := 7) (q0 := 0) hK (hP.sub (ws' := (wd_X8_lightOf cI cZ cP cS h_t h_t_turns h_t_phases h_t_ups h_t_typed h_t_texts h_t_diary h_t_longs h_t_awakes h_t_fit h_t_counts h_t_worths h_t_ripes h_t_growths h_t_gains h_t_isThere h_t_forms h_t_sizes h_t_items h_t_moved v_m_hours v_m_months v_m_fitMany v_m_fitFirst v_m_finding v_m_turns v_m_phases v_m_ups)) [0, 1, 2, 3] rfl) rfl rfl) rfl rfl hl.1 rfl (lv_room (Nat.le_of_ble_eq_true rfl)) dX8_togetherOf_74 ⟨Nat.zero_le _, Nat.zero_le _⟩).run (fun x e_15 => ?_)
          rw [e_15]
          refine lv_ishr hx hb dX8_togetherOf_77 ?_
          refine lv_iconst (v := 1) hx hb dX8_togetherOf_78 (by decide) ?_
          refine lv_iand hx hb dX8_togetherOf_79 ?_
          refine lv_isub hx hb dX8_togetherOf_80 ?_
          refine lv_iadd hx hb dX8_togetherOf_81 ?_
          refine lv_istore (lv' := [(7, .int (y35_7 + (((r2_1 >>> (r61_10 &&& 31)) &&& 1) - ((r2_1 >>> (r74_13 &&& 31)) &&& 1)))), (0, .ref h_t), (2, .int x2), (3, .int x3), (4, .int x4), (5, .int r2_1), (6, .int r8_4), (8, .int y35_8), (9, .int y35_9), (10, .int y35_10)]) hx hb dX8_togetherOf_82 hl (by decide) rfl (fun ls hl => ?_)
          refine lv_iload hx hb dX8_togetherOf_84 (lv_at hl 0 rfl) ?_
          refine lv_iload hx hb dX8_togetherOf_86 (lv_at hl 7 rfl) ?_
          obtain ⟨v98_16, ev98_16, hf⟩ := lt_e hf
          have hj98_17 : ∀ (ls : Array Slot), lv_has ls 11 [(0, .ref h_t), (2, .int x2), (3, .int x3), (4, .int x4), (5, .int r2_1), (6, .int r8_4), (7, .int (y35_7 + (((r2_1 >>> (r61_10 &&& 31)) &&& 1) - ((r2_1 >>> (r74_13 &&& 31)) &&& 1)))), (8, .int y35_8), (10, .int y35_10)] → W p l e (headSpec wsX8_togetherOf rm_X8_togetherOf).room s m ([.ref h_t, .int x1, .int x2, .int x3, .int x4] : List Value).toArray below meth c s.heap [] 0 0 (MQ below (vp_Si (fun x => x = r)) ([.ref h_t, .int x1, .int x2, .int x3, .int x4] : List Value).toArray s 0 0 NF) (F0 m 98 ls [.int v98_16]) := by
            intro ls hl
            refine lv_istore (lv' := [(9, .int v98_16), (0, .ref h_t), (2, .int x2), (3, .int x3), (4, .int x4), (5, .int r2_1), (6, .int r8_4), (7, .int (y35_7 + (((r2_1 >>> (r61_10 &&& 31)) &&& 1) - ((r2_1 >>> (r74_13 &&& 31)) &&& 1)))), (8, .int y35_8), (10, .int y35_10)]) hx hb dX8_togetherOf_98 hl (by decide) rfl (fun ls hl => ?_)
            refine lv_iload hx hb dX8_togetherOf_100 (lv_at hl 7 rfl) ?_
            refine lv_iload hx hb dX8_togetherOf_102 (lv_at hl 8 rfl) ?_
            obtain ⟨v114_18, ev114_18, hf⟩ := lt_e hf
            have hj114_19 : ∀ (ls : Array Slot), lv_has ls 11 [(0, .ref h_t), (2, .int x2), (3, .int x3), (4, .int x4), (5, .int r2_1), (6, .int r8_4), (7, .int (y35_7 + (((r2_1 >>> (r61_10 &&& 31)) &&& 1) - ((r2_1 >>> (r74_13 &&& 31)) &&& 1)))), (9, .int v98_16), (10, .int y35_10)] → W p l e (headSpec wsX8_togetherOf rm_X8_togetherOf).room s m ([.ref h_t, .int x1, .int x2, .int x3, .int x4] : List Value).toArray below meth c s.heap [] 0 0 (MQ below (vp_Si (fun x => x = r)) ([.ref h_t, .int x1, .int x2, .int x3, .int x4] : List Value).toArray s 0 0 NF) (F0 m 114 ls [.int v114_18]) := by
              intro ls hl
              refine lv_istore (lv' := [(8, .int v114_18), (0, .ref h_t), (2, .int x2), (3, .int x3), (4, .int x4), (5, .int r2_1), (6, .int r8_4), (7, .int (y35_7 + (((r2_1 >>> (r61_10 &&& 31)) &&& 1) - ((r2_1 >>> (r74_13 &&& 31)) &&& 1)))), (9, .int v98_16), (10, .int y35_10)]) hx hb dX8_togetherOf_114 hl (by decide) rfl (fun ls hl => ?_)
              refine lv_iinc (v := (y35_10 + 1)) (lv' := [(10, .int (y35_10 + 1)), (8, .int v114_18), (0, .ref h_t), (2, .int x2), (3, .int x3), (4, .int x4), (5, .int r2_1), (6, .int r8_4), (7, .int (y35_7 + (((r2_1 >>> (r61_10 &&& 31)) &&& 1) - ((r2_1 >>> (r74_13 &&& 31)) &&& 1)))), (9, .int v98_16)]) hx hb dX8_togetherOf_116 hl (k := 9) rfl rfl (by decide) rfl (fun ls hl => ?_)
              refine lv_goto (tgt := 35) hx hb dX8_togetherOf_119 (by decide) ?_
              exact ih (y35_7 + (((r2_1 >>> (r61_10 &&& 31)) &&& 1) - ((r2_1 >>> (r74_13 &&& 31)) &&& 1))) v114_18 v98_16 (y35_10 + 1) ls (lv_sub hl [2, 3, 4, 5, 6, 7, 8, 1, 9, 0] rfl) hf
            clear hf
            refine lv_icmp_le (tgt := 112) hx hb dX8_togetherOf_104 (by decide) (fun c104 => ?_) (fun c104 => ?_)
            ·
              refine lv_iload hx hb dX8_togetherOf_112 (lv_at hl 8 rfl) ?_
              rw [if_pos c104] at ev114_18
              subst ev114_18
              exact hj114_19 ls (lv_sub hl [1, 2, 3, 4, 5, 6, 7, 0, 9] rfl)
            ·
              refine lv_iload hx hb dX8_togetherOf_107 (lv_at hl 7 rfl) ?_
              refine lv_goto (tgt := 114) hx hb dX8_togetherOf_109 (by decide) ?_
              rw [if_neg c104] at ev114_18
              subst ev114_18
              exact hj114_19 ls (lv_sub hl [1, 2, 3, 4, 5, 6, 7, 0, 9] rfl)
          clear hf
          refine lv_icmp_le (tgt := 96) hx hb dX8_togetherOf_88 (by decide) (fun c88 => ?_) (fun c88 => ?_)
          ·
            refine lv_iload hx hb dX8_togetherOf_96 (lv_at hl 8 rfl) ?_
            rw [if_pos c88] at ev98_16
            subst ev98_16
            exact hj98_17 ls (lv_sub hl [1, 2, 3, 4, 5, 6, 0, 7, 9] rfl)
          ·
            refine lv_iload hx hb dX8_togetherOf_91 (lv_at hl 9 rfl) ?_
            refine lv_goto (tgt := 98) hx hb dX8_togetherOf_93 (by decide) ?_
            rw [if_neg c88] at ev98_16
            subst ev98_16
            exact hj98_17 ls (lv_sub hl [1, 2, 3, 4, 5, 6, 0, 7, 9] rfl)
  exact hL35 n r18_7 r18_7 x2 (x2 + 1) ls (lv_sub hl [6, 8, 9, 10, 5, 4, 3, 2, 1, 0] rfl) hf

abbrev wd_X8_worstAt (cI cZ cP cS : ClassId) (h_t h_t_turns h_t_phases h_t_ups h_t_typed h_t_texts h_t_diary h_t_longs h_t_awakes h_t_fit h_t_counts h_t_worths h_t_ripes h_t_growths h_t_gains h_t_isThere h_t_forms h_t_sizes h_t_items h_t_moved : Nat) (v_m_hours : Int32) (v_m_months : Int32) (v_m_fitMany : Int32) (v_m_fitFirst : Int32) (v_m_finding : Int32) (v_m_turns : Nat → Int32) (v_m_ups : Nat → Int32) (v_m_fit : Nat → Int32) (v_m_counts : Nat → Int32) : va_W := [(h_t, .inr (7, [.ref h_t_turns, .ref h_t_phases, .ref h_t_ups, .ref h_t_typed, .ref h_t_texts, .int v_m_hours, .ref h_t_diary, .int v_m_months, .ref h_t_longs, .ref h_t_awakes, .ref h_t_fit, .int v_m_fitMany, .int v_m_fitFirst, .ref h_t_counts, .ref h_t_worths, .ref h_t_ripes, .ref h_t_growths, .ref h_t_gains, .ref h_t_isThere, .ref h_t_forms, .ref h_t_sizes, .ref h_t_items, .ref h_t_moved, .int v_m_finding])), (h_t_turns, .inl (cI, 2, .inl v_m_turns)), (h_t_ups, .inl (cI, 2, .inl v_m_ups)), (h_t_fit, .inl (cZ, 1600, .inl v_m_fit)), (h_t_counts, .inl (cI, 4, .inl v_m_counts))]
abbrev rm_X8_worstAt : Room := { frames := 1, cells := 0, slots := 0, locals := 23 }
def L_X8_worstAt_120 (u22_m_counts : Nat → Int32) (kx120 : Int32 → Option (Int32 × (Nat → Int32))) : Nat → Int32 → Int32 → Option (Int32 × (Nat → Int32))
  | 0, _, _ => none
  | k120 + 1, y120_2, y120_3 => if (4 : Int32) ≤ y120_3 then kx120 y120_2 else ix_ y120_3 4 (jn1_ (fun (q145_0 : Int32) => L_X8_worstAt_120 u22_m_counts kx120 k120 q145_0 (y120_3 + 1)) (fun k145 => if (u22_m_counts y120_3.toNatClampNeg) ≤ y120_2 then k145 y120_2 else ix_ y120_3 4 (k145 (u22_m_counts y120_3.toNatClampNeg))))
theorem L_X8_worstAt_120_s (u22_m_counts : Nat → Int32) (kx120 : Int32 → Option (Int32 × (Nat → Int32))) (k120 : Nat) (y120_2 : Int32) (y120_3 : Int32) : L_X8_worstAt_120 u22_m_counts kx120 (k120 + 1) y120_2 y120_3 = if (4 : Int32) ≤ y120_3 then kx120 y120_2 else ix_ y120_3 4 (jn1_ (fun (q145_0 : Int32) => L_X8_worstAt_120 u22_m_counts kx120 k120 q145_0 (y120_3 + 1)) (fun k145 => if (u22_m_counts y120_3.toNatClampNeg) ≤ y120_2 then k145 y120_2 else ix_ y120_3 4 (k145 (u22_m_counts y120_3.toNatClampNeg)))) := rfl
def L_X8_worstAt_51 (n : Nat) (v_m_turns : Nat → Int32) (v_m_ups : Nat → Int32) (v_m_fit : Nat → Int32) (x1 : Int32) (y22_2 : Int32) (v47_7 : Int32) (kx51 : (Nat → Int32) → Option (Int32 × (Nat → Int32))) : Nat → Int32 → (Nat → Int32) → Option (Int32 × (Nat → Int32))
  | 0, _, _ => none
  | k51 + 1, y51_4, w51_m_counts => if (v_m_turns (1 : Int32).toNatClampNeg) ≤ y51_4 then kx51 w51_m_counts else ix_ ((40 * y22_2) + y51_4) 1600 (jn1_ (fun (w104_m_counts : Nat → Int32) => L_X8_worstAt_51 n v_m_turns v_m_ups v_m_fit x1 y22_2 v47_7 kx51 k51 (y51_4 + 1) w104_m_counts) (fun k104 => if (v_m_fit ((40 * y22_2) + y51_4).toNatClampNeg) = 0 then k104 w51_m_counts else bd1_ (f_X8_isUpBy n v_m_turns v_m_ups 1 y51_4 x1) (fun (r87_10 : Int32) => lt_ ((if r87_10 = 0 then 0 else 2) : Int32) (fun v98_14 => ix_ (v47_7 + v98_14) 4 (ix_ (v47_7 + v98_14) 4 (k104 (upd w51_m_counts (v47_7 + v98_14).toNatClampNeg ((w51_m_counts (v47_7 + v98_14).toNatClampNeg) + 1))))))))
theorem L_X8_worstAt_51_s (n : Nat) (v_m_turns : Nat → Int32) (v_m_ups : Nat → Int32) (v_m_fit : Nat → Int32) (x1 : Int32) (y22_2 : Int32) (v47_7 : Int32) (kx51 : (Nat → Int32) → Option (Int32 × (Nat → Int32))) (k51 : Nat) (y51_4 : Int32) (w51_m_counts : Nat → Int32) : L_X8_worstAt_51 n v_m_turns v_m_ups v_m_fit x1 y22_2 v47_7 kx51 (k51 + 1) y51_4 w51_m_counts = if (v_m_turns (1 : Int32).toNatClampNeg) ≤ y51_4 then kx51 w51_m_counts else ix_ ((40 * y22_2) + y51_4) 1600 (jn1_ (fun (w104_m_counts : Nat → Int32) => L_X8_worstAt_51 n v_m_turns v_m_ups v_m_fit x1 y22_2 v47_7 kx51 k51 (y51_4 + 1) w104_m_counts) (fun k104 => if (v_m_fit ((40 * y22_2) + y51_4).toNatClampNeg) = 0 then k104 w51_m_counts else bd1_ (f_X8_isUpBy n v_m_turns v_m_ups 1 y51_4 x1) (fun (r87_10 : Int32) => lt_ ((if r87_10 = 0 then 0 else 2) : Int32) (fun v98_14 => ix_ (v47_7 + v98_14) 4 (ix_ (v47_7 + v98_14) 4 (k104 (upd w51_m_counts (v47_7 + v98_14).toNatClampNeg ((w51_m_counts (v47_7 + v98_14).toNatClampNeg) + 1)))))))) := rfl
def L_X8_worstAt_22 (n : Nat) (v_m_turns : Nat → Int32) (v_m_ups : Nat → Int32) (v_m_fit : Nat → Int32) (x1 : Int32) (kx22 : (Nat → Int32) → Option (Int32 × (Nat → Int32))) : Nat → Int32 → (Nat → Int32) → Option (Int32 × (Nat → Int32))
  | 0, _, _ => none
  | k22 + 1, y22_2, w22_m_counts => if (v_m_turns (0 : Int32).toNatClampNeg) ≤ y22_2 then kx22 w22_m_counts else bd1_ (f_X8_isUpBy n v_m_turns v_m_ups 0 y22_2 x1) (fun (r36_3 : Int32) => lt_ ((if r36_3 = 0 then 0 else 1) : Int32) (fun v47_7 => jn1_ (fun (u51_m_counts : Nat → Int32) => L_X8_worstAt_22 n v_m_turns v_m_ups v_m_fit x1 kx22 k22 (y22_2 + 1) u51_m_counts) (fun kx51 => L_X8_worstAt_51 n v_m_turns v_m_ups v_m_fit x1 y22_2 v47_7 kx51 n 0 w22_m_counts)))
theorem L_X8_worstAt_22_s (n : Nat) (v_m_turns : Nat → Int32) (v_m_ups : Nat → Int32) (v_m_fit : Nat → Int32) (x1 : Int32) (kx22 : (Nat → Int32) → Option (Int32 × (Nat → Int32))) (k22 : Nat) (y22_2 : Int32) (w22_m_counts : Nat → Int32) : L_X8_worstAt_22 n v_m_turns v_m_ups v_m_fit x1 kx22 (k22 + 1) y22_2 w22_m_counts = if (v_m_turns (0 : Int32).toNatClampNeg) ≤ y22_2 then kx22 w22_m_counts else bd1_ (f_X8_isUpBy n v_m_turns v_m_ups 0 y22_2 x1) (fun (r36_3 : Int32) => lt_ ((if r36_3 = 0 then 0 else 1) : Int32) (fun v47_7 => jn1_ (fun (u51_m_counts : Nat → Int32) => L_X8_worstAt_22 n v_m_turns v_m_ups v_m_fit x1 kx22 k22 (y22_2 + 1) u51_m_counts) (fun kx51 => L_X8_worstAt_51 n v_m_turns v_m_ups v_m_fit x1 y22_2 v47_7 kx51 n 0 w22_m_counts))) := rfl
def L_X8_worstAt_2 (kx2 : (Nat → Int32) → Option (Int32 × (Nat → Int32))) : Nat → Int32 → (Nat → Int32) → Option (Int32 × (Nat → Int32))
  | 0, _, _ => none
  | k2 + 1, y2_2, w2_m_counts => if (4 : Int32) ≤ y2_2 then kx2 w2_m_counts else ix_ y2_2 4 (L_X8_worstAt_2 kx2 k2 (y2_2 + 1) (upd w2_m_counts y2_2.toNatClampNeg 0))
theorem L_X8_worstAt_2_s (kx2 : (Nat → Int32) → Option (Int32 × (Nat → Int32))) (k2 : Nat) (y2_2 : Int32) (w2_m_counts : Nat → Int32) : L_X8_worstAt_2 kx2 (k2 + 1) y2_2 w2_m_counts = if (4 : Int32) ≤ y2_2 then kx2 w2_m_counts else ix_ y2_2 4 (L_X8_worstAt_2 kx2 k2 (y2_2 + 1) (upd w2_m_counts y2_2.toNatClampNeg 0)) := rfl
def f_X8_worstAt (n : Nat) (v_m_turns : Nat → Int32) (v_m_ups : Nat → Int32) (v_m_fit : Nat → Int32) (v_m_counts : Nat → Int32) (x1 : Int32) : Option (Int32 × (Nat → Int32)) := jn1_ (fun (u2_m_counts : Nat → Int32) => jn1_ (fun (u22_m_counts : Nat → Int32) => jn1_ (fun (z120_2 : Int32) => some (z120_2, u22_m_counts)) (fun kx120 => L_X8_worstAt_120 u22_m_counts kx120 n 0 0)) (fun kx22 => L_X8_worstAt_22 n v_m_turns v_m_ups v_m_fit x1 kx22 n 0 u2_m_counts)) (fun kx2 => L_X8_worstAt_2 kx2 n 0 v_m_counts)
set_option maxHeartbeats 4000000 in
set_option maxRecDepth 100000 in
theorem c_X8_worstAt (l : Launch) (dC : Nat → ClassId) (dI : Nat → Nat → Nat) (cI cZ cP cS : ClassId) (sz : Nat) (h_t h_t_turns h_t_phases h_t_ups h_t_typed h_t_texts h_t_diary h_t_longs h_t_awakes h_t_fit h_t_counts h_t_worths h_t_ripes h_t_growths h_t_gains h_t_isThere h_t_forms h_t_sizes h_t_items h_t_moved : Nat) (v_m_hours : Int32) (v_m_months : Int32) (v_m_fitMany : Int32) (v_m_fitFirst : Int32) (v_m_finding : Int32) (v_m_turns : Nat → Int32) (v_m_ups : Nat → Int32) (v_m_fit : Nat → Int32) (v_m_counts : Nat → Int32) (x1 : Int32) (n : Nat) (r : Int32) (o_m_counts : Nat → Int32) (hf : f_X8_worstAt n v_m_turns v_m_ups v_m_fit v_m_counts x1 = some (r, o_m_counts)) : Met l yX8_worstAt wsX8_worstAt rm_X8_worstAt (RW (dC, dI) (TY cI cZ cP cS) [.ref h_t, .int x1] sz (wd_X8_worstAt cI cZ cP cS h_t h_t_turns h_t_phases h_t_ups h_t_typed h_t_texts h_t_diary h_t_longs h_t_awakes h_t_fit h_t_counts h_t_worths h_t_ripes h_t_growths h_t_gains h_t_isThere h_t_forms h_t_sizes h_t_items h_t_moved v_m_hours v_m_months v_m_fitMany v_m_fitFirst v_m_finding v_m_turns v_m_ups v_m_fit v_m_counts)) (RWi (dC, dI) (TY cI cZ cP cS) r sz (wd_X8_worstAt cI cZ cP cS h_t h_t_turns h_t_phases h_t_ups h_t_typed h_t_texts h_t_diary h_t_longs h_t_awakes h_t_fit h_t_counts h_t_worths h_t_ripes h_t_growths h_t_gains h_t_isThere h_t_forms h_t_sizes h_t_items h_t_moved v_m_hours v_m_months v_m_fitMany v_m_fitFirst v_m_finding v_m_turns v_m_ups v_m_fit v_m_counts) (wd_X8_worstAt cI cZ cP cS h_t h_t_turns h_t_phases h_t_ups h_t_typed h_t_texts h_t_diary h_t_longs h_t_awakes h_t_fit h_t_counts h_t_worths h_t_ripes h_t_growths h_t_gains h_t_isThere h_t_forms h_t_sizes h_t_items h_t_moved v_m_hours v_m_months v_m_fitMany v_m_fitFirst v_m_finding v_m_turns v_m_ups v_m_fit o_m_counts)) 0 0 (va_A (wd_X8_worstAt cI cZ cP cS h_t h_t_turns h_t_phases h_t_ups h_t_typed h_t_texts h_t_diary h_t_longs h_t_awakes h_t_fit h_t_counts h_t_worths h_t_ripes h_t_growths h_t_gains h_t_isThere h_t_forms h_t_sizes h_t_items h_t_moved v_m_hours v_m_months v_m_fitMany v_m_fitFirst v_m_finding v_m_turns v_m_ups v_m_fit v_m_counts) sz) := by
  refine Met.ofW (cc := cX8_worstAt) (maxL := 5) (ret := (some .int)) (by decide) rfl ?_
  intro p e s m args below meth c s₁ B hml hv
  obtain ⟨rfl, hsz, hP, hK, hD0⟩ := hv
  have hx := B.exec
  have hb := B.bytes
  have hr := B.returns
  have hts := atoms_spec (ws := wsX8_worstAt) B.pre
  have hown : s.vm.findClass RX8 = some m.cls := findClass_of_methodNamed B.named
  have hlocks := B.notSynchronized
  subst hsz
  have hD := hD0.self (sz := s.heap.size)
  have hA : ∀ q : Nat, s.heap.size ≤ q → (va_A (wd_X8_worstAt cI cZ cP cS h_t h_t_turns h_t_phases h_t_ups h_t_typed h_t_texts h_t_diary h_t_longs h_t_awakes h_t_fit h_t_counts h_t_worths h_t_ripes h_t_growths h_t_gains h_t_isThere h_t_forms h_t_sizes h_t_items h_t_moved v_m_hours v_m_months v_m_fitMany v_m_fitFirst v_m_finding v_m_turns v_m_ups v_m_fit v_m_counts) s.heap.size) q := fun q h => Or.inr h
  have hS : va_S (va_A (wd_X8_worstAt cI cZ cP cS h_t h_t_turns h_t_phases h_t_ups h_t_typed h_t_texts h_t_diary h_t_longs h_t_awakes h_t_fit h_t_counts h_t_worths h_t_ripes h_t_growths h_t_gains h_t_isThere h_t_forms h_t_sizes h_t_items h_t_moved v_m_hours v_m_months v_m_fitMany v_m_fitFirst v_m_finding v_m_turns v_m_ups v_m_fit v_m_counts) s.heap.size) s.heap s.heap [] := va_S.rf
  have hinX8 : ∀ w ∈ wsX80, w ∈ wsX8_worstAt := by decide +kernel
  have hl := lv_entry ([.ref h_t, .int x1]) (n := 5) (Nat.le_of_ble_eq_true rfl)
  rw [lg_entry_eq]
  generalize (lg_sl ([.ref h_t, .int x1]) ++ List.replicate (5 - (lg_sl ([.ref h_t, .int x1])).length) Slot.unset).toArray = ls at hl ⊢
  have hl : lv_has ls 5 [(0, .ref h_t), (1, .int x1)] := hl
  obtain ⟨H, hH⟩ : ∃ H : Heap, H = s.heap := ⟨_, rfl⟩
  have hP : va_P (dC, dI) vwCl (wd_X8_worstAt cI cZ cP cS h_t h_t_turns h_t_phases h_t_ups h_t_typed h_t_texts h_t_diary h_t_longs h_t_awakes h_t_fit h_t_counts h_t_worths h_t_ripes h_t_growths h_t_gains h_t_isThere h_t_forms h_t_sizes h_t_items h_t_moved v_m_hours v_m_months v_m_fitMany v_m_fitFirst v_m_finding v_m_turns v_m_ups v_m_fit v_m_counts) H := by rw [hH]; exact hP
  have hS : va_S (va_A (wd_X8_worstAt cI cZ cP cS h_t h_t_turns h_t_phases h_t_ups h_t_typed h_t_texts h_t_diary h_t_longs h_t_awakes h_t_fit h_t_counts h_t_worths h_t_ripes h_t_growths h_t_gains h_t_isThere h_t_forms h_t_sizes h_t_items h_t_moved v_m_hours v_m_months v_m_fitMany v_m_fitFirst v_m_finding v_m_turns v_m_ups v_m_fit v_m_counts) s.heap.size) s.heap H [] := by rw [hH]; exact hS
  obtain ⟨locs, hlo⟩ : ∃ L : List Loc, L = [] := ⟨_, rfl⟩
  rw [← hlo] at hS
  suffices hgo : W p l e (headSpec wsX8_worstAt rm_X8_worstAt).room s m ([.ref h_t, .int x1] : List Value).toArray below meth c H locs 0 0 (MQ below (RWi (dC, dI) (TY cI cZ cP cS) r s.heap.size (wd_X8_worstAt cI cZ cP cS h_t h_t_turns h_t_phases h_t_ups h_t_typed h_t_texts h_t_diary h_t_longs h_t_awakes h_t_fit h_t_counts h_t_worths h_t_ripes h_t_growths h_t_gains h_t_isThere h_t_forms h_t_sizes h_t_items h_t_moved v_m_hours v_m_months v_m_fitMany v_m_fitFirst v_m_finding v_m_turns v_m_ups v_m_fit v_m_counts) (wd_X8_worstAt cI cZ cP cS h_t h_t_turns h_t_phases h_t_ups h_t_typed h_t_texts h_t_diary h_t_longs h_t_awakes h_t_fit h_t_counts h_t_worths h_t_ripes h_t_growths h_t_gains h_t_isThere h_t_forms h_t_sizes h_t_items h_t_moved v_m_hours v_m_months v_m_fitMany v_m_fitFirst v_m_finding v_m_turns v_m_ups v_m_fit o_m_counts)) ([.ref h_t, .int x1] : List Value).toArray s 0 0 (va_A (wd_X8_worstAt cI cZ cP cS h_t h_t_turns h_t_phases h_t_ups h_t_typed h_t_texts h_t_diary h_t_longs h_t_awakes h_t_fit h_t_counts h_t_worths h_t_ripes h_t_growths h_t_gains h_t_isThere h_t_forms h_t_sizes h_t_items h_t_moved v_m_hours v_m_months v_m_fitMany v_m_fitFirst v_m_finding v_m_turns v_m_ups v_m_fit v_m_counts) s.heap.size)) (F0 m 0 ls []) by rw [hH, hlo] at hgo; exact hgo
  clear hH hlo
  unfold f_X8_worstAt at hf
  refine lv_iconst (v := 0) hx hb dX8_worstAt_0 (by decide) ?_
  refine lv_istore_n (lv' := [(2, .int 0), (0, .ref h_t), (1, .int x1)]) hx hb dX8_worstAt_1 rfl hl (by decide) rfl (fun ls hl => ?_)
  obtain ⟨kx2, ekx2, hf⟩ := jn1_e hf
  have hx2 : ∀ (u2_m_counts : Nat → Int32) (H : Heap) (locs : List Loc) (ls : Array Slot), lv_has ls 5 [(0, .ref h_t), (1, .int x1)] → va_P (dC, dI) vwCl (wd_X8_worstAt cI cZ cP cS h_t h_t_turns h_t_phases h_t_ups h_t_typed h_t_texts h_t_diary h_t_longs h_t_awakes h_t_fit h_t_counts h_t_worths h_t_ripes h_t_growths h_t_gains h_t_isThere h_t_forms h_t_sizes h_t_items h_t_moved v_m_hours v_m_months v_m_fitMany v_m_fitFirst v_m_finding v_m_turns v_m_ups v_m_fit u2_m_counts) H → va_D (va_A (wd_X8_worstAt cI cZ cP cS h_t h_t_turns h_t_phases h_t_ups h_t_typed h_t_texts h_t_diary h_t_longs h_t_awakes h_t_fit h_t_counts h_t_worths h_t_ripes h_t_growths h_t_gains h_t_isThere h_t_forms h_t_sizes h_t_items h_t_moved v_m_hours v_m_months v_m_fitMany v_m_fitFirst v_m_finding v_m_turns v_m_ups v_m_fit v_m_counts) s.heap.size) (wd_X8_worstAt cI cZ cP cS h_t h_t_turns h_t_phases h_t_ups h_t_typed h_t_texts h_t_diary h_t_longs h_t_awakes h_t_fit h_t_counts h_t_worths h_t_ripes h_t_growths h_t_gains h_t_isThere h_t_forms h_t_sizes h_t_items h_t_moved v_m_hours v_m_months v_m_fitMany v_m_fitFirst v_m_finding v_m_turns v_m_ups v_m_fit u2_m_counts) → va_S (va_A (wd_X8_worstAt cI cZ cP cS h_t h_t_turns h_t_phases h_t_ups h_t_typed h_t_texts h_t_diary h_t_longs h_t_awakes h_t_fit h_t_counts h_t_worths h_t_ripes h_t_growths h_t_gains h_t_isThere h_t_forms h_t_sizes h_t_items h_t_moved v_m_hours v_m_months v_m_fitMany v_m_fitFirst v_m_finding v_m_turns v_m_ups v_m_fit v_m_counts) s.heap.size) s.heap H locs → kx2 u2_m_counts = some (r, o_m_counts) → W p l e (headSpec wsX8_worstAt rm_X8_worstAt).room s m ([.ref h_t, .int x1] : List Value).toArray below meth c H locs 0 0 (MQ below (RWi (dC, dI) (TY cI cZ cP cS) r s.heap.size (wd_X8_worstAt cI cZ cP cS h_t h_t_turns h_t_phases h_t_ups h_t_typed h_t_texts h_t_diary h_t_longs h_t_awakes h_t_fit h_t_counts h_t_worths h_t_ripes h_t_growths h_t_gains h_t_isThere h_t_forms h_t_sizes h_t_items h_t_moved v_m_hours v_m_months v_m_fitMany v_m_fitFirst v_m_finding v_m_turns v_m_ups v_m_fit v_m_counts) (wd_X8_worstAt cI cZ cP cS h_t h_t_turns h_t_phases h_t_ups h_t_typed h_t_texts h_t_diary h_t_longs h_t_awakes h_t_fit h_t_counts h_t_worths h_t_ripes h_t_growths h_t_gains h_t_isThere h_t_forms h_t_sizes h_t_items h_t_moved v_m_hours v_m_months v_m_fitMany v_m_fitFirst v_m_finding v_m_turns v_m_ups v_m_fit o_m_counts)) ([.ref h_t, .int x1] : List Value).toArray s 0 0 (va_A (wd_X8_worstAt cI cZ cP cS h_t h_t_turns h_t_phases h_t_ups h_t_typed h_t_texts h_t_diary h_t_longs h_t_awakes h_t_fit h_t_counts h_t_worths h_t_ripes h_t_growths h_t_gains h_t_isThere h_t_forms h_t_sizes h_t_items h_t_moved v_m_hours v_m_months v_m_fitMany v_m_fitFirst v_m_finding v_m_turns v_m_ups v_m_fit v_m_counts) s.heap.size)) (F0 m 20 ls []) := by
    intro u2_m_counts H locs ls hl hP hD hS hf
    rw [ekx2] at hf
    refine lv_iconst (v := 0) hx hb dX8_worstAt_20 (by decide) ?_
    refine lv_istore_n (lv' := [(2, .int 0), (0, .ref h_t), (1, .int x1)]) hx hb dX8_worstAt_21 rfl hl (by decide) rfl (fun ls hl => ?_)
    obtain ⟨kx22, ekx22, hf⟩ := jn1_e hf
    have hx22 : ∀ (u22_m_counts : Nat → Int32) (H : Heap) (locs : List Loc) (ls : Array Slot), lv_has ls 5 [(0, .ref h_t)] → va_P (dC, dI) vwCl (wd_X8_worstAt cI cZ cP cS h_t h_t_turns h_t_phases h_t_ups h_t_typed h_t_texts h_t_diary h_t_longs h_t_awakes h_t_fit h_t_counts h_t_worths h_t_ripes h_t_growths h_t_gains h_t_isThere h_t_forms h_t_sizes h_t_items h_t_moved v_m_hours v_m_months v_m_fitMany v_m_fitFirst v_m_finding v_m_turns v_m_ups v_m_fit u22_m_counts) H → va_D (va_A (wd_X8_worstAt cI cZ cP cS h_t h_t_turns h_t_phases h_t_ups h_t_typed h_t_texts h_t_diary h_t_longs h_t_awakes h_t_fit h_t_counts h_t_worths h_t_ripes h_t_growths h_t_gains h_t_isThere h_t_forms h_t_sizes h_t_items h_t_moved v_m_hours v_m_months v_m_fitMany v_m_fitFirst v_m_finding v_m_turns v_m_ups v_m_fit v_m_counts) s.heap.size) (wd_X8_worstAt cI cZ cP cS h_t h_t_turns h_t_phases h_t_ups h_t_typed h_t_texts h_t_diary h_t_longs h_t_awakes h_t_fit h_t_counts h_t_worths h_t_ripes h_t_growths h_t_gains h_t_isThere h_t_forms h_t_sizes h_t_items h_t_moved v_m_hours v_m_months v_m_fitMany v_m_fitFirst v_m_finding v_m_turns v_m_ups v_m_fit u22_m_counts) → va_S (va_A (wd_X8_worstAt cI cZ cP cS h_t h_t_turns h_t_phases h_t_ups h_t_typed h_t_texts h_t_diary h_t_longs h_t_awakes h_t_fit h_t_counts h_t_worths h_t_ripes h_t_growths h_t_gains h_t_isThere h_t_forms h_t_sizes h_t_items h_t_moved v_m_hours v_m_months v_m_fitMany v_m_fitFirst v_m_finding v_m_turns v_m_ups v_m_fit v_m_counts) s.heap.size) s.heap H locs → kx22 u22_m_counts = some (r, o_m_counts) → W p l e (headSpec wsX8_worstAt rm_X8_worstAt).room s m ([.ref h_t, .int x1] : List Value).toArray below meth c H locs 0 0 (MQ below (RWi (dC, dI) (TY cI cZ cP cS) r s.heap.size (wd_X8_worstAt cI cZ cP cS h_t h_t_turns h_t_phases h_t_ups h_t_typed h_t_texts h_t_diary h_t_longs h_t_awakes h_t_fit h_t_counts h_t_worths h_t_ripes h_t_growths h_t_gains h_t_isThere h_t_forms h_t_sizes h_t_items h_t_moved v_m_hours v_m_months v_m_fitMany v_m_fitFirst v_m_finding v_m_turns v_m_ups v_m_fit v_m_counts) (wd_X8_worstAt cI cZ cP cS h_t h_t_turns h_t_phases h_t_ups h_t_typed h_t_texts h_t_diary h_t_longs h_t_awakes h_t_fit h_t_counts h_t_worths h_t_ripes h_t_growths h_t_gains h_t_isThere h_t_forms h_t_sizes h_t_items h_t_moved v_m_hours v_m_months v_m_fitMany v_m_fitFirst v_m_finding v_m_turns v_m_ups v_m_fit o_m_counts)) ([.ref h_t, .int x1] : List Value).toArray s 0 0 (va_A (wd_X8_worstAt cI cZ cP cS h_t h_t_turns h_t_phases h_t_ups h_t_typed h_t_texts h_t_diary h_t_longs h_t_awakes h_t_fit h_t_counts h_t_worths h_t_ripes h_t_growths h_t_gains h_t_isThere h_t_forms h_t_sizes h_t_items h_t_moved v_m_hours v_m_months v_m_fitMany v_m_fitFirst v_m_finding v_m_turns v_m_ups v_m_fit v_m_counts) s.heap.size)) (F0 m 116 ls []) := by
      intro u22_m_counts H locs ls hl hP hD hS hf
      rw [ekx22] at hf
      refine lv_iconst (v := 0) hx hb dX8_worstAt_116 (by decide) ?_
      refine lv_istore_n (lv' := [(2, .int 0), (0, .ref h_t)]) hx hb dX8_worstAt_117 rfl hl (by decide) rfl (fun ls hl => ?_)
      refine lv_iconst (v := 0) hx hb dX8_worstAt_118 (by decide) ?_
      refine lv_istore_n (lv' := [(3, .int 0), (2, .int 0), (0, .ref h_t)]) hx hb dX8_worstAt_119 rfl hl (by decide) rfl (fun ls hl => ?_)
      obtain ⟨kx120, ekx120, hf⟩ := jn1_e hf
      have hx120 : ∀ (z120_2 : Int32) (ls : Array Slot), lv_has ls 5 [(2, .int z120_2)] → kx120 z120_2 = some (r, o_m_counts) → W p l e (headSpec wsX8_worstAt rm_X8_worstAt).room s m ([.ref h_t, .int x1] : List Value).toArray below meth c H locs 0 0 (MQ below (RWi (dC, dI) (TY cI cZ cP cS) r s.heap.size (wd_X8_worstAt cI cZ cP cS h_t h_t_turns h_t_phases h_t_ups h_t_typed h_t_texts h_t_diary h_t_longs h_t_awakes h_t_fit h_t_counts h_t_worths h_t_ripes h_t_growths h_t_gains h_t_isThere h_t_forms h_t_sizes h_t_items h_t_moved v_m_hours v_m_months v_m_fitMany v_m_fitFirst v_m_finding v_m_turns v_m_ups v_m_fit v_m_counts) (wd_X8_worstAt cI cZ cP cS h_t h_t_turns h_t_phases h_t_ups h_t_typed h_t_texts h_t_diary h_t_longs h_t_awakes h_t_fit h_t_counts h_t_worths h_t_ripes h_t_growths h_t_gains h_t_isThere h_t_forms h_t_sizes h_t_items h_t_moved v_m_hours v_m_months v_m_fitMany v_m_fitFirst v_m_finding v_m_turns v_m_ups v_m_fit o_m_counts)) ([.ref h_t, .int x1] : List Value).toArray s 0 0 (va_A (wd_X8_worstAt cI cZ cP cS h_t h_t_turns h_t_phases h_t_ups h_t_typed h_t_texts h_t_diary h_t_longs h_t_awakes h_t_fit h_t_counts h_t_worths h_t_ripes h_t_growths h_t_gains h_t_isThere h_t_forms h_t_sizes h_t_items h_t_moved v_m_hours v_m_months v_m_fitMany v_m_fitFirst v_m_finding v_m_turns v_m_ups v_m_fit v_m_counts) s.heap.size)) (F0 m 152 ls []) := by
        intro z120_2 ls hl hf
        rw [ekx120] at hf
        refine lv_iload_n hx hb dX8_worstAt_152 rfl (lv_at hl 0 rfl) ?_
        have hq0 := Option.some.inj hf
        obtain ⟨eq0, hq1⟩ := Prod.mk.inj hq0
        clear hf hq0
        subst eq0
        subst hq1
        exact W.iret hx hb hr (fun t ht hW => ⟨⟨_, (), rfl, rfl, by rw [ht]; exact hP, va_K.moved hW.alike hK, hD⟩, hS.F ht⟩) hS.2.2 dX8_worstAt_153
      have hL120 : ∀ (k120 : Nat) (y120_2 : Int32) (y120_3 : Int32) (ls : Array Slot), lv_has ls 5 [(0, .ref h_t), (2, .int y120_2), (3, .int y120_3)] → L_X8_worstAt_120 u22_m_counts kx120 k120 y120_2 y120_3 = some (r, o_m_counts) → W p l e (headSpec wsX8_worstAt rm_X8_worstAt).room s m ([.ref h_t, .int x1] : List Value).toArray below meth c H locs 0 0 (MQ below (RWi (dC, dI) (TY cI cZ cP cS) r s.heap.size (wd_X8_worstAt cI cZ cP cS h_t h_t_turns h_t_phases h_t_ups h_t_typed h_t_texts h_t_diary h_t_longs h_t_awakes h_t_fit h_t_counts h_t_worths h_t_ripes h_t_growths h_t_gains h_t_isThere h_t_forms h_t_sizes h_t_items h_t_moved v_m_hours v_m_months v_m_fitMany v_m_fitFirst v_m_finding v_m_turns v_m_ups v_m_fit v_m_counts) (wd_X8_worstAt cI cZ cP cS h_t h_t_turns h_t_phases h_t_ups h_t_typed h_t_texts h_t_diary h_t_longs h_t_awakes h_t_fit h_t_counts h_t_worths h_t_ripes h_t_growths h_t_gains h_t_isThere h_t_forms h_t_sizes h_t_items h_t_moved v_m_hours v_m_months v_m_fitMany v_m_fitFirst v_m_finding v_m_turns v_m_ups v_m_fit o_m_counts)) ([.ref h_t, .int x1] : List Value).toArray s 0 0 (va_A (wd_X8_worstAt cI cZ cP cS h_t h_t_turns h_t_phases h_t_ups h_t_typed h_t_texts h_t_diary h_t_longs h_t_awakes h_t_fit h_t_counts h_t_worths h_t_ripes h_t_growths h_t_gains h_t_isThere h_t_forms h_t_sizes h_t_items h_t_moved v_m_hours v_m_months v_m_fitMany v_m_fitFirst v_m_finding v_m_turns v_m_ups v_m_fit v_m_counts) s.heap.size)) (F0 m 120 ls []) := by
        intro k120
        induction k120 with
        | zero =>
          intro y120_2 y120_3 ls hl hf
          exact absurd hf (fun h => Option.some_ne_none _ h.symm)
        | succ k120 ih =>
          intro y120_2 y120_3 ls hl hf
          rw [L_X8_worstAt_120_s] at hf
          refine lv_iload_n hx hb dX8_worstAt_120 rfl (lv_at hl 2 rfl) ?_
          refine lv_iconst (v := 4) hx hb dX8_worstAt_121 (by decide) ?_
          refine lv_icmp_ge (tgt := 152) hx hb dX8_worstAt_122 (by decide) (fun c122 => ?_) (fun c122 => ?_)
          · rw [if_pos c122] at hf
            exact hx120 y120_2 ls (lv_sub hl [1] rfl) hf
          · rw [if_neg c122] at hf
            refine lv_aload_n hx hb dX8_worstAt_125 rfl (lv_at hl 0 rfl) ?_
            refine va_get (D := (dC, dI)) (ci := 7) (v := .ref h_t_counts) (C := RX8) (T := TX8) (N := 24) hx hb hts hinX8 hown hK hP 0 rfl rfl 13 (by decide) (hts (.fieldLink RX8 38 "SecondSunriseModel" "counts" "[I") (by decide +kernel)) (fun _ h9 => h9) rfl dX8_worstAt_126 ?_
            refine lv_iload_n hx hb dX8_worstAt_129 rfl (lv_at hl 2 rfl) ?_
            obtain ⟨hi_1, hf⟩ := ix_e hf
            refine va_iald hx hb hK hP 4 0 rfl rfl hi_1 dX8_worstAt_130 ?_
            refine lv_iload_n hx hb dX8_worstAt_131 rfl (lv_at hl 1 rfl) ?_
            obtain ⟨k145, ek145, hf⟩ := jn1_e hf
            have hj145 : ∀ (q145_0 : Int32) (ls : Array Slot), lv_has ls 5 [(0, .ref h_t), (3, .int y120_3)] → k145 q145_0 = some (r, o_m_counts) → W p l e (headSpec wsX8_worstAt rm_X8_worstAt).room s m ([.ref h_t, .int x1] : List Value).toArray below meth c H locs 0 0 (MQ below (RWi (dC, dI) (TY cI cZ cP cS) r s.heap.size (wd_X8_worstAt cI cZ cP cS h_t h_t_turns h_t_phases h_t_ups h_t_typed h_t_texts h_t_diary h_t_longs h_t_awakes h_t_fit h_t_counts h_t_worths h_t_ripes h_t_growths h_t_gains h_t_isThere h_t_forms h_t_sizes h_t_items h_t_moved v_m_hours v_m_months v_m_fitMany v_m_fitFirst v_m_finding v_m_turns v_m_ups v_m_fit v_m_counts) (wd_X8_worstAt cI cZ cP cS h_t h_t_turns h_t_phases h_t_ups h_t_typed h_t_texts h_t_diary h_t_longs h_t_awakes h_t_fit h_t_counts h_t_worths h_t_ripes h_t_growths h_t_gains h_t_isThere h_t_forms h_t_sizes h_t_items h_t_moved v_m_hours v_m_months v_m_fitMany v_m_fitFirst v_m_finding v_m_turns v_m_ups v_m_fit o_m_counts)) ([.ref h_t, .int x1] : List Value).toArray s 0 0 (va_A (wd_X8_worstAt cI cZ cP cS h_t h_t_turns h_t_phases h_t_ups h_t_typed h_t_texts h_t_diary h_t_longs h_t_awakes h_t_fit h_t_counts h_t_worths h_t_ripes h_t_growths h_t_gains h_t_isThere h_t_forms h_t_sizes h_t_items h_t_moved v_m_hours v_m_months v_m_fitMany v_m_fitFirst v_m_finding v_m_turns v_m_ups v_m_fit v_m_counts) s.heap.size)) (F0 m 145 ls [.int q145_0]) := by
              intro q145_0 ls hl hf
              rw [ek145] at hf
              refine lv_istore_n (lv' := [(2, .int q145_0), (0, .ref h_t), (3, .int y120_3)]) hx hb dX8_worstAt_145 rfl hl (by decide) rfl (fun ls hl => ?_)
              refine lv_iinc (v := (y120_3 + 1)) (lv' := [(3, .int (y120_3 + 1)), (2, .int q145_0), (0, .ref h_t)]) hx hb dX8_worstAt_146 hl (k := 2) rfl rfl (by decide) rfl (fun ls hl => ?_)
              refine lv_goto (tgt := 120) hx hb dX8_worstAt_149 (by decide) ?_
              exact ih q145_0 (y120_3 + 1) ls (lv_sub hl [2, 1, 0] rfl) hf
            refine lv_icmp_le (tgt := 144) hx hb dX8_worstAt_132 (by decide) (fun c132 => ?_) (fun c132 => ?_)
            · rw [if_pos c132] at hf
              refine lv_iload_n hx hb dX8_worstAt_144 rfl (lv_at hl 1 rfl) ?_
              exact hj145 y120_2 ls (lv_sub hl [0, 2] rfl) hf
            · rw [if_neg c132] at hf
              refine lv_aload_n hx hb dX8_worstAt_135 rfl (lv_at hl 0 rfl) ?_
              refine va_get (D := (dC, dI)) (ci := 7) (v := .ref h_t_counts) (C := RX8) (T := TX8) (N := 24) hx hb hts hinX8 hown hK hP 0 rfl rfl 13 (by decide) (hts (.fieldLink RX8 38 "SecondSunriseModel" "counts" "[I") (by decide +kernel)) (fun _ h9 => h9) rfl dX8_worstAt_136 ?_
              refine lv_iload_n hx hb dX8_worstAt_139 rfl (lv_at hl 2 rfl) ?_
              obtain ⟨hi_2, hf⟩ := ix_e hf
              refine va_iald hx hb hK hP 4 0 rfl rfl hi_2 dX8_worstAt_140 ?_
              refine lv_goto (tgt := 145) hx hb dX8_worstAt_141 (by decide) ?_
              exact hj145 (u22_m_counts y120_3.toNatClampNeg) ls (lv_sub hl [0, 2] rfl) hf
      exact hL120 n 0 0 ls (lv_sub hl [2, 1, 0] rfl) hf
    have hL22 : ∀ (k22 : Nat) (y22_2 : Int32) (w22_m_counts : Nat → Int32) (H : Heap) (locs : List Loc) (ls : Array Slot), lv_has ls 5 [(0, .ref h_t), (1, .int x1), (2, .int y22_2)] → va_P (dC, dI) vwCl (wd_X8_worstAt cI cZ cP cS h_t h_t_turns h_t_phases h_t_ups h_t_typed h_t_texts h_t_diary h_t_longs h_t_awakes h_t_fit h_t_counts h_t_worths h_t_ripes h_t_growths h_t_gains h_t_isThere h_t_forms h_t_sizes h_t_items h_t_moved v_m_hours v_m_months v_m_fitMany v_m_fitFirst v_m_finding v_m_turns v_m_ups v_m_fit w22_m_counts) H → va_D (va_A (wd_X8_worstAt cI cZ cP cS h_t h_t_turns h_t_phases h_t_ups h_t_typed h_t_texts h_t_diary h_t_longs h_t_awakes h_t_fit h_t_counts h_t_worths h_t_ripes h_t_growths h_t_gains h_t_isThere h_t_forms h_t_sizes h_t_items h_t_moved v_m_hours v_m_months v_m_fitMany v_m_fitFirst v_m_finding v_m_turns v_m_ups v_m_fit v_m_counts) s.heap.size) (wd_X8_worstAt cI cZ cP cS h_t h_t_turns h_t_phases h_t_ups h_t_typed h_t_texts h_t_diary h_t_longs h_t_awakes h_t_fit h_t_counts h_t_worths h_t_ripes h_t_growths h_t_gains h_t_isThere h_t_forms h_t_sizes h_t_items h_t_moved v_m_hours v_m_months v_m_fitMany v_m_fitFirst v_m_finding v_m_turns v_m_ups v_m_fit w22_m_counts) → va_S (va_A (wd_X8_worstAt cI cZ cP cS h_t h_t_turns h_t_phases h_t_ups h_t_typed h_t_texts h_t_diary h_t_longs h_t_awakes h_t_fit h_t_counts h_t_worths h_t_ripes h_t_growths h_t_gains h_t_isThere h_t_forms h_t_sizes h_t_items h_t_moved v_m_hours v_m_months v_m_fitMany v_m_fitFirst v_m_finding v_m_turns v_m_ups v_m_fit v_m_counts) s.heap.size) s.heap H locs → L_X8_worstAt_22 n v_m_turns v_m_ups v_m_fit x1 kx22 k22 y22_2 w22_m_counts = some (r, o_m_counts) → W p l e (headSpec wsX8_worstAt rm_X8_worstAt).room s m ([.ref h_t, .int x1] : List Value).toArray below meth c H locs 0 0 (MQ below (RWi (dC, dI) (TY cI cZ cP cS) r s.heap.size (wd_X8_worstAt cI cZ cP cS h_t h_t_turns h_t_phases h_t_ups h_t_typed h_t_texts h_t_diary h_t_longs h_t_awakes h_t_fit h_t_counts h_t_worths h_t_ripes h_t_growths h_t_gains h_t_isThere h_t_forms h_t_sizes h_t_items h_t_moved v_m_hours v_m_months v_m_fitMany v_m_fitFirst v_m_finding v_m_turns v_m_ups v_m_fit v_m_counts) (wd_X8_worstAt cI cZ cP cS h_t h_t_turns h_t_phases h_t_ups h_t_typed h_t_texts h_t_diary h_t_longs h_t_awakes h_t_fit h_t_counts h_t_worths h_t_ripes h_t_growths h_t_gains h_t_isThere h_t_forms h_t_sizes h_t_items h_t_moved v_m_hours v_m_months v_m_fitMany v_m_fitFirst v_m_finding v_m_turns v_m_ups v_m_fit o_m_counts)) ([.ref h_t, .int x1] : List Value).toArray s 0 0 (va_A (wd_X8_worstAt cI cZ cP cS h_t h_t_turns h_t_phases h_t_ups h_t_typed h_t_texts h_t_diary h_t_longs h_t_awakes h_t_fit h_t_counts h_t_worths h_t_ripes h_t_growths h_t_gains h_t_isThere h_t_forms h_t_sizes h_t_items h_t_moved v_m_hours v_m_months v_m_fitMany v_m_fitFirst v_m_finding v_m_turns v_m_ups v_m_fit v_m_counts) s.heap.size)) (F0 m 22 ls []) := by
      intro k22
      induction k22 with
      | zero =>
        intro y22_2 w22_m_counts H locs ls hl hP hD hS hf
        exact absurd hf (fun h => Option.some_ne_none _ h.symm)
      | succ k22 ih =>
        intro y22_2 w22_m_counts H locs ls hl hP hD hS hf
        rw [L_X8_worstAt_22_s] at hf
        refine lv_iload_n hx hb dX8_worstAt_22 rfl (lv_at hl 2 rfl) ?_
        refine lv_aload_n hx hb dX8_worstAt_23 rfl (lv_at hl 0 rfl) ?_
        refine va_get (D := (dC, dI)) (ci := 7) (v := .ref h_t_turns) (C := RX8) (T := TX8) (N := 24) hx hb hts hinX8 hown hK hP 0 rfl rfl 0 (by decide) (hts (.fieldLink RX8 7 "SecondSunriseModel" "turns" "[I") (by decide +kernel)) (fun _ h9 => h9) rfl dX8_worstAt_24 ?_
        refine lv_iconst (v := 0) hx hb dX8_worstAt_27 (by decide) ?_
        refine va_iald hx hb hK hP 1 0 rfl rfl (show vp_in 0 2 by unfold vp_in; decide) dX8_worstAt_28 ?_
        refine lv_icmp_ge (tgt := 116) hx hb dX8_worstAt_29 (by decide) (fun c29 => ?_) (fun c29 => ?_)
        · rw [if_pos c29] at hf
          exact hx22 w22_m_counts H locs ls (lv_sub hl [0] rfl) hP hD hS hf
        · rw [if_neg c29] at hf
          refine lv_aload_n hx hb dX8_worstAt_32 rfl (lv_at hl 0 rfl) ?_
          refine lv_iconst (v := 0) hx hb dX8_worstAt_33 (by decide) ?_
          refine lv_iload_n hx hb dX8_worstAt_34 rfl (lv_at hl 2 rfl) ?_
          refine lv_iload_n hx hb dX8_worstAt_35 rfl (lv_at hl 1 rfl) ?_
          obtain ⟨r36_3, hc_4, hf⟩ := bd1_e hf
          refine vp_callSi (va_runV (As := [.int 0, .int y22_2, .int x1]) (rest := []) ⟨hx, hb, hml, hown, hts⟩ (c_X8_isUpBy l dC dI cI cZ cP cS h_t h_t_turns h_t_phases h_t_ups h_t_typed h_t_texts h_t_diary h_t_longs h_t_awakes h_t_fit h_t_counts h_t_worths h_t_ripes h_t_growths h_t_gains h_t_isThere h_t_forms h_t_sizes h_t_items h_t_moved v_m_hours v_m_months v_m_fitMany v_m_fitFirst v_m_finding v_m_turns v_m_ups 0 y22_2 x1 n r36_3 hc_4) (cwV 3 hts gX8_worstAt_X8_isUpBy rfl rfl rfl (by decide +kernel) ⟨Nat.le_of_ble_eq_true rfl, Nat.le_of_ble_eq_true rfl⟩) (pv_ro (ci := 7) (q0 := 0) hK (hP.sub (ws' := (wd_X8_isUpBy cI cZ cP cS h_t h_t_turns h_t_phases h_t_ups h_t_typed h_t_texts h_t_diary h_t_longs h_t_awakes h_t_fit h_t_counts h_t_worths h_t_ripes h_t_growths h_t_gains h_t_isThere h_t_forms h_t_sizes h_t_items h_t_moved v_m_hours v_m_months v_m_fitMany v_m_fitFirst v_m_finding v_m_turns v_m_ups)) [0, 1, 2] rfl) rfl rfl) rfl rfl hl.1 rfl (lv_room (Nat.le_of_ble_eq_true rfl)) dX8_worstAt_36 ⟨Nat.zero_le _, Nat.zero_le _⟩).run (fun x e_5 => ?_)
          obtain ⟨e_5, hb_6⟩ := e_5
          rw [e_5] at hb_6 ⊢
          obtain ⟨v47_7, ev47_7, hf⟩ := lt_e hf
          have hj47_8 : ∀ (ls : Array Slot), lv_has ls 5 [(0, .ref h_t), (1, .int x1), (2, .int y22_2)] → W p l e (headSpec wsX8_worstAt rm_X8_worstAt).room s m ([.ref h_t, .int x1] : List Value).toArray below meth c H locs 0 0 (MQ below (RWi (dC, dI) (TY cI cZ cP cS) r s.heap.size (wd_X8_worstAt cI cZ cP cS h_t h_t_turns h_t_phases h_t_ups h_t_typed h_t_texts h_t_diary h_t_longs h_t_awakes h_t_fit h_t_counts h_t_worths h_t_ripes h_t_growths h_t_gains h_t_isThere h_t_forms h_t_sizes h_t_items h_t_moved v_m_hours v_m_months v_m_fitMany v_m_fitFirst v_m_finding v_m_turns v_m_ups v_m_fit v_m_counts) (wd_X8_worstAt cI cZ cP cS h_t h_t_turns h_t_phases h_t_ups h_t_typed h_t_texts h_t_diary h_t_longs h_t_awakes h_t_fit h_t_counts h_t_worths h_t_ripes h_t_growths h_t_gains h_t_isThere h_t_forms h_t_sizes h_t_items h_t_moved v_m_hours v_m_months v_m_fitMany v_m_fitFirst v_m_finding v_m_turns v_m_ups v_m_fit o_m_counts)) ([.ref h_t, .int x1] : List Value).toArray s 0 0 (va_A (wd_X8_worstAt cI cZ cP cS h_t h_t_turns h_t_phases h_t_ups h_t_typed h_t_texts h_t_diary h_t_longs h_t_awakes h_t_fit h_t_counts h_t_worths h_t_ripes h_t_growths h_t_gains h_t_isThere h_t_forms h_t_sizes h_t_items h_t_moved v_m_hours v_m_months v_m_fitMany v_m_fitFirst v_m_finding v_m_turns v_m_ups v_m_fit v_m_counts) s.heap.size)) (F0 m 47 ls [.int v47_7]) := by
            intro ls hl
            refine lv_istore_n (lv' := [(3, .int v47_7), (0, .ref h_t), (1, .int x1), (2, .int y22_2)]) hx hb dX8_worstAt_47 rfl hl (by decide) rfl (fun ls hl => ?_)
            refine lv_iconst (v := 0) hx hb dX8_worstAt_48 (by decide) ?_
            refine lv_istore (lv' := [(4, .int 0), (3, .int v47_7), (0, .ref h_t), (1, .int x1), (2, .int y22_2)]) hx hb dX8_worstAt_49 hl (by decide) rfl (fun ls hl => ?_)
            obtain ⟨kx51, ekx51, hf⟩ := jn1_e hf
            have hx51 : ∀ (u51_m_counts : Nat → Int32) (H : Heap) (locs : List Loc) (ls : Array Slot), lv_has ls 5 [(0, .ref h_t), (1, .int x1), (2, .int y22_2)] → va_P (dC, dI) vwCl (wd_X8_worstAt cI cZ cP cS h_t h_t_turns h_t_phases h_t_ups h_t_typed h_t_texts h_t_diary h_t_longs h_t_awakes h_t_fit h_t_counts h_t_worths h_t_ripes h_t_growths h_t_gains h_t_isThere h_t_forms h_t_sizes h_t_items h_t_moved v_m_hours v_m_months v_m_fitMany v_m_fitFirst v_m_finding v_m_turns v_m_ups v_m_fit u51_m_counts) H → va_D (va_A (wd_X8_worstAt cI cZ cP cS h_t h_t_turns h_t_phases h_t_ups h_t_typed h_t_texts h_t_diary h_t_longs h_t_awakes h_t_fit h_t_counts h_t_worths h_t_ripes h_t_growths h_t_gains h_t_isThere h_t_forms h_t_sizes h_t_items h_t_moved v_m_hours v_m_months v_m_fitMany v_m_fitFirst v_m_finding v_m_turns v_m_ups v_m_fit v_m_counts) s.heap.size) (wd_X8_worstAt cI cZ cP cS h_t h_t_turns h_t_phases h_t_ups h_t_typed h_t_texts h_t_diary h_t_longs h_t_awakes h_t_fit h_t_counts h_t_worths h_t_ripes h_t_growths h_t_gains h_t_isThere h_t_forms h_t_sizes h_t_items h_t_moved v_m_hours v_m_months v_m_fitMany v_m_fitFirst v_m_finding v_m_turns v_m_ups v_m_fit u51_m_counts) → va_S (va_A (wd_X8_worstAt cI cZ cP cS h_t h_t_turns h_t_phases h_t_ups h_t_typed h_t_texts h_t_diary h_t_longs h_t_awakes h_t_fit h_t_counts h_t_worths h_t_ripes h_t_growths h_t_gains h_t_isThere h_t_forms h_t_sizes h_t_items h_t_moved v_m_hours v_m_months v_m_fitMany v_m_fitFirst v_m_finding v_m_turns v_m_ups v_m_fit v_m_counts) s.heap.size) s.heap H locs → kx51 u51_m_counts = some (r, o_m_counts) → W p l e (headSpec wsX8_worstAt rm_X8_worstAt).room s m ([.ref h_t, .int x1] : List Value).toArray below meth c H locs 0 0 (MQ below (RWi (dC, dI) (TY cI cZ cP cS) r s.heap.size (wd_X8_worstAt cI cZ cP cS h_t h_t_turns h_t_phases h_t_ups h_t_typed h_t_texts h_t_diary h_t_longs h_t_awakes h_t_fit h_t_counts h_t_worths h_t_ripes h_t_growths h_t_gains h_t_isThere h_t_forms h_t_sizes h_t_items h_t_moved v_m_hours v_m_months v_m_fitMany v_m_fitFirst v_m_finding v_m_turns v_m_ups v_m_fit v_m_counts) (wd_X8_worstAt cI cZ cP cS h_t h_t_turns h_t_phases h_t_ups h_t_typed h_t_texts h_t_diary h_t_longs h_t_awakes h_t_fit h_t_counts h_t_worths h_t_ripes h_t_growths h_t_gains h_t_isThere h_t_forms h_t_sizes h_t_items h_t_moved v_m_hours v_m_months v_m_fitMany v_m_fitFirst v_m_finding v_m_turns v_m_ups v_m_fit o_m_counts)) ([.ref h_t, .int x1] : List Value).toArray s 0 0 (va_A (wd_X8_worstAt cI cZ cP cS h_t h_t_turns h_t_phases h_t_ups h_t_typed h_t_texts h_t_diary h_t_longs h_t_awakes h_t_fit h_t_counts h_t_worths h_t_ripes h_t_growths h_t_gains h_t_isThere h_t_forms h_t_sizes h_t_items h_t_moved v_m_hours v_m_months v_m_fitMany v_m_fitFirst v_m_finding v_m_turns v_m_ups v_m_fit v_m_counts) s.heap.size)) (F0 m 110 ls []) := by
              intro u51_m_counts H locs ls hl hP hD hS hf
              rw [ekx51] at hf
              refine lv_iinc (v := (y22_2 + 1)) (lv' := [(2, .int (y22_2 + 1)), (0, .ref h_t), (1, .int x1)]) hx hb dX8_worstAt_110 hl (k := 2) rfl rfl (by decide) rfl (fun ls hl => ?_)
              refine lv_goto (tgt := 22) hx hb dX8_worstAt_113 (by decide) ?_
              exact ih (y22_2 + 1) u51_m_counts H locs ls (lv_sub hl [1, 2, 0] rfl) hP hD hS hf
            have hL51 : ∀ (k51 : Nat) (y51_4 : Int32) (w51_m_counts : Nat → Int32) (H : Heap) (locs : List Loc) (ls : Array Slot), lv_has ls 5 [(0, .ref h_t), (1, .int x1), (2, .int y22_2), (3, .int v47_7), (4, .int y51_4)] → va_P (dC, dI) vwCl (wd_X8_worstAt cI cZ cP cS h_t h_t_turns h_t_phases h_t_ups h_t_typed h_t_texts h_t_diary h_t_longs h_t_awakes h_t_fit h_t_counts h_t_worths h_t_ripes h_t_growths h_t_gains h_t_isThere h_t_forms h_t_sizes h_t_items h_t_moved v_m_hours v_m_months v_m_fitMany v_m_fitFirst v_m_finding v_m_turns v_m_ups v_m_fit w51_m_counts) H → va_D (va_A (wd_X8_worstAt cI cZ cP cS h_t h_t_turns h_t_phases h_t_ups h_t_typed h_t_texts h_t_diary h_t_longs h_t_awakes h_t_fit h_t_counts h_t_worths h_t_ripes h_t_growths h_t_gains h_t_isThere h_t_forms h_t_sizes h_t_items h_t_moved v_m_hours v_m_months v_m_fitMany v_m_fitFirst v_m_finding v_m_turns v_m_ups v_m_fit v_m_counts) s.heap.size) (wd_X8_worstAt cI cZ cP cS h_t h_t_turns h_t_phases h_t_ups h_t_typed h_t_texts h_t_diary h_t_longs h_t_awakes h_t_fit h_t_counts h_t_worths h_t_ripes h_t_growths h_t_gains h_t_isThere h_t_forms h_t_sizes h_t_items h_t_moved v_m_hours v_m_months v_m_fitMany v_m_fitFirst v_m_finding v_m_turns v_m_ups v_m_fit w51_m_counts) → va_S (va_A (wd_X8_worstAt cI cZ cP cS h_t h_t_turns h_t_phases h_t_ups h_t_typed h_t_texts h_t_diary h_t_longs h_t_awakes h_t_fit h_t_counts h_t_worths h_t_ripes h_t_growths h_t_gains h_t_isThere h_t_forms h_t_sizes h_t_items h_t_moved v_m_hours v_m_months v_m_fitMany v_m_fitFirst v_m_finding v_m_turns v_m_ups v_m_fit v_m_counts) s.heap.size) s.heap H locs → L_X8_worstAt_51 n v_m_turns v_m_ups v_m_fit x1 y22_2 v47_7 kx51 k51 y51_4 w51_m_counts = some (r, o_m_counts) → W p l e (headSpec wsX8_worstAt rm_X8_worstAt).room s m ([.ref h_t, .int x1] : List Value).toArray below meth c H locs 0 0 (MQ below (RWi (dC, dI) (TY cI cZ cP cS) r s.heap.size (wd_X8_worstAt cI cZ cP cS h_t h_t_turns h_t_phases h_t_ups h_t_typed h_t_texts h_t_diary h_t_longs h_t_awakes h_t_fit h_t_counts h_t_worths h_t_ripes h_t_growths h_t_gains h_t_isThere h_t_forms h_t_sizes h_t_items h_t_moved v_m_hours v_m_months v_m_fitMany v_m_fitFirst v_m_finding v_m_turns v_m_ups v_m_fit v_m_counts) (wd_X8_worstAt cI cZ cP cS h_t h_t_turns h_t_phases h_t_ups h_t_typed h_t_texts h_t_diary h_t_longs h_t_awakes h_t_fit h_t_counts h_t_worths h_t_ripes h_t_growths h_t_gains h_t_isThere h_t_forms h_t_sizes h_t_items h_t_moved v_m_hours v_m_months v_m_fitMany v_m_fitFirst v_m_finding v_m_turns v_m_ups v_m_fit o_m_counts)) ([.ref h_t, .int x1] : List Value).toArray s 0 0 (va_A (wd_X8_worstAt cI cZ cP cS h_t h_t_turns h_t_phases h_t_ups h_t_typed h_t_texts h_t_diary h_t_longs h_t_awakes h_t_fit h_t_counts h_t_worths h_t_ripes h_t_growths h_t_gains h_t_isThere h_t_forms h_t_sizes h_t_items h_t_moved v_m_hours v_m_months v_m_fitMany v_m_fitFirst v_m_finding v_m_turns v_m_ups v_m_fit v_m_counts) s.heap.size)) (F0 m 51 ls []) := by
              intro k51
              induction k51 with
              | zero =>
                intro y51_4 w51_m_counts H locs ls hl hP hD hS hf
                exact absurd hf (fun h => Option.some_ne_none _ h.symm)
              | succ k51 ih =>
                intro y51_4 w51_m_counts H locs ls hl hP hD hS hf
                rw [L_X8_worstAt_51_s] at hf
                refine lv_iload hx hb dX8_worstAt_51 (lv_at hl 4 rfl) ?_
                refine lv_aload_n hx hb dX8_worstAt_53 rfl (lv_at hl 0 rfl) ?_
                refine va_get (D := (dC, dI)) (ci := 7) (v := .ref h_t_turns) (C := RX8) (T := TX8) (N := 24) hx hb hts hinX8 hown hK hP 0 rfl rfl 0 (by decide) (hts (.fieldLink RX8 7 "SecondSunriseModel" "turns" "[I") (by decide +kernel)) (fun _ h9 => h9) rfl dX8_worstAt_54 ?_
                refine lv_iconst (v := 1) hx hb dX8_worstAt_57 (by decide) ?_
                refine va_iald hx hb hK hP 1 0 rfl rfl (show vp_in 1 2 by unfold vp_in; decide) dX8_worstAt_58 ?_
                refine lv_icmp_ge (tgt := 110) hx hb dX8_worstAt_59 (by decide) (fun c59 => ?_) (fun c59 => ?_)
                · rw [if_pos c59] at hf
                  exact hx51 w51_m_counts H locs ls (lv_sub hl [0, 1, 2] rfl) hP hD hS hf
                · rw [if_neg c59] at hf
                  refine lv_aload_n hx hb dX8_worstAt_62 rfl (lv_at hl 0 rfl) ?_
                  refine va_get (D := (dC, dI)) (ci := 7) (v := .ref h_t_fit) (C := RX8) (T := TX8) (N := 24) hx hb hts hinX8 hown hK hP 0 rfl rfl 10 (by decide) (hts (.fieldLink RX8 34 "SecondSunriseModel" "fit" "[Z") (by decide +kernel)) (fun _ h9 => h9) rfl dX8_worstAt_63 ?_
                  refine lv_bipush (v := 40) hx hb dX8_worstAt_66 (by decide) ?_
                  refine lv_iload_n hx hb dX8_worstAt_68 rfl (lv_at hl 2 rfl) ?_
                  refine lv_imul hx hb dX8_worstAt_69 ?_
                  refine lv_iload hx hb dX8_worstAt_70 (lv_at hl 4 rfl) ?_
                  refine lv_iadd hx hb dX8_worstAt_72 ?_
                  obtain ⟨hi_9, hf⟩ := ix_e hf
                  refine va_zald hx hb hK hP 3 1 rfl rfl hi_9 dX8_worstAt_73 ?_
                  obtain ⟨k104, ek104, hf⟩ := jn1_e hf
                  have hj104 : ∀ (w104_m_counts : Nat → Int32) (H : Heap) (locs : List Loc) (ls : Array Slot), lv_has ls 5 [(0, .ref h_t), (1, .int x1), (2, .int y22_2), (3, .int v47_7), (4, .int y51_4)] → va_P (dC, dI) vwCl (wd_X8_worstAt cI cZ cP cS h_t h_t_turns h_t_phases h_t_ups h_t_typed h_t_texts h_t_diary h_t_longs h_t_awakes h_t_fit h_t_counts h_t_worths h_t_ripes h_t_growths h_t_gains h_t_isThere h_t_forms h_t_sizes h_t_items h_t_moved v_m_hours v_m_months v_m_fitMany v_m_fitFirst v_m_finding v_m_turns v_m_ups v_m_fit w104_m_counts) H → va_D (va_A (wd_X8_worstAt cI cZ cP cS h_t h_t_turns h_t_phases h_t_ups h_t_typed h_t_texts h_t_diary h_t_longs h_t_awakes h_t_fit h_t_counts h_t_worths h_t_ripes h_t_growths h_t_gains h_t_isThere h_t_forms h_t_sizes h_t_items h_t_moved v_m_hours v_m_months v_m_fitMany v_m_fitFirst v_m_finding v_m_turns v_m_ups v_m_fit v_m_counts) s.heap.size) (wd_X8_worstAt cI cZ cP cS h_t h_t_turns h_t_phases h_t_ups h_t_typed h_t_texts h_t_diary h_t_longs h_t_awakes h_t_fit h_t_counts h_t_worths h_t_ripes h_t_growths h_t_gains h_t_isThere h_t_forms h_t_sizes h_t_items h_t_moved v_m_hours v_m_months v_m_fitMany v_m_fitFirst v_m_finding v_m_turns v_m_ups v_m_fit w104_m_counts) → va_S (va_A (wd_X8_worstAt cI cZ cP cS h_t h_t_turns h_t_phases h_t_ups h_t_typed h_t_texts h_t_diary h_t_longs h_t_awakes h_t_fit h_t_counts h_t_worths h_t_ripes h_t_growths h_t_gains h_t_isThere h_t_forms h_t_sizes h_t_items h_t_moved v_m_hours v_m_months v_m_fitMany v_m_fitFirst v_m_finding v_m_turns v_m_ups v_m_fit v_m_counts) s.heap.size) s.heap H locs → k104 w104_m_counts = some (r, o_m_counts) → W p l e (headSpec wsX8_worstAt rm_X8_worstAt).room s m ([.ref h_t, .int x1] : List Value).toArray below meth c H locs 0 0 (MQ below (RWi (dC, dI) (TY cI cZ cP cS) r s.heap.size (wd_X8_worstAt cI cZ cP cS h_t h_t_turns h_t_phases h_t_ups h_t_typed h_t_texts h_t_diary h_t_longs h_t_awakes h_t_fit h_t_counts h_t_worths h_t_ripes h_t_growths h_t_gains h_t_isThere h_t_forms h_t_sizes h_t_items h_t_moved v_m_hours v_m_months v_m_fitMany v_m_fitFirst v_m_finding v_m_turns v_m_ups v_m_fit v_m_counts) (wd_X8_worstAt cI cZ cP cS h_t h_t_turns h_t_phases h_t_ups h_t_typed h_t_texts h_t_diary h_t_longs h_t_awakes h_t_fit h_t_counts h_t_worths h_t_ripes h_t_growths h_t_gains h_t_isThere h_t_forms h_t_sizes h_t_items h_t_moved v_m_hours v_m_months v_m_fitMany v_m_fitFirst v_m_finding v_m_turns v_m_ups v_m_fit o_m_counts)) ([.ref h_t, .int x1] : List Value).toArray s 0 0 (va_A (wd_X8_worstAt cI cZ cP cS h_t h_t_turns h_t_phases h_t_ups h_t_typed h_t_texts h_t_diary h_t_longs h_t_awakes h_t_fit h_t_counts h_t_worths h_t_ripes h_t_growths h_t_gains h_t_isThere h_t_forms h_t_sizes h_t_items h_t_moved v_m_hours v_m_months v_m_fitMany v_m_fitFirst v_m_finding v_m_turns v_m_ups v_m_fit v_m_counts) s.heap.size)) (F0 m 104 ls []) := by
                    intro w104_m_counts H locs ls hl hP hD hS hf
                    rw [ek104] at hf
                    refine lv_iinc (v := (y51_4 + 1)) (lv' := [(4, .int (y51_4 + 1)), (0, .ref h_t), (1, .int x1), (2, .int y22_2), (3, .int v47_7)]) hx hb dX8_worstAt_104 hl (k := 4) rfl rfl (by decide) rfl (fun ls hl => ?_)
                    refine lv_goto (tgt := 51) hx hb dX8_worstAt_107 (by decide) ?_
                    exact ih (y51_4 + 1) w104_m_counts H locs ls (lv_sub hl [1, 2, 3, 4, 0] rfl) hP hD hS hf
                  refine lv_if_eq (tgt := 104) hx hb dX8_worstAt_74 (by decide) (fun c74 => ?_) (fun c74 => ?_)
                  · rw [if_pos c74] at hf
                    exact hj104 w51_m_counts H locs ls (lv_sub hl [0, 1, 2, 3, 4] rfl) hP hD hS hf
                  · rw [if_neg c74] at hf
                    refine lv_aload_n hx hb dX8_worstAt_77 rfl (lv_at hl 0 rfl) ?_
                    refine va_get (D := (dC, dI)) (ci := 7) (v := .ref h_t_counts) (C := RX8) (T := TX8) (N := 24) hx hb hts hinX8 hown hK hP 0 rfl rfl 13 (by decide) (hts (.fieldLink RX8 38 "SecondSunriseModel" "counts" "[I") (by decide +kernel)) (fun _ h9 => h9) rfl dX8_worstAt_78 ?_
                    refine lv_iload_n hx hb dX8_worstAt_81 rfl (lv_at hl 3 rfl) ?_
                    refine lv_aload_n hx hb dX8_worstAt_82 rfl (lv_at hl 0 rfl) ?_
                    refine lv_iconst (v := 1) hx hb dX8_worstAt_83 (by decide) ?_
                    refine lv_iload hx hb dX8_worstAt_84 (lv_at hl 4 rfl) ?_
                    refine lv_iload_n hx hb dX8_worstAt_86 rfl (lv_at hl 1 rfl) ?_
                    obtain ⟨r87_10, hc_11, hf⟩ := bd1_e hf
                    refine vp_callSi (va_runV (As := [.int 1, .int y51_4, .int x1]) (rest := [.int v47_7, .ref h_t_counts]) ⟨hx, hb, hml, hown, hts⟩ (c_X8_isUpBy l dC dI cI cZ cP cS h_t h_t_turns h_t_phases h_t_ups h_t_typed h_t_texts h_t_diary h_t_longs h_t_awakes h_t_fit h_t_counts h_t_worths h_t_ripes h_t_growths h_t_gains h_t_isThere h_t_forms h_t_sizes h_t_items h_t_moved v_m_hours v_m_months v_m_fitMany v_m_fitFirst v_m_finding v_m_turns v_m_ups 1 y51_4 x1 n r87_10 hc_11) (cwV 3 hts gX8_worstAt_X8_isUpBy rfl rfl rfl (by decide +kernel) ⟨Nat.le_of_ble_eq_true rfl, Nat.le_of_ble_eq_true rfl⟩) (pv_ro (ci := 7) (q0 := 0) hK (hP.sub (ws' := (wd_X8_isUpBy cI cZ cP cS h_t h_t_turns h_t_phases h_t_ups h_t_typed h_t_texts h_t_diary h_t_longs h_t_awakes h_t_fit h_t_counts h_t_worths h_t_ripes h_t_growths h_t_gains h_t_isThere h_t_forms h_t_sizes h_t_items h_t_moved v_m_hours v_m_months v_m_fitMany v_m_fitFirst v_m_finding v_m_turns v_m_ups)) [0, 1, 2] rfl) rfl rfl) rfl rfl hl.1 rfl (lv_room (Nat.le_of_ble_eq_true rfl)) dX8_worstAt_87 ⟨Nat.zero_le _, Nat.zero_le _⟩).run (fun x e_12 => ?_)
                    obtain ⟨e_12, hb_13⟩ := e_12
                    rw [e_12] at hb_13 ⊢
                    obtain ⟨v98_14, ev98_14, hf⟩ := lt_e hf
                    have hj98_15 : ∀ (ls : Array Slot), lv_has ls 5 [(0, .ref h_t), (1, .int x1), (2, .int y22_2), (3, .int v47_7), (4, .int y51_4)] → W p l e (headSpec wsX8_worstAt rm_X8_worstAt).room s m ([.ref h_t, .int x1] : List Value).toArray below meth c H locs 0 0 (MQ below (RWi (dC, dI) (TY cI cZ cP cS) r s.heap.size (wd_X8_worstAt cI cZ cP cS h_t h_t_turns h_t_phases h_t_ups h_t_typed h_t_texts h_t_diary h_t_longs h_t_awakes h_t_fit h_t_counts h_t_worths h_t_ripes h_t_growths h_t_gains h_t_isThere h_t_forms h_t_sizes h_t_items h_t_moved v_m_hours v_m_months v_m_fitMany v_m_fitFirst v_m_finding v_m_turns v_m_ups v_m_fit v_m_counts) (wd_X8_worstAt cI cZ cP cS h_t h_t_turns h_t_phases h_t_ups h_t_typed h_t_texts h_t_diary h_t_longs h_t_awakes h_t_fit h_t_counts h_t_worths h_t_ripes h_t_growths h_t_gains h_t_isThere h_t_forms h_t_sizes h_t_items h_t_moved v_m_hours v_m_months v_m_fitMany v_m_fitFirst v_m_finding v_m_turns v_m_ups v_m_fit o_m_counts)) ([.ref h_t, .int x1] : List Value).toArray s 0 0 (va_A (wd_X8_worstAt cI cZ cP cS h_t h_t_turns h_t_phases h_t_ups h_t_typed h_t_texts h_t_diary h_t_longs h_t_awakes h_t_fit h_t_counts h_t_worths h_t_ripes h_t_growths h_t_gains h_t_isThere h_t_forms h_t_sizes h_t_items h_t_moved v_m_hours v_m_months v_m_fitMany v_m_fitFirst v_m_finding v_m_turns v_m_ups v_m_fit v_m_counts) s.heap.size)) (F0 m 98 ls [.int v98_14, .int v47_7, .ref h_t_counts]) := by
                      intro ls hl
                      refine lv_iadd hx hb dX8_worstAt_98 ?_
                      refine lv_dup2_11 hx hb dX8_worstAt_99 rfl rfl ?_
                      obtain ⟨hi_16, hf⟩ := ix_e hf
                      refine va_iald hx hb hK hP 4 0 rfl rfl hi_16 dX8_worstAt_100 ?_
                      refine lv_iconst (v := 1) hx hb dX8_worstAt_101 (by decide) ?_
                      refine lv_iadd hx hb dX8_worstAt_102 ?_
                      obtain ⟨hi_17, hf⟩ := ix_e hf
                      refine va_iast hx hb hK hP hD hS 4 0 rfl rfl hi_17 dX8_worstAt_103 (fun H locs hP hD hS => ?_)
                      have hP : va_P (dC, dI) vwCl (wd_X8_worstAt cI cZ cP cS h_t h_t_turns h_t_phases h_t_ups h_t_typed h_t_texts h_t_diary h_t_longs h_t_awakes h_t_fit h_t_counts h_t_worths h_t_ripes h_t_growths h_t_gains h_t_isThere h_t_forms h_t_sizes h_t_items h_t_moved v_m_hours v_m_months v_m_fitMany v_m_fitFirst v_m_finding v_m_turns v_m_ups v_m_fit (upd w51_m_counts (v47_7 + v98_14).toNatClampNeg ((w51_m_counts (v47_7 + v98_14).toNatClampNeg) + 1))) H := hP
                      have hD : va_D (va_A (wd_X8_worstAt cI cZ cP cS h_t h_t_turns h_t_phases h_t_ups h_t_typed h_t_texts h_t_diary h_t_longs h_t_awakes h_t_fit h_t_counts h_t_worths h_t_ripes h_t_growths h_t_gains h_t_isThere h_t_forms h_t_sizes h_t_items h_t_moved v_m_hours v_m_months v_m_fitMany v_m_fitFirst v_m_finding v_m_turns v_m_ups v_m_fit v_m_counts) s.heap.size) (wd_X8_worstAt cI cZ cP cS h_t h_t_turns h_t_phases h_t_ups h_t_typed h_t_texts h_t_diary h_t_longs h_t_awakes h_t_fit h_t_counts h_t_worths h_t_ripes h_t_growths h_t_gains h_t_isThere h_t_forms h_t_sizes h_t_items h_t_moved v_m_hours v_m_months v_m_fitMany v_m_fitFirst v_m_finding v_m_turns v_m_ups v_m_fit (upd w51_m_counts (v47_7 + v98_14).toNatClampNeg ((w51_m_counts (v47_7 + v98_14).toNatClampNeg) + 1))) := hD
                      exact hj104 (upd w51_m_counts (v47_7 + v98_14).toNatClampNeg ((w51_m_counts (v47_7 + v98_14).toNatClampNeg) + 1)) H locs ls (lv_sub hl [0, 1, 2, 3, 4] rfl) hP hD hS hf
                    clear hf
                    refine lv_if_eq (tgt := 97) hx hb dX8_worstAt_90 (by decide) (fun c90 => ?_) (fun c90 => ?_)
                    ·
                      refine lv_iconst (v := 0) hx hb dX8_worstAt_97 (by decide) ?_
                      rw [if_pos c90] at ev98_14
                      subst ev98_14
                      exact hj98_15 ls (lv_sub hl [0, 1, 2, 3, 4] rfl)
                    ·
                      refine lv_iconst (v := 2) hx hb dX8_worstAt_93 (by decide) ?_
                      refine lv_goto (tgt := 98) hx hb dX8_worstAt_94 (by decide) ?_
                      rw [if_neg c90] at ev98_14
                      subst ev98_14
                      exact hj98_15 ls (lv_sub hl [0, 1, 2, 3, 4] rfl)
            exact hL51 n 0 w22_m_counts H locs ls (lv_sub hl [2, 3, 4, 1, 0] rfl) hP hD hS hf
          clear hf
          refine lv_if_eq (tgt := 46) hx hb dX8_worstAt_39 (by decide) (fun c39 => ?_) (fun c39 => ?_)
          ·
            refine lv_iconst (v := 0) hx hb dX8_worstAt_46 (by decide) ?_
            rw [if_pos c39] at ev47_7
            subst ev47_7
            exact hj47_8 ls (lv_sub hl [0, 1, 2] rfl)
          ·
            refine lv_iconst (v := 1) hx hb dX8_worstAt_42 (by decide) ?_
            refine lv_goto (tgt := 47) hx hb dX8_worstAt_43 (by decide) ?_
            rw [if_neg c39] at ev47_7
            subst ev47_7
            exact hj47_8 ls (lv_sub hl [0, 1, 2] rfl)
    exact hL22 n 0 u2_m_counts H locs ls (lv_sub hl [1, 2, 0] rfl) hP hD hS hf
  have hL2 : ∀ (k2 : Nat) (y2_2 : Int32) (w2_m_counts : Nat → Int32) (H : Heap) (locs : List Loc) (ls : Array Slot), lv_has ls 5 [(0, .ref h_t), (1, .int x1), (2, .int y2_2)] → va_P (dC, dI) vwCl (wd_X8_worstAt cI cZ cP cS h_t h_t_turns h_t_phases h_t_ups h_t_typed h_t_texts h_t_diary h_t_longs h_t_awakes h_t_fit h_t_counts h_t_worths h_t_ripes h_t_growths h_t_gains h_t_isThere h_t_forms h_t_sizes h_t_items h_t_moved v_m_hours v_m_months v_m_fitMany v_m_fitFirst v_m_finding v_m_turns v_m_ups v_m_fit w2_m_counts) H → va_D (va_A (wd_X8_worstAt cI cZ cP cS h_t h_t_turns h_t_phases h_t_ups h_t_typed h_t_texts h_t_diary h_t_longs h_t_awakes h_t_fit h_t_counts h_t_worths h_t_ripes h_t_growths h_t_gains h_t_isThere h_t_forms h_t_sizes h_t_items h_t_moved v_m_hours v_m_months v_m_fitMany v_m_fitFirst v_m_finding v_m_turns v_m_ups v_m_fit v_m_counts) s.heap.size) (wd_X8_worstAt cI cZ cP cS h_t h_t_turns h_t_phases h_t_ups h_t_typed h_t_texts h_t_diary h_t_longs h_t_awakes h_t_fit h_t_counts h_t_worths h_t_ripes h_t_growths h_t_gains h_t_isThere h_t_forms h_t_sizes h_t_items h_t_moved v_m_hours v_m_months v_m_fitMany v_m_fitFirst v_m_finding v_m_turns v_m_ups v_m_fit w2_m_counts) → va_S (va_A (wd_X8_worstAt cI cZ cP cS h_t h_t_turns h_t_phases h_t_ups h_t_typed h_t_texts h_t_diary h_t_longs h_t_awakes h_t_fit h_t_counts h_t_worths h_t_ripes h_t_growths h_t_gains h_t_isThere h_t_forms h_t_sizes h_t_items h_t_moved v_m_hours v_m_months v_m_fitMany v_m_fitFirst v_m_finding v_m_turns v_m_ups v_m_fit v_m_counts) s.heap.size) s.heap H locs → L_X8_worstAt_2 kx2 k2 y2_2 w2_m_counts = some (r, o_m_counts) → W p l e (headSpec wsX8_worstAt rm_X8_worstAt).room s m ([.ref h_t, .int x1] : List Value).toArray below meth c H locs 0 0 (MQ below (RWi (dC, dI) (TY cI cZ cP cS) r s.heap.size (wd_X8_worstAt cI cZ cP cS h_t h_t_turns h_t_phases h_t_ups h_t_typed h_t_texts h_t_diary h_t_longs h_t_awakes h_t_fit h_t_counts h_t_worths h_t_ripes h_t_growths h_t_gains h_t_isThere h_t_forms h_t_sizes h_t_items h_t_moved v_m_hours v_m_months v_m_fitMany v_m_fitFirst v_m_finding v_m_turns v_m_ups v_m_fit v_m_counts) (wd_X8_worstAt cI cZ cP cS h_t h_t_turns h_t_phases h_t_ups h_t_typed h_t_texts h_t_diary h_t_longs h_t_awakes h_t_fit h_t_counts h_t_worths h_t_ripes h_t_growths h_t_gains h_t_isThere h_t_forms h_t_sizes h_t_items h_t_moved v_m_hours v_m_months v_m_fitMany v_m_fitFirst v_m_finding v_m_turns v_m_ups v_m_fit o_m_counts)) ([.ref h_t, .int x1] : List Value).toArray s 0 0 (va_A (wd_X8_worstAt cI cZ cP cS h_t h_t_turns h_t_phases h_t_ups h_t_typed h_t_texts h_t_diary h_t_longs h_t_awakes h_t_fit h_t_counts h_t_worths h_t_ripes h_t_growths h_t_gains h_t_isThere h_t_forms h_t_sizes h_t_items h_t_moved v_m_hours v_m_months v_m_fitMany v_m_fitFirst v_m_finding v_m_turns v_m_ups v_m_fit v_m_counts) s.heap.size)) (F0 m 2 ls []) := by
    intro k2
    induction k2 with
    | zero =>
      intro y2_2 w2_m_counts H locs ls hl hP hD hS hf
      exact absurd hf (fun h => Option.some_ne_none _ h.symm)
    | succ k2 ih =>
      intro y2_2 w2_m_counts H locs ls hl hP hD hS hf
      rw [L_X8_worstAt_2_s] at hf
      refine lv_iload_n hx hb dX8_worstAt_2 rfl (lv_at hl 2 rfl) ?_
      refine lv_iconst (v := 4) hx hb dX8_worstAt_3 (by decide) ?_
      refine lv_icmp_ge (tgt := 20) hx hb dX8_worstAt_4 (by decide) (fun c4 => ?_) (fun c4 => ?_)
      · rw [if_pos c4] at hf
        exact hx2 w2_m_counts H locs ls (lv_sub hl [0, 1] rfl) hP hD hS hf
      · rw [if_neg c4] at hf
        refine lv_aload_n hx hb dX8_worstAt_7 rfl (lv_at hl 0 rfl) ?_
        refine va_get (D := (dC, dI)) (ci := 7) (v := .ref h_t_counts) (C := RX8) (T := TX8) (N := 24) hx hb hts hinX8 hown hK hP 0 rfl rfl 13 (by decide) (hts (.fieldLink RX8 38 "SecondSunriseModel" "counts" "[I") (by decide +kernel)) (fun _ h9 => h9) rfl dX8_worstAt_8 ?_
        refine lv_iload_n hx hb dX8_worstAt_11 rfl (lv_at hl 2 rfl) ?_
        refine lv_iconst (v := 0) hx hb dX8_worstAt_12 (by decide) ?_
        obtain ⟨hi_18, hf⟩ := ix_e hf
        refine va_iast hx hb hK hP hD hS 4 0 rfl rfl hi_18 dX8_worstAt_13 (fun H locs hP hD hS => ?_)
        have hP : va_P (dC, dI) vwCl (wd_X8_worstAt cI cZ cP cS h_t h_t_turns h_t_phases h_t_ups h_t_typed h_t_texts h_t_diary h_t_longs h_t_awakes h_t_fit h_t_counts h_t_worths h_t_ripes h_t_growths h_t_gains h_t_isThere h_t_forms h_t_sizes h_t_items h_t_moved v_m_hours v_m_months v_m_fitMany v_m_fitFirst v_m_finding v_m_turns v_m_ups v_m_fit (upd w2_m_counts y2_2.toNatClampNeg 0)) H := hP
        have hD : va_D (va_A (wd_X8_worstAt cI cZ cP cS h_t h_t_turns h_t_phases h_t_ups h_t_typed h_t_texts h_t_diary h_t_longs h_t_awakes h_t_fit h_t_counts h_t_worths h_t_ripes h_t_growths h_t_gains h_t_isThere h_t_forms h_t_sizes h_t_items h_t_moved v_m_hours v_m_months v_m_fitMany v_m_fitFirst v_m_finding v_m_turns v_m_ups v_m_fit v_m_counts) s.heap.size) (wd_X8_worstAt cI cZ cP cS h_t h_t_turns h_t_phases h_t_ups h_t_typed h_t_texts h_t_diary h_t_longs h_t_awakes h_t_fit h_t_counts h_t_worths h_t_ripes h_t_growths h_t_gains h_t_isThere h_t_forms h_t_sizes h_t_items h_t_moved v_m_hours v_m_months v_m_fitMany v_m_fitFirst v_m_finding v_m_turns v_m_ups v_m_fit (upd w2_m_counts y2_2.toNatClampNeg 0)) := hD
        refine lv_iinc (v := (y2_2 + 1)) (lv' := [(2, .int (y2_2 + 1)), (0, .ref h_t), (1, .int x1)]) hx hb dX8_worstAt_14 hl (k := 2) rfl rfl (by decide) rfl (fun ls hl => ?_)
        refine lv_goto (tgt := 2) hx hb dX8_worstAt_17 (by decide) ?_
        exact ih (y2_2 + 1) (upd w2_m_counts y2_2.toNatClampNeg 0) H locs ls (lv_sub hl [1, 2, 0] rfl) hP hD hS hf
  exact hL2 n 0 v_m_counts H locs ls (lv_sub hl [1, 2, 0] rfl) hP hD hS hf

abbrev wd_X8_watchOf (cI cZ cP cS : ClassId) (h_t h_t_turns h_t_phases h_t_ups h_t_typed h_t_texts h_t_diary h_t_longs h_t_awakes h_t_fit h_t_counts h_t_worths h_t_ripes h_t_growths h_t_gains h_t_isThere h_t_forms h_t_sizes h_t_items h_t_moved : Nat) (v_m_hours : Int32) (v_m_months : Int32) (v_m_fitMany : Int32) (v_m_fitFirst : Int32) (v_m_finding : Int32) (v_m_turns : Nat → Int32) (v_m_ups : Nat → Int32) (v_m_typed : Nat → Int32) (v_m_texts : Nat → Int32) (v_m_diary : Nat → Int32) (v_m_longs : Nat → Int32) (v_m_fit : Nat → Int32) (v_m_counts : Nat → Int32) : va_W := [(h_t, .inr (7, [.ref h_t_turns, .ref h_t_phases, .ref h_t_ups, .ref h_t_typed, .ref h_t_texts, .int v_m_hours, .ref h_t_diary, .int v_m_months, .ref h_t_longs, .ref h_t_awakes, .ref h_t_fit, .int v_m_fitMany, .int v_m_fitFirst, .ref h_t_counts, .ref h_t_worths, .ref h_t_ripes, .ref h_t_growths, .ref h_t_gains, .ref h_t_isThere, .ref h_t_forms, .ref h_t_sizes, .ref h_t_items, .ref h_t_moved, .int v_m_finding])), (h_t_turns, .inl (cI, 2, .inl v_m_turns)), (h_t_ups, .inl (cI, 2, .inl v_m_ups)), (h_t_typed, .inl (cI, 2, .inl v_m_typed)), (h_t_texts, .inl (cI, 120, .inl v_m_texts)), (h_t_diary, .inl (cI, 60, .inl v_m_diary)), (h_t_longs, .inl (cI, 7, .inl v_m_longs)), (h_t_fit, .inl (cZ, 1600, .inl v_m_fit)), (h_t_counts, .inl (cI, 4, .inl v_m_counts))]
abbrev rm_X8_watchOf : Room := { frames := 6, cells := 0, slots := 0, locals := 135 }
def L_X8_watchOf_42 (n : Nat) (v_m_turns : Nat → Int32) (v_m_ups : Nat → Int32) (o1_1 : Int32) (o1_7 : Nat → Int32) (r15_10 : Int32) (kx42 : Int32 → Int32 → (Nat → Int32) → Option (Int32 × Int32 × Int32 × Int32 × Int32 × (Nat → Int32) × (Nat → Int32) × (Nat → Int32) × (Nat → Int32))) : Nat → Int32 → Int32 → Int32 → (Nat → Int32) → Option (Int32 × Int32 × Int32 × Int32 × Int32 × (Nat → Int32) × (Nat → Int32) × (Nat → Int32) × (Nat → Int32))
  | 0, _, _, _, _ => none
  | k42 + 1, y42_3, y42_4, y42_5, w42_m_counts => if (o1_1 + r15_10) ≤ y42_5 then kx42 y42_3 y42_4 w42_m_counts else bd2_ (f_X8_worstAt n v_m_turns v_m_ups o1_7 w42_m_counts y42_5) (fun (r56_17 : Int32) (o56_18 : Nat → Int32) => lt_ ((if y42_4 ≤ r56_17 then y42_3 else y42_5) : Int32) (fun v74_21 => lt_ ((if y42_4 ≤ r56_17 then y42_4 else r56_17) : Int32) (fun v89_23 => L_X8_watchOf_42 n v_m_turns v_m_ups o1_1 o1_7 r15_10 kx42 k42 v74_21 v89_23 (y42_5 + 1) o56_18)))
theorem L_X8_watchOf_42_s (n : Nat) (v_m_turns : Nat → Int32) (v_m_ups : Nat → Int32) (o1_1 : Int32) (o1_7 : Nat → Int32) (r15_10 : Int32) (kx42 : Int32 → Int32 → (Nat → Int32) → Option (Int32 × Int32 × Int32 × Int32 × Int32 × (Nat → Int32) × (Nat → Int32) × (Nat → Int32) × (Nat → Int32))) (k42 : Nat) (y42_3 : Int32) (y42_4 : Int32) (y42_5 : Int32) (w42_m_counts : Nat → Int32) : L_X8_watchOf_42 n v_m_turns v_m_ups o1_1 o1_7 r15_10 kx42 (k42 + 1) y42_3 y42_4 y42_5 w42_m_counts = if (o1_1 + r15_10) ≤ y42_5 then kx42 y42_3 y42_4 w42_m_counts else bd2_ (f_X8_worstAt n v_m_turns v_m_ups o1_7 w42_m_counts y42_5) (fun (r56_17 : Int32) (o56_18 : Nat → Int32) => lt_ ((if y42_4 ≤ r56_17 then y42_3 else y42_5) : Int32) (fun v74_21 => lt_ ((if y42_4 ≤ r56_17 then y42_4 else r56_17) : Int32) (fun v89_23 => L_X8_watchOf_42 n v_m_turns v_m_ups o1_1 o1_7 r15_10 kx42 k42 v74_21 v89_23 (y42_5 + 1) o56_18))) := rfl
def f_X8_watchOf (n : Nat) (v_m_hours : Int32) (v_m_months : Int32) (v_m_fitMany : Int32) (v_m_fitFirst : Int32) (v_m_turns : Nat → Int32) (v_m_ups : Nat → Int32) (v_m_typed : Nat → Int32) (v_m_texts : Nat → Int32) (v_m_diary : Nat → Int32) (v_m_longs : Nat → Int32) (v_m_fit : Nat → Int32) (v_m_counts : Nat → Int32) (x1 : Int32) : Option (Int32 × Int32 × Int32 × Int32 × Int32 × (Nat → Int32) × (Nat → Int32) × (Nat → Int32) × (Nat → Int32)) := bd7_ (f_X8_laysFits n v_m_hours v_m_months v_m_fitMany v_m_fitFirst v_m_turns v_m_ups v_m_typed v_m_texts v_m_diary v_m_longs v_m_fit) (fun (o1_1 : Int32) (o1_2 : Int32) (o1_3 : Int32) (o1_4 : Int32) (o1_5 : Nat → Int32) (o1_6 : Nat → Int32) (o1_7 : Nat → Int32) => if o1_3 = 0 then some ((-3), o1_1, o1_2, o1_3, o1_4, o1_5, o1_6, o1_7, v_m_counts) else bd1_ (f_X8_roundNow n v_m_turns) (fun (r15_10 : Int32) => bd2_ (f_X8_worstAt n v_m_turns v_m_ups o1_7 v_m_counts o1_1) (fun (r29_13 : Int32) (o29_14 : Nat → Int32) => jn3_ (fun (z42_3 : Int32) (z42_4 : Int32) (u42_m_counts : Nat → Int32) => if x1 = 0 then some (z42_3, o1_1, o1_2, o1_3, o1_4, o1_5, o1_6, o1_7, u42_m_counts) else some (z42_4, o1_1, o1_2, o1_3, o1_4, o1_5, o1_6, o1_7, u42_m_counts)) (fun kx42 => L_X8_watchOf_42 n v_m_turns v_m_ups o1_1 o1_7 r15_10 kx42 n o1_1 r29_13 (o1_1 + 1) o29_14))))
set_option maxHeartbeats 4000000 in
set_option maxRecDepth 100000 in
theorem c_X8_watchOf (l : Launch) (dC : Nat → ClassId) (dI : Nat → Nat → Nat) (cI cZ cP cS : ClassId) (sz : Nat) (h_t h_t_turns h_t_phases h_t_ups h_t_typed h_t_texts h_t_diary h_t_longs h_t_awakes h_t_fit h_t_counts h_t_worths h_t_ripes h_t_growths h_t_gains h_t_isThere h_t_forms h_t_sizes h_t_items h_t_moved : Nat) (v_m_hours : Int32) (v_m_months : Int32) (v_m_fitMany : Int32) (v_m_fitFirst : Int32) (v_m_finding : Int32) (v_m_turns : Nat → Int32) (v_m_ups : Nat → Int32) (v_m_typed : Nat → Int32) (v_m_texts : Nat → Int32) (v_m_diary : Nat → Int32) (v_m_longs : Nat → Int32) (v_m_fit : Nat → Int32) (v_m_counts : Nat → Int32) (x1 : Int32) (n : Nat) (r : Int32) (o_m_hours : Int32) (o_m_months : Int32) (o_m_fitMany : Int32) (o_m_fitFirst : Int32) (o_m_diary : Nat → Int32) (o_m_longs : Nat → Int32) (o_m_fit : Nat → Int32) (o_m_counts : Nat → Int32) (hf : f_X8_watchOf n v_m_hours v_m_months v_m_fitMany v_m_fitFirst v_m_turns v_m_ups v_m_typed v_m_texts v_m_diary v_m_longs v_m_fit v_m_counts x1 = some (r, o_m_hours, o_m_months, o_m_fitMany, o_m_fitFirst, o_m_diary, o_m_longs, o_m_fit, o_m_counts)) : Met l yX8_watchOf wsX8_watchOf rm_X8_watchOf (RW (dC, dI) (TY cI cZ cP cS) [.ref h_t, .int x1] sz (wd_X8_watchOf cI cZ cP cS h_t h_t_turns h_t_phases h_t_ups h_t_typed h_t_texts h_t_diary h_t_longs h_t_awakes h_t_fit h_t_counts h_t_worths h_t_ripes h_t_growths h_t_gains h_t_isThere h_t_forms h_t_sizes h_t_items h_t_moved v_m_hours v_m_months v_m_fitMany v_m_fitFirst v_m_finding v_m_turns v_m_ups v_m_typed v_m_texts v_m_diary v_m_longs v_m_fit v_m_counts)) (RWi (dC, dI) (TY cI cZ cP cS) r sz (wd_X8_watchOf cI cZ cP cS h_t h_t_turns h_t_phases h_t_ups h_t_typed h_t_texts h_t_diary h_t_longs h_t_awakes h_t_fit h_t_counts h_t_worths h_t_ripes h_t_growths h_t_gains h_t_isThere h_t_forms h_t_sizes h_t_items h_t_moved v_m_hours v_m_months v_m_fitMany v_m_fitFirst v_m_finding v_m_turns v_m_ups v_m_typed v_m_texts v_m_diary v_m_longs v_m_fit v_m_counts) (wd_X8_watchOf cI cZ cP cS h_t h_t_turns h_t_phases h_t_ups h_t_typed h_t_texts h_t_diary h_t_longs h_t_awakes h_t_fit h_t_counts h_t_worths h_t_ripes h_t_growths h_t_gains h_t_isThere h_t_forms h_t_sizes h_t_items h_t_moved o_m_hours o_m_months o_m_fitMany o_m_fitFirst v_m_finding v_m_turns v_m_ups v_m_typed v_m_texts o_m_diary o_m_longs o_m_fit o_m_counts)) 0 0 (va_A (wd_X8_watchOf cI cZ cP cS h_t h_t_turns h_t_phases h_t_ups h_t_typed h_t_texts h_t_diary h_t_longs h_t_awakes h_t_fit h_t_counts h_t_worths h_t_ripes h_t_growths h_t_gains h_t_isThere h_t_forms h_t_sizes h_t_items h_t_moved v_m_hours v_m_months v_m_fitMany v_m_fitFirst v_m_finding v_m_turns v_m_ups v_m_typed v_m_texts v_m_diary v_m_longs v_m_fit v_m_counts) sz) := by
  refine Met.ofW (cc := cX8_watchOf) (maxL := 7) (ret := (some .int)) (by decide) rfl ?_
  intro p e s m args below meth c s₁ B hml hv
  obtain ⟨rfl, hsz, hP, hK, hD0⟩ := hv
  have hx := B.exec
  have hb := B.bytes
  have hr := B.returns
  have hts := atoms_spec (ws := wsX8_watchOf) B.pre
  have hown : s.vm.findClass RX8 = some m.cls := findClass_of_methodNamed B.named
  have hlocks := B.notSynchronized
  subst hsz
  have hD := hD0.self (sz := s.heap.size)
  have hA : ∀ q : Nat, s.heap.size ≤ q → (va_A (wd_X8_watchOf cI cZ cP cS h_t h_t_turns h_t_phases h_t_ups h_t_typed h_t_texts h_t_diary h_t_longs h_t_awakes h_t_fit h_t_counts h_t_worths h_t_ripes h_t_growths h_t_gains h_t_isThere h_t_forms h_t_sizes h_t_items h_t_moved v_m_hours v_m_months v_m_fitMany v_m_fitFirst v_m_finding v_m_turns v_m_ups v_m_typed v_m_texts v_m_diary v_m_longs v_m_fit v_m_counts) s.heap.size) q := fun q h => Or.inr h
  have hS : va_S (va_A (wd_X8_watchOf cI cZ cP cS h_t h_t_turns h_t_phases h_t_ups h_t_typed h_t_texts h_t_diary h_t_longs h_t_awakes h_t_fit h_t_counts h_t_worths h_t_ripes h_t_growths h_t_gains h_t_isThere h_t_forms h_t_sizes h_t_items h_t_moved v_m_hours v_m_months v_m_fitMany v_m_fitFirst v_m_finding v_m_turns v_m_ups v_m_typed v_m_texts v_m_diary v_m_longs v_m_fit v_m_counts) s.heap.size) s.heap s.heap [] := va_S.rf
  have hinX8 : ∀ w ∈ wsX80, w ∈ wsX8_watchOf := by decide +kernel
  have hl := lv_entry ([.ref h_t, .int x1]) (n := 7) (Nat.le_of_ble_eq_true rfl)
  rw [lg_entry_eq]
  generalize (lg_sl ([.ref h_t, .int x1]) ++ List.replicate (7 - (lg_sl ([.ref h_t, .int x1])).length) Slot.unset).toArray = ls at hl ⊢
  have hl : lv_has ls 7 [(0, .ref h_t), (1, .int x1)] := hl
  obtain ⟨H, hH⟩ : ∃ H : Heap, H = s.heap := ⟨_, rfl⟩
  have hP : va_P (dC, dI) vwCl (wd_X8_watchOf cI cZ cP cS h_t h_t_turns h_t_phases h_t_ups h_t_typed h_t_texts h_t_diary h_t_longs h_t_awakes h_t_fit h_t_counts h_t_worths h_t_ripes h_t_growths h_t_gains h_t_isThere h_t_forms h_t_sizes h_t_items h_t_moved v_m_hours v_m_months v_m_fitMany v_m_fitFirst v_m_finding v_m_turns v_m_ups v_m_typed v_m_texts v_m_diary v_m_longs v_m_fit v_m_counts) H := by rw [hH]; exact hP
  have hS : va_S (va_A (wd_X8_watchOf cI cZ cP cS h_t h_t_turns h_t_phases h_t_ups h_t_typed h_t_texts h_t_diary h_t_longs h_t_awakes h_t_fit h_t_counts h_t_worths h_t_ripes h_t_growths h_t_gains h_t_isThere h_t_forms h_t_sizes h_t_items h_t_moved v_m_hours v_m_months v_m_fitMany v_m_fitFirst v_m_finding v_m_turns v_m_ups v_m_typed v_m_texts v_m_diary v_m_longs v_m_fit v_m_counts) s.heap.size) s.heap H [] := by rw [hH]; exact hS
  obtain ⟨locs, hlo⟩ : ∃ L : List Loc, L = [] := ⟨_, rfl⟩
  rw [← hlo] at hS
  suffices hgo : W p l e (headSpec wsX8_watchOf rm_X8_watchOf).room s m ([.ref h_t, .int x1] : List Value).toArray below meth c H locs 0 0 (MQ below (RWi (dC, dI) (TY cI cZ cP cS) r s.heap.size (wd_X8_watchOf cI cZ cP cS h_t h_t_turns h_t_phases h_t_ups h_t_typed h_t_texts h_t_diary h_t_longs h_t_awakes h_t_fit h_t_counts h_t_worths h_t_ripes h_t_growths h_t_gains h_t_isThere h_t_forms h_t_sizes h_t_items h_t_moved v_m_hours v_m_months v_m_fitMany v_m_fitFirst v_m_finding v_m_turns v_m_ups v_m_typed v_m_texts v_m_diary v_m_longs v_m_fit v_m_counts) (wd_X8_watchOf cI cZ cP cS h_t h_t_turns h_t_phases h_t_ups h_t_typed h_t_texts h_t_diary h_t_longs h_t_awakes h_t_fit h_t_counts h_t_worths h_t_ripes h_t_growths h_t_gains h_t_isThere h_t_forms h_t_sizes h_t_items h_t_moved o_m_hours o_m_months o_m_fitMany o_m_fitFirst v_m_finding v_m_turns v_m_ups v_m_typed v_m_texts o_m_diary o_m_longs o_m_fit o_m_counts)) ([.ref h_t, .int x1] : List Value).toArray s 0 0 (va_A (wd_X8_watchOf cI cZ cP cS h_t h_t_turns h_t_phases h_t_ups h_t_typed h_t_texts h_t_diary h_t_longs h_t_awakes h_t_fit h_t_counts h_t_worths h_t_ripes h_t_growths h_t_gains h_t_isThere h_t_forms h_t_sizes h_t_items h_t_moved v_m_hours v_m_months v_m_fitMany v_m_fitFirst v_m_finding v_m_turns v_m_ups v_m_typed v_m_texts v_m_diary v_m_longs v_m_fit v_m_counts) s.heap.size)) (F0 m 0 ls []) by rw [hH, hlo] at hgo; exact hgo
  clear hH hlo
  unfold f_X8_watchOf at hf
  refine lv_aload_n hx hb dX8_watchOf_0 rfl (lv_at hl 0 rfl) ?_
  obtain ⟨o1_1, o1_2, o1_3, o1_4, o1_5, o1_6, o1_7, hc_8, hf⟩ := bd7_e hf
  refine rwv_call (isC := [0, 1, 2, 3, 4, 5, 6, 7]) (isR := [8]) (perm := [1, 2, 3, 4, 5, 6, 7, 8, 0]) (wr := [(h_t_counts, .inl (cI, 4, .inl v_m_counts))]) (ws2 := (wd_X8_watchOf cI cZ cP cS h_t h_t_turns h_t_phases h_t_ups h_t_typed h_t_texts h_t_diary h_t_longs h_t_awakes h_t_fit h_t_counts h_t_worths h_t_ripes h_t_growths h_t_gains h_t_isThere h_t_forms h_t_sizes h_t_items h_t_moved o1_1 o1_2 o1_3 o1_4 v_m_finding v_m_turns v_m_ups v_m_typed v_m_texts o1_5 o1_6 o1_7 v_m_counts)) (va_runV (As := []) (rest := []) ⟨hx, hb, hml, hown, hts⟩ (c_X8_laysFits l dC dI cI cZ cP cS H.size h_t h_t_turns h_t_phases h_t_ups h_t_typed h_t_texts h_t_diary h_t_longs h_t_awakes h_t_fit h_t_counts h_t_worths h_t_ripes h_t_growths h_t_gains h_t_isThere h_t_forms h_t_sizes h_t_items h_t_moved v_m_hours v_m_months v_m_fitMany v_m_fitFirst v_m_finding v_m_turns v_m_ups v_m_typed v_m_texts v_m_diary v_m_longs v_m_fit  n o1_1 o1_2 o1_3 o1_4 o1_5 o1_6 o1_7 hc_8) (cwV 0 hts gX8_watchOf_X8_laysFits rfl rfl rfl (by decide +kernel) ⟨Nat.le_of_ble_eq_true rfl, Nat.le_of_ble_eq_true rfl⟩) (pv_rw (ci := 7) (q0 := 0) hK (hP.sub (ws' := (wd_X8_laysFits cI cZ cP cS h_t h_t_turns h_t_phases h_t_ups h_t_typed h_t_texts h_t_diary h_t_longs h_t_awakes h_t_fit h_t_counts h_t_worths h_t_ripes h_t_growths h_t_gains h_t_isThere h_t_forms h_t_sizes h_t_items h_t_moved v_m_hours v_m_months v_m_fitMany v_m_fitFirst v_m_finding v_m_turns v_m_ups v_m_typed v_m_texts v_m_diary v_m_longs v_m_fit)) [0, 1, 2, 3, 4, 5, 6, 7] rfl) (hD.sub (ws' := (wd_X8_laysFits cI cZ cP cS h_t h_t_turns h_t_phases h_t_ups h_t_typed h_t_texts h_t_diary h_t_longs h_t_awakes h_t_fit h_t_counts h_t_worths h_t_ripes h_t_growths h_t_gains h_t_isThere h_t_forms h_t_sizes h_t_items h_t_moved v_m_hours v_m_months v_m_fitMany v_m_fitFirst v_m_finding v_m_turns v_m_ups v_m_typed v_m_texts v_m_diary v_m_longs v_m_fit)) [0, 1, 2, 3, 4, 5, 6, 7] (by decide) rfl) rfl rfl) rfl rfl hl.1 rfl (lv_room (Nat.le_of_ble_eq_true rfl)) dX8_watchOf_1 ⟨Nat.zero_le _, Nat.zero_le _⟩) hS hA hP hD rfl (by decide) (by decide) rfl (by decide) rfl rfl (fun H locs hP hD hS => ?_)
  refine lv_aload_n hx hb dX8_watchOf_4 rfl (lv_at hl 0 rfl) ?_
  refine va_get (D := (dC, dI)) (ci := 7) (v := .int o1_3) (C := RX8) (T := TX8) (N := 24) hx hb hts hinX8 hown hK hP 0 rfl rfl 11 (by decide) (hts (.fieldLink RX8 176 "SecondSunriseModel" "fitMany" "I") (by decide +kernel)) (fun _ h9 => h9) rfl dX8_watchOf_5 ?_
  refine lv_if_ne (tgt := 14) hx hb dX8_watchOf_8 (by decide) (fun c8 => ?_) (fun c8 => ?_)
  · rw [if_neg c8] at hf
    refine lv_aload_n hx hb dX8_watchOf_14 rfl (lv_at hl 0 rfl) ?_
    obtain ⟨r15_10, hc_11, hf⟩ := bd1_e hf
    refine vp_callSi (va_runV (As := []) (rest := []) ⟨hx, hb, hml, hown, hts⟩ (c_X8_roundNow l dC dI cI cZ cP cS h_t h_t_turns h_t_phases h_t_ups h_t_typed h_t_texts h_t_diary h_t_longs h_t_awakes h_t_fit h_t_counts h_t_worths h_t_ripes h_t_growths h_t_gains h_t_isThere h_t_forms h_t_sizes h_t_items h_t_moved o1_1 o1_2 o1_3 o1_4 v_m_finding v_m_turns  n r15_10 hc_11) (cwV 0 hts gX8_watchOf_X8_roundNow rfl rfl rfl (by decide +kernel) ⟨Nat.le_of_ble_eq_true rfl, Nat.le_of_ble_eq_true rfl⟩) (pv_ro (ci := 7) (q0 := 0) hK (hP.sub (ws' := (wd_X8_roundNow cI cZ cP cS h_t h_t_turns h_t_phases h_t_ups h_t_typed h_t_texts h_t_diary h_t_longs h_t_awakes h_t_fit h_t_counts h_t_worths h_t_ripes h_t_growths h_t_gains h_t_isThere h_t_forms h_t_sizes h_t_items h_t_moved o1_1 o1_2 o1_3 o1_4 v_m_finding v_m_turns)) [0, 1] rfl) rfl rfl) rfl rfl hl.1 rfl (lv_room (Nat.le_of_ble_eq_true rfl)) dX8_watchOf_15 ⟨Nat.zero_le _, Nat.zero_le _⟩).run (fun x e_12 => ?_)
    rw [e_12]
    refine lv_istore_n (lv' := [(2, .int r15_10), (0, .ref h_t), (1, .int x1)]) hx hb dX8_watchOf_18 rfl hl (by decide) rfl (fun ls hl => ?_)
    refine lv_aload_n hx hb dX8_watchOf_19 rfl (lv_at hl 1 rfl) ?_
    refine va_get (D := (dC, dI)) (ci := 7) (v := .int o1_1) (C := RX8) (T := TX8) (N := 24) hx hb hts hinX8 hown hK hP 0 rfl rfl 5 (by decide) (hts (.fieldLink RX8 79 "SecondSunriseModel" "hours" "I") (by decide +kernel)) (fun _ h9 => h9) rfl dX8_watchOf_20 ?_
    refine lv_istore_n (lv' := [(3, .int o1_1), (2, .int r15_10), (0, .ref h_t), (1, .int x1)]) hx hb dX8_watchOf_23 rfl hl (by decide) rfl (fun ls hl => ?_)
    refine lv_aload_n hx hb dX8_watchOf_24 rfl (lv_at hl 2 rfl) ?_
    refine lv_aload_n hx hb dX8_watchOf_25 rfl (lv_at hl 2 rfl) ?_
    refine va_get (D := (dC, dI)) (ci := 7) (v := .int o1_1) (C := RX8) (T := TX8) (N := 24) hx hb hts hinX8 hown hK hP 0 rfl rfl 5 (by decide) (hts (.fieldLink RX8 79 "SecondSunriseModel" "hours" "I") (by decide +kernel)) (fun _ h9 => h9) rfl dX8_watchOf_26 ?_
    obtain ⟨r29_13, o29_14, hc_15, hf⟩ := bd2_e hf
    refine rwi_call (isC := [0, 1, 2, 7, 8]) (isR := [3, 4, 5, 6]) (perm := [4, 5, 6, 0, 1, 2, 3, 7, 8]) (wr := [(h_t_typed, .inl (cI, 2, .inl v_m_typed)), (h_t_texts, .inl (cI, 120, .inl v_m_texts)), (h_t_diary, .inl (cI, 60, .inl o1_5)), (h_t_longs, .inl (cI, 7, .inl o1_6))]) (ws2 := (wd_X8_watchOf cI cZ cP cS h_t h_t_turns h_t_phases h_t_ups h_t_typed h_t_texts h_t_diary h_t_longs h_t_awakes h_t_fit h_t_counts h_t_worths h_t_ripes h_t_growths h_t_gains h_t_isThere h_t_forms h_t_sizes h_t_items h_t_moved o1_1 o1_2 o1_3 o1_4 v_m_finding v_m_turns v_m_ups v_m_typed v_m_texts o1_5 o1_6 o1_7 o29_14)) (va_runV (As := [.int o1_1]) (rest := []) ⟨hx, hb, hml, hown, hts⟩ (c_X8_worstAt l dC dI cI cZ cP cS H.size h_t h_t_turns h_t_phases h_t_ups h_t_typed h_t_texts h_t_diary h_t_longs h_t_awakes h_t_fit h_t_counts h_t_worths h_t_ripes h_t_growths h_t_gains h_t_isThere h_t_forms h_t_sizes h_t_items h_t_moved o1_1 o1_2 o1_3 o1_4 v_m_finding v_m_turns v_m_ups o1_7 v_m_counts o1_1 n r29_13 o29_14 hc_15) (cwV 1 hts gX8_watchOf_X8_worstAt rfl rfl rfl (by decide +kernel) ⟨Nat.le_of_ble_eq_true rfl, Nat.le_of_ble_eq_true rfl⟩) (pv_rw (ci := 7) (q0 := 0) hK (hP.sub (ws' := (wd_X8_worstAt cI cZ cP cS h_t h_t_turns h_t_phases h_t_ups h_t_typed h_t_texts h_t_diary h_t_longs h_t_awakes h_t_fit h_t_counts h_t_worths h_t_ripes h_t_growths h_t_gains h_t_isThere h_t_forms h_t_sizes h_t_items h_t_moved o1_1 o1_2 o1_3 o1_4 v_m_finding v_m_turns v_m_ups o1_7 v_m_counts)) [0, 1, 2, 7, 8] rfl) (hD.sub (ws' := (wd_X8_worstAt cI cZ cP cS h_t h_t_turns h_t_phases h_t_ups h_t_typed h_t_texts h_t_diary h_t_longs h_t_awakes h_t_fit h_t_counts h_t_worths h_t_ripes h_t_growths h_t_gains h_t_isThere h_t_forms h_t_sizes h_t_items h_t_moved o1_1 o1_2 o1_3 o1_4 v_m_finding v_m_turns v_m_ups o1_7 v_m_counts)) [0, 1, 2, 7, 8] (by decide) rfl) rfl rfl) rfl rfl hl.1 rfl (lv_room (Nat.le_of_ble_eq_true rfl)) dX8_watchOf_29 ⟨Nat.zero_le _, Nat.zero_le _⟩) hS hA hP hD rfl (by decide) (by decide) rfl (by decide) rfl rfl (fun H locs hP hD hS => ?_)
    refine lv_istore (lv' := [(4, .int r29_13), (3, .int o1_1), (2, .int r15_10), (0, .ref h_t), (1, .int x1)]) hx hb dX8_watchOf_32 hl (by decide) rfl (fun ls hl => ?_)
    refine lv_aload_n hx hb dX8_watchOf_34 rfl (lv_at hl 3 rfl) ?_
    refine va_get (D := (dC, dI)) (ci := 7) (v := .int o1_1) (C := RX8) (T := TX8) (N := 24) hx hb hts hinX8 hown hK hP 0 rfl rfl 5 (by decide) (hts (.fieldLink RX8 79 "SecondSunriseModel" "hours" "I") (by decide +kernel)) (fun _ h9 => h9) rfl dX8_watchOf_35 ?_
    refine lv_iconst (v := 1) hx hb dX8_watchOf_38 (by decide) ?_
    refine lv_iadd hx hb dX8_watchOf_39 ?_
    refine lv_istore (lv' := [(5, .int (o1_1 + 1)), (4, .int r29_13), (3, .int o1_1), (2, .int r15_10), (0, .ref h_t), (1, .int x1)]) hx hb dX8_watchOf_40 hl (by decide) rfl (fun ls hl => ?_)
    obtain ⟨kx42, ekx42, hf⟩ := jn3_e hf
    have hx42 : ∀ (z42_3 : Int32) (z42_4 : Int32) (u42_m_counts : Nat → Int32) (H : Heap) (locs : List Loc) (ls : Array Slot), lv_has ls 7 [(1, .int x1), (3, .int z42_3), (4, .int z42_4)] → va_P (dC, dI) vwCl (wd_X8_watchOf cI cZ cP cS h_t h_t_turns h_t_phases h_t_ups h_t_typed h_t_texts h_t_diary h_t_longs h_t_awakes h_t_fit h_t_counts h_t_worths h_t_ripes h_t_growths h_t_gains h_t_isThere h_t_forms h_t_sizes h_t_items h_t_moved o1_1 o1_2 o1_3 o1_4 v_m_finding v_m_turns v_m_ups v_m_typed v_m_texts o1_5 o1_6 o1_7 u42_m_counts) H → va_D (va_A (wd_X8_watchOf cI cZ cP cS h_t h_t_turns h_t_phases h_t_ups h_t_typed h_t_texts h_t_diary h_t_longs h_t_awakes h_t_fit h_t_counts h_t_worths h_t_ripes h_t_growths h_t_gains h_t_isThere h_t_forms h_t_sizes h_t_items h_t_moved v_m_hours v_m_months v_m_fitMany v_m_fitFirst v_m_finding v_m_turns v_m_ups v_m_typed v_m_texts v_m_diary v_m_longs v_m_fit v_m_counts) s.heap.size) (wd_X8_watchOf cI cZ cP cS h_t h_t_turns h_t_phases h_t_ups h_t_typed h_t_texts h_t_diary h_t_longs h_t_awakes h_t_fit h_t_counts h_t_worths h_t_ripes h_t_growths h_t_gains h_t_isThere h_t_forms h_t_sizes h_t_items h_t_moved o1_1 o1_2 o1_3 o1_4 v_m_finding v_m_turns v_m_ups v_m_typed v_m_texts o1_5 o1_6 o1_7 u42_m_counts) → va_S (va_A (wd_X8_watchOf cI cZ cP cS h_t h_t_turns h_t_phases h_t_ups h_t_typed h_t_texts h_t_diary h_t_longs h_t_awakes h_t_fit h_t_counts h_t_worths h_t_ripes h_t_growths h_t_gains h_t_isThere h_t_forms h_t_sizes h_t_items h_t_moved v_m_hours v_m_months v_m_fitMany v_m_fitFirst v_m_finding v_m_turns v_m_ups v_m_typed v_m_texts v_m_diary v_m_longs v_m_fit v_m_counts) s.heap.size) s.heap H locs → kx42 z42_3 z42_4 u42_m_counts = some (r, o_m_hours, o_m_months, o_m_fitMany, o_m_fitFirst, o_m_diary, o_m_longs, o_m_fit, o_m_counts) → W p l e (headSpec wsX8_watchOf rm_X8_watchOf).room s m ([.ref h_t, .int x1] : List Value).toArray below meth c H locs 0 0 (MQ below (RWi (dC, dI) (TY cI cZ cP cS) r s.heap.size (wd_X8_watchOf cI cZ cP cS h_t h_t_turns h_t_phases h_t_ups h_t_typed h_t_texts h_t_diary h_t_longs h_t_awakes h_t_fit h_t_counts h_t_worths h_t_ripes h_t_growths h_t_gains h_t_isThere h_t_forms h_t_sizes h_t_items h_t_moved v_m_hours v_m_months v_m_fitMany v_m_fitFirst v_m_finding v_m_turns v_m_ups v_m_typed v_m_texts v_m_diary v_m_longs v_m_fit v_m_counts) (wd_X8_watchOf cI cZ cP cS h_t h_t_turns h_t_phases h_t_ups h_t_typed h_t_texts h_t_diary h_t_longs h_t_awakes h_t_fit h_t_counts h_t_worths h_t_ripes h_t_growths h_t_gains h_t_isThere h_t_forms h_t_sizes h_t_items h_t_moved o_m_hours o_m_months o_m_fitMany o_m_fitFirst v_m_finding v_m_turns v_m_ups v_m_typed v_m_texts o_m_diary o_m_longs o_m_fit o_m_counts)) ([.ref h_t, .int x1] : List Value).toArray s 0 0 (va_A (wd_X8_watchOf cI cZ cP cS h_t h_t_turns h_t_phases h_t_ups h_t_typed h_t_texts h_t_diary h_t_longs h_t_awakes h_t_fit h_t_counts h_t_worths h_t_ripes h_t_growths h_t_gains h_t_isThere h_t_forms h_t_sizes h_t_items h_t_moved v_m_hours v_m_months v_m_fitMany v_m_fitFirst v_m_finding v_m_turns v_m_ups v_m_typed v_m_texts v_m_diary v_m_longs v_m_fit v_m_counts) s.heap.size)) (F0 m 97 ls []) := by
      intro z42_3 z42_4 u42_m_counts H locs ls hl hP hD hS hf
      rw [ekx42] at hf
      refine lv_iload_n hx hb dX8_watchOf_97 rfl (lv_at hl 0 rfl) ?_
      refine lv_if_ne (tgt := 105) hx hb dX8_watchOf_98 (by decide) (fun c98 => ?_) (fun c98 => ?_)
      · rw [if_neg c98] at hf
        refine lv_iload hx hb dX8_watchOf_105 (lv_at hl 2 rfl) ?_
        have hq0 := Option.some.inj hf
        obtain ⟨eq0, hq1⟩ := Prod.mk.inj hq0
        obtain ⟨eq1, hq2⟩ := Prod.mk.inj hq1
        obtain ⟨eq2, hq3⟩ := Prod.mk.inj hq2
        obtain ⟨eq3, hq4⟩ := Prod.mk.inj hq3
        obtain ⟨eq4, hq5⟩ := Prod.mk.inj hq4
        obtain ⟨eq5, hq6⟩ := Prod.mk.inj hq5
        obtain ⟨eq6, hq7⟩ := Prod.mk.inj hq6
        obtain ⟨eq7, hq8⟩ := Prod.mk.inj hq7
        clear hf hq0 hq1 hq2 hq3 hq4 hq5 hq6 hq7
        subst eq0
        subst eq1
        subst eq2
        subst eq3
        subst eq4
        subst eq5
        subst eq6
        subst eq7
        subst hq8
        exact W.iret hx hb hr (fun t ht hW => ⟨⟨_, (), rfl, rfl, by rw [ht]; exact hP, va_K.moved hW.alike hK, hD⟩, hS.F ht⟩) hS.2.2 dX8_watchOf_107
      · rw [if_pos c98] at hf
        refine lv_iload_n hx hb dX8_watchOf_101 rfl (lv_at hl 1 rfl) ?_
        refine lv_goto (tgt := 107) hx hb dX8_watchOf_102 (by decide) ?_
        have hq0 := Option.some.inj hf
        obtain ⟨eq0, hq1⟩ := Prod.mk.inj hq0
        obtain ⟨eq1, hq2⟩ := Prod.mk.inj hq1
        obtain ⟨eq2, hq3⟩ := Prod.mk.inj hq2
        obtain ⟨eq3, hq4⟩ := Prod.mk.inj hq3
        obtain ⟨eq4, hq5⟩ := Prod.mk.inj hq4
        obtain ⟨eq5, hq6⟩ := Prod.mk.inj hq5
        obtain ⟨eq6, hq7⟩ := Prod.mk.inj hq6
        obtain ⟨eq7, hq8⟩ := Prod.mk.inj hq7
        clear hf hq0 hq1 hq2 hq3 hq4 hq5 hq6 hq7
        subst eq0
        subst eq1
        subst eq2
        subst eq3
        subst eq4
        subst eq5
        subst eq6
        subst eq7
        subst hq8
        exact W.iret hx hb hr (fun t ht hW => ⟨⟨_, (), rfl, rfl, by rw [ht]; exact hP, va_K.moved hW.alike hK, hD⟩, hS.F ht⟩) hS.2.2 dX8_watchOf_107
    have hL42 : ∀ (k42 : Nat) (y42_3 : Int32) (y42_4 : Int32) (y42_5 : Int32) (w42_m_counts : Nat → Int32) (H : Heap) (locs : List Loc) (ls : Array Slot), lv_has ls 7 [(0, .ref h_t), (1, .int x1), (2, .int r15_10), (3, .int y42_3), (4, .int y42_4), (5, .int y42_5)] → va_P (dC, dI) vwCl (wd_X8_watchOf cI cZ cP cS h_t h_t_turns h_t_phases h_t_ups h_t_typed h_t_texts h_t_diary h_t_longs h_t_awakes h_t_fit h_t_counts h_t_worths h_t_ripes h_t_growths h_t_gains h_t_isThere h_t_forms h_t_sizes h_t_items h_t_moved o1_1 o1_2 o1_3 o1_4 v_m_finding v_m_turns v_m_ups v_m_typed v_m_texts o1_5 o1_6 o1_7 w42_m_counts) H → va_D (va_A (wd_X8_watchOf cI cZ cP cS h_t h_t_turns h_t_phases h_t_ups h_t_typed h_t_texts h_t_diary h_t_longs h_t_awakes h_t_fit h_t_counts h_t_worths h_t_ripes h_t_growths h_t_gains h_t_isThere h_t_forms h_t_sizes h_t_items h_t_moved v_m_hours v_m_months v_m_fitMany v_m_fitFirst v_m_finding v_m_turns v_m_ups v_m_typed v_m_texts v_m_diary v_m_longs v_m_fit v_m_counts) s.heap.size) (wd_X8_watchOf cI cZ cP cS h_t h_t_turns h_t_phases h_t_ups h_t_typed h_t_texts h_t_diary h_t_longs h_t_awakes h_t_fit h_t_counts h_t_worths h_t_ripes h_t_growths h_t_gains h_t_isThere h_t_forms h_t_sizes h_t_items h_t_moved o1_1 o1_2 o1_3 o1_4 v_m_finding v_m_turns v_m_ups v_m_typed v_m_texts o1_5 o1_6 o1_7 w42_m_counts) → va_S (va_A (wd_X8_watchOf cI cZ cP cS h_t h_t_turns h_t_phases h_t_ups h_t_typed h_t_texts h_t_diary h_t_longs h_t_awakes h_t_fit h_t_counts h_t_worths h_t_ripes h_t_growths h_t_gains h_t_isThere h_t_forms h_t_sizes h_t_items h_t_moved v_m_hours v_m_months v_m_fitMany v_m_fitFirst v_m_finding v_m_turns v_m_ups v_m_typed v_m_texts v_m_diary v_m_longs v_m_fit v_m_counts) s.heap.size) s.heap H locs → L_X8_watchOf_42 n v_m_turns v_m_ups o1_1 o1_7 r15_10 kx42 k42 y42_3 y42_4 y42_5 w42_m_counts = some (r, o_m_hours, o_m_months, o_m_fitMany, o_m_fitFirst, o_m_diary, o_m_longs, o_m_fit, o_m_counts) → W p l e (headSpec wsX8_watchOf rm_X8_watchOf).room s m ([.ref h_t, .int x1] : List Value).toArray below meth c H locs 0 0 (MQ below (RWi (dC, dI) (TY cI cZ cP cS) r s.heap.size (wd_X8_watchOf cI cZ cP cS h_t h_t_turns h_t_phases h_t_ups h_t_typed h_t_texts h_t_diary h_t_longs h_t_awakes h_t_fit h_t_counts h_t_worths h_t_ripes h_t_growths h_t_gains h_t_isThere h_t_forms h_t_sizes h_t_items h_t_moved v_m_hours v_m_months v_m_fitMany v_m_fitFirst v_m_finding v_m_turns v_m_ups v_m_typed v_m_texts v_m_diary v_m_longs v_m_fit v_m_counts) (wd_X8_watchOf cI cZ cP cS h_t h_t_turns h_t_phases h_t_ups h_t_typed h_t_texts h_t_diary h_t_longs h_t_awakes h_t_fit h_t_counts h_t_worths h_t_ripes h_t_growths h_t_gains h_t_isThere h_t_forms h_t_sizes h_t_items h_t_moved o_m_hours o_m_months o_m_fitMany o_m_fitFirst v_m_finding v_m_turns v_m_ups v_m_typed v_m_texts o_m_diary o_m_longs o_m_fit o_m_counts)) ([.ref h_t, .int x1] : List Value).toArray s 0 0 (va_A (wd_X8_watchOf cI cZ cP cS h_t h_t_turns h_t_phases h_t_ups h_t_typed h_t_texts h_t_diary h_t_longs h_t_awakes h_t_fit h_t_counts h_t_worths h_t_ripes h_t_growths h_t_gains h_t_isThere h_t_forms h_t_sizes h_t_items h_t_moved v_m_hours v_m_months v_m_fitMany v_m_fitFirst v_m_finding v_m_turns v_m_ups v_m_typed v_m_texts v_m_diary v_m_longs v_m_fit v_m_counts) s.heap.size)) (F0 m 42 ls []) := by
      intro k42
      induction k42 with
      | zero =>
        intro y42_3 y42_4 y42_5 w42_m_counts H locs ls hl hP hD hS hf
        exact absurd hf (fun h => Option.some_ne_none _ h.symm)
      | succ k42 ih =>
        intro y42_3 y42_4 y42_5 w42_m_counts H locs ls hl hP hD hS hf
        rw [L_X8_watchOf_42_s] at hf
        refine lv_iload hx hb dX8_watchOf_42 (lv_at hl 5 rfl) ?_
        refine lv_aload_n hx hb dX8_watchOf_44 rfl (lv_at hl 0 rfl) ?_
        refine va_get (D := (dC, dI)) (ci := 7) (v := .int o1_1) (C := RX8) (T := TX8) (N := 24) hx hb hts hinX8 hown hK hP 0 rfl rfl 5 (by decide) (hts (.fieldLink RX8 79 "SecondSunriseModel" "hours" "I") (by decide +kernel)) (fun _ h9 => h9) rfl dX8_watchOf_45 ?_
        refine lv_iload_n hx hb dX8_watchOf_48 rfl (lv_at hl 2 rfl) ?_
        refine lv_iadd hx hb dX8_watchOf_49 ?_
        refine lv_icmp_ge (tgt := 97) hx hb dX8_watchOf_50 (by decide) (fun c50 => ?_) (fun c50 => ?_)
        · rw [if_pos c50] at hf
          exact hx42 y42_3 y42_4 w42_m_counts H locs ls (lv_sub hl [1, 3, 4] rfl) hP hD hS hf
        · rw [if_neg c50] at hf
          refine lv_aload_n hx hb dX8_watchOf_53 rfl (lv_at hl 0 rfl) ?_
          refine lv_iload hx hb dX8_watchOf_54 (lv_at hl 5 rfl) ?_
          obtain ⟨r56_17, o56_18, hc_19, hf⟩ := bd2_e hf
          refine rwi_call (isC := [0, 1, 2, 7, 8]) (isR := [3, 4, 5, 6]) (perm := [4, 5, 6, 0, 1, 2, 3, 7, 8]) (wr := [(h_t_typed, .inl (cI, 2, .inl v_m_typed)), (h_t_texts, .inl (cI, 120, .inl v_m_texts)), (h_t_diary, .inl (cI, 60, .inl o1_5)), (h_t_longs, .inl (cI, 7, .inl o1_6))]) (ws2 := (wd_X8_watchOf cI cZ cP cS h_t h_t_turns h_t_phases h_t_ups h_t_typed h_t_texts h_t_diary h_t_longs h_t_awakes h_t_fit h_t_counts h_t_worths h_t_ripes h_t_growths h_t_gains h_t_isThere h_t_forms h_t_sizes h_t_items h_t_moved o1_1 o1_2 o1_3 o1_4 v_m_finding v_m_turns v_m_ups v_m_typed v_m_texts o1_5 o1_6 o1_7 o56_18)) (va_runV (As := [.int y42_5]) (rest := []) ⟨hx, hb, hml, hown, hts⟩ (c_X8_worstAt l dC dI cI cZ cP cS H.size h_t h_t_turns h_t_phases h_t_ups h_t_typed h_t_texts h_t_diary h_t_longs h_t_awakes h_t_fit h_t_counts h_t_worths h_t_ripes h_t_growths h_t_gains h_t_isThere h_t_forms h_t_sizes h_t_items h_t_moved o1_1 o1_2 o1_3 o1_4 v_m_finding v_m_turns v_m_ups o1_7 w42_m_counts y42_5 n r56_17 o56_18 hc_19) (cwV 1 hts gX8_watchOf_X8_worstAt rfl rfl rfl (by decide +kernel) ⟨Nat.le_of_ble_eq_true rfl, Nat.le_of_ble_eq_true rfl⟩) (pv_rw (ci := 7) (q0 := 0) hK (hP.sub (ws' := (wd_X8_worstAt cI cZ cP cS h_t h_t_turns h_t_phases h_t_ups h_t_typed h_t_texts h_t_diary h_t_longs h_t_awakes h_t_fit h_t_counts h_t_worths h_t_ripes h_t_growths h_t_gains h_t_isThere h_t_forms h_t_sizes h_t_items h_t_moved o1_1 o1_2 o1_3 o1_4 v_m_finding v_m_turns v_m_ups o1_7 w42_m_counts)) [0, 1, 2, 7, 8] rfl) (hD.sub (ws' := (wd_X8_worstAt cI cZ cP cS h_t h_t_turns h_t_phases h_t_ups h_t_typed h_t_texts h_t_diary h_t_longs h_t_awakes h_t_fit h_t_counts h_t_worths h_t_ripes h_t_growths h_t_gains h_t_isThere h_t_forms h_t_sizes h_t_items h_t_moved o1_1 o1_2 o1_3 o1_4 v_m_finding v_m_turns v_m_ups o1_7 w42_m_counts)) [0, 1, 2, 7, 8] (by decide) rfl) rfl rfl) rfl rfl hl.1 rfl (lv_room (Nat.le_of_ble_eq_true rfl)) dX8_watchOf_56 ⟨Nat.zero_le _, Nat.zero_le _⟩) hS hA hP hD rfl (by decide) (by decide) rfl (by decide) rfl rfl (fun H locs hP hD hS => ?_)
          refine lv_istore (lv' := [(6, .int r56_17), (0, .ref h_t), (1, .int x1), (2, .int r15_10), (3, .int y42_3), (4, .int y42_4), (5, .int y42_5)]) hx hb dX8_watchOf_59 hl (by decide) rfl (fun ls hl => ?_)
          refine lv_iload hx hb dX8_watchOf_61 (lv_at hl 0 rfl) ?_
          refine lv_iload hx hb dX8_watchOf_63 (lv_at hl 5 rfl) ?_
          obtain ⟨v74_21, ev74_21, hf⟩ := lt_e hf
          have hj74_22 : ∀ (ls : Array Slot), lv_has ls 7 [(0, .ref h_t), (1, .int x1), (2, .int r15_10), (4, .int y42_4), (5, .int y42_5), (6, .int r56_17)] → W p l e (headSpec wsX8_watchOf rm_X8_watchOf).room s m ([.ref h_t, .int x1] : List Value).toArray below meth c H locs 0 0 (MQ below (RWi (dC, dI) (TY cI cZ cP cS) r s.heap.size (wd_X8_watchOf cI cZ cP cS h_t h_t_turns h_t_phases h_t_ups h_t_typed h_t_texts h_t_diary h_t_longs h_t_awakes h_t_fit h_t_counts h_t_worths h_t_ripes h_t_growths h_t_gains h_t_isThere h_t_forms h_t_sizes h_t_items h_t_moved v_m_hours v_m_months v_m_fitMany v_m_fitFirst v_m_finding v_m_turns v_m_ups v_m_typed v_m_texts v_m_diary v_m_longs v_m_fit v_m_counts) (wd_X8_watchOf cI cZ cP cS h_t h_t_turns h_t_phases h_t_ups h_t_typed h_t_texts h_t_diary h_t_longs h_t_awakes h_t_fit h_t_counts h_t_worths h_t_ripes h_t_growths h_t_gains h_t_isThere h_t_forms h_t_sizes h_t_items h_t_moved o_m_hours o_m_months o_m_fitMany o_m_fitFirst v_m_finding v_m_turns v_m_ups v_m_typed v_m_texts o_m_diary o_m_longs o_m_fit o_m_counts)) ([.ref h_t, .int x1] : List Value).toArray s 0 0 (va_A (wd_X8_watchOf cI cZ cP cS h_t h_t_turns h_t_phases h_t_ups h_t_typed h_t_texts h_t_diary h_t_longs h_t_awakes h_t_fit h_t_counts h_t_worths h_t_ripes h_t_growths h_t_gains h_t_isThere h_t_forms h_t_sizes h_t_items h_t_moved v_m_hours v_m_months v_m_fitMany v_m_fitFirst v_m_finding v_m_turns v_m_ups v_m_typed v_m_texts v_m_diary v_m_longs v_m_fit v_m_counts) s.heap.size)) (F0 m 74 ls [.int v74_21]) := by
            intro ls hl
            refine lv_istore_n (lv' := [(3, .int v74_21), (0, .ref h_t), (1, .int x1), (2, .int r15_10), (4, .int y42_4), (5, .int y42_5), (6, .int r56_17)]) hx hb dX8_watchOf_74 rfl hl (by decide) rfl (fun ls hl => ?_)
            refine lv_iload hx hb dX8_watchOf_75 (lv_at hl 6 rfl) ?_
            refine lv_iload hx hb dX8_watchOf_77 (lv_at hl 4 rfl) ?_
            obtain ⟨v89_23, ev89_23, hf⟩ := lt_e hf
            have hj89_24 : ∀ (ls : Array Slot), lv_has ls 7 [(0, .ref h_t), (1, .int x1), (2, .int r15_10), (3, .int v74_21), (5, .int y42_5)] → W p l e (headSpec wsX8_watchOf rm_X8_watchOf).room s m ([.ref h_t, .int x1] : List Value).toArray below meth c H locs 0 0 (MQ below (RWi (dC, dI) (TY cI cZ cP cS) r s.heap.size (wd_X8_watchOf cI cZ cP cS h_t h_t_turns h_t_phases h_t_ups h_t_typed h_t_texts h_t_diary h_t_longs h_t_awakes h_t_fit h_t_counts h_t_worths h_t_ripes h_t_growths h_t_gains h_t_isThere h_t_forms h_t_sizes h_t_items h_t_moved v_m_hours v_m_months v_m_fitMany v_m_fitFirst v_m_finding v_m_turns v_m_ups v_m_typed v_m_texts v_m_diary v_m_longs v_m_fit v_m_counts) (wd_X8_watchOf cI cZ cP cS h_t h_t_turns h_t_phases h_t_ups h_t_typed h_t_texts h_t_diary h_t_longs h_t_awakes h_t_fit h_t_counts h_t_worths h_t_ripes h_t_growths h_t_gains h_t_isThere h_t_forms h_t_sizes h_t_items h_t_moved o_m_hours o_m_months o_m_fitMany o_m_fitFirst v_m_finding v_m_turns v_m_ups v_m_typed v_m_texts o_m_diary o_m_longs o_m_fit o_m_counts)) ([.ref h_t, .int x1] : List Value).toArray s 0 0 (va_A (wd_X8_watchOf cI cZ cP cS h_t h_t_turns h_t_phases h_t_ups h_t_typed h_t_texts h_t_diary h_t_longs h_t_awakes h_t_fit h_t_counts h_t_worths h_t_ripes h_t_growths h_t_gains h_t_isThere h_t_forms h_t_sizes h_t_items h_t_moved v_m_hours v_m_months v_m_fitMany v_m_fitFirst v_m_finding v_m_turns v_m_ups v_m_typed v_m_texts v_m_diary v_m_longs v_m_fit v_m_counts) s.heap.size)) (F0 m 89 ls [.int v89_23]) := by
              intro ls hl
              refine lv_istore (lv' := [(4, .int v89_23), (0, .ref h_t), (1, .int x1), (2, .int r15_10), (3, .int v74_21), (5, .int y42_5)]) hx hb dX8_watchOf_89 hl (by decide) rfl (fun ls hl => ?_)
              refine lv_iinc (v := (y42_5 + 1)) (lv' := [(5, .int (y42_5 + 1)), (4, .int v89_23), (0, .ref h_t), (1, .int x1), (2, .int r15_10), (3, .int v74_21)]) hx hb dX8_watchOf_91 hl (k := 5) rfl rfl (by decide) rfl (fun ls hl => ?_)
              refine lv_goto (tgt := 42) hx hb dX8_watchOf_94 (by decide) ?_
              exact ih v74_21 v89_23 (y42_5 + 1) o56_18 H locs ls (lv_sub hl [2, 3, 4, 5, 1, 0] rfl) hP hD hS hf
            clear hf
            refine lv_icmp_ge (tgt := 87) hx hb dX8_watchOf_79 (by decide) (fun c79 => ?_) (fun c79 => ?_)
            ·
              refine lv_iload hx hb dX8_watchOf_87 (lv_at hl 4 rfl) ?_
              rw [if_pos c79] at ev89_23
              subst ev89_23
              exact hj89_24 ls (lv_sub hl [1, 2, 3, 0, 5] rfl)
            ·
              refine lv_iload hx hb dX8_watchOf_82 (lv_at hl 6 rfl) ?_
              refine lv_goto (tgt := 89) hx hb dX8_watchOf_84 (by decide) ?_
              rw [if_neg c79] at ev89_23
              subst ev89_23
              exact hj89_24 ls (lv_sub hl [1, 2, 3, 0, 5] rfl)
          clear hf
          refine lv_icmp_ge (tgt := 73) hx hb dX8_watchOf_65 (by decide) (fun c65 => ?_) (fun c65 => ?_)
          ·
            refine lv_iload_n hx hb dX8_watchOf_73 rfl (lv_at hl 4 rfl) ?_
            rw [if_pos c65] at ev74_21
            subst ev74_21
            exact hj74_22 ls (lv_sub hl [1, 2, 3, 5, 6, 0] rfl)
          ·
            refine lv_iload hx hb dX8_watchOf_68 (lv_at hl 6 rfl) ?_
            refine lv_goto (tgt := 74) hx hb dX8_watchOf_70 (by decide) ?_
            rw [if_neg c65] at ev74_21
            subst ev74_21
            exact hj74_22 ls (lv_sub hl [1, 2, 3, 5, 6, 0] rfl)
    exact hL42 n o1_1 r29_13 (o1_1 + 1) o29_14 H locs ls (lv_sub hl [4, 5, 3, 2, 1, 0] rfl) hP hD hS hf
  · rw [if_pos c8] at hf
    refine lv_bipush (v := (-3)) hx hb dX8_watchOf_11 (by decide) ?_
    have hq0 := Option.some.inj hf
    obtain ⟨eq0, hq1⟩ := Prod.mk.inj hq0
    obtain ⟨eq1, hq2⟩ := Prod.mk.inj hq1
    obtain ⟨eq2, hq3⟩ := Prod.mk.inj hq2
    obtain ⟨eq3, hq4⟩ := Prod.mk.inj hq3
    obtain ⟨eq4, hq5⟩ := Prod.mk.inj hq4
    obtain ⟨eq5, hq6⟩ := Prod.mk.inj hq5
    obtain ⟨eq6, hq7⟩ := Prod.mk.inj hq6
    obtain ⟨eq7, hq8⟩ := Prod.mk.inj hq7
    clear hf hq0 hq1 hq2 hq3 hq4 hq5 hq6 hq7
    subst eq0
    subst eq1
    subst eq2
    subst eq3
    subst eq4
    subst eq5
    subst eq6
    subst eq7
    subst hq8
    exact W.iret hx hb hr (fun t ht hW => ⟨⟨_, (), rfl, rfl, by rw [ht]; exact hP, va_K.moved hW.alike hK, hD⟩, hS.F ht⟩) hS.2.2 dX8_watchOf_13

abbrev wd_X8_withoutOf (cI cZ cP cS : ClassId) (h_t h_t_turns h_t_phases h_t_ups h_t_typed h_t_texts h_t_diary h_t_longs h_t_awakes h_t_fit h_t_counts h_t_worths h_t_ripes h_t_growths h_t_gains h_t_isThere h_t_forms h_t_sizes h_t_items h_t_moved : Nat) (v_m_hours : Int32) (v_m_months : Int32) (v_m_fitMany : Int32) (v_m_fitFirst : Int32) (v_m_finding : Int32) (v_m_turns : Nat → Int32) (v_m_ups : Nat → Int32) : va_W := [(h_t, .inr (7, [.ref h_t_turns, .ref h_t_phases, .ref h_t_ups, .ref h_t_typed, .ref h_t_texts, .int v_m_hours, .ref h_t_diary, .int v_m_months, .ref h_t_longs, .ref h_t_awakes, .ref h_t_fit, .int v_m_fitMany, .int v_m_fitFirst, .ref h_t_counts, .ref h_t_worths, .ref h_t_ripes, .ref h_t_growths, .ref h_t_gains, .ref h_t_isThere, .ref h_t_forms, .ref h_t_sizes, .ref h_t_items, .ref h_t_moved, .int v_m_finding])), (h_t_turns, .inl (cI, 2, .inl v_m_turns)), (h_t_ups, .inl (cI, 2, .inl v_m_ups))]
abbrev rm_X8_withoutOf : Room := { frames := 1, cells := 0, slots := 0, locals := 21 }
def f_X8_withoutOf (n : Nat) (v_m_turns : Nat → Int32) (v_m_ups : Nat → Int32) (x1 : Int32) : Option (Int32) := ix_ x1 2 (if (v_m_ups x1.toNatClampNeg) = 0 then bd1_ (f_X8_roundNow n v_m_turns) (fun (r10_4 : Int32) => some r10_4) else ix_ x1 2 (ix_ x1 2 (some ((v_m_turns x1.toNatClampNeg) - (v_m_ups x1.toNatClampNeg)))))
set_option maxHeartbeats 4000000 in
set_option maxRecDepth 100000 in
theorem c_X8_withoutOf (l : Launch) (dC : Nat → ClassId) (dI : Nat → Nat → Nat) (cI cZ cP cS : ClassId) (h_t h_t_turns h_t_phases h_t_ups h_t_typed h_t_texts h_t_diary h_t_longs h_t_awakes h_t_fit h_t_counts h_t_worths h_t_ripes h_t_growths h_t_gains h_t_isThere h_t_forms h_t_sizes h_t_items h_t_moved : Nat) (v_m_hours : Int32) (v_m_months : Int32) (v_m_fitMany : Int32) (v_m_fitFirst : Int32) (v_m_finding : Int32) (v_m_turns : Nat → Int32) (v_m_ups : Nat → Int32) (x1 : Int32) (n : Nat) (r : Int32) (hf : f_X8_withoutOf n v_m_turns v_m_ups x1 = some r) : Met l yX8_withoutOf wsX8_withoutOf rm_X8_withoutOf (RO (dC, dI) (TY cI cZ cP cS) [.ref h_t, .int x1] (wd_X8_withoutOf cI cZ cP cS h_t h_t_turns h_t_phases h_t_ups h_t_typed h_t_texts h_t_diary h_t_longs h_t_awakes h_t_fit h_t_counts h_t_worths h_t_ripes h_t_growths h_t_gains h_t_isThere h_t_forms h_t_sizes h_t_items h_t_moved v_m_hours v_m_months v_m_fitMany v_m_fitFirst v_m_finding v_m_turns v_m_ups)) (vp_Si (fun x => x = r)) 0 0 NF := by
  refine Met.ofW (cc := cX8_withoutOf) (maxL := 2) (ret := (some .int)) (by decide) rfl ?_
  intro p e s m args below meth c s₁ B hml hv
  obtain ⟨rfl, hP, hK⟩ := hv
  have hx := B.exec
  have hb := B.bytes
  have hr := B.returns
  have hts := atoms_spec (ws := wsX8_withoutOf) B.pre
  have hown : s.vm.findClass RX8 = some m.cls := findClass_of_methodNamed B.named
  have hlocks := B.notSynchronized
  have hinX8 : ∀ w ∈ wsX80, w ∈ wsX8_withoutOf := by decide +kernel
  have hl := lv_entry ([.ref h_t, .int x1]) (n := 2) (Nat.le_of_ble_eq_true rfl)
  rw [lg_entry_eq]
  generalize (lg_sl ([.ref h_t, .int x1]) ++ List.replicate (2 - (lg_sl ([.ref h_t, .int x1])).length) Slot.unset).toArray = ls at hl ⊢
  have hl : lv_has ls 2 [(0, .ref h_t), (1, .int x1)] := hl
  unfold f_X8_withoutOf at hf
  refine lv_aload_n hx hb dX8_withoutOf_0 rfl (lv_at hl 0 rfl) ?_
  refine va_get (D := (dC, dI)) (ci := 7) (v := .ref h_t_ups) (C := RX8) (T := TX8) (N := 24) hx hb hts hinX8 hown hK hP 0 rfl rfl 2 (by decide) (hts (.fieldLink RX8 16 "SecondSunriseModel" "ups" "[I") (by decide +kernel)) (fun _ h9 => h9) rfl dX8_withoutOf_1 ?_
  refine lv_iload_n hx hb dX8_withoutOf_4 rfl (lv_at hl 1 rfl) ?_
  obtain ⟨hi_1, hf⟩ := ix_e hf
  refine va_iald hx hb hK hP 2 0 rfl rfl hi_1 dX8_withoutOf_5 ?_
  refine lv_if_ne (tgt := 16) hx hb dX8_withoutOf_6 (by decide) (fun c6 => ?_) (fun c6 => ?_)
  · rw [if_neg c6] at hf
    refine lv_aload_n hx hb dX8_withoutOf_16 rfl (lv_at hl 0 rfl) ?_
    refine va_get (D := (dC, dI)) (ci := 7) (v := .ref h_t_turns) (C := RX8) (T := TX8) (N := 24) hx hb hts hinX8 hown hK hP 0 rfl rfl 0 (by decide) (hts (.fieldLink RX8 7 "SecondSunriseModel" "turns" "[I") (by decide +kernel)) (fun _ h9 => h9) rfl dX8_withoutOf_17 ?_
    refine lv_iload_n hx hb dX8_withoutOf_20 rfl (lv_at hl 1 rfl) ?_
    obtain ⟨hi_2, hf⟩ := ix_e hf
    refine va_iald hx hb hK hP 1 0 rfl rfl hi_2 dX8_withoutOf_21 ?_
    refine lv_aload_n hx hb dX8_withoutOf_22 rfl (lv_at hl 0 rfl) ?_
    refine va_get (D := (dC, dI)) (ci := 7) (v := .ref h_t_ups) (C := RX8) (T := TX8) (N := 24) hx hb hts hinX8 hown hK hP 0 rfl rfl 2 (by decide) (hts (.fieldLink RX8 16 "SecondSunriseModel" "ups" "[I") (by decide +kernel)) (fun _ h9 => h9) rfl dX8_withoutOf_23 ?_
    refine lv_iload_n hx hb dX8_withoutOf_26 rfl (lv_at hl 1 rfl) ?_
    obtain ⟨hi_3, hf⟩ := ix_e hf
    refine va_iald hx hb hK hP 2 0 rfl rfl hi_3 dX8_withoutOf_27 ?_
    refine lv_isub hx hb dX8_withoutOf_28 ?_
    exact W.iret hx hb hr (fun t ht hW => ⟨_, rfl, Option.some.inj hf, ht⟩) (fun _ h => nomatch h) dX8_withoutOf_29
  · rw [if_pos c6] at hf
    refine lv_aload_n hx hb dX8_withoutOf_9 rfl (lv_at hl 0 rfl) ?_
    obtain ⟨r10_4, hc_5, hf⟩ := bd1_e hf
    refine vp_callSi (va_runV (As := []) (rest := []) ⟨hx, hb, hml, hown, hts⟩ (c_X8_roundNow l dC dI cI cZ cP cS h_t h_t_turns h_t_phases h_t_ups h_t_typed h_t_texts h_t_diary h_t_longs h_t_awakes h_t_fit h_t_counts h_t_worths h_t_ripes h_t_growths h_t_gains h_t_isThere h_t_forms h_t_sizes h_t_items h_t_moved v_m_hours v_m_months v_m_fitMany v_m_fitFirst v_m_finding v_m_turns  n r10_4 hc_5) (cwV 0 hts gX8_withoutOf_X8_roundNow rfl rfl rfl (by decide +kernel) ⟨Nat.le_of_ble_eq_true rfl, Nat.le_of_ble_eq_true rfl⟩) (pv_ro (ci := 7) (q0 := 0) hK (hP.sub (ws' := (wd_X8_roundNow cI cZ cP cS h_t h_t_turns h_t_phases h_t_ups h_t_typed h_t_texts h_t_diary h_t_longs h_t_awakes h_t_fit h_t_counts h_t_worths h_t_ripes h_t_growths h_t_gains h_t_isThere h_t_forms h_t_sizes h_t_items h_t_moved v_m_hours v_m_months v_m_fitMany v_m_fitFirst v_m_finding v_m_turns)) [0, 1] rfl) rfl rfl) rfl rfl hl.1 rfl (lv_room (Nat.le_of_ble_eq_true rfl)) dX8_withoutOf_10 ⟨Nat.zero_le _, Nat.zero_le _⟩).run (fun x e_6 => ?_)
    rw [e_6]
    refine lv_goto (tgt := 29) hx hb dX8_withoutOf_13 (by decide) ?_
    exact W.iret hx hb hr (fun t ht hW => ⟨_, rfl, Option.some.inj hf, ht⟩) (fun _ h => nomatch h) dX8_withoutOf_29
