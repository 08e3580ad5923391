abbrev wd_X8_copy (cI cZ cP cS : ClassId) (h_t h_t_turns h_t_phases h_t_ups h_t_typed h_t_texts h_t_diary h_t_longs h_t_awakes h_t_fit h_t_counts h_t_worths h_t_ripes h_t_growths h_t_gains h_t_isThere h_t_forms h_t_sizes h_t_items h_t_moved : Nat) (v_m_hours : Int32) (v_m_months : Int32) (v_m_fitMany : Int32) (v_m_fitFirst : Int32) (v_m_finding : Int32) (v_m_isThere : Nat → Int32) (v_m_forms : Nat → Int32) (v_m_sizes : Nat → Int32) (v_m_items : Nat → Int32) (v_m_moved : Nat → Int32) : va_W := [(h_t, .inr (7, [.ref h_t_turns, .ref h_t_phases, .ref h_t_ups, .ref h_t_typed, .ref h_t_texts, .int v_m_hours, .ref h_t_diary, .int v_m_months, .ref h_t_longs, .ref h_t_awakes, .ref h_t_fit, .int v_m_fitMany, .int v_m_fitFirst, .ref h_t_counts, .ref h_t_worths, .ref h_t_ripes, .ref h_t_growths, .ref h_t_gains, .ref h_t_isThere, .ref h_t_forms, .ref h_t_sizes, .ref h_t_items, .ref h_t_moved, .int v_m_finding])), (h_t_isThere, .inl (cZ, 4, .inl v_m_isThere)), (h_t_forms, .inl (cI, 4, .inl v_m_forms)), (h_t_sizes, .inl (cI, 4, .inl v_m_sizes)), (h_t_items, .inl (cI, 192, .inl v_m_items)), (h_t_moved, .inl (cI, 48, .inl v_m_moved))]
abbrev rm_X8_copy : Room := { frames := 2, cells := 0, slots := 0, locals := 42 }
def L_X8_copy_157 (x3 : Int32) (x4 : Int32) (x5 : Int32) (u120_m_moved : Nat → Int32) (kx157 : (Nat → Int32) → Option (Int32 × Int32 × (Nat → Int32) × (Nat → Int32))) : Nat → Int32 → (Nat → Int32) → Option (Int32 × Int32 × (Nat → Int32) × (Nat → Int32))
  | 0, _, _ => none
  | k157 + 1, y157_6, w157_m_items => if x5 ≤ y157_6 then kx157 w157_m_items else ix_ y157_6 48 (ix_ (((48 * x3) + x4) + y157_6) 192 (L_X8_copy_157 x3 x4 x5 u120_m_moved kx157 k157 (y157_6 + 1) (upd w157_m_items (((48 * x3) + x4) + y157_6).toNatClampNeg (u120_m_moved y157_6.toNatClampNeg))))
theorem L_X8_copy_157_s (x3 : Int32) (x4 : Int32) (x5 : Int32) (u120_m_moved : Nat → Int32) (kx157 : (Nat → Int32) → Option (Int32 × Int32 × (Nat → Int32) × (Nat → Int32))) (k157 : Nat) (y157_6 : Int32) (w157_m_items : Nat → Int32) : L_X8_copy_157 x3 x4 x5 u120_m_moved kx157 (k157 + 1) y157_6 w157_m_items = if x5 ≤ y157_6 then kx157 w157_m_items else ix_ y157_6 48 (ix_ (((48 * x3) + x4) + y157_6) 192 (L_X8_copy_157 x3 x4 x5 u120_m_moved kx157 k157 (y157_6 + 1) (upd w157_m_items (((48 * x3) + x4) + y157_6).toNatClampNeg (u120_m_moved y157_6.toNatClampNeg)))) := rfl
def L_X8_copy_120 (v_m_items : Nat → Int32) (x1 : Int32) (x2 : Int32) (x5 : Int32) (kx120 : (Nat → Int32) → Option (Int32 × Int32 × (Nat → Int32) × (Nat → Int32))) : Nat → Int32 → (Nat → Int32) → Option (Int32 × Int32 × (Nat → Int32) × (Nat → Int32))
  | 0, _, _ => none
  | k120 + 1, y120_6, w120_m_moved => if x5 ≤ y120_6 then kx120 w120_m_moved else ix_ (((48 * x1) + x2) + y120_6) 192 (ix_ y120_6 48 (L_X8_copy_120 v_m_items x1 x2 x5 kx120 k120 (y120_6 + 1) (upd w120_m_moved y120_6.toNatClampNeg (v_m_items (((48 * x1) + x2) + y120_6).toNatClampNeg))))
theorem L_X8_copy_120_s (v_m_items : Nat → Int32) (x1 : Int32) (x2 : Int32) (x5 : Int32) (kx120 : (Nat → Int32) → Option (Int32 × Int32 × (Nat → Int32) × (Nat → Int32))) (k120 : Nat) (y120_6 : Int32) (w120_m_moved : Nat → Int32) : L_X8_copy_120 v_m_items x1 x2 x5 kx120 (k120 + 1) y120_6 w120_m_moved = if x5 ≤ y120_6 then kx120 w120_m_moved else ix_ (((48 * x1) + x2) + y120_6) 192 (ix_ y120_6 48 (L_X8_copy_120 v_m_items x1 x2 x5 kx120 k120 (y120_6 + 1) (upd w120_m_moved y120_6.toNatClampNeg (v_m_items (((48 * x1) + x2) + y120_6).toNatClampNeg)))) := rfl
def f_X8_copy (n : Nat) (v_m_finding : Int32) (v_m_isThere : Nat → Int32) (v_m_forms : Nat → Int32) (v_m_sizes : Nat → Int32) (v_m_items : Nat → Int32) (v_m_moved : Nat → Int32) (x1 : Int32) (x2 : Int32) (x3 : Int32) (x4 : Int32) (x5 : Int32) : Option (Int32 × Int32 × (Nat → Int32) × (Nat → Int32)) := bd1_ (f_X8_isSheet n x1) (fun (r1_1 : Int32) => if r1_1 = 0 then some ((-2), v_m_finding, v_m_items, v_m_moved) else bd1_ (f_X8_isSheet n x3) (fun (r8_5 : Int32) => if r8_5 = 0 then some ((-2), v_m_finding, v_m_items, v_m_moved) else ix_ x1 4 (jn0_ (bd2_ (f_X8_meets n v_m_finding 1) (fun (r37_10 : Int32) (o37_11 : Int32) => some (r37_10, o37_11, v_m_items, v_m_moved))) (fun k35 => if (v_m_isThere x1.toNatClampNeg) = 0 then k35 else ix_ x3 4 (if (v_m_isThere x3.toNatClampNeg) = 0 then k35 else ix_ x1 4 (ix_ x3 4 (if (v_m_forms x1.toNatClampNeg) = (v_m_forms x3.toNatClampNeg) then jn0_ (bd2_ (f_X8_meets n v_m_finding 2) (fun (r113_17 : Int32) (o113_18 : Int32) => some (r113_17, o113_18, v_m_items, v_m_moved))) (fun k111 => if x2 < 0 then k111 else if x4 < 0 then k111 else if x5 < 0 then k111 else ix_ x1 4 (if (0 : Int32) < (lg_cmp ((x2.toInt64) + (x5.toInt64)) ((v_m_sizes x1.toNatClampNeg).toInt64)) then k111 else ix_ x3 4 (if (lg_cmp ((x4.toInt64) + (x5.toInt64)) ((v_m_sizes x3.toNatClampNeg).toInt64)) ≤ 0 then jn1_ (fun (u120_m_moved : Nat → Int32) => jn1_ (fun (u157_m_items : Nat → Int32) => some (1, v_m_finding, u157_m_items, u120_m_moved)) (fun kx157 => L_X8_copy_157 x3 x4 x5 u120_m_moved kx157 n 0 v_m_items)) (fun kx120 => L_X8_copy_120 v_m_items x1 x2 x5 kx120 n 0 v_m_moved) else k111))) else bd2_ (f_X8_meets n v_m_finding 4) (fun (r58_27 : Int32) (o58_28 : Int32) => some (r58_27, o58_28, v_m_items, v_m_moved)))))))))
set_option maxHeartbeats 4000000 in
set_option maxRecDepth 100000 in
theorem c_X8_copy (l : Launch) (dC : Nat → ClassId) (dI : Nat → Nat → Nat) (cI cZ cP cS : ClassId) (sz : Nat) (h_t h_t_turns h_t_phases h_t_ups h_t_typed h_t_texts h_t_diary h_t_longs h_t_awakes h_t_fit h_t_counts h_t_worths h_t_ripes h_t_growths h_t_gains h_t_isThere h_t_forms h_t_sizes h_t_items h_t_moved : Nat) (v_m_hours : Int32) (v_m_months : Int32) (v_m_fitMany : Int32) (v_m_fitFirst : Int32) (v_m_finding : Int32) (v_m_isThere : Nat → Int32) (v_m_forms : Nat → Int32) (v_m_sizes : Nat → Int32) (v_m_items : Nat → Int32) (v_m_moved : Nat → Int32) (x1 : Int32) (x2 : Int32) (x3 : Int32) (x4 : Int32) (x5 : Int32) (n : Nat) (r : Int32) (o_m_finding : Int32) (o_m_items : Nat → Int32) (o_m_moved : Nat → Int32) (hf : f_X8_copy n v_m_finding v_m_isThere v_m_forms v_m_sizes v_m_items v_m_moved x1 x2 x3 x4 x5 = some (r, o_m_finding, o_m_items, o_m_moved)) : Met l yX8_copy wsX8_copy rm_X8_copy (RW (dC, dI) (TY cI cZ cP cS) [.ref h_t, .int x1, .int x2, .int x3, .int x4, .int x5] sz (wd_X8_copy cI cZ cP cS h_t h_t_turns h_t_phases h_t_ups h_t_typed h_t_texts h_t_diary h_t_longs h_t_awakes h_t_fit h_t_counts h_t_worths h_t_ripes h_t_growths h_t_gains h_t_isThere h_t_forms h_t_sizes h_t_items h_t_moved v_m_hours v_m_months v_m_fitMany v_m_fitFirst v_m_finding v_m_isThere v_m_forms v_m_sizes v_m_items v_m_moved)) (RWi (dC, dI) (TY cI cZ cP cS) r sz (wd_X8_copy cI cZ cP cS h_t h_t_turns h_t_phases h_t_ups h_t_typed h_t_texts h_t_diary h_t_longs h_t_awakes h_t_fit h_t_counts h_t_worths h_t_ripes h_t_growths h_t_gains h_t_isThere h_t_forms h_t_sizes h_t_items h_t_moved v_m_hours v_m_months v_m_fitMany v_m_fitFirst v_m_finding v_m_isThere v_m_forms v_m_sizes v_m_items v_m_moved) (wd_X8_copy cI cZ cP cS h_t h_t_turns h_t_phases h_t_ups h_t_typed h_t_texts h_t_diary h_t_longs h_t_awakes h_t_fit h_t_counts h_t_worths h_t_ripes h_t_growths h_t_gains h_t_isThere h_t_forms h_t_sizes h_t_items h_t_moved v_m_hours v_m_months v_m_fitMany v_m_fitFirst o_m_finding v_m_isThere v_m_forms v_m_sizes o_m_items o_m_moved)) 0 0 (va_A (wd_X8_copy cI cZ cP cS h_t h_t_turns h_t_phases h_t_ups h_t_typed h_t_texts h_t_diary h_t_longs h_t_awakes h_t_fit h_t_counts h_t_worths h_t_ripes h_t_growths h_t_gains h_t_isThere h_t_forms h_t_sizes h_t_items h_t_moved v_m_hours v_m_months v_m_fitMany v_m_fitFirst v_m_finding v_m_isThere v_m_forms v_m_sizes v_m_items v_m_moved) sz) := by
  refine Met.ofW (cc := cX8_copy) (maxL := 7) (ret := (some .int)) (by decide) rfl ?_
  intro p e s m args below meth c s₁ B hml hv
  obtain ⟨rfl, hsz, hP, hK, hD0⟩ := hv
  have hx := B.exec
  have hb := B.bytes
  have hr := B.returns
  have hts := atoms_spec (ws := wsX8_copy) B.pre
  have hown : s.vm.findClass RX8 = some m.cls := findClass_of_methodNamed B.named
  have hlocks := B.notSynchronized
  subst hsz
  have hD := hD0.self (sz := s.heap.size)
  have hA : ∀ q : Nat, s.heap.size ≤ q → (va_A (wd_X8_copy cI cZ cP cS h_t h_t_turns h_t_phases h_t_ups h_t_typed h_t_texts h_t_diary h_t_longs h_t_awakes h_t_fit h_t_counts h_t_worths h_t_ripes h_t_growths h_t_gains h_t_isThere h_t_forms h_t_sizes h_t_items h_t_moved v_m_hours v_m_months v_m_fitMany v_m_fitFirst v_m_finding v_m_isThere v_m_forms v_m_sizes v_m_items v_m_moved) s.heap.size) q := fun q h => Or.inr h
  have hS : va_S (va_A (wd_X8_copy cI cZ cP cS h_t h_t_turns h_t_phases h_t_ups h_t_typed h_t_texts h_t_diary h_t_longs h_t_awakes h_t_fit h_t_counts h_t_worths h_t_ripes h_t_growths h_t_gains h_t_isThere h_t_forms h_t_sizes h_t_items h_t_moved v_m_hours v_m_months v_m_fitMany v_m_fitFirst v_m_finding v_m_isThere v_m_forms v_m_sizes v_m_items v_m_moved) s.heap.size) s.heap s.heap [] := va_S.rf
  have hinX8 : ∀ w ∈ wsX80, w ∈ wsX8_copy := by decide +kernel
  have hl := lv_entry ([.ref h_t, .int x1, .int x2, .int x3, .int x4, .int x5]) (n := 7) (Nat.le_of_ble_eq_true rfl)
  rw [lg_entry_eq]
  generalize (lg_sl ([.ref h_t, .int x1, .int x2, .int x3, .int x4, .int x5]) ++ List.replicate (7 - (lg_sl ([.ref h_t, .int x1, .int x2, .int x3, .int x4, .int x5])).length) Slot.unset).toArray = ls at hl ⊢
  have hl : lv_has ls 7 [(0, .ref h_t), (1, .int x1), (2, .int x2), (3, .int x3), (4, .int x4), (5, .int x5)] := hl
  obtain ⟨H, hH⟩ : ∃ H : Heap, H = s.heap := ⟨_, rfl⟩
  have hP : va_P (dC, dI) vwCl (wd_X8_copy cI cZ cP cS h_t h_t_turns h_t_phases h_t_ups h_t_typed h_t_texts h_t_diary h_t_longs h_t_awakes h_t_fit h_t_counts h_t_worths h_t_ripes h_t_growths h_t_gains h_t_isThere h_t_forms h_t_sizes h_t_items h_t_moved v_m_hours v_m_months v_m_fitMany v_m_fitFirst v_m_finding v_m_isThere v_m_forms v_m_sizes v_m_items v_m_moved) H := by rw [hH]; exact hP
  have hS : va_S (va_A (wd_X8_copy cI cZ cP cS h_t h_t_turns h_t_phases h_t_ups h_t_typed h_t_texts h_t_diary h_t_longs h_t_awakes h_t_fit h_t_counts h_t_worths h_t_ripes h_t_growths h_t_gains h_t_isThere h_t_forms h_t_sizes h_t_items h_t_moved v_m_hours v_m_months v_m_fitMany v_m_fitFirst v_m_finding v_m_isThere v_m_forms v_m_sizes v_m_items v_m_moved) s.heap.size) s.heap H [] := by rw [hH]; exact hS
  obtain ⟨locs, hlo⟩ : ∃ L : List Loc, L = [] := ⟨_, rfl⟩
  rw [← hlo] at hS
  suffices hgo : W p l e (headSpec wsX8_copy rm_X8_copy).room s m ([.ref h_t, .int x1, .int x2, .int x3, .int x4, .int x5] : List Value).toArray below meth c H locs 0 0 (MQ below (RWi (dC, dI) (TY cI cZ cP cS) r s.heap.size (wd_X8_copy cI cZ cP cS h_t h_t_turns h_t_phases h_t_ups h_t_typed h_t_texts h_t_diary h_t_longs h_t_awakes h_t_fit h_t_counts h_t_worths h_t_ripes h_t_growths h_t_gains h_t_isThere h_t_forms h_t_sizes h_t_items h_t_moved v_m_hours v_m_months v_m_fitMany v_m_fitFirst v_m_finding v_m_isThere v_m_forms v_m_sizes v_m_items v_m_moved) (wd_X8_copy cI cZ cP cS h_t h_t_turns h_t_phases h_t_ups h_t_typed h_t_texts h_t_diary h_t_longs h_t_awakes h_t_fit h_t_counts h_t_worths h_t_ripes h_t_growths h_t_gains h_t_isThere h_t_forms h_t_sizes h_t_items h_t_moved v_m_hours v_m_months v_m_fitMany v_m_fitFirst o_m_finding v_m_isThere v_m_forms v_m_sizes o_m_items o_m_moved)) ([.ref h_t, .int x1, .int x2, .int x3, .int x4, .int x5] : List Value).toArray s 0 0 (va_A (wd_X8_copy cI cZ cP cS h_t h_t_turns h_t_phases h_t_ups h_t_typed h_t_texts h_t_diary h_t_longs h_t_awakes h_t_fit h_t_counts h_t_worths h_t_ripes h_t_growths h_t_gains h_t_isThere h_t_forms h_t_sizes h_t_items h_t_moved v_m_hours v_m_months v_m_fitMany v_m_fitFirst v_m_finding v_m_isThere v_m_forms v_m_sizes v_m_items v_m_moved) s.heap.size)) (F0 m 0 ls []) by rw [hH, hlo] at hgo; exact hgo
  clear hH hlo
  unfold f_X8_copy at hf
  refine lv_iload_n hx hb dX8_copy_0 rfl (lv_at hl 1 rfl) ?_
  obtain ⟨r1_1, hc_2, hf⟩ := bd1_e hf
  refine vp_callSi (va_runS (As := [.int x1]) (rest := []) ⟨hx, hb, hml, hown, hts⟩ (c_X8_isSheet l dC dI cI cZ cP cS   x1 n r1_1 hc_2) (va_cwS 1 hts gX8_copy_X8_isSheet rfl rfl rfl (by decide +kernel) ⟨Nat.le_of_ble_eq_true rfl, Nat.le_of_ble_eq_true rfl⟩) (ps_ro hK (hP.sub (ws' := ([] : va_W)) [] rfl)) rfl rfl hl.1 rfl (lv_room (Nat.le_of_ble_eq_true rfl)) dX8_copy_1 ⟨Nat.zero_le _, Nat.zero_le _⟩).run (fun x e_3 => ?_)
  obtain ⟨e_3, hb_4⟩ := e_3
  rw [e_3] at hb_4 ⊢
  refine lv_if_eq (tgt := 14) hx hb dX8_copy_4 (by decide) (fun c4 => ?_) (fun c4 => ?_)
  · rw [if_pos c4] at hf
    refine lv_bipush (v := (-2)) hx hb dX8_copy_14 (by decide) ?_
    have hq0 := Option.some.inj hf
    obtain ⟨eq0, hq1⟩ := Prod.mk.inj hq0
    obtain ⟨eq1, hq2⟩ := Prod.mk.inj hq1
    obtain ⟨eq2, hq3⟩ := Prod.mk.inj hq2
    clear hf hq0 hq1 hq2
    subst eq0
    subst eq1
    subst eq2
    subst hq3
    exact W.iret hx hb hr (fun t ht hW => ⟨⟨_, (), rfl, rfl, by rw [ht]; exact hP, va_K.moved hW.alike hK, hD⟩, hS.F ht⟩) hS.2.2 dX8_copy_16
  · rw [if_neg c4] at hf
    refine lv_iload_n hx hb dX8_copy_7 rfl (lv_at hl 3 rfl) ?_
    obtain ⟨r8_5, hc_6, hf⟩ := bd1_e hf
    refine vp_callSi (va_runS (As := [.int x3]) (rest := []) ⟨hx, hb, hml, hown, hts⟩ (c_X8_isSheet l dC dI cI cZ cP cS   x3 n r8_5 hc_6) (va_cwS 1 hts gX8_copy_X8_isSheet rfl rfl rfl (by decide +kernel) ⟨Nat.le_of_ble_eq_true rfl, Nat.le_of_ble_eq_true rfl⟩) (ps_ro hK (hP.sub (ws' := ([] : va_W)) [] rfl)) rfl rfl hl.1 rfl (lv_room (Nat.le_of_ble_eq_true rfl)) dX8_copy_8 ⟨Nat.zero_le _, Nat.zero_le _⟩).run (fun x e_7 => ?_)
    obtain ⟨e_7, hb_8⟩ := e_7
    rw [e_7] at hb_8 ⊢
    refine lv_if_ne (tgt := 17) hx hb dX8_copy_11 (by decide) (fun c11 => ?_) (fun c11 => ?_)
    · rw [if_neg c11] at hf
      refine lv_aload_n hx hb dX8_copy_17 rfl (lv_at hl 0 rfl) ?_
      refine va_get (D := (dC, dI)) (ci := 7) (v := .ref h_t_isThere) (C := RX8) (T := TX8) (N := 24) hx hb hts hinX8 hown hK hP 0 rfl rfl 18 (by decide) (hts (.fieldLink RX8 53 "SecondSunriseModel" "isThere" "[Z") (by decide +kernel)) (fun _ h9 => h9) rfl dX8_copy_18 ?_
      refine lv_iload_n hx hb dX8_copy_21 rfl (lv_at hl 1 rfl) ?_
      obtain ⟨hi_9, hf⟩ := ix_e hf
      refine va_zald hx hb hK hP 1 1 rfl rfl hi_9 dX8_copy_22 ?_
      obtain ⟨k35, ek35, hf⟩ := jn0_e hf
      have hj35 : ∀ (ls : Array Slot), lv_has ls 7 [(0, .ref h_t)] → k35 = some (r, o_m_finding, o_m_items, o_m_moved) → W p l e (headSpec wsX8_copy rm_X8_copy).room s m ([.ref h_t, .int x1, .int x2, .int x3, .int x4, .int x5] : List Value).toArray below meth c H locs 0 0 (MQ below (RWi (dC, dI) (TY cI cZ cP cS) r s.heap.size (wd_X8_copy cI cZ cP cS h_t h_t_turns h_t_phases h_t_ups h_t_typed h_t_texts h_t_diary h_t_longs h_t_awakes h_t_fit h_t_counts h_t_worths h_t_ripes h_t_growths h_t_gains h_t_isThere h_t_forms h_t_sizes h_t_items h_t_moved v_m_hours v_m_months v_m_fitMany v_m_fitFirst v_m_finding v_m_isThere v_m_forms v_m_sizes v_m_items v_m_moved) (wd_X8_copy cI cZ cP cS h_t h_t_turns h_t_phases h_t_ups h_t_typed h_t_texts h_t_diary h_t_longs h_t_awakes h_t_fit h_t_counts h_t_worths h_t_ripes h_t_growths h_t_gains h_t_isThere h_t_forms h_t_sizes h_t_items h_t_moved v_m_hours v_m_months v_m_fitMany v_m_fitFirst o_m_finding v_m_isThere v_m_forms v_m_sizes o_m_items o_m_moved)) ([.ref h_t, .int x1, .int x2, .int x3, .int x4, .int x5] : List Value).toArray s 0 0 (va_A (wd_X8_copy cI cZ cP cS h_t h_t_turns h_t_phases h_t_ups h_t_typed h_t_texts h_t_diary h_t_longs h_t_awakes h_t_fit h_t_counts h_t_worths h_t_ripes h_t_growths h_t_gains h_t_isThere h_t_forms h_t_sizes h_t_items h_t_moved v_m_hours v_m_months v_m_fitMany v_m_fitFirst v_m_finding v_m_isThere v_m_forms v_m_sizes v_m_items v_m_moved) s.heap.size)) (F0 m 35 ls []) := by
        intro ls hl hf
        rw [ek35] at hf
        refine lv_aload_n hx hb dX8_copy_35 rfl (lv_at hl 0 rfl) ?_
        refine lv_iconst (v := 1) hx hb dX8_copy_36 (by decide) ?_
        obtain ⟨r37_10, o37_11, hc_12, hf⟩ := bd2_e hf
        refine rwi_call (isC := [0]) (isR := [1, 2, 3, 4, 5]) (perm := [5, 0, 1, 2, 3, 4]) (wr := [(h_t_isThere, .inl (cZ, 4, .inl v_m_isThere)), (h_t_forms, .inl (cI, 4, .inl v_m_forms)), (h_t_sizes, .inl (cI, 4, .inl v_m_sizes)), (h_t_items, .inl (cI, 192, .inl v_m_items)), (h_t_moved, .inl (cI, 48, .inl v_m_moved))]) (ws2 := (wd_X8_copy cI cZ cP cS h_t h_t_turns h_t_phases h_t_ups h_t_typed h_t_texts h_t_diary h_t_longs h_t_awakes h_t_fit h_t_counts h_t_worths h_t_ripes h_t_growths h_t_gains h_t_isThere h_t_forms h_t_sizes h_t_items h_t_moved v_m_hours v_m_months v_m_fitMany v_m_fitFirst o37_11 v_m_isThere v_m_forms v_m_sizes v_m_items v_m_moved)) (va_runV (As := [.int 1]) (rest := []) ⟨hx, hb, hml, hown, hts⟩ (c_X8_meets l dC dI cI cZ cP cS H.size h_t h_t_turns h_t_phases h_t_ups h_t_typed h_t_texts h_t_diary h_t_longs h_t_awakes h_t_fit h_t_counts h_t_worths h_t_ripes h_t_growths h_t_gains h_t_isThere h_t_forms h_t_sizes h_t_items h_t_moved v_m_hours v_m_months v_m_fitMany v_m_fitFirst v_m_finding 1 n r37_10 o37_11 hc_12) (cwV 1 hts gX8_copy_X8_meets rfl rfl rfl (by decide +kernel) ⟨Nat.le_of_ble_eq_true rfl, Nat.le_of_ble_eq_true rfl⟩) (pv_rw (ci := 7) (q0 := 0) hK (hP.sub (ws' := (wd_X8_meets cI cZ cP cS h_t h_t_turns h_t_phases h_t_ups h_t_typed h_t_texts h_t_diary h_t_longs h_t_awakes h_t_fit h_t_counts h_t_worths h_t_ripes h_t_growths h_t_gains h_t_isThere h_t_forms h_t_sizes h_t_items h_t_moved v_m_hours v_m_months v_m_fitMany v_m_fitFirst v_m_finding)) [0] rfl) (hD.sub (ws' := (wd_X8_meets cI cZ cP cS h_t h_t_turns h_t_phases h_t_ups h_t_typed h_t_texts h_t_diary h_t_longs h_t_awakes h_t_fit h_t_counts h_t_worths h_t_ripes h_t_growths h_t_gains h_t_isThere h_t_forms h_t_sizes h_t_items h_t_moved v_m_hours v_m_months v_m_fitMany v_m_fitFirst v_m_finding)) [0] (by decide) rfl) rfl rfl) rfl rfl hl.1 rfl (lv_room (Nat.le_of_ble_eq_true rfl)) dX8_copy_37 ⟨Nat.zero_le _, Nat.zero_le _⟩) hS hA hP hD rfl (by decide) (by decide) rfl (by decide) rfl rfl (fun H locs hP hD hS => ?_)
        have hq0 := Option.some.inj hf
        obtain ⟨eq0, hq1⟩ := Prod.mk.inj hq0
        obtain ⟨eq1, hq2⟩ := Prod.mk.inj hq1
        obtain ⟨eq2, hq3⟩ := Prod.mk.inj hq2
        clear hf hq0 hq1 hq2
        subst eq0
        subst eq1
        subst eq2
        subst hq3
        exact W.iret hx hb hr (fun t ht hW => ⟨⟨_, (), rfl, rfl, by rw [ht]; exact hP, va_K.moved hW.alike hK, hD⟩, hS.F ht⟩) hS.2.2 dX8_copy_40
      refine lv_if_eq (tgt := 35) hx hb dX8_copy_23 (by decide) (fun c23 => ?_) (fun c23 => ?_)
      · rw [if_pos c23] at hf
        exact hj35 ls (lv_sub hl [0] rfl) hf
      · rw [if_neg c23] at hf
        refine lv_aload_n hx hb dX8_copy_26 rfl (lv_at hl 0 rfl) ?_
        refine va_get (D := (dC, dI)) (ci := 7) (v := .ref h_t_isThere) (C := RX8) (T := TX8) (N := 24) hx hb hts hinX8 hown hK hP 0 rfl rfl 18 (by decide) (hts (.fieldLink RX8 53 "SecondSunriseModel" "isThere" "[Z") (by decide +kernel)) (fun _ h9 => h9) rfl dX8_copy_27 ?_
        refine lv_iload_n hx hb dX8_copy_30 rfl (lv_at hl 3 rfl) ?_
        obtain ⟨hi_14, hf⟩ := ix_e hf
        refine va_zald hx hb hK hP 1 1 rfl rfl hi_14 dX8_copy_31 ?_
        refine lv_if_ne (tgt := 41) hx hb dX8_copy_32 (by decide) (fun c32 => ?_) (fun c32 => ?_)
        · rw [if_neg c32] at hf
          refine lv_aload_n hx hb dX8_copy_41 rfl (lv_at hl 0 rfl) ?_
          refine va_get (D := (dC, dI)) (ci := 7) (v := .ref h_t_forms) (C := RX8) (T := TX8) (N := 24) hx hb hts hinX8 hown hK hP 0 rfl rfl 19 (by decide) (hts (.fieldLink RX8 56 "SecondSunriseModel" "forms" "[I") (by decide +kernel)) (fun _ h9 => h9) rfl dX8_copy_42 ?_
          refine lv_iload_n hx hb dX8_copy_45 rfl (lv_at hl 1 rfl) ?_
          obtain ⟨hi_15, hf⟩ := ix_e hf
          refine va_iald hx hb hK hP 2 0 rfl rfl hi_15 dX8_copy_46 ?_
          refine lv_aload_n hx hb dX8_copy_47 rfl (lv_at hl 0 rfl) ?_
          refine va_get (D := (dC, dI)) (ci := 7) (v := .ref h_t_forms) (C := RX8) (T := TX8) (N := 24) hx hb hts hinX8 hown hK hP 0 rfl rfl 19 (by decide) (hts (.fieldLink RX8 56 "SecondSunriseModel" "forms" "[I") (by decide +kernel)) (fun _ h9 => h9) rfl dX8_copy_48 ?_
          refine lv_iload_n hx hb dX8_copy_51 rfl (lv_at hl 3 rfl) ?_
          obtain ⟨hi_16, hf⟩ := ix_e hf
          refine va_iald hx hb hK hP 2 0 rfl rfl hi_16 dX8_copy_52 ?_
          refine lv_icmp_eq (tgt := 62) hx hb dX8_copy_53 (by decide) (fun c53 => ?_) (fun c53 => ?_)
          · rw [if_pos c53] at hf
            refine lv_iload_n hx hb dX8_copy_62 rfl (lv_at hl 2 rfl) ?_
            obtain ⟨k111, ek111, hf⟩ := jn0_e hf
            have hj111 : ∀ (ls : Array Slot), lv_has ls 7 [(0, .ref h_t)] → k111 = some (r, o_m_finding, o_m_items, o_m_moved) → W p l e (headSpec wsX8_copy rm_X8_copy).room s m ([.ref h_t, .int x1, .int x2, .int x3, .int x4, .int x5] : List Value).toArray below meth c H locs 0 0 (MQ below (RWi (dC, dI) (TY cI cZ cP cS) r s.heap.size (wd_X8_copy cI cZ cP cS h_t h_t_turns h_t_phases h_t_ups h_t_typed h_t_texts h_t_diary h_t_longs h_t_awakes h_t_fit h_t_counts h_t_worths h_t_ripes h_t_growths h_t_gains h_t_isThere h_t_forms h_t_sizes h_t_items h_t_moved v_m_hours v_m_months v_m_fitMany v_m_fitFirst v_m_finding v_m_isThere v_m_forms v_m_sizes v_m_items v_m_moved) (wd_X8_copy cI cZ cP cS h_t h_t_turns h_t_phases h_t_ups h_t_typed h_t_texts h_t_diary h_t_longs h_t_awakes h_t_fit h_t_counts h_t_worths h_t_ripes h_t_growths h_t_gains h_t_isThere h_t_forms h_t_sizes h_t_items h_t_moved v_m_hours v_m_months v_m_fitMany v_m_fitFirst o_m_finding v_m_isThere v_m_forms v_m_sizes o_m_items o_m_moved)) ([.ref h_t, .int x1, .int x2, .int x3, .int x4, .int x5] : List Value).toArray s 0 0 (va_A (wd_X8_copy cI cZ cP cS h_t h_t_turns h_t_phases h_t_ups h_t_typed h_t_texts h_t_diary h_t_longs h_t_awakes h_t_fit h_t_counts h_t_worths h_t_ripes h_t_growths h_t_gains h_t_isThere h_t_forms h_t_sizes h_t_items h_t_moved v_m_hours v_m_months v_m_fitMany v_m_fitFirst v_m_finding v_m_isThere v_m_forms v_m_sizes v_m_items v_m_moved) s.heap.size)) (F0 m 111 ls []) := by
              intro ls hl hf
              rw [ek111] at hf
              refine lv_aload_n hx hb dX8_copy_111 rfl (lv_at hl 0 rfl) ?_
              refine lv_iconst (v := 2) hx hb dX8_copy_112 (by decide) ?_
              obtain ⟨r113_17, o113_18, hc_19, hf⟩ := bd2_e hf
              refine rwi_call (isC := [0]) (isR := [1, 2, 3, 4, 5]) (perm := [5, 0, 1, 2, 3, 4]) (wr := [(h_t_isThere, .inl (cZ, 4, .inl v_m_isThere)), (h_t_forms, .inl (cI, 4, .inl v_m_forms)), (h_t_sizes, .inl (cI, 4, .inl v_m_sizes)), (h_t_items, .inl (cI, 192, .inl v_m_items)), (h_t_moved, .inl (cI, 48, .inl v_m_moved))]) (ws2 := (wd_X8_copy cI cZ cP cS h_t h_t_turns h_t_phases h_t_ups h_t_typed h_t_texts h_t_diary h_t_longs h_t_awakes h_t_fit h_t_counts h_t_worths h_t_ripes h_t_growths h_t_gains h_t_isThere h_t_forms h_t_sizes h_t_items h_t_moved v_m_hours v_m_months v_m_fitMany v_m_fitFirst o113_18 v_m_isThere v_m_forms v_m_sizes v_m_items v_m_moved)) (va_runV (As := [.int 2]) (rest := []) ⟨hx, hb, hml, hown, hts⟩ (c_X8_meets l dC dI cI cZ cP cS H.size h_t h_t_turns h_t_phases h_t_ups h_t_typed h_t_texts h_t_diary h_t_longs h_t_awakes h_t_fit h_t_counts h_t_worths h_t_ripes h_t_growths h_t_gains h_t_isThere h_t_forms h_t_sizes h_t_items h_t_moved v_m_hours v_m_months v_m_fitMany v_m_fitFirst v_m_finding 2 n r113_17 o113_18 hc_19) (cwV 1 hts gX8_copy_X8_meets rfl rfl rfl (by decide +kernel) ⟨Nat.le_of_ble_eq_true rfl, Nat.le_of_ble_eq_true rfl⟩) (pv_rw (ci := 7) (q0 := 0) hK (hP.sub (ws' := (wd_X8_meets cI cZ cP cS h_t h_t_turns h_t_phases h_t_ups h_t_typed h_t_texts h_t_diary h_t_longs h_t_awakes h_t_fit h_t_counts h_t_worths h_t_ripes h_t_growths h_t_gains h_t_isThere h_t_forms h_t_sizes h_t_items h_t_moved v_m_hours v_m_months v_m_fitMany v_m_fitFirst v_m_finding)) [0] rfl) (hD.sub (ws' := (wd_X8_meets cI cZ cP cS h_t h_t_turns h_t_phases h_t_ups h_t_typed h_t_texts h_t_diary h_t_longs h_t_awakes h_t_fit h_t_counts h_t_worths h_t_ripes h_t_growths h_t_gains h_t_isThere h_t_forms h_t_sizes h_t_items h_t_moved v_m_hours v_m_months v_m_fitMany v_m_fitFirst v_m_finding)) [0] (by decide) rfl) rfl rfl) rfl rfl hl.1 rfl (lv_room (Nat.le_of_ble_eq_true rfl)) dX8_copy_113 ⟨Nat.zero_le _, Nat.zero_le _⟩) hS hA hP hD rfl (by decide) (by decide) rfl (by decide) rfl rfl (fun H locs hP hD hS => ?_)
              have hq0 := Option.some.inj hf
              obtain ⟨eq0, hq1⟩ := Prod.mk.inj hq0
              obtain ⟨eq1, hq2⟩ := Prod.mk.inj hq1
              obtain ⟨eq2, hq3⟩ := Prod.mk.inj hq2
              clear hf hq0 hq1 hq2
              subst eq0
              subst eq1
              subst eq2
              subst hq3
              exact W.iret hx hb hr (fun t ht hW => ⟨⟨_, (), rfl, rfl, by rw [ht]; exact hP, va_K.moved hW.alike hK, hD⟩, hS.F ht⟩) hS.2.2 dX8_copy_116
            refine lv_if_lt (tgt := 111) hx hb dX8_copy_63 (by decide) (fun c63 => ?_) (fun c63 => ?_)
            · rw [if_pos c63] at hf
              exact hj111 ls (lv_sub hl [0] rfl) hf
            · rw [if_neg c63] at hf
              refine lv_iload hx hb dX8_copy_66 (lv_at hl 4 rfl) ?_
              refine lv_if_lt (tgt := 111) hx hb dX8_copy_68 (by decide) (fun c68 => ?_) (fun c68 => ?_)
              · rw [if_pos c68] at hf
                exact hj111 ls (lv_sub hl [0] rfl) hf
              · rw [if_neg c68] at hf
                refine lv_iload hx hb dX8_copy_71 (lv_at hl 5 rfl) ?_
                refine lv_if_lt (tgt := 111) hx hb dX8_copy_73 (by decide) (fun c73 => ?_) (fun c73 => ?_)
                · rw [if_pos c73] at hf
                  exact hj111 ls (lv_sub hl [0] rfl) hf
                · rw [if_neg c73] at hf
                  refine lv_iload_n hx hb dX8_copy_76 rfl (lv_at hl 2 rfl) ?_
                  refine lv_i2l (v := x2.toInt64) hx hb dX8_copy_77 rfl ?_
                  refine lv_iload hx hb dX8_copy_78 (lv_at hl 5 rfl) ?_
                  refine lv_i2l (v := x5.toInt64) hx hb dX8_copy_80 rfl ?_
                  refine lv_ladd hx hb dX8_copy_81 ?_
                  refine lv_aload_n hx hb dX8_copy_82 rfl (lv_at hl 0 rfl) ?_
                  refine va_get (D := (dC, dI)) (ci := 7) (v := .ref h_t_sizes) (C := RX8) (T := TX8) (N := 24) hx hb hts hinX8 hown hK hP 0 rfl rfl 20 (by decide) (hts (.fieldLink RX8 59 "SecondSunriseModel" "sizes" "[I") (by decide +kernel)) (fun _ h9 => h9) rfl dX8_copy_83 ?_
                  refine lv_iload_n hx hb dX8_copy_86 rfl (lv_at hl 1 rfl) ?_
                  obtain ⟨hi_21, hf⟩ := ix_e hf
                  refine va_iald hx hb hK hP 3 0 rfl rfl hi_21 dX8_copy_87 ?_
                  refine lv_i2l (v := (v_m_sizes x1.toNatClampNeg).toInt64) hx hb dX8_copy_88 rfl ?_
                  refine W.lcmp hx hb dX8_copy_89 ?_
                  refine lv_if_gt (tgt := 111) hx hb dX8_copy_90 (by decide) (fun c90 => ?_) (fun c90 => ?_)
                  · rw [if_pos c90] at hf
                    exact hj111 ls (lv_sub hl [0] rfl) hf
                  · rw [if_neg c90] at hf
                    refine lv_iload hx hb dX8_copy_93 (lv_at hl 4 rfl) ?_
                    refine lv_i2l (v := x4.toInt64) hx hb dX8_copy_95 rfl ?_
                    refine lv_iload hx hb dX8_copy_96 (lv_at hl 5 rfl) ?_
                    refine lv_i2l (v := x5.toInt64) hx hb dX8_copy_98 rfl ?_
                    refine lv_ladd hx hb dX8_copy_99 ?_
                    refine lv_aload_n hx hb dX8_copy_100 rfl (lv_at hl 0 rfl) ?_
                    refine va_get (D := (dC, dI)) (ci := 7) (v := .ref h_t_sizes) (C := RX8) (T := TX8) (N := 24) hx hb hts hinX8 hown hK hP 0 rfl rfl 20 (by decide) (hts (.fieldLink RX8 59 "SecondSunriseModel" "sizes" "[I") (by decide +kernel)) (fun _ h9 => h9) rfl dX8_copy_101 ?_
                    refine lv_iload_n hx hb dX8_copy_104 rfl (lv_at hl 3 rfl) ?_
                    obtain ⟨hi_22, hf⟩ := ix_e hf
                    refine va_iald hx hb hK hP 3 0 rfl rfl hi_22 dX8_copy_105 ?_
                    refine lv_i2l (v := (v_m_sizes x3.toNatClampNeg).toInt64) hx hb dX8_copy_106 rfl ?_
                    refine W.lcmp hx hb dX8_copy_107 ?_
                    refine lv_if_le (tgt := 117) hx hb dX8_copy_108 (by decide) (fun c108 => ?_) (fun c108 => ?_)
                    · rw [if_pos c108] at hf
                      refine lv_iconst (v := 0) hx hb dX8_copy_117 (by decide) ?_
                      refine lv_istore (lv' := [(6, .int 0), (0, .ref h_t), (1, .int x1), (2, .int x2), (3, .int x3), (4, .int x4), (5, .int x5)]) hx hb dX8_copy_118 hl (by decide) rfl (fun ls hl => ?_)
                      obtain ⟨kx120, ekx120, hf⟩ := jn1_e hf
                      have hx120 : ∀ (u120_m_moved : Nat → Int32) (H : Heap) (locs : List Loc) (ls : Array Slot), lv_has ls 7 [(0, .ref h_t), (3, .int x3), (4, .int x4), (5, .int x5)] → va_P (dC, dI) vwCl (wd_X8_copy cI cZ cP cS h_t h_t_turns h_t_phases h_t_ups h_t_typed h_t_texts h_t_diary h_t_longs h_t_awakes h_t_fit h_t_counts h_t_worths h_t_ripes h_t_growths h_t_gains h_t_isThere h_t_forms h_t_sizes h_t_items h_t_moved v_m_hours v_m_months v_m_fitMany v_m_fitFirst v_m_finding v_m_isThere v_m_forms v_m_sizes v_m_items u120_m_moved) H → va_D (va_A (wd_X8_copy cI cZ cP cS h_t h_t_turns h_t_phases h_t_ups h_t_typed h_t_texts h_t_diary h_t_longs h_t_awakes h_t_fit h_t_counts h_t_worths h_t_ripes h_t_growths h_t_gains h_t_isThere h_t_forms h_t_sizes h_t_items h_t_moved v_m_hours v_m_months v_m_fitMany v_m_fitFirst v_m_finding v_m_isThere v_m_forms v_m_sizes v_m_items v_m_moved) s.heap.size) (wd_X8_copy cI cZ cP cS h_t h_t_turns h_t_phases h_t_ups h_t_typed h_t_texts h_t_diary h_t_longs h_t_awakes h_t_fit h_t_counts h_t_worths h_t_ripes h_t_growths h_t_gains h_t_isThere h_t_forms h_t_sizes h_t_items h_t_moved v_m_hours v_m_months v_m_fitMany v_m_fitFirst v_m_finding v_m_isThere v_m_forms v_m_sizes v_m_items u120_m_moved) → va_S (va_A (wd_X8_copy cI cZ cP cS h_t h_t_turns h_t_phases h_t_ups h_t_typed h_t_texts h_t_diary h_t_longs h_t_awakes h_t_fit h_t_counts h_t_worths h_t_ripes h_t_growths h_t_gains h_t_isThere h_t_forms h_t_sizes h_t_items h_t_moved v_m_hours v_m_months v_m_fitMany v_m_fitFirst v_m_finding v_m_isThere v_m_forms v_m_sizes v_m_items v_m_moved) s.heap.size) s.heap H locs → kx120 u120_m_moved = some (r, o_m_finding, o_m_items, o_m_moved) → W p l e (headSpec wsX8_copy rm_X8_copy).room s m ([.ref h_t, .int x1, .int x2, .int x3, .int x4, .int x5] : List Value).toArray below meth c H locs 0 0 (MQ below (RWi (dC, dI) (TY cI cZ cP cS) r s.heap.size (wd_X8_copy cI cZ cP cS h_t h_t_turns h_t_phases h_t_ups h_t_typed h_t_texts h_t_diary h_t_longs h_t_awakes h_t_fit h_t_counts h_t_worths h_t_ripes h_t_growths h_t_gains h_t_isThere h_t_forms h_t_sizes h_t_items h_t_moved v_m_hours v_m_months v_m_fitMany v_m_fitFirst v_m_finding v_m_isThere v_m_forms v_m_sizes v_m_items v_m_moved) (wd_X8_copy cI cZ cP cS h_t h_t_turns h_t_phases h_t_ups h_t_typed h_t_texts h_t_diary h_t_longs h_t_awakes h_t_fit h_t_counts h_t_worths h_t_ripes h_t_growths h_t_gains h_t_isThere h_t_forms h_t_sizes h_t_items h_t_moved v_m_hours v_m_months v_m_fitMany v_m_fitFirst o_m_finding v_m_isThere v_m_forms v_m_sizes o_m_items o_m_moved)) ([.ref h_t, .int x1, .int x2, .int x3, .int x4, .int x5] : List Value).toArray s 0 0 (va_A (wd_X8_copy cI cZ cP cS h_t h_t_turns h_t_phases h_t_ups h_t_typed h_t_texts h_t_diary h_t_longs h_t_awakes h_t_fit h_t_counts h_t_worths h_t_ripes h_t_growths h_t_gains h_t_isThere h_t_forms h_t_sizes h_t_items h_t_moved v_m_hours v_m_months v_m_fitMany v_m_fitFirst v_m_finding v_m_isThere v_m_forms v_m_sizes v_m_items v_m_moved) s.heap.size)) (F0 m 154 ls []) := by
                        intro u120_m_moved H locs ls hl hP hD hS hf
                        rw [ekx120] at hf
                        refine lv_iconst (v := 0) hx hb dX8_copy_154 (by decide) ?_
                        refine lv_istore (lv' := [(6, .int 0), (0, .ref h_t), (3, .int x3), (4, .int x4), (5, .int x5)]) hx hb dX8_copy_155 hl (by decide) rfl (fun ls hl => ?_)
                        obtain ⟨kx157, ekx157, hf⟩ := jn1_e hf
                        have hx157 : ∀ (u157_m_items : Nat → Int32) (H : Heap) (locs : List Loc) (ls : Array Slot), lv_has ls 7 [] → va_P (dC, dI) vwCl (wd_X8_copy cI cZ cP cS h_t h_t_turns h_t_phases h_t_ups h_t_typed h_t_texts h_t_diary h_t_longs h_t_awakes h_t_fit h_t_counts h_t_worths h_t_ripes h_t_growths h_t_gains h_t_isThere h_t_forms h_t_sizes h_t_items h_t_moved v_m_hours v_m_months v_m_fitMany v_m_fitFirst v_m_finding v_m_isThere v_m_forms v_m_sizes u157_m_items u120_m_moved) H → va_D (va_A (wd_X8_copy cI cZ cP cS h_t h_t_turns h_t_phases h_t_ups h_t_typed h_t_texts h_t_diary h_t_longs h_t_awakes h_t_fit h_t_counts h_t_worths h_t_ripes h_t_growths h_t_gains h_t_isThere h_t_forms h_t_sizes h_t_items h_t_moved v_m_hours v_m_months v_m_fitMany v_m_fitFirst v_m_finding v_m_isThere v_m_forms v_m_sizes v_m_items v_m_moved) s.heap.size) (wd_X8_copy cI cZ cP cS h_t h_t_turns h_t_phases h_t_ups h_t_typed h_t_texts h_t_diary h_t_longs h_t_awakes h_t_fit h_t_counts h_t_worths h_t_ripes h_t_growths h_t_gains h_t_isThere h_t_forms h_t_sizes h_t_items h_t_moved v_m_hours v_m_months v_m_fitMany v_m_fitFirst v_m_finding v_m_isThere v_m_forms v_m_sizes u157_m_items u120_m_moved) → va_S (va_A (wd_X8_copy cI cZ cP cS h_t h_t_turns h_t_phases h_t_ups h_t_typed h_t_texts h_t_diary h_t_longs h_t_awakes h_t_fit h_t_counts h_t_worths h_t_ripes h_t_growths h_t_gains h_t_isThere h_t_forms h_t_sizes h_t_items h_t_moved v_m_hours v_m_months v_m_fitMany v_m_fitFirst v_m_finding v_m_isThere v_m_forms v_m_sizes v_m_items v_m_moved) s.heap.size) s.heap H locs → kx157 u157_m_items = some (r, o_m_finding, o_m_items, o_m_moved) → W p l e (headSpec wsX8_copy rm_X8_copy).room s m ([.ref h_t, .int x1, .int x2, .int x3, .int x4, .int x5] : List Value).toArray below meth c H locs 0 0 (MQ below (RWi (dC, dI) (TY cI cZ cP cS) r s.heap.size (wd_X8_copy cI cZ cP cS h_t h_t_turns h_t_phases h_t_ups h_t_typed h_t_texts h_t_diary h_t_longs h_t_awakes h_t_fit h_t_counts h_t_worths h_t_ripes h_t_growths h_t_gains h_t_isThere h_t_forms h_t_sizes h_t_items h_t_moved v_m_hours v_m_months v_m_fitMany v_m_fitFirst v_m_finding v_m_isThere v_m_forms v_m_sizes v_m_items v_m_moved) (wd_X8_copy cI cZ cP cS h_t h_t_turns h_t_phases h_t_ups h_t_typed h_t_texts h_t_diary h_t_longs h_t_awakes h_t_fit h_t_counts h_t_worths h_t_ripes h_t_growths h_t_gains h_t_isThere h_t_forms h_t_sizes h_t_items h_t_moved v_m_hours v_m_months v_m_fitMany v_m_fitFirst o_m_finding v_m_isThere v_m_forms v_m_sizes o_m_items o_m_moved)) ([.ref h_t, .int x1, .int x2, .int x3, .int x4, .int x5] : List Value).toArray s 0 0 (va_A (wd_X8_copy cI cZ cP cS h_t h_t_turns h_t_phases h_t_ups h_t_typed h_t_texts h_t_diary h_t_longs h_t_awakes h_t_fit h_t_counts h_t_worths h_t_ripes h_t_growths h_t_gains h_t_isThere h_t_forms h_t_sizes h_t_items h_t_moved v_m_hours v_m_months v_m_fitMany v_m_fitFirst v_m_finding v_m_isThere v_m_forms v_m_sizes v_m_items v_m_moved) s.heap.size)) (F0 m 192 ls []) := by
                          intro u157_m_items H locs ls hl hP hD hS hf
                          rw [ekx157] at hf
                          refine lv_iconst (v := 1) hx hb dX8_copy_192 (by decide) ?_
                          have hq0 := Option.some.inj hf
                          obtain ⟨eq0, hq1⟩ := Prod.mk.inj hq0
                          obtain ⟨eq1, hq2⟩ := Prod.mk.inj hq1
                          obtain ⟨eq2, hq3⟩ := Prod.mk.inj hq2
                          clear hf hq0 hq1 hq2
                          subst eq0
                          subst eq1
                          subst eq2
                          subst hq3
                          exact W.iret hx hb hr (fun t ht hW => ⟨⟨_, (), rfl, rfl, by rw [ht]; exact hP, va_K.moved hW.alike hK, hD⟩, hS.F ht⟩) hS.2.2 dX8_copy_193
                        have hL157 : ∀ (k157 : Nat) (y157_6 : Int32) (w157_m_items : Nat → Int32) (H : Heap) (locs : List Loc) (ls : Array Slot), lv_has ls 7 [(0, .ref h_t), (3, .int x3), (4, .int x4), (5, .int x5), (6, .int y157_6)] → va_P (dC, dI) vwCl (wd_X8_copy cI cZ cP cS h_t h_t_turns h_t_phases h_t_ups h_t_typed h_t_texts h_t_diary h_t_longs h_t_awakes h_t_fit h_t_counts h_t_worths h_t_ripes h_t_growths h_t_gains h_t_isThere h_t_forms h_t_sizes h_t_items h_t_moved v_m_hours v_m_months v_m_fitMany v_m_fitFirst v_m_finding v_m_isThere v_m_forms v_m_sizes w157_m_items u120_m_moved) H → va_D (va_A (wd_X8_copy cI cZ cP cS h_t h_t_turns h_t_phases h_t_ups h_t_typed h_t_texts h_t_diary h_t_longs h_t_awakes h_t_fit h_t_counts h_t_worths h_t_ripes h_t_growths h_t_gains h_t_isThere h_t_forms h_t_sizes h_t_items h_t_moved v_m_hours v_m_months v_m_fitMany v_m_fitFirst v_m_finding v_m_isThere v_m_forms v_m_sizes v_m_items v_m_moved) s.heap.size) (wd_X8_copy cI cZ cP cS h_t h_t_turns h_t_phases h_t_ups h_t_typed h_t_texts h_t_diary h_t_longs h_t_awakes h_t_fit h_t_counts h_t_worths h_t_ripes h_t_growths h_t_gains h_t_isThere h_t_forms h_t_sizes h_t_items h_t_moved v_m_hours v_m_months v_m_fitMany v_m_fitFirst v_m_finding v_m_isThere v_m_forms v_m_sizes w157_m_items u120_m_moved) → va_S (va_A (wd_X8_copy cI cZ cP cS h_t h_t_turns h_t_phases h_t_ups h_t_typed h_t_texts h_t_diary h_t_longs h_t_awakes h_t_fit h_t_counts h_t_worths h_t_ripes h_t_growths h_t_gains h_t_isThere h_t_forms h_t_sizes h_t_items h_t_moved v_m_hours v_m_months v_m_fitMany v_m_fitFirst v_m_finding v_m_isThere v_m_forms v_m_sizes v_m_items v_m_moved) s.heap.size) s.heap H locs → L_X8_copy_157 x3 x4 x5 u120_m_moved kx157 k157 y157_6 w157_m_items = some (r, o_m_finding, o_m_items, o_m_moved) → W p l e (headSpec wsX8_copy rm_X8_copy).room s m ([.ref h_t, .int x1, .int x2, .int x3, .int x4, .int x5] : List Value).toArray below meth c H locs 0 0 (MQ below (RWi (dC, dI) (TY cI cZ cP cS) r s.heap.size (wd_X8_copy cI cZ cP cS h_t h_t_turns h_t_phases h_t_ups h_t_typed h_t_texts h_t_diary h_t_longs h_t_awakes h_t_fit h_t_counts h_t_worths h_t_ripes h_t_growths h_t_gains h_t_isThere h_t_forms h_t_sizes h_t_items h_t_moved v_m_hours v_m_months v_m_fitMany v_m_fitFirst v_m_finding v_m_isThere v_m_forms v_m_sizes v_m_items v_m_moved) (wd_X8_copy cI cZ cP cS h_t h_t_turns h_t_phases h_t_ups h_t_typed h_t_texts h_t_diary h_t_longs h_t_awakes h_t_fit h_t_counts h_t_worths h_t_ripes h_t_growths h_t_gains h_t_isThere h_t_forms h_t_sizes h_t_items h_t_moved v_m_hours v_m_months v_m_fitMany v_m_fitFirst o_m_finding v_m_isThere v_m_forms v_m_sizes o_m_items o_m_moved)) ([.ref h_t, .int x1, .int x2, .int x3, .int x4, .int x5] : List Value).toArray s 0 0 (va_A (wd_X8_copy cI cZ cP cS h_t h_t_turns h_t_phases h_t_ups h_t_typed h_t_texts h_t_diary h_t_longs h_t_awakes h_t_fit h_t_counts h_t_worths h_t_ripes h_t_growths h_t_gains h_t_isThere h_t_forms h_t_sizes h_t_items h_t_moved v_m_hours v_m_months v_m_fitMany v_m_fitFirst v_m_finding v_m_isThere v_m_forms v_m_sizes v_m_items v_m_moved) s.heap.size)) (F0 m 157 ls []) := by
                          intro k157
                          induction k157 with
                          | zero =>
                            intro y157_6 w157_m_items H locs ls hl hP hD hS hf
                            exact absurd hf (fun h => Option.some_ne_none _ h.symm)
                          | succ k157 ih =>
                            intro y157_6 w157_m_items H locs ls hl hP hD hS hf
                            rw [L_X8_copy_157_s] at hf
                            refine lv_iload hx hb dX8_copy_157 (lv_at hl 4 rfl) ?_
                            refine lv_iload hx hb dX8_copy_159 (lv_at hl 3 rfl) ?_
                            refine lv_icmp_ge (tgt := 192) hx hb dX8_copy_161 (by decide) (fun c161 => ?_) (fun c161 => ?_)
                            · rw [if_pos c161] at hf
                              exact hx157 w157_m_items H locs ls (lv_sub hl [] rfl) hP hD hS hf
                            · rw [if_neg c161] at hf
                              refine lv_aload_n hx hb dX8_copy_164 rfl (lv_at hl 0 rfl) ?_
                              refine va_get (D := (dC, dI)) (ci := 7) (v := .ref h_t_items) (C := RX8) (T := TX8) (N := 24) hx hb hts hinX8 hown hK hP 0 rfl rfl 21 (by decide) (hts (.fieldLink RX8 62 "SecondSunriseModel" "items" "[I") (by decide +kernel)) (fun _ h9 => h9) rfl dX8_copy_165 ?_
                              refine lv_bipush (v := 48) hx hb dX8_copy_168 (by decide) ?_
                              refine lv_iload_n hx hb dX8_copy_170 rfl (lv_at hl 1 rfl) ?_
                              refine lv_imul hx hb dX8_copy_171 ?_
                              refine lv_iload hx hb dX8_copy_172 (lv_at hl 2 rfl) ?_
                              refine lv_iadd hx hb dX8_copy_174 ?_
                              refine lv_iload hx hb dX8_copy_175 (lv_at hl 4 rfl) ?_
                              refine lv_iadd hx hb dX8_copy_177 ?_
                              refine lv_aload_n hx hb dX8_copy_178 rfl (lv_at hl 0 rfl) ?_
                              refine va_get (D := (dC, dI)) (ci := 7) (v := .ref h_t_moved) (C := RX8) (T := TX8) (N := 24) hx hb hts hinX8 hown hK hP 0 rfl rfl 22 (by decide) (hts (.fieldLink RX8 65 "SecondSunriseModel" "moved" "[I") (by decide +kernel)) (fun _ h9 => h9) rfl dX8_copy_179 ?_
                              refine lv_iload hx hb dX8_copy_182 (lv_at hl 4 rfl) ?_
                              obtain ⟨hi_23, hf⟩ := ix_e hf
                              refine va_iald hx hb hK hP 5 0 rfl rfl hi_23 dX8_copy_184 ?_
                              obtain ⟨hi_24, hf⟩ := ix_e hf
                              refine va_iast hx hb hK hP hD hS 4 0 rfl rfl hi_24 dX8_copy_185 (fun H locs hP hD hS => ?_)
                              have hP : va_P (dC, dI) vwCl (wd_X8_copy cI cZ cP cS h_t h_t_turns h_t_phases h_t_ups h_t_typed h_t_texts h_t_diary h_t_longs h_t_awakes h_t_fit h_t_counts h_t_worths h_t_ripes h_t_growths h_t_gains h_t_isThere h_t_forms h_t_sizes h_t_items h_t_moved v_m_hours v_m_months v_m_fitMany v_m_fitFirst v_m_finding v_m_isThere v_m_forms v_m_sizes (upd w157_m_items (((48 * x3) + x4) + y157_6).toNatClampNeg (u120_m_moved y157_6.toNatClampNeg)) u120_m_moved) H := hP
                              have hD : va_D (va_A (wd_X8_copy cI cZ cP cS h_t h_t_turns h_t_phases h_t_ups h_t_typed h_t_texts h_t_diary h_t_longs h_t_awakes h_t_fit h_t_counts h_t_worths h_t_ripes h_t_growths h_t_gains h_t_isThere h_t_forms h_t_sizes h_t_items h_t_moved v_m_hours v_m_months v_m_fitMany v_m_fitFirst v_m_finding v_m_isThere v_m_forms v_m_sizes v_m_items v_m_moved) s.heap.size) (wd_X8_copy cI cZ cP cS h_t h_t_turns h_t_phases h_t_ups h_t_typed h_t_texts h_t_diary h_t_longs h_t_awakes h_t_fit h_t_counts h_t_worths h_t_ripes h_t_growths h_t_gains h_t_isThere h_t_forms h_t_sizes h_t_items h_t_moved v_m_hours v_m_months v_m_fitMany v_m_fitFirst v_m_finding v_m_isThere v_m_forms v_m_sizes (upd w157_m_items (((48 * x3) + x4) + y157_6).toNatClampNeg (u120_m_moved y157_6.toNatClampNeg)) u120_m_moved) := hD
                              refine lv_iinc (v := (y157_6 + 1)) (lv' := [(6, .int (y157_6 + 1)), (0, .ref h_t), (3, .int x3), (4, .int x4), (5, .int x5)]) hx hb dX8_copy_186 hl (k := 4) rfl rfl (by decide) rfl (fun ls hl => ?_)
                              refine lv_goto (tgt := 157) hx hb dX8_copy_189 (by decide) ?_
                              exact ih (y157_6 + 1) (upd w157_m_items (((48 * x3) + x4) + y157_6).toNatClampNeg (u120_m_moved y157_6.toNatClampNeg)) H locs ls (lv_sub hl [1, 2, 3, 4, 0] rfl) hP hD hS hf
                        exact hL157 n 0 v_m_items H locs ls (lv_sub hl [1, 2, 3, 4, 0] rfl) hP hD hS hf
                      have hL120 : ∀ (k120 : Nat) (y120_6 : Int32) (w120_m_moved : Nat → Int32) (H : Heap) (locs : List Loc) (ls : Array Slot), lv_has ls 7 [(0, .ref h_t), (1, .int x1), (2, .int x2), (3, .int x3), (4, .int x4), (5, .int x5), (6, .int y120_6)] → va_P (dC, dI) vwCl (wd_X8_copy cI cZ cP cS h_t h_t_turns h_t_phases h_t_ups h_t_typed h_t_texts h_t_diary h_t_longs h_t_awakes h_t_fit h_t_counts h_t_worths h_t_ripes h_t_growths h_t_gains h_t_isThere h_t_forms h_t_sizes h_t_items h_t_moved v_m_hours v_m_months v_m_fitMany v_m_fitFirst v_m_finding v_m_isThere v_m_forms v_m_sizes v_m_items w120_m_moved) H → va_D (va_A (wd_X8_copy cI cZ cP cS h_t h_t_turns h_t_phases h_t_ups h_t_typed h_t_texts h_t_diary h_t_longs h_t_awakes h_t_fit h_t_counts h_t_worths h_t_ripes h_t_growths h_t_gains h_t_isThere h_t_forms h_t_sizes h_t_items h_t_moved v_m_hours v_m_months v_m_fitMany v_m_fitFirst v_m_finding v_m_isThere v_m_forms v_m_sizes v_m_items v_m_moved) s.heap.size) (wd_X8_copy cI cZ cP cS h_t h_t_turns h_t_phases h_t_ups h_t_typed h_t_texts h_t_diary h_t_longs h_t_awakes h_t_fit h_t_counts h_t_worths h_t_ripes h_t_growths h_t_gains h_t_isThere h_t_forms h_t_sizes h_t_items h_t_moved v_m_hours v_m_months v_m_fitMany v_m_fitFirst v_m_finding v_m_isThere v_m_forms v_m_sizes v_m_items w120_m_moved) → va_S (va_A (wd_X8_copy cI cZ cP cS h_t h_t_turns h_t_phases h_t_ups h_t_typed h_t_texts h_t_diary h_t_longs h_t_awakes h_t_fit h_t_counts h_t_worths h_t_ripes h_t_growths h_t_gains h_t_isThere h_t_forms h_t_sizes h_t_items h_t_moved v_m_hours v_m_months v_m_fitMany v_m_fitFirst v_m_finding v_m_isThere v_m_forms v_m_sizes v_m_items v_m_moved) s.heap.size) s.heap H locs → L_X8_copy_120 v_m_items x1 x2 x5 kx120 k120 y120_6 w120_m_moved = some (r, o_m_finding, o_m_items, o_m_moved) → W p l e (headSpec wsX8_copy rm_X8_copy).room s m ([.ref h_t, .int x1, .int x2, .int x3, .int x4, .int x5] : List Value).toArray below meth c H locs 0 0 (MQ below (RWi (dC, dI) (TY cI cZ cP cS) r s.heap.size (wd_X8_copy cI cZ cP cS h_t h_t_turns h_t_phases h_t_ups h_t_typed h_t_texts h_t_diary h_t_longs h_t_awakes h_t_fit h_t_counts h_t_worths h_t_ripes h_t_growths h_t_gains h_t_isThere h_t_forms h_t_sizes h_t_items h_t_moved v_m_hours v_m_months v_m_fitMany v_m_fitFirst v_m_finding v_m_isThere v_m_forms v_m_sizes v_m_items v_m_moved) (wd_X8_copy cI cZ cP cS h_t h_t_turns h_t_phases h_t_ups h_t_typed h_t_texts h_t_diary h_t_longs h_t_awakes h_t_fit h_t_counts h_t_worths h_t_ripes h_t_growths h_t_gains h_t_isThere h_t_forms h_t_sizes h_t_items h_t_moved v_m_hours v_m_months v_m_fitMany v_m_fitFirst o_m_finding v_m_isThere v_m_forms v_m_sizes o_m_items o_m_moved)) ([.ref h_t, .int x1, .int x2, .int x3, .int x4, .int x5] : List Value).toArray s 0 0 (va_A (wd_X8_copy cI cZ cP cS h_t h_t_turns h_t_phases h_t_ups h_t_typed h_t_texts h_t_diary h_t_longs h_t_awakes h_t_fit h_t_counts h_t_worths h_t_ripes h_t_growths h_t_gains h_t_isThere h_t_forms h_t_sizes h_t_items h_t_moved v_m_hours v_m_months v_m_fitMany v_m_fitFirst v_m_finding v_m_isThere v_m_forms v_m_sizes v_m_items v_m_moved) s.heap.size)) (F0 m 120 ls []) := by
                        intro k120
                        induction k120 with
                        | zero =>
                          intro y120_6 w120_m_moved H locs ls hl hP hD hS hf
                          exact absurd hf (fun h => Option.some_ne_none _ h.symm)
                        | succ k120 ih =>
                          intro y120_6 w120_m_moved H locs ls hl hP hD hS hf
                          rw [L_X8_copy_120_s] at hf
                          refine lv_iload hx hb dX8_copy_120 (lv_at hl 6 rfl) ?_
                          refine lv_iload hx hb dX8_copy_122 (lv_at hl 5 rfl) ?_
                          refine lv_icmp_ge (tgt := 154) hx hb dX8_copy_124 (by decide) (fun c124 => ?_) (fun c124 => ?_)
                          · rw [if_pos c124] at hf
                            exact hx120 w120_m_moved H locs ls (lv_sub hl [0, 3, 4, 5] rfl) hP hD hS hf
                          · rw [if_neg c124] at hf
                            refine lv_aload_n hx hb dX8_copy_127 rfl (lv_at hl 0 rfl) ?_
                            refine va_get (D := (dC, dI)) (ci := 7) (v := .ref h_t_moved) (C := RX8) (T := TX8) (N := 24) hx hb hts hinX8 hown hK hP 0 rfl rfl 22 (by decide) (hts (.fieldLink RX8 65 "SecondSunriseModel" "moved" "[I") (by decide +kernel)) (fun _ h9 => h9) rfl dX8_copy_128 ?_
                            refine lv_iload hx hb dX8_copy_131 (lv_at hl 6 rfl) ?_
                            refine lv_aload_n hx hb dX8_copy_133 rfl (lv_at hl 0 rfl) ?_
                            refine va_get (D := (dC, dI)) (ci := 7) (v := .ref h_t_items) (C := RX8) (T := TX8) (N := 24) hx hb hts hinX8 hown hK hP 0 rfl rfl 21 (by decide) (hts (.fieldLink RX8 62 "SecondSunriseModel" "items" "[I") (by decide +kernel)) (fun _ h9 => h9) rfl dX8_copy_134 ?_
                            refine lv_bipush (v := 48) hx hb dX8_copy_137 (by decide) ?_
                            refine lv_iload_n hx hb dX8_copy_139 rfl (lv_at hl 1 rfl) ?_
                            refine lv_imul hx hb dX8_copy_140 ?_
                            refine lv_iload_n hx hb dX8_copy_141 rfl (lv_at hl 2 rfl) ?_
                            refine lv_iadd hx hb dX8_copy_142 ?_
                            refine lv_iload hx hb dX8_copy_143 (lv_at hl 6 rfl) ?_
                            refine lv_iadd hx hb dX8_copy_145 ?_
                            obtain ⟨hi_25, hf⟩ := ix_e hf
                            refine va_iald hx hb hK hP 4 0 rfl rfl hi_25 dX8_copy_146 ?_
                            obtain ⟨hi_26, hf⟩ := ix_e hf
                            refine va_iast hx hb hK hP hD hS 5 0 rfl rfl hi_26 dX8_copy_147 (fun H locs hP hD hS => ?_)
                            have hP : va_P (dC, dI) vwCl (wd_X8_copy cI cZ cP cS h_t h_t_turns h_t_phases h_t_ups h_t_typed h_t_texts h_t_diary h_t_longs h_t_awakes h_t_fit h_t_counts h_t_worths h_t_ripes h_t_growths h_t_gains h_t_isThere h_t_forms h_t_sizes h_t_items h_t_moved v_m_hours v_m_months v_m_fitMany v_m_fitFirst v_m_finding v_m_isThere v_m_forms v_m_sizes v_m_items (upd w120_m_moved y120_6.toNatClampNeg (v_m_items (((48 * x1) + x2) + y120_6).toNatClampNeg))) H := hP
                            have hD : va_D (va_A (wd_X8_copy cI cZ cP cS h_t h_t_turns h_t_phases h_t_ups h_t_typed h_t_texts h_t_diary h_t_longs h_t_awakes h_t_fit h_t_counts h_t_worths h_t_ripes h_t_growths h_t_gains h_t_isThere h_t_forms h_t_sizes h_t_items h_t_moved v_m_hours v_m_months v_m_fitMany v_m_fitFirst v_m_finding v_m_isThere v_m_forms v_m_sizes v_m_items v_m_moved) s.heap.size) (wd_X8_copy cI cZ cP cS h_t h_t_turns h_t_phases h_t_ups h_t_typed h_t_texts h_t_diary h_t_longs h_t_awakes h_t_fit h_t_counts h_t_worths h_t_ripes h_t_growths h_t_gains h_t_isThere h_t_forms h_t_sizes h_t_items h_t_moved v_m_hours v_m_months v_m_fitMany v_m_fitFirst v_m_finding v_m_isThere v_m_forms v_m_sizes v_m_items (upd w120_m_moved y120_6.toNatClampNeg (v_m_items (((48 * x1) + x2) + y120_6).toNatClampNeg))) := hD
                            refine lv_iinc (v := (y120_6 + 1)) (lv' := [(6, .int (y120_6 + 1)), (0, .ref h_t), (1, .int x1), (2, .int x2), (3, .int x3), (4, .int x4), (5, .int x5)]) hx hb dX8_copy_148 hl (k := 6) rfl rfl (by decide) rfl (fun ls hl => ?_)
                            refine lv_goto (tgt := 120) hx hb dX8_copy_151 (by decide) ?_
                            exact ih (y120_6 + 1) (upd w120_m_moved y120_6.toNatClampNeg (v_m_items (((48 * x1) + x2) + y120_6).toNatClampNeg)) H locs ls (lv_sub hl [1, 2, 3, 4, 5, 6, 0] rfl) hP hD hS hf
                      exact hL120 n 0 v_m_moved H locs ls (lv_sub hl [1, 2, 3, 4, 5, 6, 0] rfl) hP hD hS hf
                    · rw [if_neg c108] at hf
                      exact hj111 ls (lv_sub hl [0] rfl) hf
          · rw [if_neg c53] at hf
            refine lv_aload_n hx hb dX8_copy_56 rfl (lv_at hl 0 rfl) ?_
            refine lv_iconst (v := 4) hx hb dX8_copy_57 (by decide) ?_
            obtain ⟨r58_27, o58_28, hc_29, hf⟩ := bd2_e hf
            refine rwi_call (isC := [0]) (isR := [1, 2, 3, 4, 5]) (perm := [5, 0, 1, 2, 3, 4]) (wr := [(h_t_isThere, .inl (cZ, 4, .inl v_m_isThere)), (h_t_forms, .inl (cI, 4, .inl v_m_forms)), (h_t_sizes, .inl (cI, 4, .inl v_m_sizes)), (h_t_items, .inl (cI, 192, .inl v_m_items)), (h_t_moved, .inl (cI, 48, .inl v_m_moved))]) (ws2 := (wd_X8_copy cI cZ cP cS h_t h_t_turns h_t_phases h_t_ups h_t_typed h_t_texts h_t_diary h_t_longs h_t_awakes h_t_fit h_t_counts h_t_worths h_t_ripes h_t_growths h_t_gains h_t_isThere h_t_forms h_t_sizes h_t_items h_t_moved v_m_hours v_m_months v_m_fitMany v_m_fitFirst o58_28 v_m_isThere v_m_forms v_m_sizes v_m_items v_m_moved)) (va_runV (As := [.int 4]) (rest := []) ⟨hx, hb, hml, hown, hts⟩ (c_X8_meets l dC dI cI cZ cP cS H.size h_t h_t_turns h_t_phases h_t_ups h_t_typed h_t_texts h_t_diary h_t_longs h_t_awakes h_t_fit h_t_counts h_t_worths h_t_ripes h_t_growths h_t_gains h_t_isThere h_t_forms h_t_sizes h_t_items h_t_moved v_m_hours v_m_months v_m_fitMany v_m_fitFirst v_m_finding 4 n r58_27 o58_28 hc_29) (cwV 1 hts gX8_copy_X8_meets rfl rfl rfl (by decide +kernel) ⟨Nat.le_of_ble_eq_true rfl, Nat.le_of_ble_eq_true rfl⟩) (pv_rw (ci := 7) (q0 := 0) hK (hP.sub (ws' := (wd_X8_meets cI cZ cP cS h_t h_t_turns h_t_phases h_t_ups h_t_typed h_t_texts h_t_diary h_t_longs h_t_awakes h_t_fit h_t_counts h_t_worths h_t_ripes h_t_growths h_t_gains h_t_isThere h_t_forms h_t_sizes h_t_items h_t_moved v_m_hours v_m_months v_m_fitMany v_m_fitFirst v_m_finding)) [0] rfl) (hD.sub (ws' := (wd_X8_meets cI cZ cP cS h_t h_t_turns h_t_phases h_t_ups h_t_typed h_t_texts h_t_diary h_t_longs h_t_awakes h_t_fit h_t_counts h_t_worths h_t_ripes h_t_growths h_t_gains h_t_isThere h_t_forms h_t_sizes h_t_items h_t_moved v_m_hours v_m_months v_m_fitMany v_m_fitFirst v_m_finding)) [0] (by decide) rfl) rfl rfl) rfl rfl hl.1 rfl (lv_room (Nat.le_of_ble_eq_true rfl)) dX8_copy_58 ⟨Nat.zero_le _, Nat.zero_le _⟩) hS hA hP hD rfl (by decide) (by decide) rfl (by decide) rfl rfl (fun H locs hP hD hS => ?_)
            have hq0 := Option.some.inj hf
            obtain ⟨eq0, hq1⟩ := Prod.mk.inj hq0
            obtain ⟨eq1, hq2⟩ := Prod.mk.inj hq1
            obtain ⟨eq2, hq3⟩ := Prod.mk.inj hq2
            clear hf hq0 hq1 hq2
            subst eq0
            subst eq1
            subst eq2
            subst hq3
            exact W.iret hx hb hr (fun t ht hW => ⟨⟨_, (), rfl, rfl, by rw [ht]; exact hP, va_K.moved hW.alike hK, hD⟩, hS.F ht⟩) hS.2.2 dX8_copy_61
        · rw [if_pos c32] at hf
          exact hj35 ls (lv_sub hl [0] rfl) hf
    · rw [if_pos c11] at hf
      refine lv_bipush (v := (-2)) hx hb dX8_copy_14 (by decide) ?_
      have hq0 := Option.some.inj hf
      obtain ⟨eq0, hq1⟩ := Prod.mk.inj hq0
      obtain ⟨eq1, hq2⟩ := Prod.mk.inj hq1
      obtain ⟨eq2, hq3⟩ := Prod.mk.inj hq2
      clear hf hq0 hq1 hq2
      subst eq0
      subst eq1
      subst eq2
      subst hq3
      exact W.iret hx hb hr (fun t ht hW => ⟨⟨_, (), rfl, rfl, by rw [ht]; exact hP, va_K.moved hW.alike hK, hD⟩, hS.F ht⟩) hS.2.2 dX8_copy_16

abbrev wd_X8_roundNow (cI cZ cP cS : ClassId) (h_t h_t_turns h_t_phases h_t_ups h_t_typed h_t_texts h_t_diary h_t_longs h_t_awakes h_t_fit h_t_counts h_t_worths h_t_ripes h_t_growths h_t_gains h_t_isThere h_t_forms h_t_sizes h_t_items h_t_moved : Nat) (v_m_hours : Int32) (v_m_months : Int32) (v_m_fitMany : Int32) (v_m_fitFirst : Int32) (v_m_finding : Int32) (v_m_turns : Nat → Int32) : va_W := [(h_t, .inr (7, [.ref h_t_turns, .ref h_t_phases, .ref h_t_ups, .ref h_t_typed, .ref h_t_texts, .int v_m_hours, .ref h_t_diary, .int v_m_months, .ref h_t_longs, .ref h_t_awakes, .ref h_t_fit, .int v_m_fitMany, .int v_m_fitFirst, .ref h_t_counts, .ref h_t_worths, .ref h_t_ripes, .ref h_t_growths, .ref h_t_gains, .ref h_t_isThere, .ref h_t_forms, .ref h_t_sizes, .ref h_t_items, .ref h_t_moved, .int v_m_finding])), (h_t_turns, .inl (cI, 2, .inl v_m_turns))]
abbrev rm_X8_roundNow : Room := { frames := 0, cells := 0, slots := 0, locals := 0 }
def L_X8_roundNow_7 (v_m_turns : Nat → Int32) (kx7 : Int32 → Option (Int32)) : Nat → Int32 → Option (Int32)
  | 0, _ => none
  | k7 + 1, y7_1 => nz_ (v_m_turns (1 : Int32).toNatClampNeg) (if (y7_1 - y7_1 / (v_m_turns (1 : Int32).toNatClampNeg) * (v_m_turns (1 : Int32).toNatClampNeg)) = 0 then kx7 y7_1 else L_X8_roundNow_7 v_m_turns kx7 k7 (y7_1 + (v_m_turns (0 : Int32).toNatClampNeg)))
theorem L_X8_roundNow_7_s (v_m_turns : Nat → Int32) (kx7 : Int32 → Option (Int32)) (k7 : Nat) (y7_1 : Int32) : L_X8_roundNow_7 v_m_turns kx7 (k7 + 1) y7_1 = nz_ (v_m_turns (1 : Int32).toNatClampNeg) (if (y7_1 - y7_1 / (v_m_turns (1 : Int32).toNatClampNeg) * (v_m_turns (1 : Int32).toNatClampNeg)) = 0 then kx7 y7_1 else L_X8_roundNow_7 v_m_turns kx7 k7 (y7_1 + (v_m_turns (0 : Int32).toNatClampNeg))) := rfl
def f_X8_roundNow (n : Nat) (v_m_turns : Nat → Int32) : Option (Int32) := jn1_ (fun (z7_1 : Int32) => some z7_1) (fun kx7 => L_X8_roundNow_7 v_m_turns kx7 n (v_m_turns (0 : Int32).toNatClampNeg))
set_option maxHeartbeats 4000000 in
set_option maxRecDepth 100000 in
theorem c_X8_roundNow (l : Launch) (dC : Nat → ClassId) (dI : Nat → Nat → Nat) (cI cZ cP cS : ClassId) (h_t h_t_turns h_t_phases h_t_ups h_t_typed h_t_texts h_t_diary h_t_longs h_t_awakes h_t_fit h_t_counts h_t_worths h_t_ripes h_t_growths h_t_gains h_t_isThere h_t_forms h_t_sizes h_t_items h_t_moved : Nat) (v_m_hours : Int32) (v_m_months : Int32) (v_m_fitMany : Int32) (v_m_fitFirst : Int32) (v_m_finding : Int32) (v_m_turns : Nat → Int32) (n : Nat) (r : Int32) (hf : f_X8_roundNow n v_m_turns = some r) : Met l yX8_roundNow wsX8_roundNow rm_X8_roundNow (RO (dC, dI) (TY cI cZ cP cS) [.ref h_t] (wd_X8_roundNow cI cZ cP cS h_t h_t_turns h_t_phases h_t_ups h_t_typed h_t_texts h_t_diary h_t_longs h_t_awakes h_t_fit h_t_counts h_t_worths h_t_ripes h_t_growths h_t_gains h_t_isThere h_t_forms h_t_sizes h_t_items h_t_moved v_m_hours v_m_months v_m_fitMany v_m_fitFirst v_m_finding v_m_turns)) (vp_Si (fun x => x = r)) 0 0 NF := by
  refine Met.ofW (cc := cX8_roundNow) (maxL := 2) (ret := (some .int)) (by decide) rfl ?_
  intro p e s m args below meth c s₁ B hml hv
  obtain ⟨rfl, hP, hK⟩ := hv
  have hx := B.exec
  have hb := B.bytes
  have hr := B.returns
  have hts := atoms_spec (ws := wsX8_roundNow) B.pre
  have hown : s.vm.findClass RX8 = some m.cls := findClass_of_methodNamed B.named
  have hlocks := B.notSynchronized
  have hinX8 : ∀ w ∈ wsX80, w ∈ wsX8_roundNow := by decide +kernel
  have hl := lv_entry ([.ref h_t]) (n := 2) (Nat.le_of_ble_eq_true rfl)
  rw [lg_entry_eq]
  generalize (lg_sl ([.ref h_t]) ++ List.replicate (2 - (lg_sl ([.ref h_t])).length) Slot.unset).toArray = ls at hl ⊢
  have hl : lv_has ls 2 [(0, .ref h_t)] := hl
  unfold f_X8_roundNow at hf
  refine lv_aload_n hx hb dX8_roundNow_0 rfl (lv_at hl 0 rfl) ?_
  refine va_get (D := (dC, dI)) (ci := 7) (v := .ref h_t_turns) (C := RX8) (T := TX8) (N := 24) hx hb hts hinX8 hown hK hP 0 rfl rfl 0 (by decide) (hts (.fieldLink RX8 7 "SecondSunriseModel" "turns" "[I") (by decide +kernel)) (fun _ h9 => h9) rfl dX8_roundNow_1 ?_
  refine lv_iconst (v := 0) hx hb dX8_roundNow_4 (by decide) ?_
  refine va_iald hx hb hK hP 1 0 rfl rfl (show vp_in 0 2 by unfold vp_in; decide) dX8_roundNow_5 ?_
  refine lv_istore_n (lv' := [(1, .int (v_m_turns (0 : Int32).toNatClampNeg)), (0, .ref h_t)]) hx hb dX8_roundNow_6 rfl hl (by decide) rfl (fun ls hl => ?_)
  obtain ⟨kx7, ekx7, hf⟩ := jn1_e hf
  have hx7 : ∀ (z7_1 : Int32) (ls : Array Slot), lv_has ls 2 [(1, .int z7_1)] → kx7 z7_1 = some r → W p l e (headSpec wsX8_roundNow rm_X8_roundNow).room s m ([.ref h_t] : List Value).toArray below meth c s.heap [] 0 0 (MQ below (vp_Si (fun x => x = r)) ([.ref h_t] : List Value).toArray s 0 0 NF) (F0 m 30 ls []) := by
    intro z7_1 ls hl hf
    rw [ekx7] at hf
    refine lv_iload_n hx hb dX8_roundNow_30 rfl (lv_at hl 0 rfl) ?_
    exact W.iret hx hb hr (fun t ht hW => ⟨_, rfl, Option.some.inj hf, ht⟩) (fun _ h => nomatch h) dX8_roundNow_31
  have hL7 : ∀ (k7 : Nat) (y7_1 : Int32) (ls : Array Slot), lv_has ls 2 [(0, .ref h_t), (1, .int y7_1)] → L_X8_roundNow_7 v_m_turns kx7 k7 y7_1 = some r → W p l e (headSpec wsX8_roundNow rm_X8_roundNow).room s m ([.ref h_t] : List Value).toArray below meth c s.heap [] 0 0 (MQ below (vp_Si (fun x => x = r)) ([.ref h_t] : List Value).toArray s 0 0 NF) (F0 m 7 ls []) := by
    intro k7
    induction k7 with
    | zero =>
      intro y7_1 ls hl hf
      exact absurd hf (fun h => Option.some_ne_none _ h.symm)
    | succ k7 ih =>
      intro y7_1 ls hl hf
      rw [L_X8_roundNow_7_s] at hf
      refine lv_iload_n hx hb dX8_roundNow_7 rfl (lv_at hl 1 rfl) ?_
      refine lv_aload_n hx hb dX8_roundNow_8 rfl (lv_at hl 0 rfl) ?_
      refine va_get (D := (dC, dI)) (ci := 7) (v := .ref h_t_turns) (C := RX8) (T := TX8) (N := 24) hx hb hts hinX8 hown hK hP 0 rfl rfl 0 (by decide) (hts (.fieldLink RX8 7 "SecondSunriseModel" "turns" "[I") (by decide +kernel)) (fun _ h9 => h9) rfl dX8_roundNow_9 ?_
      refine lv_iconst (v := 1) hx hb dX8_roundNow_12 (by decide) ?_
      refine va_iald hx hb hK hP 1 0 rfl rfl (show vp_in 1 2 by unfold vp_in; decide) dX8_roundNow_13 ?_
      obtain ⟨hz_1, hf⟩ := nz_e hf
      refine lv_irem hx hb dX8_roundNow_14 hz_1 ?_
      refine lv_if_eq (tgt := 30) hx hb dX8_roundNow_15 (by decide) (fun c15 => ?_) (fun c15 => ?_)
      · rw [if_pos c15] at hf
        exact hx7 y7_1 ls (lv_sub hl [1] rfl) hf
      · rw [if_neg c15] at hf
        refine lv_iload_n hx hb dX8_roundNow_18 rfl (lv_at hl 1 rfl) ?_
        refine lv_aload_n hx hb dX8_roundNow_19 rfl (lv_at hl 0 rfl) ?_
        refine va_get (D := (dC, dI)) (ci := 7) (v := .ref h_t_turns) (C := RX8) (T := TX8) (N := 24) hx hb hts hinX8 hown hK hP 0 rfl rfl 0 (by decide) (hts (.fieldLink RX8 7 "SecondSunriseModel" "turns" "[I") (by decide +kernel)) (fun _ h9 => h9) rfl dX8_roundNow_20 ?_
        refine lv_iconst (v := 0) hx hb dX8_roundNow_23 (by decide) ?_
        refine va_iald hx hb hK hP 1 0 rfl rfl (show vp_in 0 2 by unfold vp_in; decide) dX8_roundNow_24 ?_
        refine lv_iadd hx hb dX8_roundNow_25 ?_
        refine lv_istore_n (lv' := [(1, .int (y7_1 + (v_m_turns (0 : Int32).toNatClampNeg))), (0, .ref h_t)]) hx hb dX8_roundNow_26 rfl hl (by decide) rfl (fun ls hl => ?_)
        refine lv_goto (tgt := 7) hx hb dX8_roundNow_27 (by decide) ?_
        exact ih (y7_1 + (v_m_turns (0 : Int32).toNatClampNeg)) ls (lv_sub hl [1, 0] rfl) hf
  exact hL7 n (v_m_turns (0 : Int32).toNatClampNeg) ls (lv_sub hl [1, 0] rfl) hf

abbrev wd_X8_figureAt (cI cZ cP cS : ClassId) (h_t h_t_turns h_t_phases h_t_ups h_t_typed h_t_texts h_t_diary h_t_longs h_t_awakes h_t_fit h_t_counts h_t_worths h_t_ripes h_t_growths h_t_gains h_t_isThere h_t_forms h_t_sizes h_t_items h_t_moved : Nat) (v_m_hours : Int32) (v_m_months : Int32) (v_m_fitMany : Int32) (v_m_fitFirst : Int32) (v_m_finding : Int32) (v_m_typed : Nat → Int32) (v_m_texts : Nat → Int32) : va_W := [(h_t, .inr (7, [.ref h_t_turns, .ref h_t_phases, .ref h_t_ups, .ref h_t_typed, .ref h_t_texts, .int v_m_hours, .ref h_t_diary, .int v_m_months, .ref h_t_longs, .ref h_t_awakes, .ref h_t_fit, .int v_m_fitMany, .int v_m_fitFirst, .ref h_t_counts, .ref h_t_worths, .ref h_t_ripes, .ref h_t_growths, .ref h_t_gains, .ref h_t_isThere, .ref h_t_forms, .ref h_t_sizes, .ref h_t_items, .ref h_t_moved, .int v_m_finding])), (h_t_typed, .inl (cI, 2, .inl v_m_typed)), (h_t_texts, .inl (cI, 120, .inl v_m_texts))]
abbrev rm_X8_figureAt : Room := { frames := 1, cells := 0, slots := 0, locals := 22 }
def f_X8_figureAt (n : Nat) (v_m_typed : Nat → Int32) (v_m_texts : Nat → Int32) (x1 : Int32) : Option (Int32) := jn1_ (fun (q26_0 : Int32) => bd1_ (f_X8_in n q26_0 0 9) (fun (r31_1 : Int32) => if r31_1 = 0 then some (-1) else some q26_0)) (fun k26 => if (v_m_typed (1 : Int32).toNatClampNeg) ≤ x1 then k26 (-1) else ix_ (60 + x1) 120 (k26 ((v_m_texts (60 + x1).toNatClampNeg) - 48)))
set_option maxHeartbeats 4000000 in
set_option maxRecDepth 100000 in
theorem c_X8_figureAt (l : Launch) (dC : Nat → ClassId) (dI : Nat → Nat → Nat) (cI cZ cP cS : ClassId) (h_t h_t_turns h_t_phases h_t_ups h_t_typed h_t_texts h_t_diary h_t_longs h_t_awakes h_t_fit h_t_counts h_t_worths h_t_ripes h_t_growths h_t_gains h_t_isThere h_t_forms h_t_sizes h_t_items h_t_moved : Nat) (v_m_hours : Int32) (v_m_months : Int32) (v_m_fitMany : Int32) (v_m_fitFirst : Int32) (v_m_finding : Int32) (v_m_typed : Nat → Int32) (v_m_texts : Nat → Int32) (x1 : Int32) (n : Nat) (r : Int32) (hf : f_X8_figureAt n v_m_typed v_m_texts x1 = some r) : Met l yX8_figureAt wsX8_figureAt rm_X8_figureAt (RO (dC, dI) (TY cI cZ cP cS) [.ref h_t, .int x1] (wd_X8_figureAt cI cZ cP cS h_t h_t_turns h_t_phases h_t_ups h_t_typed h_t_texts h_t_diary h_t_longs h_t_awakes h_t_fit h_t_counts h_t_worths h_t_ripes h_t_growths h_t_gains h_t_isThere h_t_forms h_t_sizes h_t_items h_t_moved v_m_hours v_m_months v_m_fitMany v_m_fitFirst v_m_finding v_m_typed v_m_texts)) (vp_Si (fun x => x = r)) 0 0 NF := by
  refine Met.ofW (cc := cX8_figureAt) (maxL := 3) (ret := (some .int)) (by decide) rfl ?_
  intro p e s m args below meth c s₁ B hml hv
  obtain ⟨rfl, hP, hK⟩ := hv
  have hx := B.exec
  have hb := B.bytes
  have hr := B.returns
  have hts := atoms_spec (ws := wsX8_figureAt) B.pre
  have hown : s.vm.findClass RX8 = some m.cls := findClass_of_methodNamed B.named
  have hlocks := B.notSynchronized
  have hinX8 : ∀ w ∈ wsX80, w ∈ wsX8_figureAt := by decide +kernel
  have hl := lv_entry ([.ref h_t, .int x1]) (n := 3) (Nat.le_of_ble_eq_true rfl)
  rw [lg_entry_eq]
  generalize (lg_sl ([.ref h_t, .int x1]) ++ List.replicate (3 - (lg_sl ([.ref h_t, .int x1])).length) Slot.unset).toArray = ls at hl ⊢
  have hl : lv_has ls 3 [(0, .ref h_t), (1, .int x1)] := hl
  unfold f_X8_figureAt at hf
  refine lv_iload_n hx hb dX8_figureAt_0 rfl (lv_at hl 1 rfl) ?_
  refine lv_aload_n hx hb dX8_figureAt_1 rfl (lv_at hl 0 rfl) ?_
  refine va_get (D := (dC, dI)) (ci := 7) (v := .ref h_t_typed) (C := RX8) (T := TX8) (N := 24) hx hb hts hinX8 hown hK hP 0 rfl rfl 3 (by decide) (hts (.fieldLink RX8 19 "SecondSunriseModel" "typed" "[I") (by decide +kernel)) (fun _ h9 => h9) rfl dX8_figureAt_2 ?_
  refine lv_iconst (v := 1) hx hb dX8_figureAt_5 (by decide) ?_
  refine va_iald hx hb hK hP 1 0 rfl rfl (show vp_in 1 2 by unfold vp_in; decide) dX8_figureAt_6 ?_
  obtain ⟨k26, ek26, hf⟩ := jn1_e hf
  have hj26 : ∀ (q26_0 : Int32) (ls : Array Slot), lv_has ls 3 [] → k26 q26_0 = some r → W p l e (headSpec wsX8_figureAt rm_X8_figureAt).room s m ([.ref h_t, .int x1] : List Value).toArray below meth c s.heap [] 0 0 (MQ below (vp_Si (fun x => x = r)) ([.ref h_t, .int x1] : List Value).toArray s 0 0 NF) (F0 m 26 ls [.int q26_0]) := by
    intro q26_0 ls hl hf
    rw [ek26] at hf
    refine lv_istore_n (lv' := [(2, .int q26_0)]) hx hb dX8_figureAt_26 rfl hl (by decide) rfl (fun ls hl => ?_)
    refine lv_iload_n hx hb dX8_figureAt_27 rfl (lv_at hl 0 rfl) ?_
    refine lv_iconst (v := 0) hx hb dX8_figureAt_28 (by decide) ?_
    refine lv_bipush (v := 9) hx hb dX8_figureAt_29 (by decide) ?_
    obtain ⟨r31_1, hc_2, hf⟩ := bd1_e hf
    refine vp_callSi (va_runS (As := [.int q26_0, .int 0, .int 9]) (rest := []) ⟨hx, hb, hml, hown, hts⟩ (c_X8_in l dC dI cI cZ cP cS   q26_0 0 9 n r31_1 hc_2) (va_cwS 3 hts gX8_figureAt_X8_in rfl rfl rfl (by decide +kernel) ⟨Nat.le_of_ble_eq_true rfl, Nat.le_of_ble_eq_true rfl⟩) (ps_ro hK (hP.sub (ws' := ([] : va_W)) [] rfl)) rfl rfl hl.1 rfl (lv_room (Nat.le_of_ble_eq_true rfl)) dX8_figureAt_31 ⟨Nat.zero_le _, Nat.zero_le _⟩).run (fun x e_3 => ?_)
    obtain ⟨e_3, hb_4⟩ := e_3
    rw [e_3] at hb_4 ⊢
    refine lv_if_eq (tgt := 41) hx hb dX8_figureAt_34 (by decide) (fun c34 => ?_) (fun c34 => ?_)
    · rw [if_pos c34] at hf
      refine lv_iconst (v := (-1)) hx hb dX8_figureAt_41 (by decide) ?_
      exact W.iret hx hb hr (fun t ht hW => ⟨_, rfl, Option.some.inj hf, ht⟩) (fun _ h => nomatch h) dX8_figureAt_42
    · rw [if_neg c34] at hf
      refine lv_iload_n hx hb dX8_figureAt_37 rfl (lv_at hl 0 rfl) ?_
      refine lv_goto (tgt := 42) hx hb dX8_figureAt_38 (by decide) ?_
      exact W.iret hx hb hr (fun t ht hW => ⟨_, rfl, Option.some.inj hf, ht⟩) (fun _ h => nomatch h) dX8_figureAt_42
  refine lv_icmp_ge (tgt := 25) hx hb dX8_figureAt_7 (by decide) (fun c7 => ?_) (fun c7 => ?_)
  · rw [if_pos c7] at hf
    refine lv_iconst (v := (-1)) hx hb dX8_figureAt_25 (by decide) ?_
    exact hj26 (-1) ls (lv_sub hl [] rfl) hf
  · rw [if_neg c7] at hf
    refine lv_aload_n hx hb dX8_figureAt_10 rfl (lv_at hl 0 rfl) ?_
    refine va_get (D := (dC, dI)) (ci := 7) (v := .ref h_t_texts) (C := RX8) (T := TX8) (N := 24) hx hb hts hinX8 hown hK hP 0 rfl rfl 4 (by decide) (hts (.fieldLink RX8 22 "SecondSunriseModel" "texts" "[I") (by decide +kernel)) (fun _ h9 => h9) rfl dX8_figureAt_11 ?_
    refine lv_bipush (v := 60) hx hb dX8_figureAt_14 (by decide) ?_
    refine lv_iload_n hx hb dX8_figureAt_16 rfl (lv_at hl 1 rfl) ?_
    refine lv_iadd hx hb dX8_figureAt_17 ?_
    obtain ⟨hi_5, hf⟩ := ix_e hf
    refine va_iald hx hb hK hP 2 0 rfl rfl hi_5 dX8_figureAt_18 ?_
    refine lv_bipush (v := 48) hx hb dX8_figureAt_19 (by decide) ?_
    refine lv_isub hx hb dX8_figureAt_21 ?_
    refine lv_goto (tgt := 26) hx hb dX8_figureAt_22 (by decide) ?_
    exact hj26 ((v_m_texts (60 + x1).toNatClampNeg) - 48) ls (lv_sub hl [] rfl) hf

abbrev wd_X8_readsCalendar (cI cZ cP cS : ClassId) (h_t h_t_turns h_t_phases h_t_ups h_t_typed h_t_texts h_t_diary h_t_longs h_t_awakes h_t_fit h_t_counts h_t_worths h_t_ripes h_t_growths h_t_gains h_t_isThere h_t_forms h_t_sizes h_t_items h_t_moved : Nat) (v_m_hours : Int32) (v_m_months : Int32) (v_m_fitMany : Int32) (v_m_fitFirst : Int32) (v_m_finding : Int32) (v_m_typed : Nat → Int32) (v_m_texts : Nat → Int32) (v_m_longs : Nat → Int32) : va_W := [(h_t, .inr (7, [.ref h_t_turns, .ref h_t_phases, .ref h_t_ups, .ref h_t_typed, .ref h_t_texts, .int v_m_hours, .ref h_t_diary, .int v_m_months, .ref h_t_longs, .ref h_t_awakes, .ref h_t_fit, .int v_m_fitMany, .int v_m_fitFirst, .ref h_t_counts, .ref h_t_worths, .ref h_t_ripes, .ref h_t_growths, .ref h_t_gains, .ref h_t_isThere, .ref h_t_forms, .ref h_t_sizes, .ref h_t_items, .ref h_t_moved, .int v_m_finding])), (h_t_typed, .inl (cI, 2, .inl v_m_typed)), (h_t_texts, .inl (cI, 120, .inl v_m_texts)), (h_t_longs, .inl (cI, 7, .inl v_m_longs))]
abbrev rm_X8_readsCalendar : Room := { frames := 2, cells := 0, slots := 0, locals := 44 }
def L_X8_readsCalendar_9 (n : Nat) (v_m_typed : Nat → Int32) (v_m_texts : Nat → Int32) (kx9 : (Nat → Int32) → Option (Int32 × Int32 × (Nat → Int32))) : Nat → Int32 → Int32 → (Nat → Int32) → Option (Int32 × Int32 × (Nat → Int32))
  | 0, _, _, _ => none
  | k9 + 1, y9_1, y9_2, w9_m_longs => jn0_ (bd1_ (f_X8_figureAt n v_m_typed v_m_texts y9_2) (fun (r25_1 : Int32) => bd1_ (f_X8_figureAt n v_m_typed v_m_texts (y9_2 + 1)) (fun (r33_4 : Int32) => if y9_1 = 6 then some (y9_2, 0, w9_m_longs) else if r25_1 = (-1) then some (y9_2, 0, w9_m_longs) else if r33_4 = (-1) then some ((y9_2 + 1), 0, w9_m_longs) else if (r25_1 + r33_4) = 0 then some ((y9_2 + 1), 0, w9_m_longs) else ix_ y9_1 7 (if (y9_2 + 2) = (v_m_typed (1 : Int32).toNatClampNeg) then some ((-1), (y9_1 + 1), (upd w9_m_longs y9_1.toNatClampNeg ((10 * r25_1) + r33_4))) else ix_ (60 + (y9_2 + 2)) 120 (if (v_m_texts (60 + (y9_2 + 2)).toNatClampNeg) = 59 then L_X8_readsCalendar_9 n v_m_typed v_m_texts kx9 k9 (y9_1 + 1) ((y9_2 + 2) + 1) (upd w9_m_longs y9_1.toNatClampNeg ((10 * r25_1) + r33_4)) else some ((y9_2 + 2), 0, (upd w9_m_longs y9_1.toNatClampNeg ((10 * r25_1) + r33_4)))))))) (fun k23 => if y9_2 < (v_m_typed (1 : Int32).toNatClampNeg) then k23 else if y9_2 ≤ 0 then kx9 w9_m_longs else k23)
theorem L_X8_readsCalendar_9_s (n : Nat) (v_m_typed : Nat → Int32) (v_m_texts : Nat → Int32) (kx9 : (Nat → Int32) → Option (Int32 × Int32 × (Nat → Int32))) (k9 : Nat) (y9_1 : Int32) (y9_2 : Int32) (w9_m_longs : Nat → Int32) : L_X8_readsCalendar_9 n v_m_typed v_m_texts kx9 (k9 + 1) y9_1 y9_2 w9_m_longs = jn0_ (bd1_ (f_X8_figureAt n v_m_typed v_m_texts y9_2) (fun (r25_1 : Int32) => bd1_ (f_X8_figureAt n v_m_typed v_m_texts (y9_2 + 1)) (fun (r33_4 : Int32) => if y9_1 = 6 then some (y9_2, 0, w9_m_longs) else if r25_1 = (-1) then some (y9_2, 0, w9_m_longs) else if r33_4 = (-1) then some ((y9_2 + 1), 0, w9_m_longs) else if (r25_1 + r33_4) = 0 then some ((y9_2 + 1), 0, w9_m_longs) else ix_ y9_1 7 (if (y9_2 + 2) = (v_m_typed (1 : Int32).toNatClampNeg) then some ((-1), (y9_1 + 1), (upd w9_m_longs y9_1.toNatClampNeg ((10 * r25_1) + r33_4))) else ix_ (60 + (y9_2 + 2)) 120 (if (v_m_texts (60 + (y9_2 + 2)).toNatClampNeg) = 59 then L_X8_readsCalendar_9 n v_m_typed v_m_texts kx9 k9 (y9_1 + 1) ((y9_2 + 2) + 1) (upd w9_m_longs y9_1.toNatClampNeg ((10 * r25_1) + r33_4)) else some ((y9_2 + 2), 0, (upd w9_m_longs y9_1.toNatClampNeg ((10 * r25_1) + r33_4)))))))) (fun k23 => if y9_2 < (v_m_typed (1 : Int32).toNatClampNeg) then k23 else if y9_2 ≤ 0 then kx9 w9_m_longs else k23) := rfl
def f_X8_readsCalendar (n : Nat) (v_m_months : Int32) (v_m_typed : Nat → Int32) (v_m_texts : Nat → Int32) (v_m_longs : Nat → Int32) : Option (Int32 × Int32 × (Nat → Int32)) := jn1_ (fun (u9_m_longs : Nat → Int32) => some ((-1), 0, u9_m_longs)) (fun kx9 => L_X8_readsCalendar_9 n v_m_typed v_m_texts kx9 n 0 0 v_m_longs)
set_option maxHeartbeats 4000000 in
set_option maxRecDepth 100000 in
theorem c_X8_readsCalendar (l : Launch) (dC : Nat → ClassId) (dI : Nat → Nat → Nat) (cI cZ cP cS : ClassId) (sz : Nat) (h_t h_t_turns h_t_phases h_t_ups h_t_typed h_t_texts h_t_diary h_t_longs h_t_awakes h_t_fit h_t_counts h_t_worths h_t_ripes h_t_growths h_t_gains h_t_isThere h_t_forms h_t_sizes h_t_items h_t_moved : Nat) (v_m_hours : Int32) (v_m_months : Int32) (v_m_fitMany : Int32) (v_m_fitFirst : Int32) (v_m_finding : Int32) (v_m_typed : Nat → Int32) (v_m_texts : Nat → Int32) (v_m_longs : Nat → Int32) (n : Nat) (r : Int32) (o_m_months : Int32) (o_m_longs : Nat → Int32) (hf : f_X8_readsCalendar n v_m_months v_m_typed v_m_texts v_m_longs = some (r, o_m_months, o_m_longs)) : Met l yX8_readsCalendar wsX8_readsCalendar rm_X8_readsCalendar (RW (dC, dI) (TY cI cZ cP cS) [.ref h_t] sz (wd_X8_readsCalendar cI cZ cP cS h_t h_t_turns h_t_phases h_t_ups h_t_typed h_t_texts h_t_diary h_t_longs h_t_awakes h_t_fit h_t_counts h_t_worths h_t_ripes h_t_growths h_t_gains h_t_isThere h_t_forms h_t_sizes h_t_items h_t_moved v_m_hours v_m_months v_m_fitMany v_m_fitFirst v_m_finding v_m_typed v_m_texts v_m_longs)) (RWi (dC, dI) (TY cI cZ cP cS) r sz (wd_X8_readsCalendar cI cZ cP cS h_t h_t_turns h_t_phases h_t_ups h_t_typed h_t_texts h_t_diary h_t_longs h_t_awakes h_t_fit h_t_counts h_t_worths h_t_ripes h_t_growths h_t_gains h_t_isThere h_t_forms h_t_sizes h_t_items h_t_moved v_m_hours v_m_months v_m_fitMany v_m_fitFirst v_m_finding v_m_typed v_m_texts v_m_longs) (wd_X8_readsCalendar cI cZ cP cS h_t h_t_turns h_t_phases h_t_ups h_t_typed h_t_texts h_t_diary h_t_longs h_t_awakes h_t_fit h_t_counts h_t_worths h_t_ripes h_t_growths h_t_gains h_t_isThere h_t_forms h_t_sizes h_t_items h_t_moved v_m_hours o_m_months v_m_fitMany v_m_fitFirst v_m_finding v_m_typed v_m_texts o_m_longs)) 0 0 (va_A (wd_X8_readsCalendar cI cZ cP cS h_t h_t_turns h_t_phases h_t_ups h_t_typed h_t_texts h_t_diary h_t_longs h_t_awakes h_t_fit h_t_counts h_t_worths h_t_ripes h_t_growths h_t_gains h_t_isThere h_t_forms h_t_sizes h_t_items h_t_moved v_m_hours v_m_months v_m_fitMany v_m_fitFirst v_m_finding v_m_typed v_m_texts v_m_longs) sz) := by
  refine Met.ofW (cc := cX8_readsCalendar) (maxL := 5) (ret := (some .int)) (by decide) rfl ?_
  intro p e s m args below meth c s₁ B hml hv
  obtain ⟨rfl, hsz, hP, hK, hD0⟩ := hv
  have hx := B.exec
  have hb := B.bytes
  have hr := B.returns
  have hts := atoms_spec (ws := wsX8_readsCalendar) B.pre
  have hown : s.vm.findClass RX8 = some m.cls := findClass_of_methodNamed B.named
  have hlocks := B.notSynchronized
  subst hsz
  have hD := hD0.self (sz := s.heap.size)
  have hA : ∀ q : Nat, s.heap.size ≤ q → (va_A (wd_X8_readsCalendar cI cZ cP cS h_t h_t_turns h_t_phases h_t_ups h_t_typed h_t_texts h_t_diary h_t_longs h_t_awakes h_t_fit h_t_counts h_t_worths h_t_ripes h_t_growths h_t_gains h_t_isThere h_t_forms h_t_sizes h_t_items h_t_moved v_m_hours v_m_months v_m_fitMany v_m_fitFirst v_m_finding v_m_typed v_m_texts v_m_longs) s.heap.size) q := fun q h => Or.inr h
  have hS : va_S (va_A (wd_X8_readsCalendar cI cZ cP cS h_t h_t_turns h_t_phases h_t_ups h_t_typed h_t_texts h_t_diary h_t_longs h_t_awakes h_t_fit h_t_counts h_t_worths h_t_ripes h_t_growths h_t_gains h_t_isThere h_t_forms h_t_sizes h_t_items h_t_moved v_m_hours v_m_months v_m_fitMany v_m_fitFirst v_m_finding v_m_typed v_m_texts v_m_longs) s.heap.size) s.heap s.heap [] := va_S.rf
  have hinX8 : ∀ w ∈ wsX80, w ∈ wsX8_readsCalendar := by decide +kernel
  have hl := lv_entry ([.ref h_t]) (n := 5) (Nat.le_of_ble_eq_true rfl)
  rw [lg_entry_eq]
  generalize (lg_sl ([.ref h_t]) ++ List.replicate (5 - (lg_sl ([.ref h_t])).length) Slot.unset).toArray = ls at hl ⊢
  have hl : lv_has ls 5 [(0, .ref h_t)] := hl
  obtain ⟨H, hH⟩ : ∃ H : Heap, H = s.heap := ⟨_, rfl⟩
  have hP : va_P (dC, dI) vwCl (wd_X8_readsCalendar cI cZ cP cS h_t h_t_turns h_t_phases h_t_ups h_t_typed h_t_texts h_t_diary h_t_longs h_t_awakes h_t_fit h_t_counts h_t_worths h_t_ripes h_t_growths h_t_gains h_t_isThere h_t_forms h_t_sizes h_t_items h_t_moved v_m_hours v_m_months v_m_fitMany v_m_fitFirst v_m_finding v_m_typed v_m_texts v_m_longs) H := by rw [hH]; exact hP
  have hS : va_S (va_A (wd_X8_readsCalendar cI cZ cP cS h_t h_t_turns h_t_phases h_t_ups h_t_typed h_t_texts h_t_diary h_t_longs h_t_awakes h_t_fit h_t_counts h_t_worths h_t_ripes h_t_growths h_t_gains h_t_isThere h_t_forms h_t_sizes h_t_items h_t_moved v_m_hours v_m_months v_m_fitMany v_m_fitFirst v_m_finding v_m_typed v_m_texts v_m_longs) s.heap.size) s.heap H [] := by rw [hH]; exact hS
  obtain ⟨locs, hlo⟩ : ∃ L : List Loc, L = [] := ⟨_, rfl⟩
  rw [← hlo] at hS
  suffices hgo : W p l e (headSpec wsX8_readsCalendar rm_X8_readsCalendar).room s m ([.ref h_t] : List Value).toArray below meth c H locs 0 0 (MQ below (RWi (dC, dI) (TY cI cZ cP cS) r s.heap.size (wd_X8_readsCalendar cI cZ cP cS h_t h_t_turns h_t_phases h_t_ups h_t_typed h_t_texts h_t_diary h_t_longs h_t_awakes h_t_fit h_t_counts h_t_worths h_t_ripes h_t_growths h_t_gains h_t_isThere h_t_forms h_t_sizes h_t_items h_t_moved v_m_hours v_m_months v_m_fitMany v_m_fitFirst v_m_finding v_m_typed v_m_texts v_m_longs) (wd_X8_readsCalendar cI cZ cP cS h_t h_t_turns h_t_phases h_t_ups h_t_typed h_t_texts h_t_diary h_t_longs h_t_awakes h_t_fit h_t_counts h_t_worths h_t_ripes h_t_growths h_t_gains h_t_isThere h_t_forms h_t_sizes h_t_items h_t_moved v_m_hours o_m_months v_m_fitMany v_m_fitFirst v_m_finding v_m_typed v_m_texts o_m_longs)) ([.ref h_t] : List Value).toArray s 0 0 (va_A (wd_X8_readsCalendar cI cZ cP cS h_t h_t_turns h_t_phases h_t_ups h_t_typed h_t_texts h_t_diary h_t_longs h_t_awakes h_t_fit h_t_counts h_t_worths h_t_ripes h_t_growths h_t_gains h_t_isThere h_t_forms h_t_sizes h_t_items h_t_moved v_m_hours v_m_months v_m_fitMany v_m_fitFirst v_m_finding v_m_typed v_m_texts v_m_longs) s.heap.size)) (F0 m 0 ls []) by rw [hH, hlo] at hgo; exact hgo
  clear hH hlo
  unfold f_X8_readsCalendar at hf
  refine lv_aload_n hx hb dX8_readsCalendar_0 rfl (lv_at hl 0 rfl) ?_
  refine lv_iconst (v := 0) hx hb dX8_readsCalendar_1 (by decide) ?_
  refine va_put (D := (dC, dI)) (ci := 7) (v := .int 0) (ty := .int) (C := RX8) (T := TX8) (N := 24) hx hb hts hinX8 tyX8 tyX8_ok nmX8 hown hK hP hD hS 0 rfl rfl 7 (by decide) (hts (.fieldLink RX8 83 "SecondSunriseModel" "months" "I") (by decide +kernel)) (fun _ h9 => h9) rfl (by decide +kernel) rfl rfl (Nat.le_of_ble_eq_true rfl) dX8_readsCalendar_2 (fun H locs hP hD hS => ?_)
  have hP : va_P (dC, dI) vwCl (wd_X8_readsCalendar cI cZ cP cS h_t h_t_turns h_t_phases h_t_ups h_t_typed h_t_texts h_t_diary h_t_longs h_t_awakes h_t_fit h_t_counts h_t_worths h_t_ripes h_t_growths h_t_gains h_t_isThere h_t_forms h_t_sizes h_t_items h_t_moved v_m_hours 0 v_m_fitMany v_m_fitFirst v_m_finding v_m_typed v_m_texts v_m_longs) H := hP
  have hD : va_D (va_A (wd_X8_readsCalendar cI cZ cP cS h_t h_t_turns h_t_phases h_t_ups h_t_typed h_t_texts h_t_diary h_t_longs h_t_awakes h_t_fit h_t_counts h_t_worths h_t_ripes h_t_growths h_t_gains h_t_isThere h_t_forms h_t_sizes h_t_items h_t_moved v_m_hours v_m_months v_m_fitMany v_m_fitFirst v_m_finding v_m_typed v_m_texts v_m_longs) s.heap.size) (wd_X8_readsCalendar cI cZ cP cS h_t h_t_turns h_t_phases h_t_ups h_t_typed h_t_texts h_t_diary h_t_longs h_t_awakes h_t_fit h_t_counts h_t_worths h_t_ripes h_t_growths h_t_gains h_t_isThere h_t_forms h_t_sizes h_t_items h_t_moved v_m_hours 0 v_m_fitMany v_m_fitFirst v_m_finding v_m_typed v_m_texts v_m_longs) := hD
  refine lv_iconst (v := 0) hx hb dX8_readsCalendar_5 (by decide) ?_
  refine lv_istore_n (lv' := [(1, .int 0), (0, .ref h_t)]) hx hb dX8_readsCalendar_6 rfl hl (by decide) rfl (fun ls hl => ?_)
  refine lv_iconst (v := 0) hx hb dX8_readsCalendar_7 (by decide) ?_
  refine lv_istore_n (lv' := [(2, .int 0), (1, .int 0), (0, .ref h_t)]) hx hb dX8_readsCalendar_8 rfl hl (by decide) rfl (fun ls hl => ?_)
  obtain ⟨kx9, ekx9, hf⟩ := jn1_e hf
  have hx9 : ∀ (u9_m_longs : Nat → Int32) (H : Heap) (locs : List Loc) (ls : Array Slot), lv_has ls 5 [] → va_P (dC, dI) vwCl (wd_X8_readsCalendar cI cZ cP cS h_t h_t_turns h_t_phases h_t_ups h_t_typed h_t_texts h_t_diary h_t_longs h_t_awakes h_t_fit h_t_counts h_t_worths h_t_ripes h_t_growths h_t_gains h_t_isThere h_t_forms h_t_sizes h_t_items h_t_moved v_m_hours 0 v_m_fitMany v_m_fitFirst v_m_finding v_m_typed v_m_texts u9_m_longs) H → va_D (va_A (wd_X8_readsCalendar cI cZ cP cS h_t h_t_turns h_t_phases h_t_ups h_t_typed h_t_texts h_t_diary h_t_longs h_t_awakes h_t_fit h_t_counts h_t_worths h_t_ripes h_t_growths h_t_gains h_t_isThere h_t_forms h_t_sizes h_t_items h_t_moved v_m_hours v_m_months v_m_fitMany v_m_fitFirst v_m_finding v_m_typed v_m_texts v_m_longs) s.heap.size) (wd_X8_readsCalendar cI cZ cP cS h_t h_t_turns h_t_phases h_t_ups h_t_typed h_t_texts h_t_diary h_t_longs h_t_awakes h_t_fit h_t_counts h_t_worths h_t_ripes h_t_growths h_t_gains h_t_isThere h_t_forms h_t_sizes h_t_items h_t_moved v_m_hours 0 v_m_fitMany v_m_fitFirst v_m_finding v_m_typed v_m_texts u9_m_longs) → va_S (va_A (wd_X8_readsCalendar cI cZ cP cS h_t h_t_turns h_t_phases h_t_ups h_t_typed h_t_texts h_t_diary h_t_longs h_t_awakes h_t_fit h_t_counts h_t_worths h_t_ripes h_t_growths h_t_gains h_t_isThere h_t_forms h_t_sizes h_t_items h_t_moved v_m_hours v_m_months v_m_fitMany v_m_fitFirst v_m_finding v_m_typed v_m_texts v_m_longs) s.heap.size) s.heap H locs → kx9 u9_m_longs = some (r, o_m_months, o_m_longs) → W p l e (headSpec wsX8_readsCalendar rm_X8_readsCalendar).room s m ([.ref h_t] : List Value).toArray below meth c H locs 0 0 (MQ below (RWi (dC, dI) (TY cI cZ cP cS) r s.heap.size (wd_X8_readsCalendar cI cZ cP cS h_t h_t_turns h_t_phases h_t_ups h_t_typed h_t_texts h_t_diary h_t_longs h_t_awakes h_t_fit h_t_counts h_t_worths h_t_ripes h_t_growths h_t_gains h_t_isThere h_t_forms h_t_sizes h_t_items h_t_moved v_m_hours v_m_months v_m_fitMany v_m_fitFirst v_m_finding v_m_typed v_m_texts v_m_longs) (wd_X8_readsCalendar cI cZ cP cS h_t h_t_turns h_t_phases h_t_ups h_t_typed h_t_texts h_t_diary h_t_longs h_t_awakes h_t_fit h_t_counts h_t_worths h_t_ripes h_t_growths h_t_gains h_t_isThere h_t_forms h_t_sizes h_t_items h_t_moved v_m_hours o_m_months v_m_fitMany v_m_fitFirst v_m_finding v_m_typed v_m_texts o_m_longs)) ([.ref h_t] : List Value).toArray s 0 0 (va_A (wd_X8_readsCalendar cI cZ cP cS h_t h_t_turns h_t_phases h_t_ups h_t_typed h_t_texts h_t_diary h_t_longs h_t_awakes h_t_fit h_t_counts h_t_worths h_t_ripes h_t_growths h_t_gains h_t_isThere h_t_forms h_t_sizes h_t_items h_t_moved v_m_hours v_m_months v_m_fitMany v_m_fitFirst v_m_finding v_m_typed v_m_texts v_m_longs) s.heap.size)) (F0 m 126 ls []) := by
    intro u9_m_longs H locs ls hl hP hD hS hf
    rw [ekx9] at hf
    refine lv_iconst (v := (-1)) hx hb dX8_readsCalendar_126 (by decide) ?_
    have hq0 := Option.some.inj hf
    obtain ⟨eq0, hq1⟩ := Prod.mk.inj hq0
    obtain ⟨eq1, hq2⟩ := Prod.mk.inj hq1
    clear hf hq0 hq1
    subst eq0
    subst eq1
    subst hq2
    exact W.iret hx hb hr (fun t ht hW => ⟨⟨_, (), rfl, rfl, by rw [ht]; exact hP, va_K.moved hW.alike hK, hD⟩, hS.F ht⟩) hS.2.2 dX8_readsCalendar_127
  have hL9 : ∀ (k9 : Nat) (y9_1 : Int32) (y9_2 : Int32) (w9_m_longs : Nat → Int32) (H : Heap) (locs : List Loc) (ls : Array Slot), lv_has ls 5 [(0, .ref h_t), (1, .int y9_1), (2, .int y9_2)] → va_P (dC, dI) vwCl (wd_X8_readsCalendar cI cZ cP cS h_t h_t_turns h_t_phases h_t_ups h_t_typed h_t_texts h_t_diary h_t_longs h_t_awakes h_t_fit h_t_counts h_t_worths h_t_ripes h_t_growths h_t_gains h_t_isThere h_t_forms h_t_sizes h_t_items h_t_moved v_m_hours 0 v_m_fitMany v_m_fitFirst v_m_finding v_m_typed v_m_texts w9_m_longs) H → va_D (va_A (wd_X8_readsCalendar cI cZ cP cS h_t h_t_turns h_t_phases h_t_ups h_t_typed h_t_texts h_t_diary h_t_longs h_t_awakes h_t_fit h_t_counts h_t_worths h_t_ripes h_t_growths h_t_gains h_t_isThere h_t_forms h_t_sizes h_t_items h_t_moved v_m_hours v_m_months v_m_fitMany v_m_fitFirst v_m_finding v_m_typed v_m_texts v_m_longs) s.heap.size) (wd_X8_readsCalendar cI cZ cP cS h_t h_t_turns h_t_phases h_t_ups h_t_typed h_t_texts h_t_diary h_t_longs h_t_awakes h_t_fit h_t_counts h_t_worths h_t_ripes h_t_growths h_t_gains h_t_isThere h_t_forms h_t_sizes h_t_items h_t_moved v_m_hours 0 v_m_fitMany v_m_fitFirst v_m_finding v_m_typed v_m_texts w9_m_longs) → va_S (va_A (wd_X8_readsCalendar cI cZ cP cS h_t h_t_turns h_t_phases h_t_ups h_t_typed h_t_texts h_t_diary h_t_longs h_t_awakes h_t_fit h_t_counts h_t_worths h_t_ripes h_t_growths h_t_gains h_t_isThere h_t_forms h_t_sizes h_t_items h_t_moved v_m_hours v_m_months v_m_fitMany v_m_fitFirst v_m_finding v_m_typed v_m_texts v_m_longs) s.heap.size) s.heap H locs → L_X8_readsCalendar_9 n v_m_typed v_m_texts kx9 k9 y9_1 y9_2 w9_m_longs = some (r, o_m_months, o_m_longs) → W p l e (headSpec wsX8_readsCalendar rm_X8_readsCalendar).room s m ([.ref h_t] : List Value).toArray below meth c H locs 0 0 (MQ below (RWi (dC, dI) (TY cI cZ cP cS) r s.heap.size (wd_X8_readsCalendar cI cZ cP cS h_t h_t_turns h_t_phases h_t_ups h_t_typed h_t_texts h_t_diary h_t_longs h_t_awakes h_t_fit h_t_counts h_t_worths h_t_ripes h_t_growths h_t_gains h_t_isThere h_t_forms h_t_sizes h_t_items h_t_moved v_m_hours v_m_months v_m_fitMany v_m_fitFirst v_m_finding v_m_typed v_m_texts v_m_longs) (wd_X8_readsCalendar cI cZ cP cS h_t h_t_turns h_t_phases h_t_ups h_t_typed h_t_texts h_t_diary h_t_longs h_t_awakes h_t_fit h_t_counts h_t_worths h_t_ripes h_t_growths h_t_gains h_t_isThere h_t_forms h_t_sizes h_t_items h_t_moved v_m_hours o_m_months v_m_fitMany v_m_fitFirst v_m_finding v_m_typed v_m_texts o_m_longs)) ([.ref h_t] : List Value).toArray s 0 0 (va_A (wd_X8_readsCalendar cI cZ cP cS h_t h_t_turns h_t_phases h_t_ups h_t_typed h_t_texts h_t_diary h_t_longs h_t_awakes h_t_fit h_t_counts h_t_worths h_t_ripes h_t_growths h_t_gains h_t_isThere h_t_forms h_t_sizes h_t_items h_t_moved v_m_hours v_m_months v_m_fitMany v_m_fitFirst v_m_finding v_m_typed v_m_texts v_m_longs) s.heap.size)) (F0 m 9 ls []) := by
    intro k9
    induction k9 with
    | zero =>
      intro y9_1 y9_2 w9_m_longs H locs ls hl hP hD hS hf
      exact absurd hf (fun h => Option.some_ne_none _ h.symm)
    | succ k9 ih =>
      intro y9_1 y9_2 w9_m_longs H locs ls hl hP hD hS hf
      rw [L_X8_readsCalendar_9_s] at hf
      refine lv_iload_n hx hb dX8_readsCalendar_9 rfl (lv_at hl 2 rfl) ?_
      refine lv_aload_n hx hb dX8_readsCalendar_10 rfl (lv_at hl 0 rfl) ?_
      refine va_get (D := (dC, dI)) (ci := 7) (v := .ref h_t_typed) (C := RX8) (T := TX8) (N := 24) hx hb hts hinX8 hown hK hP 0 rfl rfl 3 (by decide) (hts (.fieldLink RX8 19 "SecondSunriseModel" "typed" "[I") (by decide +kernel)) (fun _ h9 => h9) rfl dX8_readsCalendar_11 ?_
      refine lv_iconst (v := 1) hx hb dX8_readsCalendar_14 (by decide) ?_
      refine va_iald hx hb hK hP 1 0 rfl rfl (show vp_in 1 2 by unfold vp_in; decide) dX8_readsCalendar_15 ?_
      obtain ⟨k23, ek23, hf⟩ := jn0_e hf
      have hj23 : ∀ (ls : Array Slot), lv_has ls 5 [(0, .ref h_t), (1, .int y9_1), (2, .int y9_2)] → k23 = some (r, o_m_months, o_m_longs) → W p l e (headSpec wsX8_readsCalendar rm_X8_readsCalendar).room s m ([.ref h_t] : List Value).toArray below meth c H locs 0 0 (MQ below (RWi (dC, dI) (TY cI cZ cP cS) r s.heap.size (wd_X8_readsCalendar cI cZ cP cS h_t h_t_turns h_t_phases h_t_ups h_t_typed h_t_texts h_t_diary h_t_longs h_t_awakes h_t_fit h_t_counts h_t_worths h_t_ripes h_t_growths h_t_gains h_t_isThere h_t_forms h_t_sizes h_t_items h_t_moved v_m_hours v_m_months v_m_fitMany v_m_fitFirst v_m_finding v_m_typed v_m_texts v_m_longs) (wd_X8_readsCalendar cI cZ cP cS h_t h_t_turns h_t_phases h_t_ups h_t_typed h_t_texts h_t_diary h_t_longs h_t_awakes h_t_fit h_t_counts h_t_worths h_t_ripes h_t_growths h_t_gains h_t_isThere h_t_forms h_t_sizes h_t_items h_t_moved v_m_hours o_m_months v_m_fitMany v_m_fitFirst v_m_finding v_m_typed v_m_texts o_m_longs)) ([.ref h_t] : List Value).toArray s 0 0 (va_A (wd_X8_readsCalendar cI cZ cP cS h_t h_t_turns h_t_phases h_t_ups h_t_typed h_t_texts h_t_diary h_t_longs h_t_awakes h_t_fit h_t_counts h_t_worths h_t_ripes h_t_growths h_t_gains h_t_isThere h_t_forms h_t_sizes h_t_items h_t_moved v_m_hours v_m_months v_m_fitMany v_m_fitFirst v_m_finding v_m_typed v_m_texts v_m_longs) s.heap.size)) (F0 m 23 ls []) := by
        intro ls hl hf
        rw [ek23] at hf
        refine lv_aload_n hx hb dX8_readsCalendar_23 rfl (lv_at hl 0 rfl) ?_
        refine lv_iload_n hx hb dX8_readsCalendar_24 rfl (lv_at hl 2 rfl) ?_
        obtain ⟨r25_1, hc_2, hf⟩ := bd1_e hf
        refine vp_callSi (va_runV (As := [.int y9_2]) (rest := []) ⟨hx, hb, hml, hown, hts⟩ (c_X8_figureAt l dC dI cI cZ cP cS h_t h_t_turns h_t_phases h_t_ups h_t_typed h_t_texts h_t_diary h_t_longs h_t_awakes h_t_fit h_t_counts h_t_worths h_t_ripes h_t_growths h_t_gains h_t_isThere h_t_forms h_t_sizes h_t_items h_t_moved v_m_hours 0 v_m_fitMany v_m_fitFirst v_m_finding v_m_typed v_m_texts y9_2 n r25_1 hc_2) (cwV 1 hts gX8_readsCalendar_X8_figureAt rfl rfl rfl (by decide +kernel) ⟨Nat.le_of_ble_eq_true rfl, Nat.le_of_ble_eq_true rfl⟩) (pv_ro (ci := 7) (q0 := 0) hK (hP.sub (ws' := (wd_X8_figureAt cI cZ cP cS h_t h_t_turns h_t_phases h_t_ups h_t_typed h_t_texts h_t_diary h_t_longs h_t_awakes h_t_fit h_t_counts h_t_worths h_t_ripes h_t_growths h_t_gains h_t_isThere h_t_forms h_t_sizes h_t_items h_t_moved v_m_hours 0 v_m_fitMany v_m_fitFirst v_m_finding v_m_typed v_m_texts)) [0, 1, 2] rfl) rfl rfl) rfl rfl hl.1 rfl (lv_room (Nat.le_of_ble_eq_true rfl)) dX8_readsCalendar_25 ⟨Nat.zero_le _, Nat.zero_le _⟩).run (fun x e_3 => ?_)
        rw [e_3]
        refine lv_istore_n (lv' := [(3, .int r25_1), (0, .ref h_t), (1, .int y9_1), (2, .int y9_2)]) hx hb dX8_readsCalendar_28 rfl hl (by decide) rfl (fun ls hl => ?_)
        refine lv_aload_n hx hb dX8_readsCalendar_29 rfl (lv_at hl 1 rfl) ?_
        refine lv_iload_n hx hb dX8_readsCalendar_30 rfl (lv_at hl 3 rfl) ?_
        refine lv_iconst (v := 1) hx hb dX8_readsCalendar_31 (by decide) ?_
        refine lv_iadd hx hb dX8_readsCalendar_32 ?_
        obtain ⟨r33_4, hc_5, hf⟩ := bd1_e hf
        refine vp_callSi (va_runV (As := [.int (y9_2 + 1)]) (rest := []) ⟨hx, hb, hml, hown, hts⟩ (c_X8_figureAt l dC dI cI cZ cP cS h_t h_t_turns h_t_phases h_t_ups h_t_typed h_t_texts h_t_diary h_t_longs h_t_awakes h_t_fit h_t_counts h_t_worths h_t_ripes h_t_growths h_t_gains h_t_isThere h_t_forms h_t_sizes h_t_items h_t_moved v_m_hours 0 v_m_fitMany v_m_fitFirst v_m_finding v_m_typed v_m_texts (y9_2 + 1) n r33_4 hc_5) (cwV 1 hts gX8_readsCalendar_X8_figureAt rfl rfl rfl (by decide +kernel) ⟨Nat.le_of_ble_eq_true rfl, Nat.le_of_ble_eq_true rfl⟩) (pv_ro (ci := 7) (q0 := 0) hK (hP.sub (ws' := (wd_X8_figureAt cI cZ cP cS h_t h_t_turns h_t_phases h_t_ups h_t_typed h_t_texts h_t_diary h_t_longs h_t_awakes h_t_fit h_t_counts h_t_worths h_t_ripes h_t_growths h_t_gains h_t_isThere h_t_forms h_t_sizes h_t_items h_t_moved v_m_hours 0 v_m_fitMany v_m_fitFirst v_m_finding v_m_typed v_m_texts)) [0, 1, 2] rfl) rfl rfl) rfl rfl hl.1 rfl (lv_room (Nat.le_of_ble_eq_true rfl)) dX8_readsCalendar_33 ⟨Nat.zero_le _, Nat.zero_le _⟩).run (fun x e_6 => ?_)
        rw [e_6]
        refine lv_istore (lv' := [(4, .int r33_4), (3, .int r25_1), (0, .ref h_t), (1, .int y9_1), (2, .int y9_2)]) hx hb dX8_readsCalendar_36 hl (by decide) rfl (fun ls hl => ?_)
        refine lv_iload_n hx hb dX8_readsCalendar_38 rfl (lv_at hl 3 rfl) ?_
        refine lv_bipush (v := 6) hx hb dX8_readsCalendar_39 (by decide) ?_
        refine lv_icmp_eq (tgt := 49) hx hb dX8_readsCalendar_41 (by decide) (fun c41 => ?_) (fun c41 => ?_)
        · rw [if_pos c41] at hf
          refine lv_iload_n hx hb dX8_readsCalendar_49 rfl (lv_at hl 4 rfl) ?_
          have hq0 := Option.some.inj hf
          obtain ⟨eq0, hq1⟩ := Prod.mk.inj hq0
          obtain ⟨eq1, hq2⟩ := Prod.mk.inj hq1
          clear hf hq0 hq1
          subst eq0
          subst eq1
          subst hq2
          exact W.iret hx hb hr (fun t ht hW => ⟨⟨_, (), rfl, rfl, by rw [ht]; exact hP, va_K.moved hW.alike hK, hD⟩, hS.F ht⟩) hS.2.2 dX8_readsCalendar_50
        · rw [if_neg c41] at hf
          refine lv_iload_n hx hb dX8_readsCalendar_44 rfl (lv_at hl 1 rfl) ?_
          refine lv_iconst (v := (-1)) hx hb dX8_readsCalendar_45 (by decide) ?_
          refine lv_icmp_ne (tgt := 51) hx hb dX8_readsCalendar_46 (by decide) (fun c46 => ?_) (fun c46 => ?_)
          · rw [if_neg c46] at hf
            refine lv_iload hx hb dX8_readsCalendar_51 (lv_at hl 0 rfl) ?_
            refine lv_iconst (v := (-1)) hx hb dX8_readsCalendar_53 (by decide) ?_
            refine lv_icmp_eq (tgt := 64) hx hb dX8_readsCalendar_54 (by decide) (fun c54 => ?_) (fun c54 => ?_)
            · rw [if_pos c54] at hf
              refine lv_iload_n hx hb dX8_readsCalendar_64 rfl (lv_at hl 4 rfl) ?_
              refine lv_iconst (v := 1) hx hb dX8_readsCalendar_65 (by decide) ?_
              refine lv_iadd hx hb dX8_readsCalendar_66 ?_
              have hq0 := Option.some.inj hf
              obtain ⟨eq0, hq1⟩ := Prod.mk.inj hq0
              obtain ⟨eq1, hq2⟩ := Prod.mk.inj hq1
              clear hf hq0 hq1
              subst eq0
              subst eq1
              subst hq2
              exact W.iret hx hb hr (fun t ht hW => ⟨⟨_, (), rfl, rfl, by rw [ht]; exact hP, va_K.moved hW.alike hK, hD⟩, hS.F ht⟩) hS.2.2 dX8_readsCalendar_67
            · rw [if_neg c54] at hf
              refine lv_iload_n hx hb dX8_readsCalendar_57 rfl (lv_at hl 1 rfl) ?_
              refine lv_iload hx hb dX8_readsCalendar_58 (lv_at hl 0 rfl) ?_
              refine lv_iadd hx hb dX8_readsCalendar_60 ?_
              refine lv_if_ne (tgt := 68) hx hb dX8_readsCalendar_61 (by decide) (fun c61 => ?_) (fun c61 => ?_)
              · rw [if_neg c61] at hf
                refine lv_aload_n hx hb dX8_readsCalendar_68 rfl (lv_at hl 2 rfl) ?_
                refine va_get (D := (dC, dI)) (ci := 7) (v := .ref h_t_longs) (C := RX8) (T := TX8) (N := 24) hx hb hts hinX8 hown hK hP 0 rfl rfl 8 (by decide) (hts (.fieldLink RX8 28 "SecondSunriseModel" "longs" "[I") (by decide +kernel)) (fun _ h9 => h9) rfl dX8_readsCalendar_69 ?_
                refine lv_iload_n hx hb dX8_readsCalendar_72 rfl (lv_at hl 3 rfl) ?_
                refine lv_bipush (v := 10) hx hb dX8_readsCalendar_73 (by decide) ?_
                refine lv_iload_n hx hb dX8_readsCalendar_75 rfl (lv_at hl 1 rfl) ?_
                refine lv_imul hx hb dX8_readsCalendar_76 ?_
                refine lv_iload hx hb dX8_readsCalendar_77 (lv_at hl 0 rfl) ?_
                refine lv_iadd hx hb dX8_readsCalendar_79 ?_
                obtain ⟨hi_7, hf⟩ := ix_e hf
                refine va_iast hx hb hK hP hD hS 3 0 rfl rfl hi_7 dX8_readsCalendar_80 (fun H locs hP hD hS => ?_)
                have hP : va_P (dC, dI) vwCl (wd_X8_readsCalendar cI cZ cP cS h_t h_t_turns h_t_phases h_t_ups h_t_typed h_t_texts h_t_diary h_t_longs h_t_awakes h_t_fit h_t_counts h_t_worths h_t_ripes h_t_growths h_t_gains h_t_isThere h_t_forms h_t_sizes h_t_items h_t_moved v_m_hours 0 v_m_fitMany v_m_fitFirst v_m_finding v_m_typed v_m_texts (upd w9_m_longs y9_1.toNatClampNeg ((10 * r25_1) + r33_4))) H := hP
                have hD : va_D (va_A (wd_X8_readsCalendar cI cZ cP cS h_t h_t_turns h_t_phases h_t_ups h_t_typed h_t_texts h_t_diary h_t_longs h_t_awakes h_t_fit h_t_counts h_t_worths h_t_ripes h_t_growths h_t_gains h_t_isThere h_t_forms h_t_sizes h_t_items h_t_moved v_m_hours v_m_months v_m_fitMany v_m_fitFirst v_m_finding v_m_typed v_m_texts v_m_longs) s.heap.size) (wd_X8_readsCalendar cI cZ cP cS h_t h_t_turns h_t_phases h_t_ups h_t_typed h_t_texts h_t_diary h_t_longs h_t_awakes h_t_fit h_t_counts h_t_worths h_t_ripes h_t_growths h_t_gains h_t_isThere h_t_forms h_t_sizes h_t_items h_t_moved v_m_hours 0 v_m_fitMany v_m_fitFirst v_m_finding v_m_typed v_m_texts (upd w9_m_longs y9_1.toNatClampNeg ((10 * r25_1) + r33_4))) := hD
                refine lv_iinc (v := (y9_1 + 1)) (lv' := [(1, .int (y9_1 + 1)), (4, .int r33_4), (3, .int r25_1), (0, .ref h_t), (2, .int y9_2)]) hx hb dX8_readsCalendar_81 hl (k := 3) rfl rfl (by decide) rfl (fun ls hl => ?_)
                refine lv_iinc (v := (y9_2 + 2)) (lv' := [(2, .int (y9_2 + 2)), (1, .int (y9_1 + 1)), (4, .int r33_4), (3, .int r25_1), (0, .ref h_t)]) hx hb dX8_readsCalendar_84 hl (k := 4) rfl rfl (by decide) rfl (fun ls hl => ?_)
                refine lv_iload_n hx hb dX8_readsCalendar_87 rfl (lv_at hl 0 rfl) ?_
                refine lv_aload_n hx hb dX8_readsCalendar_88 rfl (lv_at hl 4 rfl) ?_
                refine va_get (D := (dC, dI)) (ci := 7) (v := .ref h_t_typed) (C := RX8) (T := TX8) (N := 24) hx hb hts hinX8 hown hK hP 0 rfl rfl 3 (by decide) (hts (.fieldLink RX8 19 "SecondSunriseModel" "typed" "[I") (by decide +kernel)) (fun _ h9 => h9) rfl dX8_readsCalendar_89 ?_
                refine lv_iconst (v := 1) hx hb dX8_readsCalendar_92 (by decide) ?_
                refine va_iald hx hb hK hP 1 0 rfl rfl (show vp_in 1 2 by unfold vp_in; decide) dX8_readsCalendar_93 ?_
                refine lv_icmp_ne (tgt := 104) hx hb dX8_readsCalendar_94 (by decide) (fun c94 => ?_) (fun c94 => ?_)
                · rw [if_neg c94] at hf
                  refine lv_aload_n hx hb dX8_readsCalendar_104 rfl (lv_at hl 4 rfl) ?_
                  refine va_get (D := (dC, dI)) (ci := 7) (v := .ref h_t_texts) (C := RX8) (T := TX8) (N := 24) hx hb hts hinX8 hown hK hP 0 rfl rfl 4 (by decide) (hts (.fieldLink RX8 22 "SecondSunriseModel" "texts" "[I") (by decide +kernel)) (fun _ h9 => h9) rfl dX8_readsCalendar_105 ?_
                  refine lv_bipush (v := 60) hx hb dX8_readsCalendar_108 (by decide) ?_
                  refine lv_iload_n hx hb dX8_readsCalendar_110 rfl (lv_at hl 0 rfl) ?_
                  refine lv_iadd hx hb dX8_readsCalendar_111 ?_
                  obtain ⟨hi_8, hf⟩ := ix_e hf
                  refine va_iald hx hb hK hP 2 0 rfl rfl hi_8 dX8_readsCalendar_112 ?_
                  refine lv_bipush (v := 59) hx hb dX8_readsCalendar_113 (by decide) ?_
                  refine lv_icmp_eq (tgt := 120) hx hb dX8_readsCalendar_115 (by decide) (fun c115 => ?_) (fun c115 => ?_)
                  · rw [if_pos c115] at hf
                    refine lv_iinc (v := ((y9_2 + 2) + 1)) (lv' := [(2, .int ((y9_2 + 2) + 1)), (1, .int (y9_1 + 1)), (4, .int r33_4), (3, .int r25_1), (0, .ref h_t)]) hx hb dX8_readsCalendar_120 hl (k := 0) rfl rfl (by decide) rfl (fun ls hl => ?_)
                    refine lv_goto (tgt := 9) hx hb dX8_readsCalendar_123 (by decide) ?_
                    exact ih (y9_1 + 1) ((y9_2 + 2) + 1) (upd w9_m_longs y9_1.toNatClampNeg ((10 * r25_1) + r33_4)) H locs ls (lv_sub hl [4, 1, 0] rfl) hP hD hS hf
                  · rw [if_neg c115] at hf
                    refine lv_iload_n hx hb dX8_readsCalendar_118 rfl (lv_at hl 0 rfl) ?_
                    have hq0 := Option.some.inj hf
                    obtain ⟨eq0, hq1⟩ := Prod.mk.inj hq0
                    obtain ⟨eq1, hq2⟩ := Prod.mk.inj hq1
                    clear hf hq0 hq1
                    subst eq0
                    subst eq1
                    subst hq2
                    exact W.iret hx hb hr (fun t ht hW => ⟨⟨_, (), rfl, rfl, by rw [ht]; exact hP, va_K.moved hW.alike hK, hD⟩, hS.F ht⟩) hS.2.2 dX8_readsCalendar_119
                · rw [if_pos c94] at hf
                  refine lv_aload_n hx hb dX8_readsCalendar_97 rfl (lv_at hl 4 rfl) ?_
                  refine lv_iload_n hx hb dX8_readsCalendar_98 rfl (lv_at hl 1 rfl) ?_
                  refine va_put (D := (dC, dI)) (ci := 7) (v := .int (y9_1 + 1)) (ty := .int) (C := RX8) (T := TX8) (N := 24) hx hb hts hinX8 tyX8 tyX8_ok nmX8 hown hK hP hD hS 0 rfl rfl 7 (by decide) (hts (.fieldLink RX8 83 "SecondSunriseModel" "months" "I") (by decide +kernel)) (fun _ h9 => h9) rfl (by decide +kernel) rfl rfl (Nat.le_of_ble_eq_true rfl) dX8_readsCalendar_99 (fun H locs hP hD hS => ?_)
                  have hP : va_P (dC, dI) vwCl (wd_X8_readsCalendar cI cZ cP cS h_t h_t_turns h_t_phases h_t_ups h_t_typed h_t_texts h_t_diary h_t_longs h_t_awakes h_t_fit h_t_counts h_t_worths h_t_ripes h_t_growths h_t_gains h_t_isThere h_t_forms h_t_sizes h_t_items h_t_moved v_m_hours (y9_1 + 1) v_m_fitMany v_m_fitFirst v_m_finding v_m_typed v_m_texts (upd w9_m_longs y9_1.toNatClampNeg ((10 * r25_1) + r33_4))) H := hP
                  have hD : va_D (va_A (wd_X8_readsCalendar cI cZ cP cS h_t h_t_turns h_t_phases h_t_ups h_t_typed h_t_texts h_t_diary h_t_longs h_t_awakes h_t_fit h_t_counts h_t_worths h_t_ripes h_t_growths h_t_gains h_t_isThere h_t_forms h_t_sizes h_t_items h_t_moved v_m_hours v_m_months v_m_fitMany v_m_fitFirst v_m_finding v_m_typed v_m_texts v_m_longs) s.heap.size) (wd_X8_readsCalendar cI cZ cP cS h_t h_t_turns h_t_phases h_t_ups h_t_typed h_t_texts h_t_diary h_t_longs h_t_awakes h_t_fit h_t_counts h_t_worths h_t_ripes h_t_growths h_t_gains h_t_isThere h_t_forms h_t_sizes h_t_items h_t_moved v_m_hours (y9_1 + 1) v_m_fitMany v_m_fitFirst v_m_finding v_m_typed v_m_texts (upd w9_m_longs y9_1.toNatClampNeg ((10 * r25_1) + r33_4))) := hD
                  refine lv_iconst (v := (-1)) hx hb dX8_readsCalendar_102 (by decide) ?_
                  have hq0 := Option.some.inj hf
                  obtain ⟨eq0, hq1⟩ := Prod.mk.inj hq0
                  obtain ⟨eq1, hq2⟩ := Prod.mk.inj hq1
                  clear hf hq0 hq1
                  subst eq0
                  subst eq1
                  subst hq2
                  exact W.iret hx hb hr (fun t ht hW => ⟨⟨_, (), rfl, rfl, by rw [ht]; exact hP, va_K.moved hW.alike hK, hD⟩, hS.F ht⟩) hS.2.2 dX8_readsCalendar_103
              · rw [if_pos c61] at hf
                refine lv_iload_n hx hb dX8_readsCalendar_64 rfl (lv_at hl 4 rfl) ?_
                refine lv_iconst (v := 1) hx hb dX8_readsCalendar_65 (by decide) ?_
                refine lv_iadd hx hb dX8_readsCalendar_66 ?_
                have hq0 := Option.some.inj hf
                obtain ⟨eq0, hq1⟩ := Prod.mk.inj hq0
                obtain ⟨eq1, hq2⟩ := Prod.mk.inj hq1
                clear hf hq0 hq1
                subst eq0
                subst eq1
                subst hq2
                exact W.iret hx hb hr (fun t ht hW => ⟨⟨_, (), rfl, rfl, by rw [ht]; exact hP, va_K.moved hW.alike hK, hD⟩, hS.F ht⟩) hS.2.2 dX8_readsCalendar_67
          · rw [if_pos c46] at hf
            refine lv_iload_n hx hb dX8_readsCalendar_49 rfl (lv_at hl 4 rfl) ?_
            have hq0 := Option.some.inj hf
            obtain ⟨eq0, hq1⟩ := Prod.mk.inj hq0
            obtain ⟨eq1, hq2⟩ := Prod.mk.inj hq1
            clear hf hq0 hq1
            subst eq0
            subst eq1
            subst hq2
            exact W.iret hx hb hr (fun t ht hW => ⟨⟨_, (), rfl, rfl, by rw [ht]; exact hP, va_K.moved hW.alike hK, hD⟩, hS.F ht⟩) hS.2.2 dX8_readsCalendar_50
      refine lv_icmp_lt (tgt := 23) hx hb dX8_readsCalendar_16 (by decide) (fun c16 => ?_) (fun c16 => ?_)
      · rw [if_pos c16] at hf
        exact hj23 ls (lv_sub hl [0, 1, 2] rfl) hf
      · rw [if_neg c16] at hf
        refine lv_iload_n hx hb dX8_readsCalendar_19 rfl (lv_at hl 2 rfl) ?_
        refine lv_if_le (tgt := 126) hx hb dX8_readsCalendar_20 (by decide) (fun c20 => ?_) (fun c20 => ?_)
        · rw [if_pos c20] at hf
          exact hx9 w9_m_longs H locs ls (lv_sub hl [] rfl) hP hD hS hf
        · rw [if_neg c20] at hf
          exact hj23 ls (lv_sub hl [0, 1, 2] rfl) hf
  exact hL9 n 0 0 v_m_longs H locs ls (lv_sub hl [2, 1, 0] rfl) hP hD hS hf

abbrev wd_X8_readsDiary (cI cZ cP cS : ClassId) (h_t h_t_turns h_t_phases h_t_ups h_t_typed h_t_texts h_t_diary h_t_longs h_t_awakes h_t_fit h_t_counts h_t_worths h_t_ripes h_t_growths h_t_gains h_t_isThere h_t_forms h_t_sizes h_t_items h_t_moved : Nat) (v_m_hours : Int32) (v_m_months : Int32) (v_m_fitMany : Int32) (v_m_fitFirst : Int32) (v_m_finding : Int32) (v_m_typed : Nat → Int32) (v_m_texts : Nat → Int32) (v_m_diary : Nat → Int32) : va_W := [(h_t, .inr (7, [.ref h_t_turns, .ref h_t_phases, .ref h_t_ups, .ref h_t_typed, .ref h_t_texts, .int v_m_hours, .ref h_t_diary, .int v_m_months, .ref h_t_longs, .ref h_t_awakes, .ref h_t_fit, .int v_m_fitMany, .int v_m_fitFirst, .ref h_t_counts, .ref h_t_worths, .ref h_t_ripes, .ref h_t_growths, .ref h_t_gains, .ref h_t_isThere, .ref h_t_forms, .ref h_t_sizes, .ref h_t_items, .ref h_t_moved, .int v_m_finding])), (h_t_typed, .inl (cI, 2, .inl v_m_typed)), (h_t_texts, .inl (cI, 120, .inl v_m_texts)), (h_t_diary, .inl (cI, 60, .inl v_m_diary))]
abbrev rm_X8_readsDiary : Room := { frames := 0, cells := 0, slots := 0, locals := 0 }
def L_X8_readsDiary_7 (v_m_typed : Nat → Int32) (v_m_texts : Nat → Int32) (kx7 : (Nat → Int32) → Option (Int32 × Int32 × (Nat → Int32))) : Nat → Int32 → (Nat → Int32) → Option (Int32 × Int32 × (Nat → Int32))
  | 0, _, _ => none
  | k7 + 1, y7_1, w7_m_diary => if (v_m_typed (0 : Int32).toNatClampNeg) ≤ y7_1 then kx7 w7_m_diary else ix_ y7_1 120 (jn0_ (jn1_ (fun (q102_0 : Int32) => ix_ y7_1 60 (L_X8_readsDiary_7 v_m_typed v_m_texts kx7 k7 (y7_1 + 1) (upd w7_m_diary y7_1.toNatClampNeg q102_0))) (fun k102 => if (v_m_texts y7_1.toNatClampNeg) = 110 then k102 0 else if (v_m_texts y7_1.toNatClampNeg) = 114 then k102 1 else if (v_m_texts y7_1.toNatClampNeg) = 98 then k102 2 else if (v_m_texts y7_1.toNatClampNeg) = 100 then k102 3 else k102 (-1))) (fun k56 => if (v_m_texts y7_1.toNatClampNeg) = 110 then k56 else if (v_m_texts y7_1.toNatClampNeg) = 114 then k56 else if (v_m_texts y7_1.toNatClampNeg) = 98 then k56 else if (v_m_texts y7_1.toNatClampNeg) = 100 then k56 else if (v_m_texts y7_1.toNatClampNeg) = 46 then k56 else some (y7_1, 0, w7_m_diary)))
theorem L_X8_readsDiary_7_s (v_m_typed : Nat → Int32) (v_m_texts : Nat → Int32) (kx7 : (Nat → Int32) → Option (Int32 × Int32 × (Nat → Int32))) (k7 : Nat) (y7_1 : Int32) (w7_m_diary : Nat → Int32) : L_X8_readsDiary_7 v_m_typed v_m_texts kx7 (k7 + 1) y7_1 w7_m_diary = if (v_m_typed (0 : Int32).toNatClampNeg) ≤ y7_1 then kx7 w7_m_diary else ix_ y7_1 120 (jn0_ (jn1_ (fun (q102_0 : Int32) => ix_ y7_1 60 (L_X8_readsDiary_7 v_m_typed v_m_texts kx7 k7 (y7_1 + 1) (upd w7_m_diary y7_1.toNatClampNeg q102_0))) (fun k102 => if (v_m_texts y7_1.toNatClampNeg) = 110 then k102 0 else if (v_m_texts y7_1.toNatClampNeg) = 114 then k102 1 else if (v_m_texts y7_1.toNatClampNeg) = 98 then k102 2 else if (v_m_texts y7_1.toNatClampNeg) = 100 then k102 3 else k102 (-1))) (fun k56 => if (v_m_texts y7_1.toNatClampNeg) = 110 then k56 else if (v_m_texts y7_1.toNatClampNeg) = 114 then k56 else if (v_m_texts y7_1.toNatClampNeg) = 98 then k56 else if (v_m_texts y7_1.toNatClampNeg) = 100 then k56 else if (v_m_texts y7_1.toNatClampNeg) = 46 then k56 else some (y7_1, 0, w7_m_diary))) := rfl
def f_X8_readsDiary (n : Nat) (v_m_hours : Int32) (v_m_typed : Nat → Int32) (v_m_texts : Nat → Int32) (v_m_diary : Nat → Int32) : Option (Int32 × Int32 × (Nat → Int32)) := jn1_ (fun (u7_m_diary : Nat → Int32) => some ((-1), (v_m_typed (0 : Int32).toNatClampNeg), u7_m_diary)) (fun kx7 => L_X8_readsDiary_7 v_m_typed v_m_texts kx7 n 0 v_m_diary)
set_option maxHeartbeats 4000000 in
set_option maxRecDepth 100000 in
theorem c_X8_readsDiary (l : Launch) (dC : Nat → ClassId) (dI : Nat → Nat → Nat) (cI cZ cP cS : ClassId) (sz : Nat) (h_t h_t_turns h_t_phases h_t_ups h_t_typed h_t_texts h_t_diary h_t_longs h_t_awakes h_t_fit h_t_counts h_t_worths h_t_ripes h_t_growths h_t_gains h_t_isThere h_t_forms h_t_sizes h_t_items h_t_moved : Nat) (v_m_hours : Int32) (v_m_months : Int32) (v_m_fitMany : Int32) (v_m_fitFirst : Int32) (v_m_finding : Int32) (v_m_typed : Nat → Int32) (v_m_texts : Nat → Int32) (v_m_diary : Nat → Int32) (n : Nat) (r : Int32) (o_m_hours : Int32) (o_m_diary : Nat → Int32) (hf : f_X8_readsDiary n v_m_hours v_m_typed v_m_texts v_m_diary = some (r, o_m_hours, o_m_diary)) : Met l yX8_readsDiary wsX8_readsDiary rm_X8_readsDiary (RW (dC, dI) (TY cI cZ cP cS) [.ref h_t] sz (wd_X8_readsDiary cI cZ cP cS h_t h_t_turns h_t_phases h_t_ups h_t_typed h_t_texts h_t_diary h_t_longs h_t_awakes h_t_fit h_t_counts h_t_worths h_t_ripes h_t_growths h_t_gains h_t_isThere h_t_forms h_t_sizes h_t_items h_t_moved v_m_hours v_m_months v_m_fitMany v_m_fitFirst v_m_finding v_m_typed v_m_texts v_m_diary)) (RWi (dC, dI) (TY cI cZ cP cS) r sz (wd_X8_readsDiary cI cZ cP cS h_t h_t_turns h_t_phases h_t_ups h_t_typed h_t_texts h_t_diary h_t_longs h_t_awakes h_t_fit h_t_counts h_t_worths h_t_ripes h_t_growths h_t_gains h_t_isThere h_t_forms h_t_sizes h_t_items h_t_moved v_m_hours v_m_months v_m_fitMany v_m_fitFirst v_m_finding v_m_typed v_m_texts v_m_diary) (wd_X8_readsDiary cI cZ cP cS h_t h_t_turns h_t_phases h_t_ups h_t_typed h_t_texts h_t_diary h_t_longs h_t_awakes h_t_fit h_t_counts h_t_worths h_t_ripes h_t_growths h_t_gains h_t_isThere h_t_forms h_t_sizes h_t_items h_t_moved o_m_hours v_m_months v_m_fitMany v_m_fitFirst v_m_finding v_m_typed v_m_texts o_m_diary)) 0 0 (va_A (wd_X8_readsDiary cI cZ cP cS h_t h_t_turns h_t_phases h_t_ups h_t_typed h_t_texts h_t_diary h_t_longs h_t_awakes h_t_fit h_t_counts h_t_worths h_t_ripes h_t_growths h_t_gains h_t_isThere h_t_forms h_t_sizes h_t_items h_t_moved v_m_hours v_m_months v_m_fitMany v_m_fitFirst v_m_finding v_m_typed v_m_texts v_m_diary) sz) := by
  refine Met.ofW (cc := cX8_readsDiary) (maxL := 3) (ret := (some .int)) (by decide) rfl ?_
  intro p e s m args below meth c s₁ B hml hv
  obtain ⟨rfl, hsz, hP, hK, hD0⟩ := hv
  have hx := B.exec
  have hb := B.bytes
  have hr := B.returns
  have hts := atoms_spec (ws := wsX8_readsDiary) B.pre
  have hown : s.vm.findClass RX8 = some m.cls := findClass_of_methodNamed B.named
  have hlocks := B.notSynchronized
  subst hsz
  have hD := hD0.self (sz := s.heap.size)
  have hA : ∀ q : Nat, s.heap.size ≤ q → (va_A (wd_X8_readsDiary cI cZ cP cS h_t h_t_turns h_t_phases h_t_ups h_t_typed h_t_texts h_t_diary h_t_longs h_t_awakes h_t_fit h_t_counts h_t_worths h_t_ripes h_t_growths h_t_gains h_t_isThere h_t_forms h_t_sizes h_t_items h_t_moved v_m_hours v_m_months v_m_fitMany v_m_fitFirst v_m_finding v_m_typed v_m_texts v_m_diary) s.heap.size) q := fun q h => Or.inr h
  have hS : va_S (va_A (wd_X8_readsDiary cI cZ cP cS h_t h_t_turns h_t_phases h_t_ups h_t_typed h_t_texts h_t_diary h_t_longs h_t_awakes h_t_fit h_t_counts h_t_worths h_t_ripes h_t_growths h_t_gains h_t_isThere h_t_forms h_t_sizes h_t_items h_t_moved v_m_hours v_m_months v_m_fitMany v_m_fitFirst v_m_finding v_m_typed v_m_texts v_m_diary) s.heap.size) s.heap s.heap [] := va_S.rf
  have hinX8 : ∀ w ∈ wsX80, w ∈ wsX8_readsDiary := by decide +kernel
  have hl := lv_entry ([.ref h_t]) (n := 3) (Nat.le_of_ble_eq_true rfl)
  rw [lg_entry_eq]
  generalize (lg_sl ([.ref h_t]) ++ List.replicate (3 - (lg_sl ([.ref h_t])).length) Slot.unset).toArray = ls at hl ⊢
  have hl : lv_has ls 3 [(0, .ref h_t)] := hl
  obtain ⟨H, hH⟩ : ∃ H : Heap, H = s.heap := ⟨_, rfl⟩
  have hP : va_P (dC, dI) vwCl (wd_X8_readsDiary cI cZ cP cS h_t h_t_turns h_t_phases h_t_ups h_t_typed h_t_texts h_t_diary h_t_longs h_t_awakes h_t_fit h_t_counts h_t_worths h_t_ripes h_t_growths h_t_gains h_t_isThere h_t_forms h_t_sizes h_t_items h_t_moved v_m_hours v_m_months v_m_fitMany v_m_fitFirst v_m_finding v_m_typed v_m_texts v_m_diary) H := by rw [hH]; exact hP
  have hS : va_S (va_A (wd_X8_readsDiary cI cZ cP cS h_t h_t_turns h_t_phases h_t_ups h_t_typed h_t_texts h_t_diary h_t_longs h_t_awakes h_t_fit h_t_counts h_t_worths h_t_ripes h_t_growths h_t_gains h_t_isThere h_t_forms h_t_sizes h_t_items h_t_moved v_m_hours v_m_months v_m_fitMany v_m_fitFirst v_m_finding v_m_typed v_m_texts v_m_diary) s.heap.size) s.heap H [] := by rw [hH]; exact hS
  obtain ⟨locs, hlo⟩ : ∃ L : List Loc, L = [] := ⟨_, rfl⟩
  rw [← hlo] at hS
  suffices hgo : W p l e (headSpec wsX8_readsDiary rm_X8_readsDiary).room s m ([.ref h_t] : List Value).toArray below meth c H locs 0 0 (MQ below (RWi (dC, dI) (TY cI cZ cP cS) r s.heap.size (wd_X8_readsDiary cI cZ cP cS h_t h_t_turns h_t_phases h_t_ups h_t_typed h_t_texts h_t_diary h_t_longs h_t_awakes h_t_fit h_t_counts h_t_worths h_t_ripes h_t_growths h_t_gains h_t_isThere h_t_forms h_t_sizes h_t_items h_t_moved v_m_hours v_m_months v_m_fitMany v_m_fitFirst v_m_finding v_m_typed v_m_texts v_m_diary) (wd_X8_readsDiary cI cZ cP cS h_t h_t_turns h_t_phases h_t_ups h_t_typed h_t_texts h_t_diary h_t_longs h_t_awakes h_t_fit h_t_counts h_t_worths h_t_ripes h_t_growths h_t_gains h_t_isThere h_t_forms h_t_sizes h_t_items h_t_moved o_m_hours v_m_months v_m_fitMany v_m_fitFirst v_m_finding v_m_typed v_m_texts o_m_diary)) ([.ref h_t] : List Value).toArray s 0 0 (va_A (wd_X8_readsDiary cI cZ cP cS h_t h_t_turns h_t_phases h_t_ups h_t_typed h_t_texts h_t_diary h_t_longs h_t_awakes h_t_fit h_t_counts h_t_worths h_t_ripes h_t_growths h_t_gains h_t_isThere h_t_forms h_t_sizes h_t_items h_t_moved v_m_hours v_m_months v_m_fitMany v_m_fitFirst v_m_finding v_m_typed v_m_texts v_m_diary) s.heap.size)) (F0 m 0 ls []) by rw [hH, hlo] at hgo; exact hgo
  clear hH hlo
  unfold f_X8_readsDiary at hf
  refine lv_aload_n hx hb dX8_readsDiary_0 rfl (lv_at hl 0 rfl) ?_
  refine lv_iconst (v := 0) hx hb dX8_readsDiary_1 (by decide) ?_
  refine va_put (D := (dC, dI)) (ci := 7) (v := .int 0) (ty := .int) (C := RX8) (T := TX8) (N := 24) hx hb hts hinX8 tyX8 tyX8_ok nmX8 hown hK hP hD hS 0 rfl rfl 5 (by decide) (hts (.fieldLink RX8 79 "SecondSunriseModel" "hours" "I") (by decide +kernel)) (fun _ h9 => h9) rfl (by decide +kernel) rfl rfl (Nat.le_of_ble_eq_true rfl) dX8_readsDiary_2 (fun H locs hP hD hS => ?_)
  have hP : va_P (dC, dI) vwCl (wd_X8_readsDiary cI cZ cP cS h_t h_t_turns h_t_phases h_t_ups h_t_typed h_t_texts h_t_diary h_t_longs h_t_awakes h_t_fit h_t_counts h_t_worths h_t_ripes h_t_growths h_t_gains h_t_isThere h_t_forms h_t_sizes h_t_items h_t_moved 0 v_m_months v_m_fitMany v_m_fitFirst v_m_finding v_m_typed v_m_texts v_m_diary) H := hP
  have hD : va_D (va_A (wd_X8_readsDiary cI cZ cP cS h_t h_t_turns h_t_phases h_t_ups h_t_typed h_t_texts h_t_diary h_t_longs h_t_awakes h_t_fit h_t_counts h_t_worths h_t_ripes h_t_growths h_t_gains h_t_isThere h_t_forms h_t_sizes h_t_items h_t_moved v_m_hours v_m_months v_m_fitMany v_m_fitFirst v_m_finding v_m_typed v_m_texts v_m_diary) s.heap.size) (wd_X8_readsDiary cI cZ cP cS h_t h_t_turns h_t_phases h_t_ups h_t_typed h_t_texts h_t_diary h_t_longs h_t_awakes h_t_fit h_t_counts h_t_worths h_t_ripes h_t_growths h_t_gains h_t_isThere h_t_forms h_t_sizes h_t_items h_t_moved 0 v_m_months v_m_fitMany v_m_fitFirst v_m_finding v_m_typed v_m_texts v_m_diary) := hD
  refine lv_iconst (v := 0) hx hb dX8_readsDiary_5 (by decide) ?_
  refine lv_istore_n (lv' := [(1, .int 0), (0, .ref h_t)]) hx hb dX8_readsDiary_6 rfl hl (by decide) rfl (fun ls hl => ?_)
  obtain ⟨kx7, ekx7, hf⟩ := jn1_e hf
  have hx7 : ∀ (u7_m_diary : Nat → Int32) (H : Heap) (locs : List Loc) (ls : Array Slot), lv_has ls 3 [(0, .ref h_t)] → va_P (dC, dI) vwCl (wd_X8_readsDiary cI cZ cP cS h_t h_t_turns h_t_phases h_t_ups h_t_typed h_t_texts h_t_diary h_t_longs h_t_awakes h_t_fit h_t_counts h_t_worths h_t_ripes h_t_growths h_t_gains h_t_isThere h_t_forms h_t_sizes h_t_items h_t_moved 0 v_m_months v_m_fitMany v_m_fitFirst v_m_finding v_m_typed v_m_texts u7_m_diary) H → va_D (va_A (wd_X8_readsDiary cI cZ cP cS h_t h_t_turns h_t_phases h_t_ups h_t_typed h_t_texts h_t_diary h_t_longs h_t_awakes h_t_fit h_t_counts h_t_worths h_t_ripes h_t_growths h_t_gains h_t_isThere h_t_forms h_t_sizes h_t_items h_t_moved v_m_hours v_m_months v_m_fitMany v_m_fitFirst v_m_finding v_m_typed v_m_texts v_m_diary) s.heap.size) (wd_X8_readsDiary cI cZ cP cS h_t h_t_turns h_t_phases h_t_ups h_t_typed h_t_texts h_t_diary h_t_longs h_t_awakes h_t_fit h_t_counts h_t_worths h_t_ripes h_t_growths h_t_gains h_t_isThere h_t_forms h_t_sizes h_t_items h_t_moved 0 v_m_months v_m_fitMany v_m_fitFirst v_m_finding v_m_typed v_m_texts u7_m_diary) → va_S (va_A (wd_X8_readsDiary cI cZ cP cS h_t h_t_turns h_t_phases h_t_ups h_t_typed h_t_texts h_t_diary h_t_longs h_t_awakes h_t_fit h_t_counts h_t_worths h_t_ripes h_t_growths h_t_gains h_t_isThere h_t_forms h_t_sizes h_t_items h_t_moved v_m_hours v_m_months v_m_fitMany v_m_fitFirst v_m_finding v_m_typed v_m_texts v_m_diary) s.heap.size) s.heap H locs → kx7 u7_m_diary = some (r, o_m_hours, o_m_diary) → W p l e (headSpec wsX8_readsDiary rm_X8_readsDiary).room s m ([.ref h_t] : List Value).toArray below meth c H locs 0 0 (MQ below (RWi (dC, dI) (TY cI cZ cP cS) r s.heap.size (wd_X8_readsDiary cI cZ cP cS h_t h_t_turns h_t_phases h_t_ups h_t_typed h_t_texts h_t_diary h_t_longs h_t_awakes h_t_fit h_t_counts h_t_worths h_t_ripes h_t_growths h_t_gains h_t_isThere h_t_forms h_t_sizes h_t_items h_t_moved v_m_hours v_m_months v_m_fitMany v_m_fitFirst v_m_finding v_m_typed v_m_texts v_m_diary) (wd_X8_readsDiary cI cZ cP cS h_t h_t_turns h_t_phases h_t_ups h_t_typed h_t_texts h_t_diary h_t_longs h_t_awakes h_t_fit h_t_counts h_t_worths h_t_ripes h_t_growths h_t_gains h_t_isThere h_t_forms h_t_sizes h_t_items h_t_moved o_m_hours v_m_months v_m_fitMany v_m_fitFirst v_m_finding v_m_typed v_m_texts o_m_diary)) ([.ref h_t] : List Value).toArray s 0 0 (va_A (wd_X8_readsDiary cI cZ cP cS h_t h_t_turns h_t_phases h_t_ups h_t_typed h_t_texts h_t_diary h_t_longs h_t_awakes h_t_fit h_t_counts h_t_worths h_t_ripes h_t_growths h_t_gains h_t_isThere h_t_forms h_t_sizes h_t_items h_t_moved v_m_hours v_m_months v_m_fitMany v_m_fitFirst v_m_finding v_m_typed v_m_texts v_m_diary) s.heap.size)) (F0 m 109 ls []) := by
    intro u7_m_diary H locs ls hl hP hD hS hf
    rw [ekx7] at hf
    refine lv_aload_n hx hb dX8_readsDiary_109 rfl (lv_at hl 0 rfl) ?_
    refine lv_aload_n hx hb dX8_readsDiary_110 rfl (lv_at hl 0 rfl) ?_
    refine va_get (D := (dC, dI)) (ci := 7) (v := .ref h_t_typed) (C := RX8) (T := TX8) (N := 24) hx hb hts hinX8 hown hK hP 0 rfl rfl 3 (by decide) (hts (.fieldLink RX8 19 "SecondSunriseModel" "typed" "[I") (by decide +kernel)) (fun _ h9 => h9) rfl dX8_readsDiary_111 ?_
    refine lv_iconst (v := 0) hx hb dX8_readsDiary_114 (by decide) ?_
    refine va_iald hx hb hK hP 1 0 rfl rfl (show vp_in 0 2 by unfold vp_in; decide) dX8_readsDiary_115 ?_
    refine va_put (D := (dC, dI)) (ci := 7) (v := .int (v_m_typed (0 : Int32).toNatClampNeg)) (ty := .int) (C := RX8) (T := TX8) (N := 24) hx hb hts hinX8 tyX8 tyX8_ok nmX8 hown hK hP hD hS 0 rfl rfl 5 (by decide) (hts (.fieldLink RX8 79 "SecondSunriseModel" "hours" "I") (by decide +kernel)) (fun _ h9 => h9) rfl (by decide +kernel) rfl rfl (Nat.le_of_ble_eq_true rfl) dX8_readsDiary_116 (fun H locs hP hD hS => ?_)
    have hP : va_P (dC, dI) vwCl (wd_X8_readsDiary cI cZ cP cS h_t h_t_turns h_t_phases h_t_ups h_t_typed h_t_texts h_t_diary h_t_longs h_t_awakes h_t_fit h_t_counts h_t_worths h_t_ripes h_t_growths h_t_gains h_t_isThere h_t_forms h_t_sizes h_t_items h_t_moved (v_m_typed (0 : Int32).toNatClampNeg) v_m_months v_m_fitMany v_m_fitFirst v_m_finding v_m_typed v_m_texts u7_m_diary) H := hP
    have hD : va_D (va_A (wd_X8_readsDiary cI cZ cP cS h_t h_t_turns h_t_phases h_t_ups h_t_typed h_t_texts h_t_diary h_t_longs h_t_awakes h_t_fit h_t_counts h_t_worths h_t_ripes h_t_growths h_t_gains h_t_isThere h_t_forms h_t_sizes h_t_items h_t_moved v_m_hours v_m_months v_m_fitMany v_m_fitFirst v_m_finding v_m_typed v_m_texts v_m_diary) s.heap.size) (wd_X8_readsDiary cI cZ cP cS h_t h_t_turns h_t_phases h_t_ups h_t_typed h_t_texts h_t_diary h_t_longs h_t_awakes h_t_fit h_t_counts h_t_worths h_t_ripes h_t_growths h_t_gains h_t_isThere h_t_forms h_t_sizes h_t_items h_t_moved (v_m_typed (0 : Int32).toNatClampNeg) v_m_months v_m_fitMany v_m_fitFirst v_m_finding v_m_typed v_m_texts u7_m_diary) := hD
    refine lv_iconst (v := (-1)) hx hb dX8_readsDiary_119 (by decide) ?_
    have hq0 := Option.some.inj hf
    obtain ⟨eq0, hq1⟩ := Prod.mk.inj hq0
    obtain ⟨eq1, hq2⟩ := Prod.mk.inj hq1
    clear hf hq0 hq1
    subst eq0
    subst eq1
    subst hq2
    exact W.iret hx hb hr (fun t ht hW => ⟨⟨_, (), rfl, rfl, by rw [ht]; exact hP, va_K.moved hW.alike hK, hD⟩, hS.F ht⟩) hS.2.2 dX8_readsDiary_120
  have hL7 : ∀ (k7 : Nat) (y7_1 : Int32) (w7_m_diary : Nat → Int32) (H : Heap) (locs : List Loc) (ls : Array Slot), lv_has ls 3 [(0, .ref h_t), (1, .int y7_1)] → va_P (dC, dI) vwCl (wd_X8_readsDiary cI cZ cP cS h_t h_t_turns h_t_phases h_t_ups h_t_typed h_t_texts h_t_diary h_t_longs h_t_awakes h_t_fit h_t_counts h_t_worths h_t_ripes h_t_growths h_t_gains h_t_isThere h_t_forms h_t_sizes h_t_items h_t_moved 0 v_m_months v_m_fitMany v_m_fitFirst v_m_finding v_m_typed v_m_texts w7_m_diary) H → va_D (va_A (wd_X8_readsDiary cI cZ cP cS h_t h_t_turns h_t_phases h_t_ups h_t_typed h_t_texts h_t_diary h_t_longs h_t_awakes h_t_fit h_t_counts h_t_worths h_t_ripes h_t_growths h_t_gains h_t_isThere h_t_forms h_t_sizes h_t_items h_t_moved v_m_hours v_m_months v_m_fitMany v_m_fitFirst v_m_finding v_m_typed v_m_texts v_m_diary) s.heap.size) (wd_X8_readsDiary cI cZ cP cS h_t h_t_turns h_t_phases h_t_ups h_t_typed h_t_texts h_t_diary h_t_longs h_t_awakes h_t_fit h_t_counts h_t_worths h_t_ripes h_t_growths h_t_gains h_t_isThere h_t_forms h_t_sizes h_t_items h_t_moved 0 v_m_months v_m_fitMany v_m_fitFirst v_m_finding v_m_typed v_m_texts w7_m_diary) → va_S (va_A (wd_X8_readsDiary cI cZ cP cS h_t h_t_turns h_t_phases h_t_ups h_t_typed h_t_texts h_t_diary h_t_longs h_t_awakes h_t_fit h_t_counts h_t_worths h_t_ripes h_t_growths h_t_gains h_t_isThere h_t_forms h_t_sizes h_t_items h_t_moved v_m_hours v_m_months v_m_fitMany v_m_fitFirst v_m_finding v_m_typed v_m_texts v_m_diary) s.heap.size) s.heap H locs → L_X8_readsDiary_7 v_m_typed v_m_texts kx7 k7 y7_1 w7_m_diary = some (r, o_m_hours, o_m_diary) → W p l e (headSpec wsX8_readsDiary rm_X8_readsDiary).room s m ([.ref h_t] : List Value).toArray below meth c H locs 0 0 (MQ below (RWi (dC, dI) (TY cI cZ cP cS) r s.heap.size (wd_X8_readsDiary cI cZ cP cS h_t h_t_turns h_t_phases h_t_ups h_t_typed h_t_texts h_t_diary h_t_longs h_t_awakes h_t_fit h_t_counts h_t_worths h_t_ripes h_t_growths h_t_gains h_t_isThere h_t_forms h_t_sizes h_t_items h_t_moved v_m_hours v_m_months v_m_fitMany v_m_fitFirst v_m_finding v_m_typed v_m_texts v_m_diary) (wd_X8_readsDiary cI cZ cP cS h_t h_t_turns h_t_phases h_t_ups h_t_typed h_t_texts h_t_diary h_t_longs h_t_awakes h_t_fit h_t_counts h_t_worths h_t_ripes h_t_growths h_t_gains h_t_isThere h_t_forms h_t_sizes h_t_items h_t_moved o_m_hours v_m_months v_m_fitMany v_m_fitFirst v_m_finding v_m_typed v_m_texts o_m_diary)) ([.ref h_t] : List Value).toArray s 0 0 (va_A (wd_X8_readsDiary cI cZ cP cS h_t h_t_turns h_t_phases h_t_ups h_t_typed h_t_texts h_t_diary h_t_longs h_t_awakes h_t_fit h_t_counts h_t_worths h_t_ripes h_t_growths h_t_gains h_t_isThere h_t_forms h_t_sizes h_t_items h_t_moved v_m_hours v_m_months v_m_fitMany v_m_fitFirst v_m_finding v_m_typed v_m_texts v_m_diary) s.heap.size)) (F0 m 7 ls []) := by
    intro k7
    induction k7 with
    | zero =>
      intro y7_1 w7_m_diary H locs ls hl hP hD hS hf
      exact absurd hf (fun h => Option.some_ne_none _ h.symm)
    | succ k7 ih =>
      intro y7_1 w7_m_diary H locs ls hl hP hD hS hf
      rw [L_X8_readsDiary_7_s] at hf
      refine lv_iload_n hx hb dX8_readsDiary_7 rfl (lv_at hl 1 rfl) ?_
      refine lv_aload_n hx hb dX8_readsDiary_8 rfl (lv_at hl 0 rfl) ?_
      refine va_get (D := (dC, dI)) (ci := 7) (v := .ref h_t_typed) (C := RX8) (T := TX8) (N := 24) hx hb hts hinX8 hown hK hP 0 rfl rfl 3 (by decide) (hts (.fieldLink RX8 19 "SecondSunriseModel" "typed" "[I") (by decide +kernel)) (fun _ h9 => h9) rfl dX8_readsDiary_9 ?_
      refine lv_iconst (v := 0) hx hb dX8_readsDiary_12 (by decide) ?_
      refine va_iald hx hb hK hP 1 0 rfl rfl (show vp_in 0 2 by unfold vp_in; decide) dX8_readsDiary_13 ?_
      refine lv_icmp_ge (tgt := 109) hx hb dX8_readsDiary_14 (by decide) (fun c14 => ?_) (fun c14 => ?_)
      · rw [if_pos c14] at hf
        exact hx7 w7_m_diary H locs ls (lv_sub hl [0] rfl) hP hD hS hf
      · rw [if_neg c14] at hf
        refine lv_aload_n hx hb dX8_readsDiary_17 rfl (lv_at hl 0 rfl) ?_
        refine va_get (D := (dC, dI)) (ci := 7) (v := .ref h_t_texts) (C := RX8) (T := TX8) (N := 24) hx hb hts hinX8 hown hK hP 0 rfl rfl 4 (by decide) (hts (.fieldLink RX8 22 "SecondSunriseModel" "texts" "[I") (by decide +kernel)) (fun _ h9 => h9) rfl dX8_readsDiary_18 ?_
        refine lv_iload_n hx hb dX8_readsDiary_21 rfl (lv_at hl 1 rfl) ?_
        obtain ⟨hi_1, hf⟩ := ix_e hf
        refine va_iald hx hb hK hP 2 0 rfl rfl hi_1 dX8_readsDiary_22 ?_
        refine lv_istore_n (lv' := [(2, .int (v_m_texts y7_1.toNatClampNeg)), (0, .ref h_t), (1, .int y7_1)]) hx hb dX8_readsDiary_23 rfl hl (by decide) rfl (fun ls hl => ?_)
        refine lv_iload_n hx hb dX8_readsDiary_24 rfl (lv_at hl 0 rfl) ?_
        refine lv_bipush (v := 110) hx hb dX8_readsDiary_25 (by decide) ?_
        obtain ⟨k56, ek56, hf⟩ := jn0_e hf
        have hj56 : ∀ (ls : Array Slot), lv_has ls 3 [(0, .ref h_t), (1, .int y7_1), (2, .int (v_m_texts y7_1.toNatClampNeg))] → k56 = some (r, o_m_hours, o_m_diary) → W p l e (headSpec wsX8_readsDiary rm_X8_readsDiary).room s m ([.ref h_t] : List Value).toArray below meth c H locs 0 0 (MQ below (RWi (dC, dI) (TY cI cZ cP cS) r s.heap.size (wd_X8_readsDiary cI cZ cP cS h_t h_t_turns h_t_phases h_t_ups h_t_typed h_t_texts h_t_diary h_t_longs h_t_awakes h_t_fit h_t_counts h_t_worths h_t_ripes h_t_growths h_t_gains h_t_isThere h_t_forms h_t_sizes h_t_items h_t_moved v_m_hours v_m_months v_m_fitMany v_m_fitFirst v_m_finding v_m_typed v_m_texts v_m_diary) (wd_X8_readsDiary cI cZ cP cS h_t h_t_turns h_t_phases h_t_ups h_t_typed h_t_texts h_t_diary h_t_longs h_t_awakes h_t_fit h_t_counts h_t_worths h_t_ripes h_t_growths h_t_gains h_t_isThere h_t_forms h_t_sizes h_t_items h_t_moved o_m_hours v_m_months v_m_fitMany v_m_fitFirst v_m_finding v_m_typed v_m_texts o_m_diary)) ([.ref h_t] : List Value).toArray s 0 0 (va_A (wd_X8_readsDiary cI cZ cP cS h_t h_t_turns h_t_phases h_t_ups h_t_typed h_t_texts h_t_diary h_t_longs h_t_awakes h_t_fit h_t_counts h_t_worths h_t_ripes h_t_growths h_t_gains h_t_isThere h_t_forms h_t_sizes h_t_items h_t_moved v_m_hours v_m_months v_m_fitMany v_m_fitFirst v_m_finding v_m_typed v_m_texts v_m_diary) s.heap.size)) (F0 m 56 ls []) := by
          intro ls hl hf
          rw [ek56] at hf
          refine lv_aload_n hx hb dX8_readsDiary_56 rfl (lv_at hl 0 rfl) ?_
          refine va_get (D := (dC, dI)) (ci := 7) (v := .ref h_t_diary) (C := RX8) (T := TX8) (N := 24) hx hb hts hinX8 hown hK hP 0 rfl rfl 6 (by decide) (hts (.fieldLink RX8 25 "SecondSunriseModel" "diary" "[I") (by decide +kernel)) (fun _ h9 => h9) rfl dX8_readsDiary_57 ?_
          refine lv_iload_n hx hb dX8_readsDiary_60 rfl (lv_at hl 1 rfl) ?_
          refine lv_iload_n hx hb dX8_readsDiary_61 rfl (lv_at hl 2 rfl) ?_
          refine lv_bipush (v := 110) hx hb dX8_readsDiary_62 (by decide) ?_
          obtain ⟨k102, ek102, hf⟩ := jn1_e hf
          have hj102 : ∀ (q102_0 : Int32) (ls : Array Slot), lv_has ls 3 [(0, .ref h_t), (1, .int y7_1)] → k102 q102_0 = some (r, o_m_hours, o_m_diary) → W p l e (headSpec wsX8_readsDiary rm_X8_readsDiary).room s m ([.ref h_t] : List Value).toArray below meth c H locs 0 0 (MQ below (RWi (dC, dI) (TY cI cZ cP cS) r s.heap.size (wd_X8_readsDiary cI cZ cP cS h_t h_t_turns h_t_phases h_t_ups h_t_typed h_t_texts h_t_diary h_t_longs h_t_awakes h_t_fit h_t_counts h_t_worths h_t_ripes h_t_growths h_t_gains h_t_isThere h_t_forms h_t_sizes h_t_items h_t_moved v_m_hours v_m_months v_m_fitMany v_m_fitFirst v_m_finding v_m_typed v_m_texts v_m_diary) (wd_X8_readsDiary cI cZ cP cS h_t h_t_turns h_t_phases h_t_ups h_t_typed h_t_texts h_t_diary h_t_longs h_t_awakes h_t_fit h_t_counts h_t_worths h_t_ripes h_t_growths h_t_gains h_t_isThere h_t_forms h_t_sizes h_t_items h_t_moved o_m_hours v_m_months v_m_fitMany v_m_fitFirst v_m_finding v_m_typed v_m_texts o_m_diary)) ([.ref h_t] : List Value).toArray s 0 0 (va_A (wd_X8_readsDiary cI cZ cP cS h_t h_t_turns h_t_phases h_t_ups h_t_typed h_t_texts h_t_diary h_t_longs h_t_awakes h_t_fit h_t_counts h_t_worths h_t_ripes h_t_growths h_t_gains h_t_isThere h_t_forms h_t_sizes h_t_items h_t_moved v_m_hours v_m_months v_m_fitMany v_m_fitFirst v_m_finding v_m_typed v_m_texts v_m_diary) s.heap.size)) (F0 m 102 ls [.int q102_0, .int y7_1, .ref h_t_diary]) := by
            intro q102_0 ls hl hf
            rw [ek102] at hf
            obtain ⟨hi_2, hf⟩ := ix_e hf
            refine va_iast hx hb hK hP hD hS 3 0 rfl rfl hi_2 dX8_readsDiary_102 (fun H locs hP hD hS => ?_)
            have hP : va_P (dC, dI) vwCl (wd_X8_readsDiary cI cZ cP cS h_t h_t_turns h_t_phases h_t_ups h_t_typed h_t_texts h_t_diary h_t_longs h_t_awakes h_t_fit h_t_counts h_t_worths h_t_ripes h_t_growths h_t_gains h_t_isThere h_t_forms h_t_sizes h_t_items h_t_moved 0 v_m_months v_m_fitMany v_m_fitFirst v_m_finding v_m_typed v_m_texts (upd w7_m_diary y7_1.toNatClampNeg q102_0)) H := hP
            have hD : va_D (va_A (wd_X8_readsDiary cI cZ cP cS h_t h_t_turns h_t_phases h_t_ups h_t_typed h_t_texts h_t_diary h_t_longs h_t_awakes h_t_fit h_t_counts h_t_worths h_t_ripes h_t_growths h_t_gains h_t_isThere h_t_forms h_t_sizes h_t_items h_t_moved v_m_hours v_m_months v_m_fitMany v_m_fitFirst v_m_finding v_m_typed v_m_texts v_m_diary) s.heap.size) (wd_X8_readsDiary cI cZ cP cS h_t h_t_turns h_t_phases h_t_ups h_t_typed h_t_texts h_t_diary h_t_longs h_t_awakes h_t_fit h_t_counts h_t_worths h_t_ripes h_t_growths h_t_gains h_t_isThere h_t_forms h_t_sizes h_t_items h_t_moved 0 v_m_months v_m_fitMany v_m_fitFirst v_m_finding v_m_typed v_m_texts (upd w7_m_diary y7_1.toNatClampNeg q102_0)) := hD
            refine lv_iinc (v := (y7_1 + 1)) (lv' := [(1, .int (y7_1 + 1)), (0, .ref h_t)]) hx hb dX8_readsDiary_103 hl (k := 1) rfl rfl (by decide) rfl (fun ls hl => ?_)
            refine lv_goto (tgt := 7) hx hb dX8_readsDiary_106 (by decide) ?_
            exact ih (y7_1 + 1) (upd w7_m_diary y7_1.toNatClampNeg q102_0) H locs ls (lv_sub hl [1, 0] rfl) hP hD hS hf
          refine lv_icmp_ne (tgt := 71) hx hb dX8_readsDiary_64 (by decide) (fun c64 => ?_) (fun c64 => ?_)
          · rw [if_neg c64] at hf
            refine lv_iload_n hx hb dX8_readsDiary_71 rfl (lv_at hl 2 rfl) ?_
            refine lv_bipush (v := 114) hx hb dX8_readsDiary_72 (by decide) ?_
            refine lv_icmp_ne (tgt := 81) hx hb dX8_readsDiary_74 (by decide) (fun c74 => ?_) (fun c74 => ?_)
            · rw [if_neg c74] at hf
              refine lv_iload_n hx hb dX8_readsDiary_81 rfl (lv_at hl 2 rfl) ?_
              refine lv_bipush (v := 98) hx hb dX8_readsDiary_82 (by decide) ?_
              refine lv_icmp_ne (tgt := 91) hx hb dX8_readsDiary_84 (by decide) (fun c84 => ?_) (fun c84 => ?_)
              · rw [if_neg c84] at hf
                refine lv_iload_n hx hb dX8_readsDiary_91 rfl (lv_at hl 2 rfl) ?_
                refine lv_bipush (v := 100) hx hb dX8_readsDiary_92 (by decide) ?_
                refine lv_icmp_ne (tgt := 101) hx hb dX8_readsDiary_94 (by decide) (fun c94 => ?_) (fun c94 => ?_)
                · rw [if_neg c94] at hf
                  refine lv_iconst (v := (-1)) hx hb dX8_readsDiary_101 (by decide) ?_
                  exact hj102 (-1) ls (lv_sub hl [0, 1] rfl) hf
                · rw [if_pos c94] at hf
                  refine lv_iconst (v := 3) hx hb dX8_readsDiary_97 (by decide) ?_
                  refine lv_goto (tgt := 102) hx hb dX8_readsDiary_98 (by decide) ?_
                  exact hj102 3 ls (lv_sub hl [0, 1] rfl) hf
              · rw [if_pos c84] at hf
                refine lv_iconst (v := 2) hx hb dX8_readsDiary_87 (by decide) ?_
                refine lv_goto (tgt := 102) hx hb dX8_readsDiary_88 (by decide) ?_
                exact hj102 2 ls (lv_sub hl [0, 1] rfl) hf
            · rw [if_pos c74] at hf
              refine lv_iconst (v := 1) hx hb dX8_readsDiary_77 (by decide) ?_
              refine lv_goto (tgt := 102) hx hb dX8_readsDiary_78 (by decide) ?_
              exact hj102 1 ls (lv_sub hl [0, 1] rfl) hf
          · rw [if_pos c64] at hf
            refine lv_iconst (v := 0) hx hb dX8_readsDiary_67 (by decide) ?_
            refine lv_goto (tgt := 102) hx hb dX8_readsDiary_68 (by decide) ?_
            exact hj102 0 ls (lv_sub hl [0, 1] rfl) hf
        refine lv_icmp_eq (tgt := 56) hx hb dX8_readsDiary_27 (by decide) (fun c27 => ?_) (fun c27 => ?_)
        · rw [if_pos c27] at hf
          exact hj56 ls (lv_sub hl [1, 2, 0] rfl) hf
        · rw [if_neg c27] at hf
          refine lv_iload_n hx hb dX8_readsDiary_30 rfl (lv_at hl 0 rfl) ?_
          refine lv_bipush (v := 114) hx hb dX8_readsDiary_31 (by decide) ?_
          refine lv_icmp_eq (tgt := 56) hx hb dX8_readsDiary_33 (by decide) (fun c33 => ?_) (fun c33 => ?_)
          · rw [if_pos c33] at hf
            exact hj56 ls (lv_sub hl [1, 2, 0] rfl) hf
          · rw [if_neg c33] at hf
            refine lv_iload_n hx hb dX8_readsDiary_36 rfl (lv_at hl 0 rfl) ?_
            refine lv_bipush (v := 98) hx hb dX8_readsDiary_37 (by decide) ?_
            refine lv_icmp_eq (tgt := 56) hx hb dX8_readsDiary_39 (by decide) (fun c39 => ?_) (fun c39 => ?_)
            · rw [if_pos c39] at hf
              exact hj56 ls (lv_sub hl [1, 2, 0] rfl) hf
            · rw [if_neg c39] at hf
              refine lv_iload_n hx hb dX8_readsDiary_42 rfl (lv_at hl 0 rfl) ?_
              refine lv_bipush (v := 100) hx hb dX8_readsDiary_43 (by decide) ?_
              refine lv_icmp_eq (tgt := 56) hx hb dX8_readsDiary_45 (by decide) (fun c45 => ?_) (fun c45 => ?_)
              · rw [if_pos c45] at hf
                exact hj56 ls (lv_sub hl [1, 2, 0] rfl) hf
              · rw [if_neg c45] at hf
                refine lv_iload_n hx hb dX8_readsDiary_48 rfl (lv_at hl 0 rfl) ?_
                refine lv_bipush (v := 46) hx hb dX8_readsDiary_49 (by decide) ?_
                refine lv_icmp_eq (tgt := 56) hx hb dX8_readsDiary_51 (by decide) (fun c51 => ?_) (fun c51 => ?_)
                · rw [if_pos c51] at hf
                  exact hj56 ls (lv_sub hl [1, 2, 0] rfl) hf
                · rw [if_neg c51] at hf
                  refine lv_iload_n hx hb dX8_readsDiary_54 rfl (lv_at hl 2 rfl) ?_
                  have hq0 := Option.some.inj hf
                  obtain ⟨eq0, hq1⟩ := Prod.mk.inj hq0
                  obtain ⟨eq1, hq2⟩ := Prod.mk.inj hq1
                  clear hf hq0 hq1
                  subst eq0
                  subst eq1
                  subst hq2
                  exact W.iret hx hb hr (fun t ht hW => ⟨⟨_, (), rfl, rfl, by rw [ht]; exact hP, va_K.moved hW.alike hK, hD⟩, hS.F ht⟩) hS.2.2 dX8_readsDiary_55
  exact hL7 n 0 v_m_diary H locs ls (lv_sub hl [1, 0] rfl) hP hD hS hf

abbrev wd_X8_faultOf (cI cZ cP cS : ClassId) (h_t h_t_turns h_t_phases h_t_ups h_t_typed h_t_texts h_t_diary h_t_longs h_t_awakes h_t_fit h_t_counts h_t_worths h_t_ripes h_t_growths h_t_gains h_t_isThere h_t_forms h_t_sizes h_t_items h_t_moved : Nat) (v_m_hours : Int32) (v_m_months : Int32) (v_m_fitMany : Int32) (v_m_fitFirst : Int32) (v_m_finding : Int32) (v_m_typed : Nat → Int32) (v_m_texts : Nat → Int32) (v_m_diary : Nat → Int32) (v_m_longs : Nat → Int32) : va_W := [(h_t, .inr (7, [.ref h_t_turns, .ref h_t_phases, .ref h_t_ups, .ref h_t_typed, .ref h_t_texts, .int v_m_hours, .ref h_t_diary, .int v_m_months, .ref h_t_longs, .ref h_t_awakes, .ref h_t_fit, .int v_m_fitMany, .int v_m_fitFirst, .ref h_t_counts, .ref h_t_worths, .ref h_t_ripes, .ref h_t_growths, .ref h_t_gains, .ref h_t_isThere, .ref h_t_forms, .ref h_t_sizes, .ref h_t_items, .ref h_t_moved, .int v_m_finding])), (h_t_typed, .inl (cI, 2, .inl v_m_typed)), (h_t_texts, .inl (cI, 120, .inl v_m_texts)), (h_t_diary, .inl (cI, 60, .inl v_m_diary)), (h_t_longs, .inl (cI, 7, .inl v_m_longs))]
abbrev rm_X8_faultOf : Room := { frames := 3, cells := 0, slots := 0, locals := 68 }
def f_X8_faultOf (n : Nat) (v_m_hours : Int32) (v_m_months : Int32) (v_m_typed : Nat → Int32) (v_m_texts : Nat → Int32) (v_m_diary : Nat → Int32) (v_m_longs : Nat → Int32) (x1 : Int32) : Option (Int32 × Int32 × Int32 × (Nat → Int32) × (Nat → Int32)) := bd3_ (f_X8_readsDiary n v_m_hours v_m_typed v_m_texts v_m_diary) (fun (r1_1 : Int32) (o1_2 : Int32) (o1_3 : Nat → Int32) => bd3_ (f_X8_readsCalendar n v_m_months v_m_typed v_m_texts v_m_longs) (fun (r6_6 : Int32) (o6_7 : Int32) (o6_8 : Nat → Int32) => if x1 = 0 then some (r1_1, o1_2, o6_7, o1_3, o6_8) else some (r6_6, o1_2, o6_7, o1_3, o6_8)))
set_option maxHeartbeats 4000000 in
set_option maxRecDepth 100000 in
theorem c_X8_faultOf (l : Launch) (dC : Nat → ClassId) (dI : Nat → Nat → Nat) (cI cZ cP cS : ClassId) (sz : Nat) (h_t h_t_turns h_t_phases h_t_ups h_t_typed h_t_texts h_t_diary h_t_longs h_t_awakes h_t_fit h_t_counts h_t_worths h_t_ripes h_t_growths h_t_gains h_t_isThere h_t_forms h_t_sizes h_t_items h_t_moved : Nat) (v_m_hours : Int32) (v_m_months : Int32) (v_m_fitMany : Int32) (v_m_fitFirst : Int32) (v_m_finding : Int32) (v_m_typed : Nat → Int32) (v_m_texts : Nat → Int32) (v_m_diary : Nat → Int32) (v_m_longs : Nat → Int32) (x1 : Int32) (n : Nat) (r : Int32) (o_m_hours : Int32) (o_m_months : Int32) (o_m_diary : Nat → Int32) (o_m_longs : Nat → Int32) (hf : f_X8_faultOf n v_m_hours v_m_months v_m_typed v_m_texts v_m_diary v_m_longs x1 = some (r, o_m_hours, o_m_months, o_m_diary, o_m_longs)) : Met l yX8_faultOf wsX8_faultOf rm_X8_faultOf (RW (dC, dI) (TY cI cZ cP cS) [.ref h_t, .int x1] sz (wd_X8_faultOf cI cZ cP cS h_t h_t_turns h_t_phases h_t_ups h_t_typed h_t_texts h_t_diary h_t_longs h_t_awakes h_t_fit h_t_counts h_t_worths h_t_ripes h_t_growths h_t_gains h_t_isThere h_t_forms h_t_sizes h_t_items h_t_moved v_m_hours v_m_months v_m_fitMany v_m_fitFirst v_m_finding v_m_typed v_m_texts v_m_diary v_m_longs)) (RWi (dC, dI) (TY cI cZ cP cS) r sz (wd_X8_faultOf cI cZ cP cS h_t h_t_turns h_t_phases h_t_ups h_t_typed h_t_texts h_t_diary h_t_longs h_t_awakes h_t_fit h_t_counts h_t_worths h_t_ripes h_t_growths h_t_gains h_t_isThere h_t_forms h_t_sizes h_t_items h_t_moved v_m_hours v_m_months v_m_fitMany v_m_fitFirst v_m_finding v_m_typed v_m_texts v_m_diary v_m_longs) (wd_X8_faultOf cI cZ cP cS h_t h_t_turns h_t_phases h_t_ups h_t_typed h_t_texts h_t_diary h_t_longs h_t_awakes h_t_fit h_t_counts h_t_worths h_t_ripes h_t_growths h_t_gains h_t_isThere h_t_forms h_t_sizes h_t_items h_t_moved o_m_hours o_m_months v_m_fitMany v_m_fitFirst v_m_finding v_m_typed v_m_texts o_m_diary o_m_longs)) 0 0 (va_A (wd_X8_faultOf cI cZ cP cS h_t h_t_turns h_t_phases h_t_ups h_t_typed h_t_texts h_t_diary h_t_longs h_t_awakes h_t_fit h_t_counts h_t_worths h_t_ripes h_t_growths h_t_gains h_t_isThere h_t_forms h_t_sizes h_t_items h_t_moved v_m_hours v_m_months v_m_fitMany v_m_fitFirst v_m_finding v_m_typed v_m_texts v_m_diary v_m_longs) sz) := by
  refine Met.ofW (cc := cX8_faultOf) (maxL := 4) (ret := (some .int)) (by decide) rfl ?_
  intro p e s m args below meth c s₁ B hml hv
  obtain ⟨rfl, hsz, hP, hK, hD0⟩ := hv
  have hx := B.exec
  have hb := B.bytes
  have hr := B.returns
  have hts := atoms_spec (ws := wsX8_faultOf) B.pre
  have hown : s.vm.findClass RX8 = some m.cls := findClass_of_methodNamed B.named
  have hlocks := B.notSynchronized
  subst hsz
  have hD := hD0.self (sz := s.heap.size)
  have hA : ∀ q : Nat, s.heap.size ≤ q → (va_A (wd_X8_faultOf cI cZ cP cS h_t h_t_turns h_t_phases h_t_ups h_t_typed h_t_texts h_t_diary h_t_longs h_t_awakes h_t_fit h_t_counts h_t_worths h_t_ripes h_t_growths h_t_gains h_t_isThere h_t_forms h_t_sizes h_t_items h_t_moved v_m_hours v_m_months v_m_fitMany v_m_fitFirst v_m_finding v_m_typed v_m_texts v_m_diary v_m_longs) s.heap.size) q := fun q h => Or.inr h
  have hS : va_S (va_A (wd_X8_faultOf cI cZ cP cS h_t h_t_turns h_t_phases h_t_ups h_t_typed h_t_texts h_t_diary h_t_longs h_t_awakes h_t_fit h_t_counts h_t_worths h_t_ripes h_t_growths h_t_gains h_t_isThere h_t_forms h_t_sizes h_t_items h_t_moved v_m_hours v_m_months v_m_fitMany v_m_fitFirst v_m_finding v_m_typed v_m_texts v_m_diary v_m_longs) s.heap.size) s.heap s.heap [] := va_S.rf
  have hl := lv_entry ([.ref h_t, .int x1]) (n := 4) (Nat.le_of_ble_eq_true rfl)
  rw [lg_entry_eq]
  generalize (lg_sl ([.ref h_t, .int x1]) ++ List.replicate (4 - (lg_sl ([.ref h_t, .int x1])).length) Slot.unset).toArray = ls at hl ⊢
  have hl : lv_has ls 4 [(0, .ref h_t), (1, .int x1)] := hl
  obtain ⟨H, hH⟩ : ∃ H : Heap, H = s.heap := ⟨_, rfl⟩
  have hP : va_P (dC, dI) vwCl (wd_X8_faultOf cI cZ cP cS h_t h_t_turns h_t_phases h_t_ups h_t_typed h_t_texts h_t_diary h_t_longs h_t_awakes h_t_fit h_t_counts h_t_worths h_t_ripes h_t_growths h_t_gains h_t_isThere h_t_forms h_t_sizes h_t_items h_t_moved v_m_hours v_m_months v_m_fitMany v_m_fitFirst v_m_finding v_m_typed v_m_texts v_m_diary v_m_longs) H := by rw [hH]; exact hP
  have hS : va_S (va_A (wd_X8_faultOf cI cZ cP cS h_t h_t_turns h_t_phases h_t_ups h_t_typed h_t_texts h_t_diary h_t_longs h_t_awakes h_t_fit h_t_counts h_t_worths h_t_ripes h_t_growths h_t_gains h_t_isThere h_t_forms h_t_sizes h_t_items h_t_moved v_m_hours v_m_months v_m_fitMany v_m_fitFirst v_m_finding v_m_typed v_m_texts v_m_diary v_m_longs) s.heap.size) s.heap H [] := by rw [hH]; exact hS
  obtain ⟨locs, hlo⟩ : ∃ L : List Loc, L = [] := ⟨_, rfl⟩
  rw [← hlo] at hS
  suffices hgo : W p l e (headSpec wsX8_faultOf rm_X8_faultOf).room s m ([.ref h_t, .int x1] : List Value).toArray below meth c H locs 0 0 (MQ below (RWi (dC, dI) (TY cI cZ cP cS) r s.heap.size (wd_X8_faultOf cI cZ cP cS h_t h_t_turns h_t_phases h_t_ups h_t_typed h_t_texts h_t_diary h_t_longs h_t_awakes h_t_fit h_t_counts h_t_worths h_t_ripes h_t_growths h_t_gains h_t_isThere h_t_forms h_t_sizes h_t_items h_t_moved v_m_hours v_m_months v_m_fitMany v_m_fitFirst v_m_finding v_m_typed v_m_texts v_m_diary v_m_longs) (wd_X8_faultOf cI cZ cP cS h_t h_t_turns h_t_phases h_t_ups h_t_typed h_t_texts h_t_diary h_t_longs h_t_awakes h_t_fit h_t_counts h_t_worths h_t_ripes h_t_growths h_t_gains h_t_isThere h_t_forms h_t_sizes h_t_items h_t_moved o_m_hours o_m_months v_m_fitMany v_m_fitFirst v_m_finding v_m_typed v_m_texts o_m_diary o_m_longs)) ([.ref h_t, .int x1] : List Value).toArray s 0 0 (va_A (wd_X8_faultOf cI cZ cP cS h_t h_t_turns h_t_phases h_t_ups h_t_typed h_t_texts h_t_diary h_t_longs h_t_awakes h_t_fit h_t_counts h_t_worths h_t_ripes h_t_growths h_t_gains h_t_isThere h_t_forms h_t_sizes h_t_items h_t_moved v_m_hours v_m_months v_m_fitMany v_m_fitFirst v_m_finding v_m_typed v_m_texts v_m_diary v_m_longs) s.heap.size)) (F0 m 0 ls []) by rw [hH, hlo] at hgo; exact hgo
  clear hH hlo
  unfold f_X8_faultOf at hf
  refine lv_aload_n hx hb dX8_faultOf_0 rfl (lv_at hl 0 rfl) ?_
  obtain ⟨r1_1, o1_2, o1_3, hc_4, hf⟩ := bd3_e hf
  refine rwi_call (isC := [0, 1, 2, 3]) (isR := [4]) (perm := [1, 2, 3, 4, 0]) (wr := [(h_t_longs, .inl (cI, 7, .inl v_m_longs))]) (ws2 := (wd_X8_faultOf cI cZ cP cS h_t h_t_turns h_t_phases h_t_ups h_t_typed h_t_texts h_t_diary h_t_longs h_t_awakes h_t_fit h_t_counts h_t_worths h_t_ripes h_t_growths h_t_gains h_t_isThere h_t_forms h_t_sizes h_t_items h_t_moved o1_2 v_m_months v_m_fitMany v_m_fitFirst v_m_finding v_m_typed v_m_texts o1_3 v_m_longs)) (va_runV (As := []) (rest := []) ⟨hx, hb, hml, hown, hts⟩ (c_X8_readsDiary l dC dI cI cZ cP cS H.size h_t h_t_turns h_t_phases h_t_ups h_t_typed h_t_texts h_t_diary h_t_longs h_t_awakes h_t_fit h_t_counts h_t_worths h_t_ripes h_t_growths h_t_gains h_t_isThere h_t_forms h_t_sizes h_t_items h_t_moved v_m_hours v_m_months v_m_fitMany v_m_fitFirst v_m_finding v_m_typed v_m_texts v_m_diary  n r1_1 o1_2 o1_3 hc_4) (cwV 0 hts gX8_faultOf_X8_readsDiary rfl rfl rfl (by decide +kernel) ⟨Nat.le_of_ble_eq_true rfl, Nat.le_of_ble_eq_true rfl⟩) (pv_rw (ci := 7) (q0 := 0) hK (hP.sub (ws' := (wd_X8_readsDiary cI cZ cP cS h_t h_t_turns h_t_phases h_t_ups h_t_typed h_t_texts h_t_diary h_t_longs h_t_awakes h_t_fit h_t_counts h_t_worths h_t_ripes h_t_growths h_t_gains h_t_isThere h_t_forms h_t_sizes h_t_items h_t_moved v_m_hours v_m_months v_m_fitMany v_m_fitFirst v_m_finding v_m_typed v_m_texts v_m_diary)) [0, 1, 2, 3] rfl) (hD.sub (ws' := (wd_X8_readsDiary cI cZ cP cS h_t h_t_turns h_t_phases h_t_ups h_t_typed h_t_texts h_t_diary h_t_longs h_t_awakes h_t_fit h_t_counts h_t_worths h_t_ripes h_t_growths h_t_gains h_t_isThere h_t_forms h_t_sizes h_t_items h_t_moved v_m_hours v_m_months v_m_fitMany v_m_fitFirst v_m_finding v_m_typed v_m_texts v_m_diary)) [0, 1, 2, 3] (by decide) rfl) rfl rfl) rfl rfl hl.1 rfl (lv_room (Nat.le_of_ble_eq_true rfl)) dX8_faultOf_1 ⟨Nat.zero_le _, Nat.zero_le _⟩) hS hA hP hD rfl (by decide) (by decide) rfl (by decide) rfl rfl (fun H locs hP hD hS => ?_)
  refine lv_istore_n (lv' := [(2, .int r1_1), (0, .ref h_t), (1, .int x1)]) hx hb dX8_faultOf_4 rfl hl (by decide) rfl (fun ls hl => ?_)
  refine lv_aload_n hx hb dX8_faultOf_5 rfl (lv_at hl 1 rfl) ?_
  obtain ⟨r6_6, o6_7, o6_8, hc_9, hf⟩ := bd3_e hf
  refine rwi_call (isC := [0, 1, 2, 4]) (isR := [3]) (perm := [1, 2, 3, 0, 4]) (wr := [(h_t_diary, .inl (cI, 60, .inl o1_3))]) (ws2 := (wd_X8_faultOf cI cZ cP cS h_t h_t_turns h_t_phases h_t_ups h_t_typed h_t_texts h_t_diary h_t_longs h_t_awakes h_t_fit h_t_counts h_t_worths h_t_ripes h_t_growths h_t_gains h_t_isThere h_t_forms h_t_sizes h_t_items h_t_moved o1_2 o6_7 v_m_fitMany v_m_fitFirst v_m_finding v_m_typed v_m_texts o1_3 o6_8)) (va_runV (As := []) (rest := []) ⟨hx, hb, hml, hown, hts⟩ (c_X8_readsCalendar l dC dI cI cZ cP cS H.size h_t h_t_turns h_t_phases h_t_ups h_t_typed h_t_texts h_t_diary h_t_longs h_t_awakes h_t_fit h_t_counts h_t_worths h_t_ripes h_t_growths h_t_gains h_t_isThere h_t_forms h_t_sizes h_t_items h_t_moved o1_2 v_m_months v_m_fitMany v_m_fitFirst v_m_finding v_m_typed v_m_texts v_m_longs  n r6_6 o6_7 o6_8 hc_9) (cwV 0 hts gX8_faultOf_X8_readsCalendar rfl rfl rfl (by decide +kernel) ⟨Nat.le_of_ble_eq_true rfl, Nat.le_of_ble_eq_true rfl⟩) (pv_rw (ci := 7) (q0 := 0) hK (hP.sub (ws' := (wd_X8_readsCalendar cI cZ cP cS h_t h_t_turns h_t_phases h_t_ups h_t_typed h_t_texts h_t_diary h_t_longs h_t_awakes h_t_fit h_t_counts h_t_worths h_t_ripes h_t_growths h_t_gains h_t_isThere h_t_forms h_t_sizes h_t_items h_t_moved o1_2 v_m_months v_m_fitMany v_m_fitFirst v_m_finding v_m_typed v_m_texts v_m_longs)) [0, 1, 2, 4] rfl) (hD.sub (ws' := (wd_X8_readsCalendar cI cZ cP cS h_t h_t_turns h_t_phases h_t_ups h_t_typed h_t_texts h_t_diary h_t_longs h_t_awakes h_t_fit h_t_counts h_t_worths h_t_ripes h_t_growths h_t_gains h_t_isThere h_t_forms h_t_sizes h_t_items h_t_moved o1_2 v_m_months v_m_fitMany v_m_fitFirst v_m_finding v_m_typed v_m_texts v_m_longs)) [0, 1, 2, 4] (by decide) rfl) rfl rfl) rfl rfl hl.1 rfl (lv_room (Nat.le_of_ble_eq_true rfl)) dX8_faultOf_6 ⟨Nat.zero_le _, Nat.zero_le _⟩) hS hA hP hD rfl (by decide) (by decide) rfl (by decide) rfl rfl (fun H locs hP hD hS => ?_)
  refine lv_istore_n (lv' := [(3, .int r6_6), (2, .int r1_1), (0, .ref h_t), (1, .int x1)]) hx hb dX8_faultOf_9 rfl hl (by decide) rfl (fun ls hl => ?_)
  refine lv_iload_n hx hb dX8_faultOf_10 rfl (lv_at hl 3 rfl) ?_
  refine lv_if_ne (tgt := 18) hx hb dX8_faultOf_11 (by decide) (fun c11 => ?_) (fun c11 => ?_)
  · rw [if_neg c11] at hf
    refine lv_iload_n hx hb dX8_faultOf_18 rfl (lv_at hl 0 rfl) ?_
    have hq0 := Option.some.inj hf
    obtain ⟨eq0, hq1⟩ := Prod.mk.inj hq0
    obtain ⟨eq1, hq2⟩ := Prod.mk.inj hq1
    obtain ⟨eq2, hq3⟩ := Prod.mk.inj hq2
    obtain ⟨eq3, hq4⟩ := Prod.mk.inj hq3
    clear hf hq0 hq1 hq2 hq3
    subst eq0
    subst eq1
    subst eq2
    subst eq3
    subst hq4
    exact W.iret hx hb hr (fun t ht hW => ⟨⟨_, (), rfl, rfl, by rw [ht]; exact hP, va_K.moved hW.alike hK, hD⟩, hS.F ht⟩) hS.2.2 dX8_faultOf_19
  · rw [if_pos c11] at hf
    refine lv_iload_n hx hb dX8_faultOf_14 rfl (lv_at hl 1 rfl) ?_
    refine lv_goto (tgt := 19) hx hb dX8_faultOf_15 (by decide) ?_
    have hq0 := Option.some.inj hf
    obtain ⟨eq0, hq1⟩ := Prod.mk.inj hq0
    obtain ⟨eq1, hq2⟩ := Prod.mk.inj hq1
    obtain ⟨eq2, hq3⟩ := Prod.mk.inj hq2
    obtain ⟨eq3, hq4⟩ := Prod.mk.inj hq3
    clear hf hq0 hq1 hq2 hq3
    subst eq0
    subst eq1
    subst eq2
    subst eq3
    subst hq4
    exact W.iret hx hb hr (fun t ht hW => ⟨⟨_, (), rfl, rfl, by rw [ht]; exact hP, va_K.moved hW.alike hK, hD⟩, hS.F ht⟩) hS.2.2 dX8_faultOf_19
