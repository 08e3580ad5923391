abbrev wd_X8_plantingOf (cI cZ cP cS : ClassId) (h_t h_t_turns h_t_phases h_t_ups h_t_typed h_t_texts h_t_diary h_t_longs h_t_awakes h_t_fit h_t_counts h_t_worths h_t_ripes h_t_growths h_t_gains h_t_isThere h_t_forms h_t_sizes h_t_items h_t_moved : Nat) (v_m_hours : Int32) (v_m_months : Int32) (v_m_fitMany : Int32) (v_m_fitFirst : Int32) (v_m_finding : Int32) (v_m_turns : Nat → Int32) (v_m_phases : Nat → Int32) (v_m_ups : Nat → Int32) (v_m_ripes : Nat → Int32) (v_m_growths : Nat → Int32) (v_m_gains : Nat → Int32) : va_W := [(h_t, .inr (7, [.ref h_t_turns, .ref h_t_phases, .ref h_t_ups, .ref h_t_typed, .ref h_t_texts, .int v_m_hours, .ref h_t_diary, .int v_m_months, .ref h_t_longs, .ref h_t_awakes, .ref h_t_fit, .int v_m_fitMany, .int v_m_fitFirst, .ref h_t_counts, .ref h_t_worths, .ref h_t_ripes, .ref h_t_growths, .ref h_t_gains, .ref h_t_isThere, .ref h_t_forms, .ref h_t_sizes, .ref h_t_items, .ref h_t_moved, .int v_m_finding])), (h_t_turns, .inl (cI, 2, .inl v_m_turns)), (h_t_phases, .inl (cI, 2, .inl v_m_phases)), (h_t_ups, .inl (cI, 2, .inl v_m_ups)), (h_t_ripes, .inl (cI, 4, .inl v_m_ripes)), (h_t_growths, .inl (cI, 16, .inl v_m_growths)), (h_t_gains, .inl (cI, 62, .inl v_m_gains))]
abbrev rm_X8_plantingOf : Room := { frames := 4, cells := 0, slots := 0, locals := 89 }
def L_X8_plantingOf_42 (n : Nat) (v_m_turns : Nat → Int32) (v_m_phases : Nat → Int32) (v_m_ups : Nat → Int32) (v_m_ripes : Nat → Int32) (v_m_growths : Nat → Int32) (x1 : Int32) (x2 : Int32) (y15_5 : Int32) (kx42 : Int32 → (Nat → Int32) → Option (Int32 × (Nat → Int32))) : Nat → Int32 → Int32 → (Nat → Int32) → Option (Int32 × (Nat → Int32))
  | 0, _, _, _ => none
  | k42 + 1, y42_4, y42_6, w42_m_gains => if (4 : Int32) ≤ y42_6 then kx42 y42_4 w42_m_gains else ix_ y42_6 4 (jn2_ (fun (y142_4 : Int32) (w142_m_gains : Nat → Int32) => L_X8_plantingOf_42 n v_m_turns v_m_phases v_m_ups v_m_ripes v_m_growths x1 x2 y15_5 kx42 k42 y142_4 (y42_6 + 1) w142_m_gains) (fun k142 => if x2 < (y15_5 + (v_m_ripes y42_6.toNatClampNeg)) then k142 y42_4 w42_m_gains else bd1_ (f_X8_cropOf n v_m_turns v_m_phases v_m_ups v_m_ripes v_m_growths y42_6 (x1 + y15_5)) (fun (r69_5 : Int32) => ix_ y42_6 4 (ix_ (y15_5 + (v_m_ripes y42_6.toNatClampNeg)) 62 (ix_ y15_5 62 (lt_ ((if (r69_5 + (w42_m_gains (y15_5 + (v_m_ripes y42_6.toNatClampNeg)).toNatClampNeg)) ≤ (w42_m_gains y15_5.toNatClampNeg) then y42_4 else y42_6) : Int32) (fun v109_11 => ix_ y15_5 62 (jn1_ (fun (q141_0 : Int32) => ix_ y15_5 62 (k142 v109_11 (upd w42_m_gains y15_5.toNatClampNeg q141_0))) (fun k141 => if (r69_5 + (w42_m_gains (y15_5 + (v_m_ripes y42_6.toNatClampNeg)).toNatClampNeg)) ≤ (w42_m_gains y15_5.toNatClampNeg) then ix_ y15_5 62 (k141 (w42_m_gains y15_5.toNatClampNeg)) else k141 (r69_5 + (w42_m_gains (y15_5 + (v_m_ripes y42_6.toNatClampNeg)).toNatClampNeg)))))))))))
theorem L_X8_plantingOf_42_s (n : Nat) (v_m_turns : Nat → Int32) (v_m_phases : Nat → Int32) (v_m_ups : Nat → Int32) (v_m_ripes : Nat → Int32) (v_m_growths : Nat → Int32) (x1 : Int32) (x2 : Int32) (y15_5 : Int32) (kx42 : Int32 → (Nat → Int32) → Option (Int32 × (Nat → Int32))) (k42 : Nat) (y42_4 : Int32) (y42_6 : Int32) (w42_m_gains : Nat → Int32) : L_X8_plantingOf_42 n v_m_turns v_m_phases v_m_ups v_m_ripes v_m_growths x1 x2 y15_5 kx42 (k42 + 1) y42_4 y42_6 w42_m_gains = if (4 : Int32) ≤ y42_6 then kx42 y42_4 w42_m_gains else ix_ y42_6 4 (jn2_ (fun (y142_4 : Int32) (w142_m_gains : Nat → Int32) => L_X8_plantingOf_42 n v_m_turns v_m_phases v_m_ups v_m_ripes v_m_growths x1 x2 y15_5 kx42 k42 y142_4 (y42_6 + 1) w142_m_gains) (fun k142 => if x2 < (y15_5 + (v_m_ripes y42_6.toNatClampNeg)) then k142 y42_4 w42_m_gains else bd1_ (f_X8_cropOf n v_m_turns v_m_phases v_m_ups v_m_ripes v_m_growths y42_6 (x1 + y15_5)) (fun (r69_5 : Int32) => ix_ y42_6 4 (ix_ (y15_5 + (v_m_ripes y42_6.toNatClampNeg)) 62 (ix_ y15_5 62 (lt_ ((if (r69_5 + (w42_m_gains (y15_5 + (v_m_ripes y42_6.toNatClampNeg)).toNatClampNeg)) ≤ (w42_m_gains y15_5.toNatClampNeg) then y42_4 else y42_6) : Int32) (fun v109_11 => ix_ y15_5 62 (jn1_ (fun (q141_0 : Int32) => ix_ y15_5 62 (k142 v109_11 (upd w42_m_gains y15_5.toNatClampNeg q141_0))) (fun k141 => if (r69_5 + (w42_m_gains (y15_5 + (v_m_ripes y42_6.toNatClampNeg)).toNatClampNeg)) ≤ (w42_m_gains y15_5.toNatClampNeg) then ix_ y15_5 62 (k141 (w42_m_gains y15_5.toNatClampNeg)) else k141 (r69_5 + (w42_m_gains (y15_5 + (v_m_ripes y42_6.toNatClampNeg)).toNatClampNeg))))))))))) := rfl
def L_X8_plantingOf_15 (n : Nat) (v_m_turns : Nat → Int32) (v_m_phases : Nat → Int32) (v_m_ups : Nat → Int32) (v_m_ripes : Nat → Int32) (v_m_growths : Nat → Int32) (x1 : Int32) (x2 : Int32) (kx15 : Int32 → (Nat → Int32) → Option (Int32 × (Nat → Int32))) : Nat → Int32 → Int32 → (Nat → Int32) → Option (Int32 × (Nat → Int32))
  | 0, _, _, _ => none
  | k15 + 1, y15_4, y15_5, w15_m_gains => if y15_5 < 0 then kx15 y15_4 w15_m_gains else ix_ (y15_5 + 1) 62 (ix_ y15_5 62 (jn2_ (fun (z42_4 : Int32) (u42_m_gains : Nat → Int32) => L_X8_plantingOf_15 n v_m_turns v_m_phases v_m_ups v_m_ripes v_m_growths x1 x2 kx15 k15 z42_4 (y15_5 + (-1)) u42_m_gains) (fun kx42 => L_X8_plantingOf_42 n v_m_turns v_m_phases v_m_ups v_m_ripes v_m_growths x1 x2 y15_5 kx42 n (-1) 0 (upd w15_m_gains y15_5.toNatClampNeg (w15_m_gains (y15_5 + 1).toNatClampNeg)))))
theorem L_X8_plantingOf_15_s (n : Nat) (v_m_turns : Nat → Int32) (v_m_phases : Nat → Int32) (v_m_ups : Nat → Int32) (v_m_ripes : Nat → Int32) (v_m_growths : Nat → Int32) (x1 : Int32) (x2 : Int32) (kx15 : Int32 → (Nat → Int32) → Option (Int32 × (Nat → Int32))) (k15 : Nat) (y15_4 : Int32) (y15_5 : Int32) (w15_m_gains : Nat → Int32) : L_X8_plantingOf_15 n v_m_turns v_m_phases v_m_ups v_m_ripes v_m_growths x1 x2 kx15 (k15 + 1) y15_4 y15_5 w15_m_gains = if y15_5 < 0 then kx15 y15_4 w15_m_gains else ix_ (y15_5 + 1) 62 (ix_ y15_5 62 (jn2_ (fun (z42_4 : Int32) (u42_m_gains : Nat → Int32) => L_X8_plantingOf_15 n v_m_turns v_m_phases v_m_ups v_m_ripes v_m_growths x1 x2 kx15 k15 z42_4 (y15_5 + (-1)) u42_m_gains) (fun kx42 => L_X8_plantingOf_42 n v_m_turns v_m_phases v_m_ups v_m_ripes v_m_growths x1 x2 y15_5 kx42 n (-1) 0 (upd w15_m_gains y15_5.toNatClampNeg (w15_m_gains (y15_5 + 1).toNatClampNeg))))) := rfl
def f_X8_plantingOf (n : Nat) (v_m_turns : Nat → Int32) (v_m_phases : Nat → Int32) (v_m_ups : Nat → Int32) (v_m_ripes : Nat → Int32) (v_m_growths : Nat → Int32) (v_m_gains : Nat → Int32) (x1 : Int32) (x2 : Int32) (x3 : Int32) : Option (Int32 × (Nat → Int32)) := ix_ x2 62 (jn2_ (fun (z15_4 : Int32) (u15_m_gains : Nat → Int32) => if x3 = 0 then some ((u15_m_gains (0 : Int32).toNatClampNeg), u15_m_gains) else some (z15_4, u15_m_gains)) (fun kx15 => L_X8_plantingOf_15 n v_m_turns v_m_phases v_m_ups v_m_ripes v_m_growths x1 x2 kx15 n (-1) (x2 - 1) (upd v_m_gains x2.toNatClampNeg 0)))
set_option maxHeartbeats 4000000 in
set_option maxRecDepth 100000 in
theorem c_X8_plantingOf (l : Launch) (dC : Nat → ClassId) (dI : Nat → Nat → Nat) (cI cZ cP cS : ClassId) (sz : Nat) (h_t h_t_turns h_t_phases h_t_ups h_t_typed h_t_texts h_t_diary h_t_longs h_t_awakes h_t_fit h_t_counts h_t_worths h_t_ripes h_t_growths h_t_gains h_t_isThere h_t_forms h_t_sizes h_t_items h_t_moved : Nat) (v_m_hours : Int32) (v_m_months : Int32) (v_m_fitMany : Int32) (v_m_fitFirst : Int32) (v_m_finding : Int32) (v_m_turns : Nat → Int32) (v_m_phases : Nat → Int32) (v_m_ups : Nat → Int32) (v_m_ripes : Nat → Int32) (v_m_growths : Nat → Int32) (v_m_gains : Nat → Int32) (x1 : Int32) (x2 : Int32) (x3 : Int32) (n : Nat) (r : Int32) (o_m_gains : Nat → Int32) (hf : f_X8_plantingOf n v_m_turns v_m_phases v_m_ups v_m_ripes v_m_growths v_m_gains x1 x2 x3 = some (r, o_m_gains)) : Met l yX8_plantingOf wsX8_plantingOf rm_X8_plantingOf (RW (dC, dI) (TY cI cZ cP cS) [.ref h_t, .int x1, .int x2, .int x3] sz (wd_X8_plantingOf cI cZ cP cS h_t h_t_turns h_t_phases h_t_ups h_t_typed h_t_texts h_t_diary h_t_longs h_t_awakes h_t_fit h_t_counts h_t_worths h_t_ripes h_t_growths h_t_gains h_t_isThere h_t_forms h_t_sizes h_t_items h_t_moved v_m_hours v_m_months v_m_fitMany v_m_fitFirst v_m_finding v_m_turns v_m_phases v_m_ups v_m_ripes v_m_growths v_m_gains)) (RWi (dC, dI) (TY cI cZ cP cS) r sz (wd_X8_plantingOf cI cZ cP cS h_t h_t_turns h_t_phases h_t_ups h_t_typed h_t_texts h_t_diary h_t_longs h_t_awakes h_t_fit h_t_counts h_t_worths h_t_ripes h_t_growths h_t_gains h_t_isThere h_t_forms h_t_sizes h_t_items h_t_moved v_m_hours v_m_months v_m_fitMany v_m_fitFirst v_m_finding v_m_turns v_m_phases v_m_ups v_m_ripes v_m_growths v_m_gains) (wd_X8_plantingOf cI cZ cP cS h_t h_t_turns h_t_phases h_t_ups h_t_typed h_t_texts h_t_diary h_t_longs h_t_awakes h_t_fit h_t_counts h_t_worths h_t_ripes h_t_growths h_t_gains h_t_isThere h_t_forms h_t_sizes h_t_items h_t_moved v_m_hours v_m_months v_m_fitMany v_m_fitFirst v_m_finding v_m_turns v_m_phases v_m_ups v_m_ripes v_m_growths o_m_gains)) 0 0 (va_A (wd_X8_plantingOf cI cZ cP cS h_t h_t_turns h_t_phases h_t_ups h_t_typed h_t_texts h_t_diary h_t_longs h_t_awakes h_t_fit h_t_counts h_t_worths h_t_ripes h_t_growths h_t_gains h_t_isThere h_t_forms h_t_sizes h_t_items h_t_moved v_m_hours v_m_months v_m_fitMany v_m_fitFirst v_m_finding v_m_turns v_m_phases v_m_ups v_m_ripes v_m_growths v_m_gains) sz) := by
  refine Met.ofW (cc := cX8_plantingOf) (maxL := 8) (ret := (some .int)) (by decide) rfl ?_
  intro p e s m args below meth c s₁ B hml hv
  obtain ⟨rfl, hsz, hP, hK, hD0⟩ := hv
  have hx := B.exec
  have hb := B.bytes
  have hr := B.returns
  have hts := atoms_spec (ws := wsX8_plantingOf) B.pre
  have hown : s.vm.findClass RX8 = some m.cls := findClass_of_methodNamed B.named
  have hlocks := B.notSynchronized
  subst hsz
  have hD := hD0.self (sz := s.heap.size)
  have hA : ∀ q : Nat, s.heap.size ≤ q → (va_A (wd_X8_plantingOf cI cZ cP cS h_t h_t_turns h_t_phases h_t_ups h_t_typed h_t_texts h_t_diary h_t_longs h_t_awakes h_t_fit h_t_counts h_t_worths h_t_ripes h_t_growths h_t_gains h_t_isThere h_t_forms h_t_sizes h_t_items h_t_moved v_m_hours v_m_months v_m_fitMany v_m_fitFirst v_m_finding v_m_turns v_m_phases v_m_ups v_m_ripes v_m_growths v_m_gains) s.heap.size) q := fun q h => Or.inr h
  have hS : va_S (va_A (wd_X8_plantingOf cI cZ cP cS h_t h_t_turns h_t_phases h_t_ups h_t_typed h_t_texts h_t_diary h_t_longs h_t_awakes h_t_fit h_t_counts h_t_worths h_t_ripes h_t_growths h_t_gains h_t_isThere h_t_forms h_t_sizes h_t_items h_t_moved v_m_hours v_m_months v_m_fitMany v_m_fitFirst v_m_finding v_m_turns v_m_phases v_m_ups v_m_ripes v_m_growths v_m_gains) s.heap.size) s.heap s.heap [] := va_S.rf
  have hinX8 : ∀ w ∈ wsX80, w ∈ wsX8_plantingOf := by decide +kernel
  have hl := lv_entry ([.ref h_t, .int x1, .int x2, .int x3]) (n := 8) (Nat.le_of_ble_eq_true rfl)
  rw [lg_entry_eq]
  generalize (lg_sl ([.ref h_t, .int x1, .int x2, .int x3]) ++ List.replicate (8 - (lg_sl ([.ref h_t, .int x1, .int x2, .int x3])).length) Slot.unset).toArray = ls at hl ⊢
  have hl : lv_has ls 8 [(0, .ref h_t), (1, .int x1), (2, .int x2), (3, .int x3)] := hl
  obtain ⟨H, hH⟩ : ∃ H : Heap, H = s.heap := ⟨_, rfl⟩
  have hP : va_P (dC, dI) vwCl (wd_X8_plantingOf cI cZ cP cS h_t h_t_turns h_t_phases h_t_ups h_t_typed h_t_texts h_t_diary h_t_longs h_t_awakes h_t_fit h_t_counts h_t_worths h_t_ripes h_t_growths h_t_gains h_t_isThere h_t_forms h_t_sizes h_t_items h_t_moved v_m_hours v_m_months v_m_fitMany v_m_fitFirst v_m_finding v_m_turns v_m_phases v_m_ups v_m_ripes v_m_growths v_m_gains) H := by rw [hH]; exact hP
  have hS : va_S (va_A (wd_X8_plantingOf cI cZ cP cS h_t h_t_turns h_t_phases h_t_ups h_t_typed h_t_texts h_t_diary h_t_longs h_t_awakes h_t_fit h_t_counts h_t_worths h_t_ripes h_t_growths h_t_gains h_t_isThere h_t_forms h_t_sizes h_t_items h_t_moved v_m_hours v_m_months v_m_fitMany v_m_fitFirst v_m_finding v_m_turns v_m_phases v_m_ups v_m_ripes v_m_growths v_m_gains) s.heap.size) s.heap H [] := by rw [hH]; exact hS
  obtain ⟨locs, hlo⟩ : ∃ L : List Loc, L = [] := ⟨_, rfl⟩
  rw [← hlo] at hS
  suffices hgo : W p l e (headSpec wsX8_plantingOf rm_X8_plantingOf).room s m ([.ref h_t, .int x1, .int x2, .int x3] : List Value).toArray below meth c H locs 0 0 (MQ below (RWi (dC, dI) (TY cI cZ cP cS) r s.heap.size (wd_X8_plantingOf cI cZ cP cS h_t h_t_turns h_t_phases h_t_ups h_t_typed h_t_texts h_t_diary h_t_longs h_t_awakes h_t_fit h_t_counts h_t_worths h_t_ripes h_t_growths h_t_gains h_t_isThere h_t_forms h_t_sizes h_t_items h_t_moved v_m_hours v_m_months v_m_fitMany v_m_fitFirst v_m_finding v_m_turns v_m_phases v_m_ups v_m_ripes v_m_growths v_m_gains) (wd_X8_plantingOf cI cZ cP cS h_t h_t_turns h_t_phases h_t_ups h_t_typed h_t_texts h_t_diary h_t_longs h_t_awakes h_t_fit h_t_counts h_t_worths h_t_ripes h_t_growths h_t_gains h_t_isThere h_t_forms h_t_sizes h_t_items h_t_moved v_m_hours v_m_months v_m_fitMany v_m_fitFirst v_m_finding v_m_turns v_m_phases v_m_ups v_m_ripes v_m_growths o_m_gains)) ([.ref h_t, .int x1, .int x2, .int x3] : List Value).toArray s 0 0 (va_A (wd_X8_plantingOf cI cZ cP cS h_t h_t_turns h_t_phases h_t_ups h_t_typed h_t_texts h_t_diary h_t_longs h_t_awakes h_t_fit h_t_counts h_t_worths h_t_ripes h_t_growths h_t_gains h_t_isThere h_t_forms h_t_sizes h_t_items h_t_moved v_m_hours v_m_months v_m_fitMany v_m_fitFirst v_m_finding v_m_turns v_m_phases v_m_ups v_m_ripes v_m_growths v_m_gains) s.heap.size)) (F0 m 0 ls []) by rw [hH, hlo] at hgo; exact hgo
  clear hH hlo
  unfold f_X8_plantingOf at hf
  refine lv_aload_n hx hb dX8_plantingOf_0 rfl (lv_at hl 0 rfl) ?_
  refine va_get (D := (dC, dI)) (ci := 7) (v := .ref h_t_gains) (C := RX8) (T := TX8) (N := 24) hx hb hts hinX8 hown hK hP 0 rfl rfl 17 (by decide) (hts (.fieldLink RX8 50 "SecondSunriseModel" "gains" "[I") (by decide +kernel)) (fun _ h9 => h9) rfl dX8_plantingOf_1 ?_
  refine lv_iload_n hx hb dX8_plantingOf_4 rfl (lv_at hl 2 rfl) ?_
  refine lv_iconst (v := 0) hx hb dX8_plantingOf_5 (by decide) ?_
  obtain ⟨hi_1, hf⟩ := ix_e hf
  refine va_iast hx hb hK hP hD hS 6 0 rfl rfl hi_1 dX8_plantingOf_6 (fun H locs hP hD hS => ?_)
  have hP : va_P (dC, dI) vwCl (wd_X8_plantingOf cI cZ cP cS h_t h_t_turns h_t_phases h_t_ups h_t_typed h_t_texts h_t_diary h_t_longs h_t_awakes h_t_fit h_t_counts h_t_worths h_t_ripes h_t_growths h_t_gains h_t_isThere h_t_forms h_t_sizes h_t_items h_t_moved v_m_hours v_m_months v_m_fitMany v_m_fitFirst v_m_finding v_m_turns v_m_phases v_m_ups v_m_ripes v_m_growths (upd v_m_gains x2.toNatClampNeg 0)) H := hP
  have hD : va_D (va_A (wd_X8_plantingOf cI cZ cP cS h_t h_t_turns h_t_phases h_t_ups h_t_typed h_t_texts h_t_diary h_t_longs h_t_awakes h_t_fit h_t_counts h_t_worths h_t_ripes h_t_growths h_t_gains h_t_isThere h_t_forms h_t_sizes h_t_items h_t_moved v_m_hours v_m_months v_m_fitMany v_m_fitFirst v_m_finding v_m_turns v_m_phases v_m_ups v_m_ripes v_m_growths v_m_gains) s.heap.size) (wd_X8_plantingOf cI cZ cP cS h_t h_t_turns h_t_phases h_t_ups h_t_typed h_t_texts h_t_diary h_t_longs h_t_awakes h_t_fit h_t_counts h_t_worths h_t_ripes h_t_growths h_t_gains h_t_isThere h_t_forms h_t_sizes h_t_items h_t_moved v_m_hours v_m_months v_m_fitMany v_m_fitFirst v_m_finding v_m_turns v_m_phases v_m_ups v_m_ripes v_m_growths (upd v_m_gains x2.toNatClampNeg 0)) := hD
  refine lv_iconst (v := (-1)) hx hb dX8_plantingOf_7 (by decide) ?_
  refine lv_istore (lv' := [(4, .int (-1)), (0, .ref h_t), (1, .int x1), (2, .int x2), (3, .int x3)]) hx hb dX8_plantingOf_8 hl (by decide) rfl (fun ls hl => ?_)
  refine lv_iload_n hx hb dX8_plantingOf_10 rfl (lv_at hl 3 rfl) ?_
  refine lv_iconst (v := 1) hx hb dX8_plantingOf_11 (by decide) ?_
  refine lv_isub hx hb dX8_plantingOf_12 ?_
  refine lv_istore (lv' := [(5, .int (x2 - 1)), (4, .int (-1)), (0, .ref h_t), (1, .int x1), (2, .int x2), (3, .int x3)]) hx hb dX8_plantingOf_13 hl (by decide) rfl (fun ls hl => ?_)
  obtain ⟨kx15, ekx15, hf⟩ := jn2_e hf
  have hx15 : ∀ (z15_4 : Int32) (u15_m_gains : Nat → Int32) (H : Heap) (locs : List Loc) (ls : Array Slot), lv_has ls 8 [(0, .ref h_t), (3, .int x3), (4, .int z15_4)] → va_P (dC, dI) vwCl (wd_X8_plantingOf cI cZ cP cS h_t h_t_turns h_t_phases h_t_ups h_t_typed h_t_texts h_t_diary h_t_longs h_t_awakes h_t_fit h_t_counts h_t_worths h_t_ripes h_t_growths h_t_gains h_t_isThere h_t_forms h_t_sizes h_t_items h_t_moved v_m_hours v_m_months v_m_fitMany v_m_fitFirst v_m_finding v_m_turns v_m_phases v_m_ups v_m_ripes v_m_growths u15_m_gains) H → va_D (va_A (wd_X8_plantingOf cI cZ cP cS h_t h_t_turns h_t_phases h_t_ups h_t_typed h_t_texts h_t_diary h_t_longs h_t_awakes h_t_fit h_t_counts h_t_worths h_t_ripes h_t_growths h_t_gains h_t_isThere h_t_forms h_t_sizes h_t_items h_t_moved v_m_hours v_m_months v_m_fitMany v_m_fitFirst v_m_finding v_m_turns v_m_phases v_m_ups v_m_ripes v_m_growths v_m_gains) s.heap.size) (wd_X8_plantingOf cI cZ cP cS h_t h_t_turns h_t_phases h_t_ups h_t_typed h_t_texts h_t_diary h_t_longs h_t_awakes h_t_fit h_t_counts h_t_worths h_t_ripes h_t_growths h_t_gains h_t_isThere h_t_forms h_t_sizes h_t_items h_t_moved v_m_hours v_m_months v_m_fitMany v_m_fitFirst v_m_finding v_m_turns v_m_phases v_m_ups v_m_ripes v_m_growths u15_m_gains) → va_S (va_A (wd_X8_plantingOf cI cZ cP cS h_t h_t_turns h_t_phases h_t_ups h_t_typed h_t_texts h_t_diary h_t_longs h_t_awakes h_t_fit h_t_counts h_t_worths h_t_ripes h_t_growths h_t_gains h_t_isThere h_t_forms h_t_sizes h_t_items h_t_moved v_m_hours v_m_months v_m_fitMany v_m_fitFirst v_m_finding v_m_turns v_m_phases v_m_ups v_m_ripes v_m_growths v_m_gains) s.heap.size) s.heap H locs → kx15 z15_4 u15_m_gains = some (r, o_m_gains) → W p l e (headSpec wsX8_plantingOf rm_X8_plantingOf).room s m ([.ref h_t, .int x1, .int x2, .int x3] : List Value).toArray below meth c H locs 0 0 (MQ below (RWi (dC, dI) (TY cI cZ cP cS) r s.heap.size (wd_X8_plantingOf cI cZ cP cS h_t h_t_turns h_t_phases h_t_ups h_t_typed h_t_texts h_t_diary h_t_longs h_t_awakes h_t_fit h_t_counts h_t_worths h_t_ripes h_t_growths h_t_gains h_t_isThere h_t_forms h_t_sizes h_t_items h_t_moved v_m_hours v_m_months v_m_fitMany v_m_fitFirst v_m_finding v_m_turns v_m_phases v_m_ups v_m_ripes v_m_growths v_m_gains) (wd_X8_plantingOf cI cZ cP cS h_t h_t_turns h_t_phases h_t_ups h_t_typed h_t_texts h_t_diary h_t_longs h_t_awakes h_t_fit h_t_counts h_t_worths h_t_ripes h_t_growths h_t_gains h_t_isThere h_t_forms h_t_sizes h_t_items h_t_moved v_m_hours v_m_months v_m_fitMany v_m_fitFirst v_m_finding v_m_turns v_m_phases v_m_ups v_m_ripes v_m_growths o_m_gains)) ([.ref h_t, .int x1, .int x2, .int x3] : List Value).toArray s 0 0 (va_A (wd_X8_plantingOf cI cZ cP cS h_t h_t_turns h_t_phases h_t_ups h_t_typed h_t_texts h_t_diary h_t_longs h_t_awakes h_t_fit h_t_counts h_t_worths h_t_ripes h_t_growths h_t_gains h_t_isThere h_t_forms h_t_sizes h_t_items h_t_moved v_m_hours v_m_months v_m_fitMany v_m_fitFirst v_m_finding v_m_turns v_m_phases v_m_ups v_m_ripes v_m_growths v_m_gains) s.heap.size)) (F0 m 154 ls []) := by
    intro z15_4 u15_m_gains H locs ls hl hP hD hS hf
    rw [ekx15] at hf
    refine lv_iload_n hx hb dX8_plantingOf_154 rfl (lv_at hl 1 rfl) ?_
    refine lv_if_ne (tgt := 167) hx hb dX8_plantingOf_155 (by decide) (fun c155 => ?_) (fun c155 => ?_)
    · rw [if_neg c155] at hf
      refine lv_iload hx hb dX8_plantingOf_167 (lv_at hl 2 rfl) ?_
      have hq0 := Option.some.inj hf
      obtain ⟨eq0, hq1⟩ := Prod.mk.inj hq0
      clear hf hq0
      subst eq0
      subst hq1
      exact W.iret hx hb hr (fun t ht hW => ⟨⟨_, (), rfl, rfl, by rw [ht]; exact hP, va_K.moved hW.alike hK, hD⟩, hS.F ht⟩) hS.2.2 dX8_plantingOf_169
    · rw [if_pos c155] at hf
      refine lv_aload_n hx hb dX8_plantingOf_158 rfl (lv_at hl 0 rfl) ?_
      refine va_get (D := (dC, dI)) (ci := 7) (v := .ref h_t_gains) (C := RX8) (T := TX8) (N := 24) hx hb hts hinX8 hown hK hP 0 rfl rfl 17 (by decide) (hts (.fieldLink RX8 50 "SecondSunriseModel" "gains" "[I") (by decide +kernel)) (fun _ h9 => h9) rfl dX8_plantingOf_159 ?_
      refine lv_iconst (v := 0) hx hb dX8_plantingOf_162 (by decide) ?_
      refine va_iald hx hb hK hP 6 0 rfl rfl (show vp_in 0 62 by unfold vp_in; decide) dX8_plantingOf_163 ?_
      refine lv_goto (tgt := 169) hx hb dX8_plantingOf_164 (by decide) ?_
      have hq0 := Option.some.inj hf
      obtain ⟨eq0, hq1⟩ := Prod.mk.inj hq0
      clear hf hq0
      subst eq0
      subst hq1
      exact W.iret hx hb hr (fun t ht hW => ⟨⟨_, (), rfl, rfl, by rw [ht]; exact hP, va_K.moved hW.alike hK, hD⟩, hS.F ht⟩) hS.2.2 dX8_plantingOf_169
  have hL15 : ∀ (k15 : Nat) (y15_4 : Int32) (y15_5 : Int32) (w15_m_gains : Nat → Int32) (H : Heap) (locs : List Loc) (ls : Array Slot), lv_has ls 8 [(0, .ref h_t), (1, .int x1), (2, .int x2), (3, .int x3), (4, .int y15_4), (5, .int y15_5)] → va_P (dC, dI) vwCl (wd_X8_plantingOf cI cZ cP cS h_t h_t_turns h_t_phases h_t_ups h_t_typed h_t_texts h_t_diary h_t_longs h_t_awakes h_t_fit h_t_counts h_t_worths h_t_ripes h_t_growths h_t_gains h_t_isThere h_t_forms h_t_sizes h_t_items h_t_moved v_m_hours v_m_months v_m_fitMany v_m_fitFirst v_m_finding v_m_turns v_m_phases v_m_ups v_m_ripes v_m_growths w15_m_gains) H → va_D (va_A (wd_X8_plantingOf cI cZ cP cS h_t h_t_turns h_t_phases h_t_ups h_t_typed h_t_texts h_t_diary h_t_longs h_t_awakes h_t_fit h_t_counts h_t_worths h_t_ripes h_t_growths h_t_gains h_t_isThere h_t_forms h_t_sizes h_t_items h_t_moved v_m_hours v_m_months v_m_fitMany v_m_fitFirst v_m_finding v_m_turns v_m_phases v_m_ups v_m_ripes v_m_growths v_m_gains) s.heap.size) (wd_X8_plantingOf cI cZ cP cS h_t h_t_turns h_t_phases h_t_ups h_t_typed h_t_texts h_t_diary h_t_longs h_t_awakes h_t_fit h_t_counts h_t_worths h_t_ripes h_t_growths h_t_gains h_t_isThere h_t_forms h_t_sizes h_t_items h_t_moved v_m_hours v_m_months v_m_fitMany v_m_fitFirst v_m_finding v_m_turns v_m_phases v_m_ups v_m_ripes v_m_growths w15_m_gains) → va_S (va_A (wd_X8_plantingOf cI cZ cP cS h_t h_t_turns h_t_phases h_t_ups h_t_typed h_t_texts h_t_diary h_t_longs h_t_awakes h_t_fit h_t_counts h_t_worths h_t_ripes h_t_growths h_t_gains h_t_isThere h_t_forms h_t_sizes h_t_items h_t_moved v_m_hours v_m_months v_m_fitMany v_m_fitFirst v_m_finding v_m_turns v_m_phases v_m_ups v_m_ripes v_m_growths v_m_gains) s.heap.size) s.heap H locs → L_X8_plantingOf_15 n v_m_turns v_m_phases v_m_ups v_m_ripes v_m_growths x1 x2 kx15 k15 y15_4 y15_5 w15_m_gains = some (r, o_m_gains) → W p l e (headSpec wsX8_plantingOf rm_X8_plantingOf).room s m ([.ref h_t, .int x1, .int x2, .int x3] : List Value).toArray below meth c H locs 0 0 (MQ below (RWi (dC, dI) (TY cI cZ cP cS) r s.heap.size (wd_X8_plantingOf cI cZ cP cS h_t h_t_turns h_t_phases h_t_ups h_t_typed h_t_texts h_t_diary h_t_longs h_t_awakes h_t_fit h_t_counts h_t_worths h_t_ripes h_t_growths h_t_gains h_t_isThere h_t_forms h_t_sizes h_t_items h_t_moved v_m_hours v_m_months v_m_fitMany v_m_fitFirst v_m_finding v_m_turns v_m_phases v_m_ups v_m_ripes v_m_growths v_m_gains) (wd_X8_plantingOf cI cZ cP cS h_t h_t_turns h_t_phases h_t_ups h_t_typed h_t_texts h_t_diary h_t_longs h_t_awakes h_t_fit h_t_counts h_t_worths h_t_ripes h_t_growths h_t_gains h_t_isThere h_t_forms h_t_sizes h_t_items h_t_moved v_m_hours v_m_months v_m_fitMany v_m_fitFirst v_m_finding v_m_turns v_m_phases v_m_ups v_m_ripes v_m_growths o_m_gains)) ([.ref h_t, .int x1, .int x2, .int x3] : List Value).toArray s 0 0 (va_A (wd_X8_plantingOf cI cZ cP cS h_t h_t_turns h_t_phases h_t_ups h_t_typed h_t_texts h_t_diary h_t_longs h_t_awakes h_t_fit h_t_counts h_t_worths h_t_ripes h_t_growths h_t_gains h_t_isThere h_t_forms h_t_sizes h_t_items h_t_moved v_m_hours v_m_months v_m_fitMany v_m_fitFirst v_m_finding v_m_turns v_m_phases v_m_ups v_m_ripes v_m_growths v_m_gains) s.heap.size)) (F0 m 15 ls []) := by
    intro k15
    induction k15 with
    | zero =>
      intro y15_4 y15_5 w15_m_gains H locs ls hl hP hD hS hf
      exact absurd hf (fun h => Option.some_ne_none _ h.symm)
    | succ k15 ih =>
      intro y15_4 y15_5 w15_m_gains H locs ls hl hP hD hS hf
      rw [L_X8_plantingOf_15_s] at hf
      refine lv_iload hx hb dX8_plantingOf_15 (lv_at hl 5 rfl) ?_
      refine lv_if_lt (tgt := 154) hx hb dX8_plantingOf_17 (by decide) (fun c17 => ?_) (fun c17 => ?_)
      · rw [if_pos c17] at hf
        exact hx15 y15_4 w15_m_gains H locs ls (lv_sub hl [0, 3, 4] rfl) hP hD hS hf
      · rw [if_neg c17] at hf
        refine lv_aload_n hx hb dX8_plantingOf_20 rfl (lv_at hl 0 rfl) ?_
        refine va_get (D := (dC, dI)) (ci := 7) (v := .ref h_t_gains) (C := RX8) (T := TX8) (N := 24) hx hb hts hinX8 hown hK hP 0 rfl rfl 17 (by decide) (hts (.fieldLink RX8 50 "SecondSunriseModel" "gains" "[I") (by decide +kernel)) (fun _ h9 => h9) rfl dX8_plantingOf_21 ?_
        refine lv_iload hx hb dX8_plantingOf_24 (lv_at hl 5 rfl) ?_
        refine lv_aload_n hx hb dX8_plantingOf_26 rfl (lv_at hl 0 rfl) ?_
        refine va_get (D := (dC, dI)) (ci := 7) (v := .ref h_t_gains) (C := RX8) (T := TX8) (N := 24) hx hb hts hinX8 hown hK hP 0 rfl rfl 17 (by decide) (hts (.fieldLink RX8 50 "SecondSunriseModel" "gains" "[I") (by decide +kernel)) (fun _ h9 => h9) rfl dX8_plantingOf_27 ?_
        refine lv_iload hx hb dX8_plantingOf_30 (lv_at hl 5 rfl) ?_
        refine lv_iconst (v := 1) hx hb dX8_plantingOf_32 (by decide) ?_
        refine lv_iadd hx hb dX8_plantingOf_33 ?_
        obtain ⟨hi_2, hf⟩ := ix_e hf
        refine va_iald hx hb hK hP 6 0 rfl rfl hi_2 dX8_plantingOf_34 ?_
        obtain ⟨hi_3, hf⟩ := ix_e hf
        refine va_iast hx hb hK hP hD hS 6 0 rfl rfl hi_3 dX8_plantingOf_35 (fun H locs hP hD hS => ?_)
        have hP : va_P (dC, dI) vwCl (wd_X8_plantingOf cI cZ cP cS h_t h_t_turns h_t_phases h_t_ups h_t_typed h_t_texts h_t_diary h_t_longs h_t_awakes h_t_fit h_t_counts h_t_worths h_t_ripes h_t_growths h_t_gains h_t_isThere h_t_forms h_t_sizes h_t_items h_t_moved v_m_hours v_m_months v_m_fitMany v_m_fitFirst v_m_finding v_m_turns v_m_phases v_m_ups v_m_ripes v_m_growths (upd w15_m_gains y15_5.toNatClampNeg (w15_m_gains (y15_5 + 1).toNatClampNeg))) H := hP
        have hD : va_D (va_A (wd_X8_plantingOf cI cZ cP cS h_t h_t_turns h_t_phases h_t_ups h_t_typed h_t_texts h_t_diary h_t_longs h_t_awakes h_t_fit h_t_counts h_t_worths h_t_ripes h_t_growths h_t_gains h_t_isThere h_t_forms h_t_sizes h_t_items h_t_moved v_m_hours v_m_months v_m_fitMany v_m_fitFirst v_m_finding v_m_turns v_m_phases v_m_ups v_m_ripes v_m_growths v_m_gains) s.heap.size) (wd_X8_plantingOf cI cZ cP cS h_t h_t_turns h_t_phases h_t_ups h_t_typed h_t_texts h_t_diary h_t_longs h_t_awakes h_t_fit h_t_counts h_t_worths h_t_ripes h_t_growths h_t_gains h_t_isThere h_t_forms h_t_sizes h_t_items h_t_moved v_m_hours v_m_months v_m_fitMany v_m_fitFirst v_m_finding v_m_turns v_m_phases v_m_ups v_m_ripes v_m_growths (upd w15_m_gains y15_5.toNatClampNeg (w15_m_gains (y15_5 + 1).toNatClampNeg))) := hD
        refine lv_iconst (v := (-1)) hx hb dX8_plantingOf_36 (by decide) ?_
        refine lv_istore (lv' := [(4, .int (-1)), (0, .ref h_t), (1, .int x1), (2, .int x2), (3, .int x3), (5, .int y15_5)]) hx hb dX8_plantingOf_37 hl (by decide) rfl (fun ls hl => ?_)
        refine lv_iconst (v := 0) hx hb dX8_plantingOf_39 (by decide) ?_
        refine lv_istore (lv' := [(6, .int 0), (4, .int (-1)), (0, .ref h_t), (1, .int x1), (2, .int x2), (3, .int x3), (5, .int y15_5)]) hx hb dX8_plantingOf_40 hl (by decide) rfl (fun ls hl => ?_)
        obtain ⟨kx42, ekx42, hf⟩ := jn2_e hf
        have hx42 : ∀ (z42_4 : Int32) (u42_m_gains : Nat → Int32) (H : Heap) (locs : List Loc) (ls : Array Slot), lv_has ls 8 [(0, .ref h_t), (1, .int x1), (2, .int x2), (3, .int x3), (4, .int z42_4), (5, .int y15_5)] → va_P (dC, dI) vwCl (wd_X8_plantingOf cI cZ cP cS h_t h_t_turns h_t_phases h_t_ups h_t_typed h_t_texts h_t_diary h_t_longs h_t_awakes h_t_fit h_t_counts h_t_worths h_t_ripes h_t_growths h_t_gains h_t_isThere h_t_forms h_t_sizes h_t_items h_t_moved v_m_hours v_m_months v_m_fitMany v_m_fitFirst v_m_finding v_m_turns v_m_phases v_m_ups v_m_ripes v_m_growths u42_m_gains) H → va_D (va_A (wd_X8_plantingOf cI cZ cP cS h_t h_t_turns h_t_phases h_t_ups h_t_typed h_t_texts h_t_diary h_t_longs h_t_awakes h_t_fit h_t_counts h_t_worths h_t_ripes h_t_growths h_t_gains h_t_isThere h_t_forms h_t_sizes h_t_items h_t_moved v_m_hours v_m_months v_m_fitMany v_m_fitFirst v_m_finding v_m_turns v_m_phases v_m_ups v_m_ripes v_m_growths v_m_gains) s.heap.size) (wd_X8_plantingOf cI cZ cP cS h_t h_t_turns h_t_phases h_t_ups h_t_typed h_t_texts h_t_diary h_t_longs h_t_awakes h_t_fit h_t_counts h_t_worths h_t_ripes h_t_growths h_t_gains h_t_isThere h_t_forms h_t_sizes h_t_items h_t_moved v_m_hours v_m_months v_m_fitMany v_m_fitFirst v_m_finding v_m_turns v_m_phases v_m_ups v_m_ripes v_m_growths u42_m_gains) → va_S (va_A (wd_X8_plantingOf cI cZ cP cS h_t h_t_turns h_t_phases h_t_ups h_t_typed h_t_texts h_t_diary h_t_longs h_t_awakes h_t_fit h_t_counts h_t_worths h_t_ripes h_t_growths h_t_gains h_t_isThere h_t_forms h_t_sizes h_t_items h_t_moved v_m_hours v_m_months v_m_fitMany v_m_fitFirst v_m_finding v_m_turns v_m_phases v_m_ups v_m_ripes v_m_growths v_m_gains) s.heap.size) s.heap H locs → kx42 z42_4 u42_m_gains = some (r, o_m_gains) → W p l e (headSpec wsX8_plantingOf rm_X8_plantingOf).room s m ([.ref h_t, .int x1, .int x2, .int x3] : List Value).toArray below meth c H locs 0 0 (MQ below (RWi (dC, dI) (TY cI cZ cP cS) r s.heap.size (wd_X8_plantingOf cI cZ cP cS h_t h_t_turns h_t_phases h_t_ups h_t_typed h_t_texts h_t_diary h_t_longs h_t_awakes h_t_fit h_t_counts h_t_worths h_t_ripes h_t_growths h_t_gains h_t_isThere h_t_forms h_t_sizes h_t_items h_t_moved v_m_hours v_m_months v_m_fitMany v_m_fitFirst v_m_finding v_m_turns v_m_phases v_m_ups v_m_ripes v_m_growths v_m_gains) (wd_X8_plantingOf cI cZ cP cS h_t h_t_turns h_t_phases h_t_ups h_t_typed h_t_texts h_t_diary h_t_longs h_t_awakes h_t_fit h_t_counts h_t_worths h_t_ripes h_t_growths h_t_gains h_t_isThere h_t_forms h_t_sizes h_t_items h_t_moved v_m_hours v_m_months v_m_fitMany v_m_fitFirst v_m_finding v_m_turns v_m_phases v_m_ups v_m_ripes v_m_growths o_m_gains)) ([.ref h_t, .int x1, .int x2, .int x3] : List Value).toArray s 0 0 (va_A (wd_X8_plantingOf cI cZ cP cS h_t h_t_turns h_t_phases h_t_ups h_t_typed h_t_texts h_t_diary h_t_longs h_t_awakes h_t_fit h_t_counts h_t_worths h_t_ripes h_t_growths h_t_gains h_t_isThere h_t_forms h_t_sizes h_t_items h_t_moved v_m_hours v_m_months v_m_fitMany v_m_fitFirst v_m_finding v_m_turns v_m_phases v_m_ups v_m_ripes v_m_growths v_m_gains) s.heap.size)) (F0 m 148 ls []) := by
          intro z42_4 u42_m_gains H locs ls hl hP hD hS hf
          rw [ekx42] at hf
          refine lv_iinc (v := (y15_5 + (-1))) (lv' := [(5, .int (y15_5 + (-1))), (0, .ref h_t), (1, .int x1), (2, .int x2), (3, .int x3), (4, .int z42_4)]) hx hb dX8_plantingOf_148 hl (k := 5) rfl rfl (by decide) rfl (fun ls hl => ?_)
          refine lv_goto (tgt := 15) hx hb dX8_plantingOf_151 (by decide) ?_
          exact ih z42_4 (y15_5 + (-1)) u42_m_gains H locs ls (lv_sub hl [1, 2, 3, 4, 5, 0] rfl) hP hD hS hf
        have hL42 : ∀ (k42 : Nat) (y42_4 : Int32) (y42_6 : Int32) (w42_m_gains : Nat → Int32) (H : Heap) (locs : List Loc) (ls : Array Slot), lv_has ls 8 [(0, .ref h_t), (1, .int x1), (2, .int x2), (3, .int x3), (4, .int y42_4), (5, .int y15_5), (6, .int y42_6)] → va_P (dC, dI) vwCl (wd_X8_plantingOf cI cZ cP cS h_t h_t_turns h_t_phases h_t_ups h_t_typed h_t_texts h_t_diary h_t_longs h_t_awakes h_t_fit h_t_counts h_t_worths h_t_ripes h_t_growths h_t_gains h_t_isThere h_t_forms h_t_sizes h_t_items h_t_moved v_m_hours v_m_months v_m_fitMany v_m_fitFirst v_m_finding v_m_turns v_m_phases v_m_ups v_m_ripes v_m_growths w42_m_gains) H → va_D (va_A (wd_X8_plantingOf cI cZ cP cS h_t h_t_turns h_t_phases h_t_ups h_t_typed h_t_texts h_t_diary h_t_longs h_t_awakes h_t_fit h_t_counts h_t_worths h_t_ripes h_t_growths h_t_gains h_t_isThere h_t_forms h_t_sizes h_t_items h_t_moved v_m_hours v_m_months v_m_fitMany v_m_fitFirst v_m_finding v_m_turns v_m_phases v_m_ups v_m_ripes v_m_growths v_m_gains) s.heap.size) (wd_X8_plantingOf cI cZ cP cS h_t h_t_turns h_t_phases h_t_ups h_t_typed h_t_texts h_t_diary h_t_longs h_t_awakes h_t_fit h_t_counts h_t_worths h_t_ripes h_t_growths h_t_gains h_t_isThere h_t_forms h_t_sizes h_t_items h_t_moved v_m_hours v_m_months v_m_fitMany v_m_fitFirst v_m_finding v_m_turns v_m_phases v_m_ups v_m_ripes v_m_growths w42_m_gains) → va_S (va_A (wd_X8_plantingOf cI cZ cP cS h_t h_t_turns h_t_phases h_t_ups h_t_typed h_t_texts h_t_diary h_t_longs h_t_awakes h_t_fit h_t_counts h_t_worths h_t_ripes h_t_growths h_t_gains h_t_isThere h_t_forms h_t_sizes h_t_items h_t_moved v_m_hours v_m_months v_m_fitMany v_m_fitFirst v_m_finding v_m_turns v_m_phases v_m_ups v_m_ripes v_m_growths v_m_gains) s.heap.size) s.heap H locs → L_X8_plantingOf_42 n v_m_turns v_m_phases v_m_ups v_m_ripes v_m_growths x1 x2 y15_5 kx42 k42 y42_4 y42_6 w42_m_gains = some (r, o_m_gains) → W p l e (headSpec wsX8_plantingOf rm_X8_plantingOf).room s m ([.ref h_t, .int x1, .int x2, .int x3] : List Value).toArray below meth c H locs 0 0 (MQ below (RWi (dC, dI) (TY cI cZ cP cS) r s.heap.size (wd_X8_plantingOf cI cZ cP cS h_t h_t_turns h_t_phases h_t_ups h_t_typed h_t_texts h_t_diary h_t_longs h_t_awakes h_t_fit h_t_counts h_t_worths h_t_ripes h_t_growths h_t_gains h_t_isThere h_t_forms h_t_sizes h_t_items h_t_moved v_m_hours v_m_months v_m_fitMany v_m_fitFirst v_m_finding v_m_turns v_m_phases v_m_ups v_m_ripes v_m_growths v_m_gains) (wd_X8_plantingOf cI cZ cP cS h_t h_t_turns h_t_phases h_t_ups h_t_typed h_t_texts h_t_diary h_t_longs h_t_awakes h_t_fit h_t_counts h_t_worths h_t_ripes h_t_growths h_t_gains h_t_isThere h_t_forms h_t_sizes h_t_items h_t_moved v_m_hours v_m_months v_m_fitMany v_m_fitFirst v_m_finding v_m_turns v_m_phases v_m_ups v_m_ripes v_m_growths o_m_gains)) ([.ref h_t, .int x1, .int x2, .int x3] : List Value).toArray s 0 0 (va_A (wd_X8_plantingOf cI cZ cP cS h_t h_t_turns h_t_phases h_t_ups h_t_typed h_t_texts h_t_diary h_t_longs h_t_awakes h_t_fit h_t_counts h_t_worths h_t_ripes h_t_growths h_t_gains h_t_isThere h_t_forms h_t_sizes h_t_items h_t_moved v_m_hours v_m_months v_m_fitMany v_m_fitFirst v_m_finding v_m_turns v_m_phases v_m_ups v_m_ripes v_m_growths v_m_gains) s.heap.size)) (F0 m 42 ls []) := by
          intro k42
          induction k42 with
          | zero =>
            intro y42_4 y42_6 w42_m_gains H locs ls hl hP hD hS hf
            exact absurd hf (fun h => Option.some_ne_none _ h.symm)
          | succ k42 ih =>
            intro y42_4 y42_6 w42_m_gains H locs ls hl hP hD hS hf
            rw [L_X8_plantingOf_42_s] at hf
            refine lv_iload hx hb dX8_plantingOf_42 (lv_at hl 6 rfl) ?_
            refine lv_iconst (v := 4) hx hb dX8_plantingOf_44 (by decide) ?_
            refine lv_icmp_ge (tgt := 148) hx hb dX8_plantingOf_45 (by decide) (fun c45 => ?_) (fun c45 => ?_)
            · rw [if_pos c45] at hf
              exact hx42 y42_4 w42_m_gains H locs ls (lv_sub hl [0, 1, 2, 3, 4, 5] rfl) hP hD hS hf
            · rw [if_neg c45] at hf
              refine lv_iload hx hb dX8_plantingOf_48 (lv_at hl 5 rfl) ?_
              refine lv_aload_n hx hb dX8_plantingOf_50 rfl (lv_at hl 0 rfl) ?_
              refine va_get (D := (dC, dI)) (ci := 7) (v := .ref h_t_ripes) (C := RX8) (T := TX8) (N := 24) hx hb hts hinX8 hown hK hP 0 rfl rfl 15 (by decide) (hts (.fieldLink RX8 44 "SecondSunriseModel" "ripes" "[I") (by decide +kernel)) (fun _ h9 => h9) rfl dX8_plantingOf_51 ?_
              refine lv_iload hx hb dX8_plantingOf_54 (lv_at hl 6 rfl) ?_
              obtain ⟨hi_4, hf⟩ := ix_e hf
              refine va_iald hx hb hK hP 4 0 rfl rfl hi_4 dX8_plantingOf_56 ?_
              refine lv_iadd hx hb dX8_plantingOf_57 ?_
              refine lv_iload_n hx hb dX8_plantingOf_58 rfl (lv_at hl 2 rfl) ?_
              obtain ⟨k142, ek142, hf⟩ := jn2_e hf
              have hj142 : ∀ (y142_4 : Int32) (w142_m_gains : Nat → Int32) (H : Heap) (locs : List Loc) (ls : Array Slot), lv_has ls 8 [(0, .ref h_t), (1, .int x1), (2, .int x2), (3, .int x3), (4, .int y142_4), (5, .int y15_5), (6, .int y42_6)] → va_P (dC, dI) vwCl (wd_X8_plantingOf cI cZ cP cS h_t h_t_turns h_t_phases h_t_ups h_t_typed h_t_texts h_t_diary h_t_longs h_t_awakes h_t_fit h_t_counts h_t_worths h_t_ripes h_t_growths h_t_gains h_t_isThere h_t_forms h_t_sizes h_t_items h_t_moved v_m_hours v_m_months v_m_fitMany v_m_fitFirst v_m_finding v_m_turns v_m_phases v_m_ups v_m_ripes v_m_growths w142_m_gains) H → va_D (va_A (wd_X8_plantingOf cI cZ cP cS h_t h_t_turns h_t_phases h_t_ups h_t_typed h_t_texts h_t_diary h_t_longs h_t_awakes h_t_fit h_t_counts h_t_worths h_t_ripes h_t_growths h_t_gains h_t_isThere h_t_forms h_t_sizes h_t_items h_t_moved v_m_hours v_m_months v_m_fitMany v_m_fitFirst v_m_finding v_m_turns v_m_phases v_m_ups v_m_ripes v_m_growths v_m_gains) s.heap.size) (wd_X8_plantingOf cI cZ cP cS h_t h_t_turns h_t_phases h_t_ups h_t_typed h_t_texts h_t_diary h_t_longs h_t_awakes h_t_fit h_t_counts h_t_worths h_t_ripes h_t_growths h_t_gains h_t_isThere h_t_forms h_t_sizes h_t_items h_t_moved v_m_hours v_m_months v_m_fitMany v_m_fitFirst v_m_finding v_m_turns v_m_phases v_m_ups v_m_ripes v_m_growths w142_m_gains) → va_S (va_A (wd_X8_plantingOf cI cZ cP cS h_t h_t_turns h_t_phases h_t_ups h_t_typed h_t_texts h_t_diary h_t_longs h_t_awakes h_t_fit h_t_counts h_t_worths h_t_ripes h_t_growths h_t_gains h_t_isThere h_t_forms h_t_sizes h_t_items h_t_moved v_m_hours v_m_months v_m_fitMany v_m_fitFirst v_m_finding v_m_turns v_m_phases v_m_ups v_m_ripes v_m_growths v_m_gains) s.heap.size) s.heap H locs → k142 y142_4 w142_m_gains = some (r, o_m_gains) → W p l e (headSpec wsX8_plantingOf rm_X8_plantingOf).room s m ([.ref h_t, .int x1, .int x2, .int x3] : List Value).toArray below meth c H locs 0 0 (MQ below (RWi (dC, dI) (TY cI cZ cP cS) r s.heap.size (wd_X8_plantingOf cI cZ cP cS h_t h_t_turns h_t_phases h_t_ups h_t_typed h_t_texts h_t_diary h_t_longs h_t_awakes h_t_fit h_t_counts h_t_worths h_t_ripes h_t_growths h_t_gains h_t_isThere h_t_forms h_t_sizes h_t_items h_t_moved v_m_hours v_m_months v_m_fitMany v_m_fitFirst v_m_finding v_m_turns v_m_phases v_m_ups v_m_ripes v_m_growths v_m_gains) (wd_X8_plantingOf cI cZ cP cS h_t h_t_turns h_t_phases h_t_ups h_t_typed h_t_texts h_t_diary h_t_longs h_t_awakes h_t_fit h_t_counts h_t_worths h_t_ripes h_t_growths h_t_gains h_t_isThere h_t_forms h_t_sizes h_t_items h_t_moved v_m_hours v_m_months v_m_fitMany v_m_fitFirst v_m_finding v_m_turns v_m_phases v_m_ups v_m_ripes v_m_growths o_m_gains)) ([.ref h_t, .int x1, .int x2, .int x3] : List Value).toArray s 0 0 (va_A (wd_X8_plantingOf cI cZ cP cS h_t h_t_turns h_t_phases h_t_ups h_t_typed h_t_texts h_t_diary h_t_longs h_t_awakes h_t_fit h_t_counts h_t_worths h_t_ripes h_t_growths h_t_gains h_t_isThere h_t_forms h_t_sizes h_t_items h_t_moved v_m_hours v_m_months v_m_fitMany v_m_fitFirst v_m_finding v_m_turns v_m_phases v_m_ups v_m_ripes v_m_growths v_m_gains) s.heap.size)) (F0 m 142 ls []) := by
                intro y142_4 w142_m_gains H locs ls hl hP hD hS hf
                rw [ek142] at hf
                refine lv_iinc (v := (y42_6 + 1)) (lv' := [(6, .int (y42_6 + 1)), (0, .ref h_t), (1, .int x1), (2, .int x2), (3, .int x3), (4, .int y142_4), (5, .int y15_5)]) hx hb dX8_plantingOf_142 hl (k := 6) rfl rfl (by decide) rfl (fun ls hl => ?_)
                refine lv_goto (tgt := 42) hx hb dX8_plantingOf_145 (by decide) ?_
                exact ih y142_4 (y42_6 + 1) w142_m_gains H locs ls (lv_sub hl [1, 2, 3, 4, 5, 6, 0] rfl) hP hD hS hf
              refine lv_icmp_gt (tgt := 142) hx hb dX8_plantingOf_59 (by decide) (fun c59 => ?_) (fun c59 => ?_)
              · rw [if_pos c59] at hf
                exact hj142 y42_4 w42_m_gains H locs ls (lv_sub hl [0, 1, 2, 3, 4, 5, 6] rfl) hP hD hS hf
              · rw [if_neg c59] at hf
                refine lv_aload_n hx hb dX8_plantingOf_62 rfl (lv_at hl 0 rfl) ?_
                refine lv_iload hx hb dX8_plantingOf_63 (lv_at hl 6 rfl) ?_
                refine lv_iload_n hx hb dX8_plantingOf_65 rfl (lv_at hl 1 rfl) ?_
                refine lv_iload hx hb dX8_plantingOf_66 (lv_at hl 5 rfl) ?_
                refine lv_iadd hx hb dX8_plantingOf_68 ?_
                obtain ⟨r69_5, hc_6, hf⟩ := bd1_e hf
                refine vp_callSi (va_runV (As := [.int y42_6, .int (x1 + y15_5)]) (rest := []) ⟨hx, hb, hml, hown, hts⟩ (c_X8_cropOf l dC dI cI cZ cP cS h_t h_t_turns h_t_phases h_t_ups h_t_typed h_t_texts h_t_diary h_t_longs h_t_awakes h_t_fit h_t_counts h_t_worths h_t_ripes h_t_growths h_t_gains h_t_isThere h_t_forms h_t_sizes h_t_items h_t_moved v_m_hours v_m_months v_m_fitMany v_m_fitFirst v_m_finding v_m_turns v_m_phases v_m_ups v_m_ripes v_m_growths y42_6 (x1 + y15_5) n r69_5 hc_6) (cwV 2 hts gX8_plantingOf_X8_cropOf rfl rfl rfl (by decide +kernel) ⟨Nat.le_of_ble_eq_true rfl, Nat.le_of_ble_eq_true rfl⟩) (pv_ro (ci := 7) (q0 := 0) hK (hP.sub (ws' := (wd_X8_cropOf cI cZ cP cS h_t h_t_turns h_t_phases h_t_ups h_t_typed h_t_texts h_t_diary h_t_longs h_t_awakes h_t_fit h_t_counts h_t_worths h_t_ripes h_t_growths h_t_gains h_t_isThere h_t_forms h_t_sizes h_t_items h_t_moved v_m_hours v_m_months v_m_fitMany v_m_fitFirst v_m_finding v_m_turns v_m_phases v_m_ups v_m_ripes v_m_growths)) [0, 1, 2, 3, 4, 5] rfl) rfl rfl) rfl rfl hl.1 rfl (lv_room (Nat.le_of_ble_eq_true rfl)) dX8_plantingOf_69 ⟨Nat.zero_le _, Nat.zero_le _⟩).run (fun x e_7 => ?_)
                rw [e_7]
                refine lv_aload_n hx hb dX8_plantingOf_72 rfl (lv_at hl 0 rfl) ?_
                refine va_get (D := (dC, dI)) (ci := 7) (v := .ref h_t_gains) (C := RX8) (T := TX8) (N := 24) hx hb hts hinX8 hown hK hP 0 rfl rfl 17 (by decide) (hts (.fieldLink RX8 50 "SecondSunriseModel" "gains" "[I") (by decide +kernel)) (fun _ h9 => h9) rfl dX8_plantingOf_73 ?_
                refine lv_iload hx hb dX8_plantingOf_76 (lv_at hl 5 rfl) ?_
                refine lv_aload_n hx hb dX8_plantingOf_78 rfl (lv_at hl 0 rfl) ?_
                refine va_get (D := (dC, dI)) (ci := 7) (v := .ref h_t_ripes) (C := RX8) (T := TX8) (N := 24) hx hb hts hinX8 hown hK hP 0 rfl rfl 15 (by decide) (hts (.fieldLink RX8 44 "SecondSunriseModel" "ripes" "[I") (by decide +kernel)) (fun _ h9 => h9) rfl dX8_plantingOf_79 ?_
                refine lv_iload hx hb dX8_plantingOf_82 (lv_at hl 6 rfl) ?_
                obtain ⟨hi_8, hf⟩ := ix_e hf
                refine va_iald hx hb hK hP 4 0 rfl rfl hi_8 dX8_plantingOf_84 ?_
                refine lv_iadd hx hb dX8_plantingOf_85 ?_
                obtain ⟨hi_9, hf⟩ := ix_e hf
                refine va_iald hx hb hK hP 6 0 rfl rfl hi_9 dX8_plantingOf_86 ?_
                refine lv_iadd hx hb dX8_plantingOf_87 ?_
                refine lv_istore (lv' := [(7, .int (r69_5 + (w42_m_gains (y15_5 + (v_m_ripes y42_6.toNatClampNeg)).toNatClampNeg))), (0, .ref h_t), (1, .int x1), (2, .int x2), (3, .int x3), (4, .int y42_4), (5, .int y15_5), (6, .int y42_6)]) hx hb dX8_plantingOf_88 hl (by decide) rfl (fun ls hl => ?_)
                refine lv_iload hx hb dX8_plantingOf_90 (lv_at hl 0 rfl) ?_
                refine lv_aload_n hx hb dX8_plantingOf_92 rfl (lv_at hl 1 rfl) ?_
                refine va_get (D := (dC, dI)) (ci := 7) (v := .ref h_t_gains) (C := RX8) (T := TX8) (N := 24) hx hb hts hinX8 hown hK hP 0 rfl rfl 17 (by decide) (hts (.fieldLink RX8 50 "SecondSunriseModel" "gains" "[I") (by decide +kernel)) (fun _ h9 => h9) rfl dX8_plantingOf_93 ?_
                refine lv_iload hx hb dX8_plantingOf_96 (lv_at hl 6 rfl) ?_
                obtain ⟨hi_10, hf⟩ := ix_e hf
                refine va_iald hx hb hK hP 6 0 rfl rfl hi_10 dX8_plantingOf_98 ?_
                obtain ⟨v109_11, ev109_11, hf⟩ := lt_e hf
                have hj109_12 : ∀ (ls : Array Slot), lv_has ls 8 [(0, .ref h_t), (1, .int x1), (2, .int x2), (3, .int x3), (5, .int y15_5), (6, .int y42_6), (7, .int (r69_5 + (w42_m_gains (y15_5 + (v_m_ripes y42_6.toNatClampNeg)).toNatClampNeg)))] → W p l e (headSpec wsX8_plantingOf rm_X8_plantingOf).room s m ([.ref h_t, .int x1, .int x2, .int x3] : List Value).toArray below meth c H locs 0 0 (MQ below (RWi (dC, dI) (TY cI cZ cP cS) r s.heap.size (wd_X8_plantingOf cI cZ cP cS h_t h_t_turns h_t_phases h_t_ups h_t_typed h_t_texts h_t_diary h_t_longs h_t_awakes h_t_fit h_t_counts h_t_worths h_t_ripes h_t_growths h_t_gains h_t_isThere h_t_forms h_t_sizes h_t_items h_t_moved v_m_hours v_m_months v_m_fitMany v_m_fitFirst v_m_finding v_m_turns v_m_phases v_m_ups v_m_ripes v_m_growths v_m_gains) (wd_X8_plantingOf cI cZ cP cS h_t h_t_turns h_t_phases h_t_ups h_t_typed h_t_texts h_t_diary h_t_longs h_t_awakes h_t_fit h_t_counts h_t_worths h_t_ripes h_t_growths h_t_gains h_t_isThere h_t_forms h_t_sizes h_t_items h_t_moved v_m_hours v_m_months v_m_fitMany v_m_fitFirst v_m_finding v_m_turns v_m_phases v_m_ups v_m_ripes v_m_growths o_m_gains)) ([.ref h_t, .int x1, .int x2, .int x3] : List Value).toArray s 0 0 (va_A (wd_X8_plantingOf cI cZ cP cS h_t h_t_turns h_t_phases h_t_ups h_t_typed h_t_texts h_t_diary h_t_longs h_t_awakes h_t_fit h_t_counts h_t_worths h_t_ripes h_t_growths h_t_gains h_t_isThere h_t_forms h_t_sizes h_t_items h_t_moved v_m_hours v_m_months v_m_fitMany v_m_fitFirst v_m_finding v_m_turns v_m_phases v_m_ups v_m_ripes v_m_growths v_m_gains) s.heap.size)) (F0 m 109 ls [.int v109_11]) := by
                  intro ls hl
                  refine lv_istore (lv' := [(4, .int v109_11), (0, .ref h_t), (1, .int x1), (2, .int x2), (3, .int x3), (5, .int y15_5), (6, .int y42_6), (7, .int (r69_5 + (w42_m_gains (y15_5 + (v_m_ripes y42_6.toNatClampNeg)).toNatClampNeg)))]) hx hb dX8_plantingOf_109 hl (by decide) rfl (fun ls hl => ?_)
                  refine lv_aload_n hx hb dX8_plantingOf_111 rfl (lv_at hl 1 rfl) ?_
                  refine va_get (D := (dC, dI)) (ci := 7) (v := .ref h_t_gains) (C := RX8) (T := TX8) (N := 24) hx hb hts hinX8 hown hK hP 0 rfl rfl 17 (by decide) (hts (.fieldLink RX8 50 "SecondSunriseModel" "gains" "[I") (by decide +kernel)) (fun _ h9 => h9) rfl dX8_plantingOf_112 ?_
                  refine lv_iload hx hb dX8_plantingOf_115 (lv_at hl 5 rfl) ?_
                  refine lv_iload hx hb dX8_plantingOf_117 (lv_at hl 7 rfl) ?_
                  refine lv_aload_n hx hb dX8_plantingOf_119 rfl (lv_at hl 1 rfl) ?_
                  refine va_get (D := (dC, dI)) (ci := 7) (v := .ref h_t_gains) (C := RX8) (T := TX8) (N := 24) hx hb hts hinX8 hown hK hP 0 rfl rfl 17 (by decide) (hts (.fieldLink RX8 50 "SecondSunriseModel" "gains" "[I") (by decide +kernel)) (fun _ h9 => h9) rfl dX8_plantingOf_120 ?_
                  refine lv_iload hx hb dX8_plantingOf_123 (lv_at hl 5 rfl) ?_
                  obtain ⟨hi_13, hf⟩ := ix_e hf
                  refine va_iald hx hb hK hP 6 0 rfl rfl hi_13 dX8_plantingOf_125 ?_
                  obtain ⟨k141, ek141, hf⟩ := jn1_e hf
                  have hj141 : ∀ (q141_0 : Int32) (ls : Array Slot), lv_has ls 8 [(0, .ref h_t), (1, .int x1), (2, .int x2), (3, .int x3), (4, .int v109_11), (5, .int y15_5), (6, .int y42_6)] → k141 q141_0 = some (r, o_m_gains) → W p l e (headSpec wsX8_plantingOf rm_X8_plantingOf).room s m ([.ref h_t, .int x1, .int x2, .int x3] : List Value).toArray below meth c H locs 0 0 (MQ below (RWi (dC, dI) (TY cI cZ cP cS) r s.heap.size (wd_X8_plantingOf cI cZ cP cS h_t h_t_turns h_t_phases h_t_ups h_t_typed h_t_texts h_t_diary h_t_longs h_t_awakes h_t_fit h_t_counts h_t_worths h_t_ripes h_t_growths h_t_gains h_t_isThere h_t_forms h_t_sizes h_t_items h_t_moved v_m_hours v_m_months v_m_fitMany v_m_fitFirst v_m_finding v_m_turns v_m_phases v_m_ups v_m_ripes v_m_growths v_m_gains) (wd_X8_plantingOf cI cZ cP cS h_t h_t_turns h_t_phases h_t_ups h_t_typed h_t_texts h_t_diary h_t_longs h_t_awakes h_t_fit h_t_counts h_t_worths h_t_ripes h_t_growths h_t_gains h_t_isThere h_t_forms h_t_sizes h_t_items h_t_moved v_m_hours v_m_months v_m_fitMany v_m_fitFirst v_m_finding v_m_turns v_m_phases v_m_ups v_m_ripes v_m_growths o_m_gains)) ([.ref h_t, .int x1, .int x2, .int x3] : List Value).toArray s 0 0 (va_A (wd_X8_plantingOf cI cZ cP cS h_t h_t_turns h_t_phases h_t_ups h_t_typed h_t_texts h_t_diary h_t_longs h_t_awakes h_t_fit h_t_counts h_t_worths h_t_ripes h_t_growths h_t_gains h_t_isThere h_t_forms h_t_sizes h_t_items h_t_moved v_m_hours v_m_months v_m_fitMany v_m_fitFirst v_m_finding v_m_turns v_m_phases v_m_ups v_m_ripes v_m_growths v_m_gains) s.heap.size)) (F0 m 141 ls [.int q141_0, .int y15_5, .ref h_t_gains]) := by
                    intro q141_0 ls hl hf
                    rw [ek141] at hf
                    obtain ⟨hi_14, hf⟩ := ix_e hf
                    refine va_iast hx hb hK hP hD hS 6 0 rfl rfl hi_14 dX8_plantingOf_141 (fun H locs hP hD hS => ?_)
                    have hP : va_P (dC, dI) vwCl (wd_X8_plantingOf cI cZ cP cS h_t h_t_turns h_t_phases h_t_ups h_t_typed h_t_texts h_t_diary h_t_longs h_t_awakes h_t_fit h_t_counts h_t_worths h_t_ripes h_t_growths h_t_gains h_t_isThere h_t_forms h_t_sizes h_t_items h_t_moved v_m_hours v_m_months v_m_fitMany v_m_fitFirst v_m_finding v_m_turns v_m_phases v_m_ups v_m_ripes v_m_growths (upd w42_m_gains y15_5.toNatClampNeg q141_0)) H := hP
                    have hD : va_D (va_A (wd_X8_plantingOf cI cZ cP cS h_t h_t_turns h_t_phases h_t_ups h_t_typed h_t_texts h_t_diary h_t_longs h_t_awakes h_t_fit h_t_counts h_t_worths h_t_ripes h_t_growths h_t_gains h_t_isThere h_t_forms h_t_sizes h_t_items h_t_moved v_m_hours v_m_months v_m_fitMany v_m_fitFirst v_m_finding v_m_turns v_m_phases v_m_ups v_m_ripes v_m_growths v_m_gains) s.heap.size) (wd_X8_plantingOf cI cZ cP cS h_t h_t_turns h_t_phases h_t_ups h_t_typed h_t_texts h_t_diary h_t_longs h_t_awakes h_t_fit h_t_counts h_t_worths h_t_ripes h_t_growths h_t_gains h_t_isThere h_t_forms h_t_sizes h_t_items h_t_moved v_m_hours v_m_months v_m_fitMany v_m_fitFirst v_m_finding v_m_turns v_m_phases v_m_ups v_m_ripes v_m_growths (upd w42_m_gains y15_5.toNatClampNeg q141_0)) := hD
                    exact hj142 v109_11 (upd w42_m_gains y15_5.toNatClampNeg q141_0) H locs ls (lv_sub hl [0, 1, 2, 3, 4, 5, 6] rfl) hP hD hS hf
                  refine lv_icmp_le (tgt := 134) hx hb dX8_plantingOf_126 (by decide) (fun c126 => ?_) (fun c126 => ?_)
                  · rw [if_pos c126] at hf
                    refine lv_aload_n hx hb dX8_plantingOf_134 rfl (lv_at hl 1 rfl) ?_
                    refine va_get (D := (dC, dI)) (ci := 7) (v := .ref h_t_gains) (C := RX8) (T := TX8) (N := 24) hx hb hts hinX8 hown hK hP 0 rfl rfl 17 (by decide) (hts (.fieldLink RX8 50 "SecondSunriseModel" "gains" "[I") (by decide +kernel)) (fun _ h9 => h9) rfl dX8_plantingOf_135 ?_
                    refine lv_iload hx hb dX8_plantingOf_138 (lv_at hl 5 rfl) ?_
                    obtain ⟨hi_15, hf⟩ := ix_e hf
                    refine va_iald hx hb hK hP 6 0 rfl rfl hi_15 dX8_plantingOf_140 ?_
                    exact hj141 (w42_m_gains y15_5.toNatClampNeg) ls (lv_sub hl [1, 2, 3, 4, 0, 5, 6] rfl) hf
                  · rw [if_neg c126] at hf
                    refine lv_iload hx hb dX8_plantingOf_129 (lv_at hl 7 rfl) ?_
                    refine lv_goto (tgt := 141) hx hb dX8_plantingOf_131 (by decide) ?_
                    exact hj141 (r69_5 + (w42_m_gains (y15_5 + (v_m_ripes y42_6.toNatClampNeg)).toNatClampNeg)) ls (lv_sub hl [1, 2, 3, 4, 0, 5, 6] rfl) hf
                clear hf
                refine lv_icmp_le (tgt := 107) hx hb dX8_plantingOf_99 (by decide) (fun c99 => ?_) (fun c99 => ?_)
                ·
                  refine lv_iload hx hb dX8_plantingOf_107 (lv_at hl 5 rfl) ?_
                  rw [if_pos c99] at ev109_11
                  subst ev109_11
                  exact hj109_12 ls (lv_sub hl [1, 2, 3, 4, 6, 7, 0] rfl)
                ·
                  refine lv_iload hx hb dX8_plantingOf_102 (lv_at hl 7 rfl) ?_
                  refine lv_goto (tgt := 109) hx hb dX8_plantingOf_104 (by decide) ?_
                  rw [if_neg c99] at ev109_11
                  subst ev109_11
                  exact hj109_12 ls (lv_sub hl [1, 2, 3, 4, 6, 7, 0] rfl)
        exact hL42 n (-1) 0 (upd w15_m_gains y15_5.toNatClampNeg (w15_m_gains (y15_5 + 1).toNatClampNeg)) H locs ls (lv_sub hl [2, 3, 4, 5, 1, 6, 0] rfl) hP hD hS hf
  exact hL15 n (-1) (x2 - 1) (upd v_m_gains x2.toNatClampNeg 0) H locs ls (lv_sub hl [2, 3, 4, 5, 1, 0] rfl) hP hD hS hf

abbrev rm_X8_isIn : Room := { frames := 0, cells := 0, slots := 0, locals := 0 }
def f_X8_isIn (n : Nat) (x0 : Int32) (x1 : Int32) : Option (Int32) := if ((x0 >>> (x1 &&& 31)) &&& 1) = 1 then some 1 else some 0
set_option maxHeartbeats 4000000 in
set_option maxRecDepth 100000 in
theorem c_X8_isIn (l : Launch) (dC : Nat → ClassId) (dI : Nat → Nat → Nat) (cI cZ cP cS : ClassId) (x0 : Int32) (x1 : Int32) (n : Nat) (r : Int32) (hf : f_X8_isIn n x0 x1 = some r) : Met l yX8_isIn wsX8_isIn rm_X8_isIn (RO (dC, dI) (TY cI cZ cP cS) [.int x0, .int x1] ([] : va_W)) (vp_Si (fun x => x = r ∧ narrow .boolean (.int x) = .int x)) 0 0 NF := by
  refine Met.ofW (cc := cX8_isIn) (maxL := 2) (ret := (some .boolean)) (by decide) rfl ?_
  intro p e s m args below meth c s₁ B hml hv
  obtain ⟨rfl, hP, hK⟩ := hv
  have hx := B.exec
  have hb := B.bytes
  have hr := B.returns
  have hts := atoms_spec (ws := wsX8_isIn) B.pre
  have hown : s.vm.findClass RX8 = some m.cls := findClass_of_methodNamed B.named
  have hlocks := B.notSynchronized
  have hl := lv_entry ([.int x0, .int x1]) (n := 2) (Nat.le_of_ble_eq_true rfl)
  rw [lg_entry_eq]
  generalize (lg_sl ([.int x0, .int x1]) ++ List.replicate (2 - (lg_sl ([.int x0, .int x1])).length) Slot.unset).toArray = ls at hl ⊢
  have hl : lv_has ls 2 [(0, .int x0), (1, .int x1)] := hl
  unfold f_X8_isIn at hf
  refine lv_iload_n hx hb dX8_isIn_0 rfl (lv_at hl 0 rfl) ?_
  refine lv_iload_n hx hb dX8_isIn_1 rfl (lv_at hl 1 rfl) ?_
  refine lv_ishr hx hb dX8_isIn_2 ?_
  refine lv_iconst (v := 1) hx hb dX8_isIn_3 (by decide) ?_
  refine lv_iand hx hb dX8_isIn_4 ?_
  refine lv_iconst (v := 1) hx hb dX8_isIn_5 (by decide) ?_
  refine lv_icmp_ne (tgt := 13) hx hb dX8_isIn_6 (by decide) (fun c6 => ?_) (fun c6 => ?_)
  · rw [if_neg c6] at hf
    refine lv_iconst (v := 0) hx hb dX8_isIn_13 (by decide) ?_
    exact W.zret hx hb hr (by decide) (fun t ht hW => ⟨_, rfl, ⟨Option.some.inj hf, (by decide)⟩, ht⟩) (fun _ h => nomatch h) dX8_isIn_14
  · rw [if_pos c6] at hf
    refine lv_iconst (v := 1) hx hb dX8_isIn_9 (by decide) ?_
    refine lv_goto (tgt := 14) hx hb dX8_isIn_10 (by decide) ?_
    exact W.zret hx hb hr (by decide) (fun t ht hW => ⟨_, rfl, ⟨Option.some.inj hf, (by decide)⟩, ht⟩) (fun _ h => nomatch h) dX8_isIn_14

abbrev wd_X8_priceOf (cI cZ cP cS : ClassId) (h_t h_t_turns h_t_phases h_t_ups h_t_typed h_t_texts h_t_diary h_t_longs h_t_awakes h_t_fit h_t_counts h_t_worths h_t_ripes h_t_growths h_t_gains h_t_isThere h_t_forms h_t_sizes h_t_items h_t_moved : Nat) (v_m_hours : Int32) (v_m_months : Int32) (v_m_fitMany : Int32) (v_m_fitFirst : Int32) (v_m_finding : Int32) (v_m_awakes : Nat → Int32) (v_m_worths : Nat → Int32) : va_W := [(h_t, .inr (7, [.ref h_t_turns, .ref h_t_phases, .ref h_t_ups, .ref h_t_typed, .ref h_t_texts, .int v_m_hours, .ref h_t_diary, .int v_m_months, .ref h_t_longs, .ref h_t_awakes, .ref h_t_fit, .int v_m_fitMany, .int v_m_fitFirst, .ref h_t_counts, .ref h_t_worths, .ref h_t_ripes, .ref h_t_growths, .ref h_t_gains, .ref h_t_isThere, .ref h_t_forms, .ref h_t_sizes, .ref h_t_items, .ref h_t_moved, .int v_m_finding])), (h_t_awakes, .inl (cI, 6, .inl v_m_awakes)), (h_t_worths, .inl (cI, 6, .inl v_m_worths))]
abbrev rm_X8_priceOf : Room := { frames := 1, cells := 0, slots := 0, locals := 21 }
def L_X8_priceOf_56 (n : Nat) (v_m_worths : Nat → Int32) (y44_2 : Int32) (kx56 : Int32 → Option (Int32)) : Nat → Int32 → Int32 → Option (Int32)
  | 0, _, _ => none
  | k56 + 1, y56_5, y56_6 => if (6 : Int32) ≤ y56_6 then kx56 y56_5 else bd1_ (f_X8_isIn n y44_2 y56_6) (fun (r66_4 : Int32) => jn1_ (fun (q102_0 : Int32) => L_X8_priceOf_56 n v_m_worths y44_2 kx56 k56 q102_0 (y56_6 + 1)) (fun k102 => jn0_ (k102 y56_5) (fun k100 => if r66_4 = 0 then k100 else jn0_ (k102 y56_6) (fun k95 => if y56_5 = (-1) then k95 else ix_ y56_6 6 (ix_ y56_5 6 (if (v_m_worths y56_6.toNatClampNeg) ≤ (v_m_worths y56_5.toNatClampNeg) then k100 else k95))))))
theorem L_X8_priceOf_56_s (n : Nat) (v_m_worths : Nat → Int32) (y44_2 : Int32) (kx56 : Int32 → Option (Int32)) (k56 : Nat) (y56_5 : Int32) (y56_6 : Int32) : L_X8_priceOf_56 n v_m_worths y44_2 kx56 (k56 + 1) y56_5 y56_6 = if (6 : Int32) ≤ y56_6 then kx56 y56_5 else bd1_ (f_X8_isIn n y44_2 y56_6) (fun (r66_4 : Int32) => jn1_ (fun (q102_0 : Int32) => L_X8_priceOf_56 n v_m_worths y44_2 kx56 k56 q102_0 (y56_6 + 1)) (fun k102 => jn0_ (k102 y56_5) (fun k100 => if r66_4 = 0 then k100 else jn0_ (k102 y56_6) (fun k95 => if y56_5 = (-1) then k95 else ix_ y56_6 6 (ix_ y56_5 6 (if (v_m_worths y56_6.toNatClampNeg) ≤ (v_m_worths y56_5.toNatClampNeg) then k100 else k95)))))) := rfl
def L_X8_priceOf_44 (n : Nat) (v_m_worths : Nat → Int32) (x1 : Int32) (kx44 : Int32 → Option (Int32)) : Nat → Int32 → Int32 → Int32 → Option (Int32)
  | 0, _, _, _ => none
  | k44 + 1, y44_2, y44_3, y44_4 => if x1 < y44_4 then kx44 y44_3 else jn1_ (fun (z56_5 : Int32) => jn1_ (fun (q127_0 : Int32) => lt_ ((if z56_5 = (-1) then 0 else ((1 <<< (z56_5 &&& 31)) ^^^ (-1))) : Int32) (fun v145_1 => L_X8_priceOf_44 n v_m_worths x1 kx44 k44 (y44_2 &&& v145_1) q127_0 (y44_4 + 1))) (fun k127 => if z56_5 = (-1) then k127 0 else ix_ z56_5 6 (k127 (v_m_worths z56_5.toNatClampNeg)))) (fun kx56 => L_X8_priceOf_56 n v_m_worths y44_2 kx56 n (-1) 0)
theorem L_X8_priceOf_44_s (n : Nat) (v_m_worths : Nat → Int32) (x1 : Int32) (kx44 : Int32 → Option (Int32)) (k44 : Nat) (y44_2 : Int32) (y44_3 : Int32) (y44_4 : Int32) : L_X8_priceOf_44 n v_m_worths x1 kx44 (k44 + 1) y44_2 y44_3 y44_4 = if x1 < y44_4 then kx44 y44_3 else jn1_ (fun (z56_5 : Int32) => jn1_ (fun (q127_0 : Int32) => lt_ ((if z56_5 = (-1) then 0 else ((1 <<< (z56_5 &&& 31)) ^^^ (-1))) : Int32) (fun v145_1 => L_X8_priceOf_44 n v_m_worths x1 kx44 k44 (y44_2 &&& v145_1) q127_0 (y44_4 + 1))) (fun k127 => if z56_5 = (-1) then k127 0 else ix_ z56_5 6 (k127 (v_m_worths z56_5.toNatClampNeg)))) (fun kx56 => L_X8_priceOf_56 n v_m_worths y44_2 kx56 n (-1) 0) := rfl
def L_X8_priceOf_4 (n : Nat) (v_m_awakes : Nat → Int32) (kx4 : Int32 → Option (Int32)) : Nat → Int32 → Int32 → Option (Int32)
  | 0, _, _ => none
  | k4 + 1, y4_2, y4_3 => if (6 : Int32) ≤ y4_3 then kx4 y4_2 else ix_ y4_3 6 (bd1_ (f_X8_isIn n (v_m_awakes y4_3.toNatClampNeg) 3) (fun (r18_11 : Int32) => lt_ ((if r18_11 = 0 then (1 <<< (y4_3 &&& 31)) else 0) : Int32) (fun v31_15 => L_X8_priceOf_4 n v_m_awakes kx4 k4 (y4_2 ||| v31_15) (y4_3 + 1))))
theorem L_X8_priceOf_4_s (n : Nat) (v_m_awakes : Nat → Int32) (kx4 : Int32 → Option (Int32)) (k4 : Nat) (y4_2 : Int32) (y4_3 : Int32) : L_X8_priceOf_4 n v_m_awakes kx4 (k4 + 1) y4_2 y4_3 = if (6 : Int32) ≤ y4_3 then kx4 y4_2 else ix_ y4_3 6 (bd1_ (f_X8_isIn n (v_m_awakes y4_3.toNatClampNeg) 3) (fun (r18_11 : Int32) => lt_ ((if r18_11 = 0 then (1 <<< (y4_3 &&& 31)) else 0) : Int32) (fun v31_15 => L_X8_priceOf_4 n v_m_awakes kx4 k4 (y4_2 ||| v31_15) (y4_3 + 1)))) := rfl
def f_X8_priceOf (n : Nat) (v_m_awakes : Nat → Int32) (v_m_worths : Nat → Int32) (x1 : Int32) : Option (Int32) := jn1_ (fun (z4_2 : Int32) => jn1_ (fun (z44_3 : Int32) => some z44_3) (fun kx44 => L_X8_priceOf_44 n v_m_worths x1 kx44 n z4_2 0 0)) (fun kx4 => L_X8_priceOf_4 n v_m_awakes kx4 n 0 0)
set_option maxHeartbeats 4000000 in
set_option maxRecDepth 100000 in
theorem c_X8_priceOf (l : Launch) (dC : Nat → ClassId) (dI : Nat → Nat → Nat) (cI cZ cP cS : ClassId) (h_t h_t_turns h_t_phases h_t_ups h_t_typed h_t_texts h_t_diary h_t_longs h_t_awakes h_t_fit h_t_counts h_t_worths h_t_ripes h_t_growths h_t_gains h_t_isThere h_t_forms h_t_sizes h_t_items h_t_moved : Nat) (v_m_hours : Int32) (v_m_months : Int32) (v_m_fitMany : Int32) (v_m_fitFirst : Int32) (v_m_finding : Int32) (v_m_awakes : Nat → Int32) (v_m_worths : Nat → Int32) (x1 : Int32) (n : Nat) (r : Int32) (hf : f_X8_priceOf n v_m_awakes v_m_worths x1 = some r) : Met l yX8_priceOf wsX8_priceOf rm_X8_priceOf (RO (dC, dI) (TY cI cZ cP cS) [.ref h_t, .int x1] (wd_X8_priceOf cI cZ cP cS h_t h_t_turns h_t_phases h_t_ups h_t_typed h_t_texts h_t_diary h_t_longs h_t_awakes h_t_fit h_t_counts h_t_worths h_t_ripes h_t_growths h_t_gains h_t_isThere h_t_forms h_t_sizes h_t_items h_t_moved v_m_hours v_m_months v_m_fitMany v_m_fitFirst v_m_finding v_m_awakes v_m_worths)) (vp_Si (fun x => x = r)) 0 0 NF := by
  refine Met.ofW (cc := cX8_priceOf) (maxL := 7) (ret := (some .int)) (by decide) rfl ?_
  intro p e s m args below meth c s₁ B hml hv
  obtain ⟨rfl, hP, hK⟩ := hv
  have hx := B.exec
  have hb := B.bytes
  have hr := B.returns
  have hts := atoms_spec (ws := wsX8_priceOf) B.pre
  have hown : s.vm.findClass RX8 = some m.cls := findClass_of_methodNamed B.named
  have hlocks := B.notSynchronized
  have hinX8 : ∀ w ∈ wsX80, w ∈ wsX8_priceOf := by decide +kernel
  have hl := lv_entry ([.ref h_t, .int x1]) (n := 7) (Nat.le_of_ble_eq_true rfl)
  rw [lg_entry_eq]
  generalize (lg_sl ([.ref h_t, .int x1]) ++ List.replicate (7 - (lg_sl ([.ref h_t, .int x1])).length) Slot.unset).toArray = ls at hl ⊢
  have hl : lv_has ls 7 [(0, .ref h_t), (1, .int x1)] := hl
  unfold f_X8_priceOf at hf
  refine lv_iconst (v := 0) hx hb dX8_priceOf_0 (by decide) ?_
  refine lv_istore_n (lv' := [(2, .int 0), (0, .ref h_t), (1, .int x1)]) hx hb dX8_priceOf_1 rfl hl (by decide) rfl (fun ls hl => ?_)
  refine lv_iconst (v := 0) hx hb dX8_priceOf_2 (by decide) ?_
  refine lv_istore_n (lv' := [(3, .int 0), (2, .int 0), (0, .ref h_t), (1, .int x1)]) hx hb dX8_priceOf_3 rfl hl (by decide) rfl (fun ls hl => ?_)
  obtain ⟨kx4, ekx4, hf⟩ := jn1_e hf
  have hx4 : ∀ (z4_2 : Int32) (ls : Array Slot), lv_has ls 7 [(0, .ref h_t), (1, .int x1), (2, .int z4_2)] → kx4 z4_2 = some r → W p l e (headSpec wsX8_priceOf rm_X8_priceOf).room s m ([.ref h_t, .int x1] : List Value).toArray below meth c s.heap [] 0 0 (MQ below (vp_Si (fun x => x = r)) ([.ref h_t, .int x1] : List Value).toArray s 0 0 NF) (F0 m 39 ls []) := by
    intro z4_2 ls hl hf
    rw [ekx4] at hf
    refine lv_iconst (v := 0) hx hb dX8_priceOf_39 (by decide) ?_
    refine lv_istore_n (lv' := [(3, .int 0), (0, .ref h_t), (1, .int x1), (2, .int z4_2)]) hx hb dX8_priceOf_40 rfl hl (by decide) rfl (fun ls hl => ?_)
    refine lv_iconst (v := 0) hx hb dX8_priceOf_41 (by decide) ?_
    refine lv_istore (lv' := [(4, .int 0), (3, .int 0), (0, .ref h_t), (1, .int x1), (2, .int z4_2)]) hx hb dX8_priceOf_42 hl (by decide) rfl (fun ls hl => ?_)
    obtain ⟨kx44, ekx44, hf⟩ := jn1_e hf
    have hx44 : ∀ (z44_3 : Int32) (ls : Array Slot), lv_has ls 7 [(3, .int z44_3)] → kx44 z44_3 = some r → W p l e (headSpec wsX8_priceOf rm_X8_priceOf).room s m ([.ref h_t, .int x1] : List Value).toArray below meth c s.heap [] 0 0 (MQ below (vp_Si (fun x => x = r)) ([.ref h_t, .int x1] : List Value).toArray s 0 0 NF) (F0 m 153 ls []) := by
      intro z44_3 ls hl hf
      rw [ekx44] at hf
      refine lv_iload_n hx hb dX8_priceOf_153 rfl (lv_at hl 0 rfl) ?_
      exact W.iret hx hb hr (fun t ht hW => ⟨_, rfl, Option.some.inj hf, ht⟩) (fun _ h => nomatch h) dX8_priceOf_154
    have hL44 : ∀ (k44 : Nat) (y44_2 : Int32) (y44_3 : Int32) (y44_4 : Int32) (ls : Array Slot), lv_has ls 7 [(0, .ref h_t), (1, .int x1), (2, .int y44_2), (3, .int y44_3), (4, .int y44_4)] → L_X8_priceOf_44 n v_m_worths x1 kx44 k44 y44_2 y44_3 y44_4 = some r → W p l e (headSpec wsX8_priceOf rm_X8_priceOf).room s m ([.ref h_t, .int x1] : List Value).toArray below meth c s.heap [] 0 0 (MQ below (vp_Si (fun x => x = r)) ([.ref h_t, .int x1] : List Value).toArray s 0 0 NF) (F0 m 44 ls []) := by
      intro k44
      induction k44 with
      | zero =>
        intro y44_2 y44_3 y44_4 ls hl hf
        exact absurd hf (fun h => Option.some_ne_none _ h.symm)
      | succ k44 ih =>
        intro y44_2 y44_3 y44_4 ls hl hf
        rw [L_X8_priceOf_44_s] at hf
        refine lv_iload hx hb dX8_priceOf_44 (lv_at hl 4 rfl) ?_
        refine lv_iload_n hx hb dX8_priceOf_46 rfl (lv_at hl 1 rfl) ?_
        refine lv_icmp_gt (tgt := 153) hx hb dX8_priceOf_47 (by decide) (fun c47 => ?_) (fun c47 => ?_)
        · rw [if_pos c47] at hf
          exact hx44 y44_3 ls (lv_sub hl [3] rfl) hf
        · rw [if_neg c47] at hf
          refine lv_iconst (v := (-1)) hx hb dX8_priceOf_50 (by decide) ?_
          refine lv_istore (lv' := [(5, .int (-1)), (0, .ref h_t), (1, .int x1), (2, .int y44_2), (3, .int y44_3), (4, .int y44_4)]) hx hb dX8_priceOf_51 hl (by decide) rfl (fun ls hl => ?_)
          refine lv_iconst (v := 0) hx hb dX8_priceOf_53 (by decide) ?_
          refine lv_istore (lv' := [(6, .int 0), (5, .int (-1)), (0, .ref h_t), (1, .int x1), (2, .int y44_2), (3, .int y44_3), (4, .int y44_4)]) hx hb dX8_priceOf_54 hl (by decide) rfl (fun ls hl => ?_)
          obtain ⟨kx56, ekx56, hf⟩ := jn1_e hf
          have hx56 : ∀ (z56_5 : Int32) (ls : Array Slot), lv_has ls 7 [(0, .ref h_t), (1, .int x1), (2, .int y44_2), (4, .int y44_4), (5, .int z56_5)] → kx56 z56_5 = some r → W p l e (headSpec wsX8_priceOf rm_X8_priceOf).room s m ([.ref h_t, .int x1] : List Value).toArray below meth c s.heap [] 0 0 (MQ below (vp_Si (fun x => x = r)) ([.ref h_t, .int x1] : List Value).toArray s 0 0 NF) (F0 m 110 ls []) := by
            intro z56_5 ls hl hf
            rw [ekx56] at hf
            refine lv_iload hx hb dX8_priceOf_110 (lv_at hl 4 rfl) ?_
            refine lv_iconst (v := (-1)) hx hb dX8_priceOf_112 (by decide) ?_
            obtain ⟨k127, ek127, hf⟩ := jn1_e hf
            have hj127 : ∀ (q127_0 : Int32) (ls : Array Slot), lv_has ls 7 [(0, .ref h_t), (1, .int x1), (2, .int y44_2), (4, .int y44_4), (5, .int z56_5)] → k127 q127_0 = some r → W p l e (headSpec wsX8_priceOf rm_X8_priceOf).room s m ([.ref h_t, .int x1] : List Value).toArray below meth c s.heap [] 0 0 (MQ below (vp_Si (fun x => x = r)) ([.ref h_t, .int x1] : List Value).toArray s 0 0 NF) (F0 m 127 ls [.int q127_0]) := by
              intro q127_0 ls hl hf
              rw [ek127] at hf
              refine lv_istore_n (lv' := [(3, .int q127_0), (0, .ref h_t), (1, .int x1), (2, .int y44_2), (4, .int y44_4), (5, .int z56_5)]) hx hb dX8_priceOf_127 rfl hl (by decide) rfl (fun ls hl => ?_)
              refine lv_iload_n hx hb dX8_priceOf_128 rfl (lv_at hl 3 rfl) ?_
              refine lv_iload hx hb dX8_priceOf_129 (lv_at hl 5 rfl) ?_
              refine lv_iconst (v := (-1)) hx hb dX8_priceOf_131 (by decide) ?_
              obtain ⟨v145_1, ev145_1, hf⟩ := lt_e hf
              have hj145_2 : ∀ (ls : Array Slot), lv_has ls 7 [(0, .ref h_t), (1, .int x1), (3, .int q127_0), (4, .int y44_4)] → W p l e (headSpec wsX8_priceOf rm_X8_priceOf).room s m ([.ref h_t, .int x1] : List Value).toArray below meth c s.heap [] 0 0 (MQ below (vp_Si (fun x => x = r)) ([.ref h_t, .int x1] : List Value).toArray s 0 0 NF) (F0 m 145 ls [.int v145_1, .int y44_2]) := by
                intro ls hl
                refine lv_iand hx hb dX8_priceOf_145 ?_
                refine lv_istore_n (lv' := [(2, .int (y44_2 &&& v145_1)), (0, .ref h_t), (1, .int x1), (3, .int q127_0), (4, .int y44_4)]) hx hb dX8_priceOf_146 rfl hl (by decide) rfl (fun ls hl => ?_)
                refine lv_iinc (v := (y44_4 + 1)) (lv' := [(4, .int (y44_4 + 1)), (2, .int (y44_2 &&& v145_1)), (0, .ref h_t), (1, .int x1), (3, .int q127_0)]) hx hb dX8_priceOf_147 hl (k := 4) rfl rfl (by decide) rfl (fun ls hl => ?_)
                refine lv_goto (tgt := 44) hx hb dX8_priceOf_150 (by decide) ?_
                exact ih (y44_2 &&& v145_1) q127_0 (y44_4 + 1) ls (lv_sub hl [2, 3, 1, 4, 0] rfl) hf
              clear hf
              refine lv_icmp_ne (tgt := 139) hx hb dX8_priceOf_132 (by decide) (fun c132 => ?_) (fun c132 => ?_)
              ·
                refine lv_iconst (v := 1) hx hb dX8_priceOf_139 (by decide) ?_
                refine lv_iload hx hb dX8_priceOf_140 (lv_at hl 5 rfl) ?_
                refine lv_ishl hx hb dX8_priceOf_142 ?_
                refine lv_iconst (v := (-1)) hx hb dX8_priceOf_143 (by decide) ?_
                refine lv_ixor hx hb dX8_priceOf_144 ?_
                rw [if_neg c132] at ev145_1
                subst ev145_1
                exact hj145_2 ls (lv_sub hl [1, 2, 0, 4] rfl)
              ·
                refine lv_iconst (v := 0) hx hb dX8_priceOf_135 (by decide) ?_
                refine lv_goto (tgt := 145) hx hb dX8_priceOf_136 (by decide) ?_
                rw [if_pos c132] at ev145_1
                subst ev145_1
                exact hj145_2 ls (lv_sub hl [1, 2, 0, 4] rfl)
            refine lv_icmp_ne (tgt := 120) hx hb dX8_priceOf_113 (by decide) (fun c113 => ?_) (fun c113 => ?_)
            · rw [if_neg c113] at hf
              refine lv_aload_n hx hb dX8_priceOf_120 rfl (lv_at hl 0 rfl) ?_
              refine va_get (D := (dC, dI)) (ci := 7) (v := .ref h_t_worths) (C := RX8) (T := TX8) (N := 24) hx hb hts hinX8 hown hK hP 0 rfl rfl 14 (by decide) (hts (.fieldLink RX8 41 "SecondSunriseModel" "worths" "[I") (by decide +kernel)) (fun _ h9 => h9) rfl dX8_priceOf_121 ?_
              refine lv_iload hx hb dX8_priceOf_124 (lv_at hl 4 rfl) ?_
              obtain ⟨hi_3, hf⟩ := ix_e hf
              refine va_iald hx hb hK hP 2 0 rfl rfl hi_3 dX8_priceOf_126 ?_
              exact hj127 (v_m_worths z56_5.toNatClampNeg) ls (lv_sub hl [0, 1, 2, 3, 4] rfl) hf
            · rw [if_pos c113] at hf
              refine lv_iconst (v := 0) hx hb dX8_priceOf_116 (by decide) ?_
              refine lv_goto (tgt := 127) hx hb dX8_priceOf_117 (by decide) ?_
              exact hj127 0 ls (lv_sub hl [0, 1, 2, 3, 4] rfl) hf
          have hL56 : ∀ (k56 : Nat) (y56_5 : Int32) (y56_6 : Int32) (ls : Array Slot), lv_has ls 7 [(0, .ref h_t), (1, .int x1), (2, .int y44_2), (4, .int y44_4), (5, .int y56_5), (6, .int y56_6)] → L_X8_priceOf_56 n v_m_worths y44_2 kx56 k56 y56_5 y56_6 = some r → W p l e (headSpec wsX8_priceOf rm_X8_priceOf).room s m ([.ref h_t, .int x1] : List Value).toArray below meth c s.heap [] 0 0 (MQ below (vp_Si (fun x => x = r)) ([.ref h_t, .int x1] : List Value).toArray s 0 0 NF) (F0 m 56 ls []) := by
            intro k56
            induction k56 with
            | zero =>
              intro y56_5 y56_6 ls hl hf
              exact absurd hf (fun h => Option.some_ne_none _ h.symm)
            | succ k56 ih =>
              intro y56_5 y56_6 ls hl hf
              rw [L_X8_priceOf_56_s] at hf
              refine lv_iload hx hb dX8_priceOf_56 (lv_at hl 5 rfl) ?_
              refine lv_bipush (v := 6) hx hb dX8_priceOf_58 (by decide) ?_
              refine lv_icmp_ge (tgt := 110) hx hb dX8_priceOf_60 (by decide) (fun c60 => ?_) (fun c60 => ?_)
              · rw [if_pos c60] at hf
                exact hx56 y56_5 ls (lv_sub hl [0, 1, 2, 3, 4] rfl) hf
              · rw [if_neg c60] at hf
                refine lv_iload_n hx hb dX8_priceOf_63 rfl (lv_at hl 2 rfl) ?_
                refine lv_iload hx hb dX8_priceOf_64 (lv_at hl 5 rfl) ?_
                obtain ⟨r66_4, hc_5, hf⟩ := bd1_e hf
                refine vp_callSi (va_runS (As := [.int y44_2, .int y56_6]) (rest := []) ⟨hx, hb, hml, hown, hts⟩ (c_X8_isIn l dC dI cI cZ cP cS   y44_2 y56_6 n r66_4 hc_5) (va_cwS 2 hts gX8_priceOf_X8_isIn rfl rfl rfl (by decide +kernel) ⟨Nat.le_of_ble_eq_true rfl, Nat.le_of_ble_eq_true rfl⟩) (ps_ro hK (hP.sub (ws' := ([] : va_W)) [] rfl)) rfl rfl hl.1 rfl (lv_room (Nat.le_of_ble_eq_true rfl)) dX8_priceOf_66 ⟨Nat.zero_le _, Nat.zero_le _⟩).run (fun x e_6 => ?_)
                obtain ⟨e_6, hb_7⟩ := e_6
                rw [e_6] at hb_7 ⊢
                obtain ⟨k102, ek102, hf⟩ := jn1_e hf
                have hj102 : ∀ (q102_0 : Int32) (ls : Array Slot), lv_has ls 7 [(0, .ref h_t), (1, .int x1), (2, .int y44_2), (4, .int y44_4), (6, .int y56_6)] → k102 q102_0 = some r → W p l e (headSpec wsX8_priceOf rm_X8_priceOf).room s m ([.ref h_t, .int x1] : List Value).toArray below meth c s.heap [] 0 0 (MQ below (vp_Si (fun x => x = r)) ([.ref h_t, .int x1] : List Value).toArray s 0 0 NF) (F0 m 102 ls [.int q102_0]) := by
                  intro q102_0 ls hl hf
                  rw [ek102] at hf
                  refine lv_istore (lv' := [(5, .int q102_0), (0, .ref h_t), (1, .int x1), (2, .int y44_2), (4, .int y44_4), (6, .int y56_6)]) hx hb dX8_priceOf_102 hl (by decide) rfl (fun ls hl => ?_)
                  refine lv_iinc (v := (y56_6 + 1)) (lv' := [(6, .int (y56_6 + 1)), (5, .int q102_0), (0, .ref h_t), (1, .int x1), (2, .int y44_2), (4, .int y44_4)]) hx hb dX8_priceOf_104 hl (k := 5) rfl rfl (by decide) rfl (fun ls hl => ?_)
                  refine lv_goto (tgt := 56) hx hb dX8_priceOf_107 (by decide) ?_
                  exact ih q102_0 (y56_6 + 1) ls (lv_sub hl [2, 3, 4, 5, 1, 0] rfl) hf
                obtain ⟨k100, ek100, hf⟩ := jn0_e hf
                have hj100 : ∀ (ls : Array Slot), lv_has ls 7 [(0, .ref h_t), (1, .int x1), (2, .int y44_2), (4, .int y44_4), (5, .int y56_5), (6, .int y56_6)] → k100 = some r → W p l e (headSpec wsX8_priceOf rm_X8_priceOf).room s m ([.ref h_t, .int x1] : List Value).toArray below meth c s.heap [] 0 0 (MQ below (vp_Si (fun x => x = r)) ([.ref h_t, .int x1] : List Value).toArray s 0 0 NF) (F0 m 100 ls []) := by
                  intro ls hl hf
                  rw [ek100] at hf
                  refine lv_iload hx hb dX8_priceOf_100 (lv_at hl 4 rfl) ?_
                  exact hj102 y56_5 ls (lv_sub hl [0, 1, 2, 3, 5] rfl) hf
                refine lv_if_eq (tgt := 100) hx hb dX8_priceOf_69 (by decide) (fun c69 => ?_) (fun c69 => ?_)
                · rw [if_pos c69] at hf
                  exact hj100 ls (lv_sub hl [0, 1, 2, 3, 4, 5] rfl) hf
                · rw [if_neg c69] at hf
                  refine lv_iload hx hb dX8_priceOf_72 (lv_at hl 4 rfl) ?_
                  refine lv_iconst (v := (-1)) hx hb dX8_priceOf_74 (by decide) ?_
                  obtain ⟨k95, ek95, hf⟩ := jn0_e hf
                  have hj95 : ∀ (ls : Array Slot), lv_has ls 7 [(0, .ref h_t), (1, .int x1), (2, .int y44_2), (4, .int y44_4), (6, .int y56_6)] → k95 = some r → W p l e (headSpec wsX8_priceOf rm_X8_priceOf).room s m ([.ref h_t, .int x1] : List Value).toArray below meth c s.heap [] 0 0 (MQ below (vp_Si (fun x => x = r)) ([.ref h_t, .int x1] : List Value).toArray s 0 0 NF) (F0 m 95 ls []) := by
                    intro ls hl hf
                    rw [ek95] at hf
                    refine lv_iload hx hb dX8_priceOf_95 (lv_at hl 4 rfl) ?_
                    refine lv_goto (tgt := 102) hx hb dX8_priceOf_97 (by decide) ?_
                    exact hj102 y56_6 ls (lv_sub hl [0, 1, 2, 3, 4] rfl) hf
                  refine lv_icmp_eq (tgt := 95) hx hb dX8_priceOf_75 (by decide) (fun c75 => ?_) (fun c75 => ?_)
                  · rw [if_pos c75] at hf
                    exact hj95 ls (lv_sub hl [0, 1, 2, 3, 5] rfl) hf
                  · rw [if_neg c75] at hf
                    refine lv_aload_n hx hb dX8_priceOf_78 rfl (lv_at hl 0 rfl) ?_
                    refine va_get (D := (dC, dI)) (ci := 7) (v := .ref h_t_worths) (C := RX8) (T := TX8) (N := 24) hx hb hts hinX8 hown hK hP 0 rfl rfl 14 (by decide) (hts (.fieldLink RX8 41 "SecondSunriseModel" "worths" "[I") (by decide +kernel)) (fun _ h9 => h9) rfl dX8_priceOf_79 ?_
                    refine lv_iload hx hb dX8_priceOf_82 (lv_at hl 5 rfl) ?_
                    obtain ⟨hi_8, hf⟩ := ix_e hf
                    refine va_iald hx hb hK hP 2 0 rfl rfl hi_8 dX8_priceOf_84 ?_
                    refine lv_aload_n hx hb dX8_priceOf_85 rfl (lv_at hl 0 rfl) ?_
                    refine va_get (D := (dC, dI)) (ci := 7) (v := .ref h_t_worths) (C := RX8) (T := TX8) (N := 24) hx hb hts hinX8 hown hK hP 0 rfl rfl 14 (by decide) (hts (.fieldLink RX8 41 "SecondSunriseModel" "worths" "[I") (by decide +kernel)) (fun _ h9 => h9) rfl dX8_priceOf_86 ?_
                    refine lv_iload hx hb dX8_priceOf_89 (lv_at hl 4 rfl) ?_
                    obtain ⟨hi_9, hf⟩ := ix_e hf
                    refine va_iald hx hb hK hP 2 0 rfl rfl hi_9 dX8_priceOf_91 ?_
                    refine lv_icmp_le (tgt := 100) hx hb dX8_priceOf_92 (by decide) (fun c92 => ?_) (fun c92 => ?_)
                    · rw [if_pos c92] at hf
                      exact hj100 ls (lv_sub hl [0, 1, 2, 3, 4, 5] rfl) hf
                    · rw [if_neg c92] at hf
                      exact hj95 ls (lv_sub hl [0, 1, 2, 3, 5] rfl) hf
          exact hL56 n (-1) 0 ls (lv_sub hl [2, 3, 4, 6, 1, 0] rfl) hf
    exact hL44 n z4_2 0 0 ls (lv_sub hl [2, 3, 4, 1, 0] rfl) hf
  have hL4 : ∀ (k4 : Nat) (y4_2 : Int32) (y4_3 : Int32) (ls : Array Slot), lv_has ls 7 [(0, .ref h_t), (1, .int x1), (2, .int y4_2), (3, .int y4_3)] → L_X8_priceOf_4 n v_m_awakes kx4 k4 y4_2 y4_3 = some r → W p l e (headSpec wsX8_priceOf rm_X8_priceOf).room s m ([.ref h_t, .int x1] : List Value).toArray below meth c s.heap [] 0 0 (MQ below (vp_Si (fun x => x = r)) ([.ref h_t, .int x1] : List Value).toArray s 0 0 NF) (F0 m 4 ls []) := by
    intro k4
    induction k4 with
    | zero =>
      intro y4_2 y4_3 ls hl hf
      exact absurd hf (fun h => Option.some_ne_none _ h.symm)
    | succ k4 ih =>
      intro y4_2 y4_3 ls hl hf
      rw [L_X8_priceOf_4_s] at hf
      refine lv_iload_n hx hb dX8_priceOf_4 rfl (lv_at hl 3 rfl) ?_
      refine lv_bipush (v := 6) hx hb dX8_priceOf_5 (by decide) ?_
      refine lv_icmp_ge (tgt := 39) hx hb dX8_priceOf_7 (by decide) (fun c7 => ?_) (fun c7 => ?_)
      · rw [if_pos c7] at hf
        exact hx4 y4_2 ls (lv_sub hl [0, 1, 2] rfl) hf
      · rw [if_neg c7] at hf
        refine lv_iload_n hx hb dX8_priceOf_10 rfl (lv_at hl 2 rfl) ?_
        refine lv_aload_n hx hb dX8_priceOf_11 rfl (lv_at hl 0 rfl) ?_
        refine va_get (D := (dC, dI)) (ci := 7) (v := .ref h_t_awakes) (C := RX8) (T := TX8) (N := 24) hx hb hts hinX8 hown hK hP 0 rfl rfl 9 (by decide) (hts (.fieldLink RX8 31 "SecondSunriseModel" "awakes" "[I") (by decide +kernel)) (fun _ h9 => h9) rfl dX8_priceOf_12 ?_
        refine lv_iload_n hx hb dX8_priceOf_15 rfl (lv_at hl 3 rfl) ?_
        obtain ⟨hi_10, hf⟩ := ix_e hf
        refine va_iald hx hb hK hP 1 0 rfl rfl hi_10 dX8_priceOf_16 ?_
        refine lv_iconst (v := 3) hx hb dX8_priceOf_17 (by decide) ?_
        obtain ⟨r18_11, hc_12, hf⟩ := bd1_e hf
        refine vp_callSi (va_runS (As := [.int (v_m_awakes y4_3.toNatClampNeg), .int 3]) (rest := [.int y4_2]) ⟨hx, hb, hml, hown, hts⟩ (c_X8_isIn l dC dI cI cZ cP cS   (v_m_awakes y4_3.toNatClampNeg) 3 n r18_11 hc_12) (va_cwS 2 hts gX8_priceOf_X8_isIn rfl rfl rfl (by decide +kernel) ⟨Nat.le_of_ble_eq_true rfl, Nat.le_of_ble_eq_true rfl⟩) (ps_ro hK (hP.sub (ws' := ([] : va_W)) [] rfl)) rfl rfl hl.1 rfl (lv_room (Nat.le_of_ble_eq_true rfl)) dX8_priceOf_18 ⟨Nat.zero_le _, Nat.zero_le _⟩).run (fun x e_13 => ?_)
        obtain ⟨e_13, hb_14⟩ := e_13
        rw [e_13] at hb_14 ⊢
        obtain ⟨v31_15, ev31_15, hf⟩ := lt_e hf
        have hj31_16 : ∀ (ls : Array Slot), lv_has ls 7 [(0, .ref h_t), (1, .int x1), (3, .int y4_3)] → W p l e (headSpec wsX8_priceOf rm_X8_priceOf).room s m ([.ref h_t, .int x1] : List Value).toArray below meth c s.heap [] 0 0 (MQ below (vp_Si (fun x => x = r)) ([.ref h_t, .int x1] : List Value).toArray s 0 0 NF) (F0 m 31 ls [.int v31_15, .int y4_2]) := by
          intro ls hl
          refine lv_ior hx hb dX8_priceOf_31 ?_
          refine lv_istore_n (lv' := [(2, .int (y4_2 ||| v31_15)), (0, .ref h_t), (1, .int x1), (3, .int y4_3)]) hx hb dX8_priceOf_32 rfl hl (by decide) rfl (fun ls hl => ?_)
          refine lv_iinc (v := (y4_3 + 1)) (lv' := [(3, .int (y4_3 + 1)), (2, .int (y4_2 ||| v31_15)), (0, .ref h_t), (1, .int x1)]) hx hb dX8_priceOf_33 hl (k := 3) rfl rfl (by decide) rfl (fun ls hl => ?_)
          refine lv_goto (tgt := 4) hx hb dX8_priceOf_36 (by decide) ?_
          exact ih (y4_2 ||| v31_15) (y4_3 + 1) ls (lv_sub hl [2, 3, 1, 0] rfl) hf
        clear hf
        refine lv_if_eq (tgt := 28) hx hb dX8_priceOf_21 (by decide) (fun c21 => ?_) (fun c21 => ?_)
        ·
          refine lv_iconst (v := 1) hx hb dX8_priceOf_28 (by decide) ?_
          refine lv_iload_n hx hb dX8_priceOf_29 rfl (lv_at hl 3 rfl) ?_
          refine lv_ishl hx hb dX8_priceOf_30 ?_
          rw [if_pos c21] at ev31_15
          subst ev31_15
          exact hj31_16 ls (lv_sub hl [0, 1, 3] rfl)
        ·
          refine lv_iconst (v := 0) hx hb dX8_priceOf_24 (by decide) ?_
          refine lv_goto (tgt := 31) hx hb dX8_priceOf_25 (by decide) ?_
          rw [if_neg c21] at ev31_15
          subst ev31_15
          exact hj31_16 ls (lv_sub hl [0, 1, 3] rfl)
  exact hL4 n 0 0 ls (lv_sub hl [2, 3, 1, 0] rfl) hf

abbrev wd_X8_driftBy (cI cZ cP cS : ClassId) (h_t h_t_turns h_t_phases h_t_ups h_t_typed h_t_texts h_t_diary h_t_longs h_t_awakes h_t_fit h_t_counts h_t_worths h_t_ripes h_t_growths h_t_gains h_t_isThere h_t_forms h_t_sizes h_t_items h_t_moved : Nat) (v_m_hours : Int32) (v_m_months : Int32) (v_m_fitMany : Int32) (v_m_fitFirst : Int32) (v_m_finding : Int32) (v_m_turns : Nat → Int32) (v_m_phases : Nat → Int32) : va_W := [(h_t, .inr (7, [.ref h_t_turns, .ref h_t_phases, .ref h_t_ups, .ref h_t_typed, .ref h_t_texts, .int v_m_hours, .ref h_t_diary, .int v_m_months, .ref h_t_longs, .ref h_t_awakes, .ref h_t_fit, .int v_m_fitMany, .int v_m_fitFirst, .ref h_t_counts, .ref h_t_worths, .ref h_t_ripes, .ref h_t_growths, .ref h_t_gains, .ref h_t_isThere, .ref h_t_forms, .ref h_t_sizes, .ref h_t_items, .ref h_t_moved, .int v_m_finding])), (h_t_turns, .inl (cI, 2, .inl v_m_turns)), (h_t_phases, .inl (cI, 2, .inl v_m_phases))]
abbrev rm_X8_driftBy : Room := { frames := 2, cells := 0, slots := 0, locals := 45 }
def L_X8_driftBy_9 (n : Nat) (v_m_turns : Nat → Int32) (v_m_phases : Nat → Int32) (x1 : Int32) (x2 : Int32) (x3 : Int32) (kx9 : Int32 → Option (Int32)) : Nat → Int32 → Int32 → Int32 → Option (Int32)
  | 0, _, _, _ => none
  | k9 + 1, y9_4, y9_5, y9_6 => if (24 : Int32) ≤ y9_6 then kx9 y9_4 else bd1_ (f_X8_awayOf n v_m_turns v_m_phases x1 y9_5) (fun (r20_1 : Int32) => lt_ ((if r20_1 ≤ y9_4 then y9_4 else r20_1) : Int32) (fun v39_4 => lt_ ((if (y9_6 - y9_6 / 2 * 2) = 0 then x2 else x3) : Int32) (fun v55_6 => L_X8_driftBy_9 n v_m_turns v_m_phases x1 x2 x3 kx9 k9 v39_4 (y9_5 + v55_6) (y9_6 + 1))))
theorem L_X8_driftBy_9_s (n : Nat) (v_m_turns : Nat → Int32) (v_m_phases : Nat → Int32) (x1 : Int32) (x2 : Int32) (x3 : Int32) (kx9 : Int32 → Option (Int32)) (k9 : Nat) (y9_4 : Int32) (y9_5 : Int32) (y9_6 : Int32) : L_X8_driftBy_9 n v_m_turns v_m_phases x1 x2 x3 kx9 (k9 + 1) y9_4 y9_5 y9_6 = if (24 : Int32) ≤ y9_6 then kx9 y9_4 else bd1_ (f_X8_awayOf n v_m_turns v_m_phases x1 y9_5) (fun (r20_1 : Int32) => lt_ ((if r20_1 ≤ y9_4 then y9_4 else r20_1) : Int32) (fun v39_4 => lt_ ((if (y9_6 - y9_6 / 2 * 2) = 0 then x2 else x3) : Int32) (fun v55_6 => L_X8_driftBy_9 n v_m_turns v_m_phases x1 x2 x3 kx9 k9 v39_4 (y9_5 + v55_6) (y9_6 + 1)))) := rfl
def f_X8_driftBy (n : Nat) (v_m_turns : Nat → Int32) (v_m_phases : Nat → Int32) (x1 : Int32) (x2 : Int32) (x3 : Int32) : Option (Int32) := jn1_ (fun (z9_4 : Int32) => some z9_4) (fun kx9 => L_X8_driftBy_9 n v_m_turns v_m_phases x1 x2 x3 kx9 n 0 0 0)
set_option maxHeartbeats 4000000 in
set_option maxRecDepth 100000 in
theorem c_X8_driftBy (l : Launch) (dC : Nat → ClassId) (dI : Nat → Nat → Nat) (cI cZ cP cS : ClassId) (h_t h_t_turns h_t_phases h_t_ups h_t_typed h_t_texts h_t_diary h_t_longs h_t_awakes h_t_fit h_t_counts h_t_worths h_t_ripes h_t_growths h_t_gains h_t_isThere h_t_forms h_t_sizes h_t_items h_t_moved : Nat) (v_m_hours : Int32) (v_m_months : Int32) (v_m_fitMany : Int32) (v_m_fitFirst : Int32) (v_m_finding : Int32) (v_m_turns : Nat → Int32) (v_m_phases : Nat → Int32) (x1 : Int32) (x2 : Int32) (x3 : Int32) (n : Nat) (r : Int32) (hf : f_X8_driftBy n v_m_turns v_m_phases x1 x2 x3 = some r) : Met l yX8_driftBy wsX8_driftBy rm_X8_driftBy (RO (dC, dI) (TY cI cZ cP cS) [.ref h_t, .int x1, .int x2, .int x3] (wd_X8_driftBy cI cZ cP cS h_t h_t_turns h_t_phases h_t_ups h_t_typed h_t_texts h_t_diary h_t_longs h_t_awakes h_t_fit h_t_counts h_t_worths h_t_ripes h_t_growths h_t_gains h_t_isThere h_t_forms h_t_sizes h_t_items h_t_moved v_m_hours v_m_months v_m_fitMany v_m_fitFirst v_m_finding v_m_turns v_m_phases)) (vp_Si (fun x => x = r)) 0 0 NF := by
  refine Met.ofW (cc := cX8_driftBy) (maxL := 8) (ret := (some .int)) (by decide) rfl ?_
  intro p e s m args below meth c s₁ B hml hv
  obtain ⟨rfl, hP, hK⟩ := hv
  have hx := B.exec
  have hb := B.bytes
  have hr := B.returns
  have hts := atoms_spec (ws := wsX8_driftBy) B.pre
  have hown : s.vm.findClass RX8 = some m.cls := findClass_of_methodNamed B.named
  have hlocks := B.notSynchronized
  have hl := lv_entry ([.ref h_t, .int x1, .int x2, .int x3]) (n := 8) (Nat.le_of_ble_eq_true rfl)
  rw [lg_entry_eq]
  generalize (lg_sl ([.ref h_t, .int x1, .int x2, .int x3]) ++ List.replicate (8 - (lg_sl ([.ref h_t, .int x1, .int x2, .int x3])).length) Slot.unset).toArray = ls at hl ⊢
  have hl : lv_has ls 8 [(0, .ref h_t), (1, .int x1), (2, .int x2), (3, .int x3)] := hl
  unfold f_X8_driftBy at hf
  refine lv_iconst (v := 0) hx hb dX8_driftBy_0 (by decide) ?_
  refine lv_istore (lv' := [(4, .int 0), (0, .ref h_t), (1, .int x1), (2, .int x2), (3, .int x3)]) hx hb dX8_driftBy_1 hl (by decide) rfl (fun ls hl => ?_)
  refine lv_iconst (v := 0) hx hb dX8_driftBy_3 (by decide) ?_
  refine lv_istore (lv' := [(5, .int 0), (4, .int 0), (0, .ref h_t), (1, .int x1), (2, .int x2), (3, .int x3)]) hx hb dX8_driftBy_4 hl (by decide) rfl (fun ls hl => ?_)
  refine lv_iconst (v := 0) hx hb dX8_driftBy_6 (by decide) ?_
  refine lv_istore (lv' := [(6, .int 0), (5, .int 0), (4, .int 0), (0, .ref h_t), (1, .int x1), (2, .int x2), (3, .int x3)]) hx hb dX8_driftBy_7 hl (by decide) rfl (fun ls hl => ?_)
  obtain ⟨kx9, ekx9, hf⟩ := jn1_e hf
  have hx9 : ∀ (z9_4 : Int32) (ls : Array Slot), lv_has ls 8 [(4, .int z9_4)] → kx9 z9_4 = some r → W p l e (headSpec wsX8_driftBy rm_X8_driftBy).room s m ([.ref h_t, .int x1, .int x2, .int x3] : List Value).toArray below meth c s.heap [] 0 0 (MQ below (vp_Si (fun x => x = r)) ([.ref h_t, .int x1, .int x2, .int x3] : List Value).toArray s 0 0 NF) (F0 m 64 ls []) := by
    intro z9_4 ls hl hf
    rw [ekx9] at hf
    refine lv_iload hx hb dX8_driftBy_64 (lv_at hl 0 rfl) ?_
    exact W.iret hx hb hr (fun t ht hW => ⟨_, rfl, Option.some.inj hf, ht⟩) (fun _ h => nomatch h) dX8_driftBy_66
  have hL9 : ∀ (k9 : Nat) (y9_4 : Int32) (y9_5 : Int32) (y9_6 : Int32) (ls : Array Slot), lv_has ls 8 [(0, .ref h_t), (1, .int x1), (2, .int x2), (3, .int x3), (4, .int y9_4), (5, .int y9_5), (6, .int y9_6)] → L_X8_driftBy_9 n v_m_turns v_m_phases x1 x2 x3 kx9 k9 y9_4 y9_5 y9_6 = some r → W p l e (headSpec wsX8_driftBy rm_X8_driftBy).room s m ([.ref h_t, .int x1, .int x2, .int x3] : List Value).toArray below meth c s.heap [] 0 0 (MQ below (vp_Si (fun x => x = r)) ([.ref h_t, .int x1, .int x2, .int x3] : List Value).toArray s 0 0 NF) (F0 m 9 ls []) := by
    intro k9
    induction k9 with
    | zero =>
      intro y9_4 y9_5 y9_6 ls hl hf
      exact absurd hf (fun h => Option.some_ne_none _ h.symm)
    | succ k9 ih =>
      intro y9_4 y9_5 y9_6 ls hl hf
      rw [L_X8_driftBy_9_s] at hf
      refine lv_iload hx hb dX8_driftBy_9 (lv_at hl 6 rfl) ?_
      refine lv_bipush (v := 24) hx hb dX8_driftBy_11 (by decide) ?_
      refine lv_icmp_ge (tgt := 64) hx hb dX8_driftBy_13 (by decide) (fun c13 => ?_) (fun c13 => ?_)
      · rw [if_pos c13] at hf
        exact hx9 y9_4 ls (lv_sub hl [4] rfl) hf
      · rw [if_neg c13] at hf
        refine lv_aload_n hx hb dX8_driftBy_16 rfl (lv_at hl 0 rfl) ?_
        refine lv_iload_n hx hb dX8_driftBy_17 rfl (lv_at hl 1 rfl) ?_
        refine lv_iload hx hb dX8_driftBy_18 (lv_at hl 5 rfl) ?_
        obtain ⟨r20_1, hc_2, hf⟩ := bd1_e hf
        refine vp_callSi (va_runV (As := [.int x1, .int y9_5]) (rest := []) ⟨hx, hb, hml, hown, hts⟩ (c_X8_awayOf l dC dI cI cZ cP cS h_t h_t_turns h_t_phases h_t_ups h_t_typed h_t_texts h_t_diary h_t_longs h_t_awakes h_t_fit h_t_counts h_t_worths h_t_ripes h_t_growths h_t_gains h_t_isThere h_t_forms h_t_sizes h_t_items h_t_moved v_m_hours v_m_months v_m_fitMany v_m_fitFirst v_m_finding v_m_turns v_m_phases x1 y9_5 n r20_1 hc_2) (cwV 2 hts gX8_driftBy_X8_awayOf rfl rfl rfl (by decide +kernel) ⟨Nat.le_of_ble_eq_true rfl, Nat.le_of_ble_eq_true rfl⟩) (pv_ro (ci := 7) (q0 := 0) hK (hP.sub (ws' := (wd_X8_awayOf cI cZ cP cS h_t h_t_turns h_t_phases h_t_ups h_t_typed h_t_texts h_t_diary h_t_longs h_t_awakes h_t_fit h_t_counts h_t_worths h_t_ripes h_t_growths h_t_gains h_t_isThere h_t_forms h_t_sizes h_t_items h_t_moved v_m_hours v_m_months v_m_fitMany v_m_fitFirst v_m_finding v_m_turns v_m_phases)) [0, 1, 2] rfl) rfl rfl) rfl rfl hl.1 rfl (lv_room (Nat.le_of_ble_eq_true rfl)) dX8_driftBy_20 ⟨Nat.zero_le _, Nat.zero_le _⟩).run (fun x e_3 => ?_)
        rw [e_3]
        refine lv_istore (lv' := [(7, .int r20_1), (0, .ref h_t), (1, .int x1), (2, .int x2), (3, .int x3), (4, .int y9_4), (5, .int y9_5), (6, .int y9_6)]) hx hb dX8_driftBy_23 hl (by decide) rfl (fun ls hl => ?_)
        refine lv_iload hx hb dX8_driftBy_25 (lv_at hl 0 rfl) ?_
        refine lv_iload hx hb dX8_driftBy_27 (lv_at hl 5 rfl) ?_
        obtain ⟨v39_4, ev39_4, hf⟩ := lt_e hf
        have hj39_5 : ∀ (ls : Array Slot), lv_has ls 8 [(0, .ref h_t), (1, .int x1), (2, .int x2), (3, .int x3), (5, .int y9_5), (6, .int y9_6)] → W p l e (headSpec wsX8_driftBy rm_X8_driftBy).room s m ([.ref h_t, .int x1, .int x2, .int x3] : List Value).toArray below meth c s.heap [] 0 0 (MQ below (vp_Si (fun x => x = r)) ([.ref h_t, .int x1, .int x2, .int x3] : List Value).toArray s 0 0 NF) (F0 m 39 ls [.int v39_4]) := by
          intro ls hl
          refine lv_istore (lv' := [(4, .int v39_4), (0, .ref h_t), (1, .int x1), (2, .int x2), (3, .int x3), (5, .int y9_5), (6, .int y9_6)]) hx hb dX8_driftBy_39 hl (by decide) rfl (fun ls hl => ?_)
          refine lv_iload hx hb dX8_driftBy_41 (lv_at hl 5 rfl) ?_
          refine lv_iload hx hb dX8_driftBy_43 (lv_at hl 6 rfl) ?_
          refine lv_iconst (v := 2) hx hb dX8_driftBy_45 (by decide) ?_
          refine lv_irem hx hb dX8_driftBy_46 (by decide) ?_
          obtain ⟨v55_6, ev55_6, hf⟩ := lt_e hf
          have hj55_7 : ∀ (ls : Array Slot), lv_has ls 8 [(0, .ref h_t), (1, .int x1), (2, .int x2), (3, .int x3), (4, .int v39_4), (6, .int y9_6)] → W p l e (headSpec wsX8_driftBy rm_X8_driftBy).room s m ([.ref h_t, .int x1, .int x2, .int x3] : List Value).toArray below meth c s.heap [] 0 0 (MQ below (vp_Si (fun x => x = r)) ([.ref h_t, .int x1, .int x2, .int x3] : List Value).toArray s 0 0 NF) (F0 m 55 ls [.int v55_6, .int y9_5]) := by
            intro ls hl
            refine lv_iadd hx hb dX8_driftBy_55 ?_
            refine lv_istore (lv' := [(5, .int (y9_5 + v55_6)), (0, .ref h_t), (1, .int x1), (2, .int x2), (3, .int x3), (4, .int v39_4), (6, .int y9_6)]) hx hb dX8_driftBy_56 hl (by decide) rfl (fun ls hl => ?_)
            refine lv_iinc (v := (y9_6 + 1)) (lv' := [(6, .int (y9_6 + 1)), (5, .int (y9_5 + v55_6)), (0, .ref h_t), (1, .int x1), (2, .int x2), (3, .int x3), (4, .int v39_4)]) hx hb dX8_driftBy_58 hl (k := 6) rfl rfl (by decide) rfl (fun ls hl => ?_)
            refine lv_goto (tgt := 9) hx hb dX8_driftBy_61 (by decide) ?_
            exact ih v39_4 (y9_5 + v55_6) (y9_6 + 1) ls (lv_sub hl [2, 3, 4, 5, 6, 1, 0] rfl) hf
          clear hf
          refine lv_if_ne (tgt := 54) hx hb dX8_driftBy_47 (by decide) (fun c47 => ?_) (fun c47 => ?_)
          ·
            refine lv_iload_n hx hb dX8_driftBy_54 rfl (lv_at hl 4 rfl) ?_
            rw [if_neg c47] at ev55_6
            subst ev55_6
            exact hj55_7 ls (lv_sub hl [1, 2, 3, 4, 0, 6] rfl)
          ·
            refine lv_iload_n hx hb dX8_driftBy_50 rfl (lv_at hl 3 rfl) ?_
            refine lv_goto (tgt := 55) hx hb dX8_driftBy_51 (by decide) ?_
            rw [if_pos c47] at ev55_6
            subst ev55_6
            exact hj55_7 ls (lv_sub hl [1, 2, 3, 4, 0, 6] rfl)
        clear hf
        refine lv_icmp_le (tgt := 37) hx hb dX8_driftBy_29 (by decide) (fun c29 => ?_) (fun c29 => ?_)
        ·
          refine lv_iload hx hb dX8_driftBy_37 (lv_at hl 5 rfl) ?_
          rw [if_pos c29] at ev39_4
          subst ev39_4
          exact hj39_5 ls (lv_sub hl [1, 2, 3, 4, 6, 7] rfl)
        ·
          refine lv_iload hx hb dX8_driftBy_32 (lv_at hl 0 rfl) ?_
          refine lv_goto (tgt := 39) hx hb dX8_driftBy_34 (by decide) ?_
          rw [if_neg c29] at ev39_4
          subst ev39_4
          exact hj39_5 ls (lv_sub hl [1, 2, 3, 4, 6, 7] rfl)
  exact hL9 n 0 0 0 ls (lv_sub hl [3, 4, 5, 6, 2, 1, 0] rfl) hf

abbrev wd_X8_shortestOf (cI cZ cP cS : ClassId) (h_t h_t_turns h_t_phases h_t_ups h_t_typed h_t_texts h_t_diary h_t_longs h_t_awakes h_t_fit h_t_counts h_t_worths h_t_ripes h_t_growths h_t_gains h_t_isThere h_t_forms h_t_sizes h_t_items h_t_moved : Nat) (v_m_hours : Int32) (v_m_months : Int32) (v_m_fitMany : Int32) (v_m_fitFirst : Int32) (v_m_finding : Int32) (v_m_turns : Nat → Int32) (v_m_phases : Nat → Int32) (v_m_ups : Nat → Int32) : va_W := [(h_t, .inr (7, [.ref h_t_turns, .ref h_t_phases, .ref h_t_ups, .ref h_t_typed, .ref h_t_texts, .int v_m_hours, .ref h_t_diary, .int v_m_months, .ref h_t_longs, .ref h_t_awakes, .ref h_t_fit, .int v_m_fitMany, .int v_m_fitFirst, .ref h_t_counts, .ref h_t_worths, .ref h_t_ripes, .ref h_t_growths, .ref h_t_gains, .ref h_t_isThere, .ref h_t_forms, .ref h_t_sizes, .ref h_t_items, .ref h_t_moved, .int v_m_finding])), (h_t_turns, .inl (cI, 2, .inl v_m_turns)), (h_t_phases, .inl (cI, 2, .inl v_m_phases)), (h_t_ups, .inl (cI, 2, .inl v_m_ups))]
abbrev rm_X8_shortestOf : Room := { frames := 3, cells := 0, slots := 0, locals := 72 }
def L_X8_shortestOf_37 (n : Nat) (v_m_turns : Nat → Int32) (v_m_phases : Nat → Int32) (x1 : Int32) (x2 : Int32) (x3 : Int32) (x4 : Int32) (kx37 : Option (Int32)) : Nat → Int32 → Option (Int32)
  | 0, _ => none
  | k37 + 1, y37_5 => if (41 : Int32) ≤ y37_5 then kx37 else bd1_ (f_X8_in n (x3 - y37_5) 1 40) (fun (r55_5 : Int32) => jn0_ (L_X8_shortestOf_37 n v_m_turns v_m_phases x1 x2 x3 x4 kx37 k37 (y37_5 + 1)) (fun k87 => if r55_5 = 0 then k87 else bd1_ (f_X8_driftBy n v_m_turns v_m_phases x1 y37_5 (x3 - y37_5)) (fun (r67_9 : Int32) => if x2 < r67_9 then k87 else if x4 = 0 then some y37_5 else some (x3 - y37_5))))
theorem L_X8_shortestOf_37_s (n : Nat) (v_m_turns : Nat → Int32) (v_m_phases : Nat → Int32) (x1 : Int32) (x2 : Int32) (x3 : Int32) (x4 : Int32) (kx37 : Option (Int32)) (k37 : Nat) (y37_5 : Int32) : L_X8_shortestOf_37 n v_m_turns v_m_phases x1 x2 x3 x4 kx37 (k37 + 1) y37_5 = if (41 : Int32) ≤ y37_5 then kx37 else bd1_ (f_X8_in n (x3 - y37_5) 1 40) (fun (r55_5 : Int32) => jn0_ (L_X8_shortestOf_37 n v_m_turns v_m_phases x1 x2 x3 x4 kx37 k37 (y37_5 + 1)) (fun k87 => if r55_5 = 0 then k87 else bd1_ (f_X8_driftBy n v_m_turns v_m_phases x1 y37_5 (x3 - y37_5)) (fun (r67_9 : Int32) => if x2 < r67_9 then k87 else if x4 = 0 then some y37_5 else some (x3 - y37_5)))) := rfl
def f_X8_shortestOf (n : Nat) (v_m_turns : Nat → Int32) (v_m_phases : Nat → Int32) (v_m_ups : Nat → Int32) (x1 : Int32) (x2 : Int32) (x3 : Int32) (x4 : Int32) : Option (Int32) := ix_ x1 2 (if (v_m_ups x1.toNatClampNeg) = 0 then some (-3) else bd1_ (f_X8_driftBy n v_m_turns v_m_phases x1 x3 x3) (fun (r16_2 : Int32) => if x2 < r16_2 then jn0_ (some (-1)) (fun kx37 => L_X8_shortestOf_37 n v_m_turns v_m_phases x1 x2 x3 x4 kx37 n 1) else if x4 = 0 then some x3 else some 0))
set_option maxHeartbeats 4000000 in
set_option maxRecDepth 100000 in
theorem c_X8_shortestOf (l : Launch) (dC : Nat → ClassId) (dI : Nat → Nat → Nat) (cI cZ cP cS : ClassId) (h_t h_t_turns h_t_phases h_t_ups h_t_typed h_t_texts h_t_diary h_t_longs h_t_awakes h_t_fit h_t_counts h_t_worths h_t_ripes h_t_growths h_t_gains h_t_isThere h_t_forms h_t_sizes h_t_items h_t_moved : Nat) (v_m_hours : Int32) (v_m_months : Int32) (v_m_fitMany : Int32) (v_m_fitFirst : Int32) (v_m_finding : Int32) (v_m_turns : Nat → Int32) (v_m_phases : Nat → Int32) (v_m_ups : Nat → Int32) (x1 : Int32) (x2 : Int32) (x3 : Int32) (x4 : Int32) (n : Nat) (r : Int32) (hf : f_X8_shortestOf n v_m_turns v_m_phases v_m_ups x1 x2 x3 x4 = some r) : Met l yX8_shortestOf wsX8_shortestOf rm_X8_shortestOf (RO (dC, dI) (TY cI cZ cP cS) [.ref h_t, .int x1, .int x2, .int x3, .int x4] (wd_X8_shortestOf cI cZ cP cS h_t h_t_turns h_t_phases h_t_ups h_t_typed h_t_texts h_t_diary h_t_longs h_t_awakes h_t_fit h_t_counts h_t_worths h_t_ripes h_t_growths h_t_gains h_t_isThere h_t_forms h_t_sizes h_t_items h_t_moved v_m_hours v_m_months v_m_fitMany v_m_fitFirst v_m_finding v_m_turns v_m_phases v_m_ups)) (vp_Si (fun x => x = r)) 0 0 NF := by
  refine Met.ofW (cc := cX8_shortestOf) (maxL := 7) (ret := (some .int)) (by decide) rfl ?_
  intro p e s m args below meth c s₁ B hml hv
  obtain ⟨rfl, hP, hK⟩ := hv
  have hx := B.exec
  have hb := B.bytes
  have hr := B.returns
  have hts := atoms_spec (ws := wsX8_shortestOf) B.pre
  have hown : s.vm.findClass RX8 = some m.cls := findClass_of_methodNamed B.named
  have hlocks := B.notSynchronized
  have hinX8 : ∀ w ∈ wsX80, w ∈ wsX8_shortestOf := by decide +kernel
  have hl := lv_entry ([.ref h_t, .int x1, .int x2, .int x3, .int x4]) (n := 7) (Nat.le_of_ble_eq_true rfl)
  rw [lg_entry_eq]
  generalize (lg_sl ([.ref h_t, .int x1, .int x2, .int x3, .int x4]) ++ List.replicate (7 - (lg_sl ([.ref h_t, .int x1, .int x2, .int x3, .int x4])).length) Slot.unset).toArray = ls at hl ⊢
  have hl : lv_has ls 7 [(0, .ref h_t), (1, .int x1), (2, .int x2), (3, .int x3), (4, .int x4)] := hl
  unfold f_X8_shortestOf at hf
  refine lv_aload_n hx hb dX8_shortestOf_0 rfl (lv_at hl 0 rfl) ?_
  refine va_get (D := (dC, dI)) (ci := 7) (v := .ref h_t_ups) (C := RX8) (T := TX8) (N := 24) hx hb hts hinX8 hown hK hP 0 rfl rfl 2 (by decide) (hts (.fieldLink RX8 16 "SecondSunriseModel" "ups" "[I") (by decide +kernel)) (fun _ h9 => h9) rfl dX8_shortestOf_1 ?_
  refine lv_iload_n hx hb dX8_shortestOf_4 rfl (lv_at hl 1 rfl) ?_
  obtain ⟨hi_1, hf⟩ := ix_e hf
  refine va_iald hx hb hK hP 3 0 rfl rfl hi_1 dX8_shortestOf_5 ?_
  refine lv_if_ne (tgt := 12) hx hb dX8_shortestOf_6 (by decide) (fun c6 => ?_) (fun c6 => ?_)
  · rw [if_neg c6] at hf
    refine lv_aload_n hx hb dX8_shortestOf_12 rfl (lv_at hl 0 rfl) ?_
    refine lv_iload_n hx hb dX8_shortestOf_13 rfl (lv_at hl 1 rfl) ?_
    refine lv_iload_n hx hb dX8_shortestOf_14 rfl (lv_at hl 3 rfl) ?_
    refine lv_iload_n hx hb dX8_shortestOf_15 rfl (lv_at hl 3 rfl) ?_
    obtain ⟨r16_2, hc_3, hf⟩ := bd1_e hf
    refine vp_callSi (va_runV (As := [.int x1, .int x3, .int x3]) (rest := []) ⟨hx, hb, hml, hown, hts⟩ (c_X8_driftBy l dC dI cI cZ cP cS h_t h_t_turns h_t_phases h_t_ups h_t_typed h_t_texts h_t_diary h_t_longs h_t_awakes h_t_fit h_t_counts h_t_worths h_t_ripes h_t_growths h_t_gains h_t_isThere h_t_forms h_t_sizes h_t_items h_t_moved v_m_hours v_m_months v_m_fitMany v_m_fitFirst v_m_finding v_m_turns v_m_phases x1 x3 x3 n r16_2 hc_3) (cwV 3 hts gX8_shortestOf_X8_driftBy rfl rfl rfl (by decide +kernel) ⟨Nat.le_of_ble_eq_true rfl, Nat.le_of_ble_eq_true rfl⟩) (pv_ro (ci := 7) (q0 := 0) hK (hP.sub (ws' := (wd_X8_driftBy cI cZ cP cS h_t h_t_turns h_t_phases h_t_ups h_t_typed h_t_texts h_t_diary h_t_longs h_t_awakes h_t_fit h_t_counts h_t_worths h_t_ripes h_t_growths h_t_gains h_t_isThere h_t_forms h_t_sizes h_t_items h_t_moved v_m_hours v_m_months v_m_fitMany v_m_fitFirst v_m_finding v_m_turns v_m_phases)) [0, 1, 2] rfl) rfl rfl) rfl rfl hl.1 rfl (lv_room (Nat.le_of_ble_eq_true rfl)) dX8_shortestOf_16 ⟨Nat.zero_le _, Nat.zero_le _⟩).run (fun x e_4 => ?_)
    rw [e_4]
    refine lv_iload_n hx hb dX8_shortestOf_19 rfl (lv_at hl 2 rfl) ?_
    refine lv_icmp_gt (tgt := 34) hx hb dX8_shortestOf_20 (by decide) (fun c20 => ?_) (fun c20 => ?_)
    · rw [if_pos c20] at hf
      refine lv_iconst (v := 1) hx hb dX8_shortestOf_34 (by decide) ?_
      refine lv_istore (lv' := [(5, .int 1), (0, .ref h_t), (1, .int x1), (2, .int x2), (3, .int x3), (4, .int x4)]) hx hb dX8_shortestOf_35 hl (by decide) rfl (fun ls hl => ?_)
      obtain ⟨kx37, ekx37, hf⟩ := jn0_e hf
      have hx37 : ∀ (ls : Array Slot), lv_has ls 7 [] → kx37 = some r → W p l e (headSpec wsX8_shortestOf rm_X8_shortestOf).room s m ([.ref h_t, .int x1, .int x2, .int x3, .int x4] : List Value).toArray below meth c s.heap [] 0 0 (MQ below (vp_Si (fun x => x = r)) ([.ref h_t, .int x1, .int x2, .int x3, .int x4] : List Value).toArray s 0 0 NF) (F0 m 93 ls []) := by
        intro ls hl hf
        rw [ekx37] at hf
        refine lv_iconst (v := (-1)) hx hb dX8_shortestOf_93 (by decide) ?_
        exact W.iret hx hb hr (fun t ht hW => ⟨_, rfl, Option.some.inj hf, ht⟩) (fun _ h => nomatch h) dX8_shortestOf_94
      have hL37 : ∀ (k37 : Nat) (y37_5 : Int32) (ls : Array Slot), lv_has ls 7 [(0, .ref h_t), (1, .int x1), (2, .int x2), (3, .int x3), (4, .int x4), (5, .int y37_5)] → L_X8_shortestOf_37 n v_m_turns v_m_phases x1 x2 x3 x4 kx37 k37 y37_5 = some r → W p l e (headSpec wsX8_shortestOf rm_X8_shortestOf).room s m ([.ref h_t, .int x1, .int x2, .int x3, .int x4] : List Value).toArray below meth c s.heap [] 0 0 (MQ below (vp_Si (fun x => x = r)) ([.ref h_t, .int x1, .int x2, .int x3, .int x4] : List Value).toArray s 0 0 NF) (F0 m 37 ls []) := by
        intro k37
        induction k37 with
        | zero =>
          intro y37_5 ls hl hf
          exact absurd hf (fun h => Option.some_ne_none _ h.symm)
        | succ k37 ih =>
          intro y37_5 ls hl hf
          rw [L_X8_shortestOf_37_s] at hf
          refine lv_iload hx hb dX8_shortestOf_37 (lv_at hl 5 rfl) ?_
          refine lv_bipush (v := 41) hx hb dX8_shortestOf_39 (by decide) ?_
          refine lv_icmp_ge (tgt := 93) hx hb dX8_shortestOf_41 (by decide) (fun c41 => ?_) (fun c41 => ?_)
          · rw [if_pos c41] at hf
            exact hx37 ls (lv_sub hl [] rfl) hf
          · rw [if_neg c41] at hf
            refine lv_iload_n hx hb dX8_shortestOf_44 rfl (lv_at hl 3 rfl) ?_
            refine lv_iload hx hb dX8_shortestOf_45 (lv_at hl 5 rfl) ?_
            refine lv_isub hx hb dX8_shortestOf_47 ?_
            refine lv_istore (lv' := [(6, .int (x3 - y37_5)), (0, .ref h_t), (1, .int x1), (2, .int x2), (3, .int x3), (4, .int x4), (5, .int y37_5)]) hx hb dX8_shortestOf_48 hl (by decide) rfl (fun ls hl => ?_)
            refine lv_iload hx hb dX8_shortestOf_50 (lv_at hl 0 rfl) ?_
            refine lv_iconst (v := 1) hx hb dX8_shortestOf_52 (by decide) ?_
            refine lv_bipush (v := 40) hx hb dX8_shortestOf_53 (by decide) ?_
            obtain ⟨r55_5, hc_6, hf⟩ := bd1_e hf
            refine vp_callSi (va_runS (As := [.int (x3 - y37_5), .int 1, .int 40]) (rest := []) ⟨hx, hb, hml, hown, hts⟩ (c_X8_in l dC dI cI cZ cP cS   (x3 - y37_5) 1 40 n r55_5 hc_6) (va_cwS 3 hts gX8_shortestOf_X8_in rfl rfl rfl (by decide +kernel) ⟨Nat.le_of_ble_eq_true rfl, Nat.le_of_ble_eq_true rfl⟩) (ps_ro hK (hP.sub (ws' := ([] : va_W)) [] rfl)) rfl rfl hl.1 rfl (lv_room (Nat.le_of_ble_eq_true rfl)) dX8_shortestOf_55 ⟨Nat.zero_le _, Nat.zero_le _⟩).run (fun x e_7 => ?_)
            obtain ⟨e_7, hb_8⟩ := e_7
            rw [e_7] at hb_8 ⊢
            obtain ⟨k87, ek87, hf⟩ := jn0_e hf
            have hj87 : ∀ (ls : Array Slot), lv_has ls 7 [(0, .ref h_t), (1, .int x1), (2, .int x2), (3, .int x3), (4, .int x4), (5, .int y37_5)] → k87 = some r → W p l e (headSpec wsX8_shortestOf rm_X8_shortestOf).room s m ([.ref h_t, .int x1, .int x2, .int x3, .int x4] : List Value).toArray below meth c s.heap [] 0 0 (MQ below (vp_Si (fun x => x = r)) ([.ref h_t, .int x1, .int x2, .int x3, .int x4] : List Value).toArray s 0 0 NF) (F0 m 87 ls []) := by
              intro ls hl hf
              rw [ek87] at hf
              refine lv_iinc (v := (y37_5 + 1)) (lv' := [(5, .int (y37_5 + 1)), (0, .ref h_t), (1, .int x1), (2, .int x2), (3, .int x3), (4, .int x4)]) hx hb dX8_shortestOf_87 hl (k := 5) rfl rfl (by decide) rfl (fun ls hl => ?_)
              refine lv_goto (tgt := 37) hx hb dX8_shortestOf_90 (by decide) ?_
              exact ih (y37_5 + 1) ls (lv_sub hl [1, 2, 3, 4, 5, 0] rfl) hf
            refine lv_if_eq (tgt := 87) hx hb dX8_shortestOf_58 (by decide) (fun c58 => ?_) (fun c58 => ?_)
            · rw [if_pos c58] at hf
              exact hj87 ls (lv_sub hl [1, 2, 3, 4, 5, 6] rfl) hf
            · rw [if_neg c58] at hf
              refine lv_aload_n hx hb dX8_shortestOf_61 rfl (lv_at hl 1 rfl) ?_
              refine lv_iload_n hx hb dX8_shortestOf_62 rfl (lv_at hl 2 rfl) ?_
              refine lv_iload hx hb dX8_shortestOf_63 (lv_at hl 6 rfl) ?_
              refine lv_iload hx hb dX8_shortestOf_65 (lv_at hl 0 rfl) ?_
              obtain ⟨r67_9, hc_10, hf⟩ := bd1_e hf
              refine vp_callSi (va_runV (As := [.int x1, .int y37_5, .int (x3 - y37_5)]) (rest := []) ⟨hx, hb, hml, hown, hts⟩ (c_X8_driftBy l dC dI cI cZ cP cS h_t h_t_turns h_t_phases h_t_ups h_t_typed h_t_texts h_t_diary h_t_longs h_t_awakes h_t_fit h_t_counts h_t_worths h_t_ripes h_t_growths h_t_gains h_t_isThere h_t_forms h_t_sizes h_t_items h_t_moved v_m_hours v_m_months v_m_fitMany v_m_fitFirst v_m_finding v_m_turns v_m_phases x1 y37_5 (x3 - y37_5) n r67_9 hc_10) (cwV 3 hts gX8_shortestOf_X8_driftBy rfl rfl rfl (by decide +kernel) ⟨Nat.le_of_ble_eq_true rfl, Nat.le_of_ble_eq_true rfl⟩) (pv_ro (ci := 7) (q0 := 0) hK (hP.sub (ws' := (wd_X8_driftBy cI cZ cP cS h_t h_t_turns h_t_phases h_t_ups h_t_typed h_t_texts h_t_diary h_t_longs h_t_awakes h_t_fit h_t_counts h_t_worths h_t_ripes h_t_growths h_t_gains h_t_isThere h_t_forms h_t_sizes h_t_items h_t_moved v_m_hours v_m_months v_m_fitMany v_m_fitFirst v_m_finding v_m_turns v_m_phases)) [0, 1, 2] rfl) rfl rfl) rfl rfl hl.1 rfl (lv_room (Nat.le_of_ble_eq_true rfl)) dX8_shortestOf_67 ⟨Nat.zero_le _, Nat.zero_le _⟩).run (fun x e_11 => ?_)
              rw [e_11]
              refine lv_iload_n hx hb dX8_shortestOf_70 rfl (lv_at hl 3 rfl) ?_
              refine lv_icmp_gt (tgt := 87) hx hb dX8_shortestOf_71 (by decide) (fun c71 => ?_) (fun c71 => ?_)
              · rw [if_pos c71] at hf
                exact hj87 ls (lv_sub hl [1, 2, 3, 4, 5, 6] rfl) hf
              · rw [if_neg c71] at hf
                refine lv_iload hx hb dX8_shortestOf_74 (lv_at hl 5 rfl) ?_
                refine lv_if_ne (tgt := 84) hx hb dX8_shortestOf_76 (by decide) (fun c76 => ?_) (fun c76 => ?_)
                · rw [if_neg c76] at hf
                  refine lv_iload hx hb dX8_shortestOf_84 (lv_at hl 0 rfl) ?_
                  exact W.iret hx hb hr (fun t ht hW => ⟨_, rfl, Option.some.inj hf, ht⟩) (fun _ h => nomatch h) dX8_shortestOf_86
                · rw [if_pos c76] at hf
                  refine lv_iload hx hb dX8_shortestOf_79 (lv_at hl 6 rfl) ?_
                  refine lv_goto (tgt := 86) hx hb dX8_shortestOf_81 (by decide) ?_
                  exact W.iret hx hb hr (fun t ht hW => ⟨_, rfl, Option.some.inj hf, ht⟩) (fun _ h => nomatch h) dX8_shortestOf_86
      exact hL37 n 1 ls (lv_sub hl [1, 2, 3, 4, 5, 0] rfl) hf
    · rw [if_neg c20] at hf
      refine lv_iload hx hb dX8_shortestOf_23 (lv_at hl 4 rfl) ?_
      refine lv_if_ne (tgt := 32) hx hb dX8_shortestOf_25 (by decide) (fun c25 => ?_) (fun c25 => ?_)
      · rw [if_neg c25] at hf
        refine lv_iconst (v := 0) hx hb dX8_shortestOf_32 (by decide) ?_
        exact W.iret hx hb hr (fun t ht hW => ⟨_, rfl, Option.some.inj hf, ht⟩) (fun _ h => nomatch h) dX8_shortestOf_33
      · rw [if_pos c25] at hf
        refine lv_iload_n hx hb dX8_shortestOf_28 rfl (lv_at hl 3 rfl) ?_
        refine lv_goto (tgt := 33) hx hb dX8_shortestOf_29 (by decide) ?_
        exact W.iret hx hb hr (fun t ht hW => ⟨_, rfl, Option.some.inj hf, ht⟩) (fun _ h => nomatch h) dX8_shortestOf_33
  · rw [if_pos c6] at hf
    refine lv_bipush (v := (-3)) hx hb dX8_shortestOf_9 (by decide) ?_
    exact W.iret hx hb hr (fun t ht hW => ⟨_, rfl, Option.some.inj hf, ht⟩) (fun _ h => nomatch h) dX8_shortestOf_11

abbrev wd_X8_spellsOf (cI cZ cP cS : ClassId) (h_t h_t_turns h_t_phases h_t_ups h_t_typed h_t_texts h_t_diary h_t_longs h_t_awakes h_t_fit h_t_counts h_t_worths h_t_ripes h_t_growths h_t_gains h_t_isThere h_t_forms h_t_sizes h_t_items h_t_moved : Nat) (v_m_hours : Int32) (v_m_months : Int32) (v_m_fitMany : Int32) (v_m_fitFirst : Int32) (v_m_finding : Int32) (v_m_turns : Nat → Int32) (v_m_phases : Nat → Int32) (v_m_ups : Nat → Int32) : va_W := [(h_t, .inr (7, [.ref h_t_turns, .ref h_t_phases, .ref h_t_ups, .ref h_t_typed, .ref h_t_texts, .int v_m_hours, .ref h_t_diary, .int v_m_months, .ref h_t_longs, .ref h_t_awakes, .ref h_t_fit, .int v_m_fitMany, .int v_m_fitFirst, .ref h_t_counts, .ref h_t_worths, .ref h_t_ripes, .ref h_t_growths, .ref h_t_gains, .ref h_t_isThere, .ref h_t_forms, .ref h_t_sizes, .ref h_t_items, .ref h_t_moved, .int v_m_finding])), (h_t_turns, .inl (cI, 2, .inl v_m_turns)), (h_t_phases, .inl (cI, 2, .inl v_m_phases)), (h_t_ups, .inl (cI, 2, .inl v_m_ups))]
abbrev rm_X8_spellsOf : Room := { frames := 4, cells := 0, slots := 0, locals := 88 }
def L_X8_spellsOf_17 (n : Nat) (v_m_turns : Nat → Int32) (v_m_phases : Nat → Int32) (v_m_ups : Nat → Int32) (x1 : Int32) (r1_1 : Int32) (kx17 : Int32 → Int32 → Int32 → Option (Int32)) : Nat → Int32 → Int32 → Int32 → Int32 → Option (Int32)
  | 0, _, _, _, _ => none
  | k17 + 1, y17_4, y17_5, y17_6, y17_7 => if r1_1 ≤ y17_7 then kx17 y17_4 y17_5 y17_6 else bd1_ (f_X8_lightOf n v_m_turns v_m_phases v_m_ups y17_7) (fun (r26_4 : Int32) => lt_ ((if r26_4 = x1 then 1 else 0) : Int32) (fun v38_7 => jn1_ (fun (q64_0 : Int32) => lt_ ((if v38_7 = 0 then 0 else 1) : Int32) (fun v78_9 => lt_ ((if q64_0 = 0 then 0 else 1) : Int32) (fun v93_11 => jn1_ (fun (q111_0 : Int32) => lt_ ((if q111_0 ≤ y17_6 then y17_6 else q111_0) : Int32) (fun v127_13 => L_X8_spellsOf_17 n v_m_turns v_m_phases v_m_ups x1 r1_1 kx17 k17 (y17_4 + v78_9) (y17_5 + v93_11) v127_13 (y17_7 + 1))) (fun k111 => if q64_0 = 0 then k111 0 else bd1_ (f_X8_lastsOf n v_m_turns v_m_phases v_m_ups y17_7) (fun (r104_15 : Int32) => k111 r104_15))))) (fun k64 => jn0_ (k64 0) (fun k63 => if v38_7 = 0 then k63 else bd1_ (f_X8_lightOf n v_m_turns v_m_phases v_m_ups ((y17_7 + r1_1) - 1)) (fun (r52_18 : Int32) => if r52_18 = x1 then k63 else k64 1)))))
theorem L_X8_spellsOf_17_s (n : Nat) (v_m_turns : Nat → Int32) (v_m_phases : Nat → Int32) (v_m_ups : Nat → Int32) (x1 : Int32) (r1_1 : Int32) (kx17 : Int32 → Int32 → Int32 → Option (Int32)) (k17 : Nat) (y17_4 : Int32) (y17_5 : Int32) (y17_6 : Int32) (y17_7 : Int32) : L_X8_spellsOf_17 n v_m_turns v_m_phases v_m_ups x1 r1_1 kx17 (k17 + 1) y17_4 y17_5 y17_6 y17_7 = if r1_1 ≤ y17_7 then kx17 y17_4 y17_5 y17_6 else bd1_ (f_X8_lightOf n v_m_turns v_m_phases v_m_ups y17_7) (fun (r26_4 : Int32) => lt_ ((if r26_4 = x1 then 1 else 0) : Int32) (fun v38_7 => jn1_ (fun (q64_0 : Int32) => lt_ ((if v38_7 = 0 then 0 else 1) : Int32) (fun v78_9 => lt_ ((if q64_0 = 0 then 0 else 1) : Int32) (fun v93_11 => jn1_ (fun (q111_0 : Int32) => lt_ ((if q111_0 ≤ y17_6 then y17_6 else q111_0) : Int32) (fun v127_13 => L_X8_spellsOf_17 n v_m_turns v_m_phases v_m_ups x1 r1_1 kx17 k17 (y17_4 + v78_9) (y17_5 + v93_11) v127_13 (y17_7 + 1))) (fun k111 => if q64_0 = 0 then k111 0 else bd1_ (f_X8_lastsOf n v_m_turns v_m_phases v_m_ups y17_7) (fun (r104_15 : Int32) => k111 r104_15))))) (fun k64 => jn0_ (k64 0) (fun k63 => if v38_7 = 0 then k63 else bd1_ (f_X8_lightOf n v_m_turns v_m_phases v_m_ups ((y17_7 + r1_1) - 1)) (fun (r52_18 : Int32) => if r52_18 = x1 then k63 else k64 1))))) := rfl
def f_X8_spellsOf (n : Nat) (v_m_turns : Nat → Int32) (v_m_phases : Nat → Int32) (v_m_ups : Nat → Int32) (x1 : Int32) (x2 : Int32) : Option (Int32) := bd1_ (f_X8_roundNow n v_m_turns) (fun (r1_1 : Int32) => jn3_ (fun (z17_4 : Int32) (z17_5 : Int32) (z17_6 : Int32) => if x2 = 0 then some z17_4 else if z17_4 = r1_1 then if x2 = 1 then some 1 else some r1_1 else if x2 = 1 then some z17_5 else some z17_6) (fun kx17 => L_X8_spellsOf_17 n v_m_turns v_m_phases v_m_ups x1 r1_1 kx17 n 0 0 0 0))
set_option maxHeartbeats 4000000 in
set_option maxRecDepth 100000 in
theorem c_X8_spellsOf (l : Launch) (dC : Nat → ClassId) (dI : Nat → Nat → Nat) (cI cZ cP cS : ClassId) (h_t h_t_turns h_t_phases h_t_ups h_t_typed h_t_texts h_t_diary h_t_longs h_t_awakes h_t_fit h_t_counts h_t_worths h_t_ripes h_t_growths h_t_gains h_t_isThere h_t_forms h_t_sizes h_t_items h_t_moved : Nat) (v_m_hours : Int32) (v_m_months : Int32) (v_m_fitMany : Int32) (v_m_fitFirst : Int32) (v_m_finding : Int32) (v_m_turns : Nat → Int32) (v_m_phases : Nat → Int32) (v_m_ups : Nat → Int32) (x1 : Int32) (x2 : Int32) (n : Nat) (r : Int32) (hf : f_X8_spellsOf n v_m_turns v_m_phases v_m_ups x1 x2 = some r) : Met l yX8_spellsOf wsX8_spellsOf rm_X8_spellsOf (RO (dC, dI) (TY cI cZ cP cS) [.ref h_t, .int x1, .int x2] (wd_X8_spellsOf cI cZ cP cS h_t h_t_turns h_t_phases h_t_ups h_t_typed h_t_texts h_t_diary h_t_longs h_t_awakes h_t_fit h_t_counts h_t_worths h_t_ripes h_t_growths h_t_gains h_t_isThere h_t_forms h_t_sizes h_t_items h_t_moved v_m_hours v_m_months v_m_fitMany v_m_fitFirst v_m_finding v_m_turns v_m_phases v_m_ups)) (vp_Si (fun x => x = r)) 0 0 NF := by
  refine Met.ofW (cc := cX8_spellsOf) (maxL := 11) (ret := (some .int)) (by decide) rfl ?_
  intro p e s m args below meth c s₁ B hml hv
  obtain ⟨rfl, hP, hK⟩ := hv
  have hx := B.exec
  have hb := B.bytes
  have hr := B.returns
  have hts := atoms_spec (ws := wsX8_spellsOf) B.pre
  have hown : s.vm.findClass RX8 = some m.cls := findClass_of_methodNamed B.named
  have hlocks := B.notSynchronized
  have hl := lv_entry ([.ref h_t, .int x1, .int x2]) (n := 11) (Nat.le_of_ble_eq_true rfl)
  rw [lg_entry_eq]
  generalize (lg_sl ([.ref h_t, .int x1, .int x2]) ++ List.replicate (11 - (lg_sl ([.ref h_t, .int x1, .int x2])).length) Slot.unset).toArray = ls at hl ⊢
  have hl : lv_has ls 11 [(0, .ref h_t), (1, .int x1), (2, .int x2)] := hl
  unfold f_X8_spellsOf at hf
  refine lv_aload_n hx hb dX8_spellsOf_0 rfl (lv_at hl 0 rfl) ?_
  obtain ⟨r1_1, hc_2, hf⟩ := bd1_e hf
  refine vp_callSi (va_runV (As := []) (rest := []) ⟨hx, hb, hml, hown, hts⟩ (c_X8_roundNow l dC dI cI cZ cP cS h_t h_t_turns h_t_phases h_t_ups h_t_typed h_t_texts h_t_diary h_t_longs h_t_awakes h_t_fit h_t_counts h_t_worths h_t_ripes h_t_growths h_t_gains h_t_isThere h_t_forms h_t_sizes h_t_items h_t_moved v_m_hours v_m_months v_m_fitMany v_m_fitFirst v_m_finding v_m_turns  n r1_1 hc_2) (cwV 0 hts gX8_spellsOf_X8_roundNow rfl rfl rfl (by decide +kernel) ⟨Nat.le_of_ble_eq_true rfl, Nat.le_of_ble_eq_true rfl⟩) (pv_ro (ci := 7) (q0 := 0) hK (hP.sub (ws' := (wd_X8_roundNow cI cZ cP cS h_t h_t_turns h_t_phases h_t_ups h_t_typed h_t_texts h_t_diary h_t_longs h_t_awakes h_t_fit h_t_counts h_t_worths h_t_ripes h_t_growths h_t_gains h_t_isThere h_t_forms h_t_sizes h_t_items h_t_moved v_m_hours v_m_months v_m_fitMany v_m_fitFirst v_m_finding v_m_turns)) [0, 1] rfl) rfl rfl) rfl rfl hl.1 rfl (lv_room (Nat.le_of_ble_eq_true rfl)) dX8_spellsOf_1 ⟨Nat.zero_le _, Nat.zero_le _⟩).run (fun x e_3 => ?_)
  rw [e_3]
  refine lv_istore_n (lv' := [(3, .int r1_1), (0, .ref h_t), (1, .int x1), (2, .int x2)]) hx hb dX8_spellsOf_4 rfl hl (by decide) rfl (fun ls hl => ?_)
  refine lv_iconst (v := 0) hx hb dX8_spellsOf_5 (by decide) ?_
  refine lv_istore (lv' := [(4, .int 0), (3, .int r1_1), (0, .ref h_t), (1, .int x1), (2, .int x2)]) hx hb dX8_spellsOf_6 hl (by decide) rfl (fun ls hl => ?_)
  refine lv_iconst (v := 0) hx hb dX8_spellsOf_8 (by decide) ?_
  refine lv_istore (lv' := [(5, .int 0), (4, .int 0), (3, .int r1_1), (0, .ref h_t), (1, .int x1), (2, .int x2)]) hx hb dX8_spellsOf_9 hl (by decide) rfl (fun ls hl => ?_)
  refine lv_iconst (v := 0) hx hb dX8_spellsOf_11 (by decide) ?_
  refine lv_istore (lv' := [(6, .int 0), (5, .int 0), (4, .int 0), (3, .int r1_1), (0, .ref h_t), (1, .int x1), (2, .int x2)]) hx hb dX8_spellsOf_12 hl (by decide) rfl (fun ls hl => ?_)
  refine lv_iconst (v := 0) hx hb dX8_spellsOf_14 (by decide) ?_
  refine lv_istore (lv' := [(7, .int 0), (6, .int 0), (5, .int 0), (4, .int 0), (3, .int r1_1), (0, .ref h_t), (1, .int x1), (2, .int x2)]) hx hb dX8_spellsOf_15 hl (by decide) rfl (fun ls hl => ?_)
  obtain ⟨kx17, ekx17, hf⟩ := jn3_e hf
  have hx17 : ∀ (z17_4 : Int32) (z17_5 : Int32) (z17_6 : Int32) (ls : Array Slot), lv_has ls 11 [(2, .int x2), (3, .int r1_1), (4, .int z17_4), (5, .int z17_5), (6, .int z17_6)] → kx17 z17_4 z17_5 z17_6 = some r → W p l e (headSpec wsX8_spellsOf rm_X8_spellsOf).room s m ([.ref h_t, .int x1, .int x2] : List Value).toArray below meth c s.heap [] 0 0 (MQ below (vp_Si (fun x => x = r)) ([.ref h_t, .int x1, .int x2] : List Value).toArray s 0 0 NF) (F0 m 135 ls []) := by
    intro z17_4 z17_5 z17_6 ls hl hf
    rw [ekx17] at hf
    refine lv_iload_n hx hb dX8_spellsOf_135 rfl (lv_at hl 0 rfl) ?_
    refine lv_if_ne (tgt := 144) hx hb dX8_spellsOf_136 (by decide) (fun c136 => ?_) (fun c136 => ?_)
    · rw [if_neg c136] at hf
      refine lv_iload hx hb dX8_spellsOf_144 (lv_at hl 2 rfl) ?_
      refine lv_iload_n hx hb dX8_spellsOf_146 rfl (lv_at hl 1 rfl) ?_
      refine lv_icmp_ne (tgt := 163) hx hb dX8_spellsOf_147 (by decide) (fun c147 => ?_) (fun c147 => ?_)
      · rw [if_neg c147] at hf
        refine lv_iload_n hx hb dX8_spellsOf_163 rfl (lv_at hl 0 rfl) ?_
        refine lv_iconst (v := 1) hx hb dX8_spellsOf_164 (by decide) ?_
        refine lv_icmp_ne (tgt := 173) hx hb dX8_spellsOf_165 (by decide) (fun c165 => ?_) (fun c165 => ?_)
        · rw [if_neg c165] at hf
          refine lv_iload hx hb dX8_spellsOf_173 (lv_at hl 4 rfl) ?_
          exact W.iret hx hb hr (fun t ht hW => ⟨_, rfl, Option.some.inj hf, ht⟩) (fun _ h => nomatch h) dX8_spellsOf_175
        · rw [if_pos c165] at hf
          refine lv_iload hx hb dX8_spellsOf_168 (lv_at hl 3 rfl) ?_
          refine lv_goto (tgt := 175) hx hb dX8_spellsOf_170 (by decide) ?_
          exact W.iret hx hb hr (fun t ht hW => ⟨_, rfl, Option.some.inj hf, ht⟩) (fun _ h => nomatch h) dX8_spellsOf_175
      · rw [if_pos c147] at hf
        refine lv_iload_n hx hb dX8_spellsOf_150 rfl (lv_at hl 0 rfl) ?_
        refine lv_iconst (v := 1) hx hb dX8_spellsOf_151 (by decide) ?_
        refine lv_icmp_ne (tgt := 159) hx hb dX8_spellsOf_152 (by decide) (fun c152 => ?_) (fun c152 => ?_)
        · rw [if_neg c152] at hf
          refine lv_iload_n hx hb dX8_spellsOf_159 rfl (lv_at hl 1 rfl) ?_
          refine lv_goto (tgt := 175) hx hb dX8_spellsOf_160 (by decide) ?_
          exact W.iret hx hb hr (fun t ht hW => ⟨_, rfl, Option.some.inj hf, ht⟩) (fun _ h => nomatch h) dX8_spellsOf_175
        · rw [if_pos c152] at hf
          refine lv_iconst (v := 1) hx hb dX8_spellsOf_155 (by decide) ?_
          refine lv_goto (tgt := 175) hx hb dX8_spellsOf_156 (by decide) ?_
          exact W.iret hx hb hr (fun t ht hW => ⟨_, rfl, Option.some.inj hf, ht⟩) (fun _ h => nomatch h) dX8_spellsOf_175
    · rw [if_pos c136] at hf
      refine lv_iload hx hb dX8_spellsOf_139 (lv_at hl 2 rfl) ?_
      refine lv_goto (tgt := 175) hx hb dX8_spellsOf_141 (by decide) ?_
      exact W.iret hx hb hr (fun t ht hW => ⟨_, rfl, Option.some.inj hf, ht⟩) (fun _ h => nomatch h) dX8_spellsOf_175
  have hL17 : ∀ (k17 : Nat) (y17_4 : Int32) (y17_5 : Int32) (y17_6 : Int32) (y17_7 : Int32) (ls : Array Slot), lv_has ls 11 [(0, .ref h_t), (1, .int x1), (2, .int x2), (3, .int r1_1), (4, .int y17_4), (5, .int y17_5), (6, .int y17_6), (7, .int y17_7)] → L_X8_spellsOf_17 n v_m_turns v_m_phases v_m_ups x1 r1_1 kx17 k17 y17_4 y17_5 y17_6 y17_7 = some r → W p l e (headSpec wsX8_spellsOf rm_X8_spellsOf).room s m ([.ref h_t, .int x1, .int x2] : List Value).toArray below meth c s.heap [] 0 0 (MQ below (vp_Si (fun x => x = r)) ([.ref h_t, .int x1, .int x2] : List Value).toArray s 0 0 NF) (F0 m 17 ls []) := by
    intro k17
    induction k17 with
    | zero =>
      intro y17_4 y17_5 y17_6 y17_7 ls hl hf
      exact absurd hf (fun h => Option.some_ne_none _ h.symm)
    | succ k17 ih =>
      intro y17_4 y17_5 y17_6 y17_7 ls hl hf
      rw [L_X8_spellsOf_17_s] at hf
      refine lv_iload hx hb dX8_spellsOf_17 (lv_at hl 7 rfl) ?_
      refine lv_iload_n hx hb dX8_spellsOf_19 rfl (lv_at hl 3 rfl) ?_
      refine lv_icmp_ge (tgt := 135) hx hb dX8_spellsOf_20 (by decide) (fun c20 => ?_) (fun c20 => ?_)
      · rw [if_pos c20] at hf
        exact hx17 y17_4 y17_5 y17_6 ls (lv_sub hl [2, 3, 4, 5, 6] rfl) hf
      · rw [if_neg c20] at hf
        refine lv_aload_n hx hb dX8_spellsOf_23 rfl (lv_at hl 0 rfl) ?_
        refine lv_iload hx hb dX8_spellsOf_24 (lv_at hl 7 rfl) ?_
        obtain ⟨r26_4, hc_5, hf⟩ := bd1_e hf
        refine vp_callSi (va_runV (As := [.int y17_7]) (rest := []) ⟨hx, hb, hml, hown, hts⟩ (c_X8_lightOf l dC dI cI cZ cP cS h_t h_t_turns h_t_phases h_t_ups h_t_typed h_t_texts h_t_diary h_t_longs h_t_awakes h_t_fit h_t_counts h_t_worths h_t_ripes h_t_growths h_t_gains h_t_isThere h_t_forms h_t_sizes h_t_items h_t_moved v_m_hours v_m_months v_m_fitMany v_m_fitFirst v_m_finding v_m_turns v_m_phases v_m_ups y17_7 n r26_4 hc_5) (cwV 1 hts gX8_spellsOf_X8_lightOf rfl rfl rfl (by decide +kernel) ⟨Nat.le_of_ble_eq_true rfl, Nat.le_of_ble_eq_true rfl⟩) (pv_ro (ci := 7) (q0 := 0) hK (hP.sub (ws' := (wd_X8_lightOf cI cZ cP cS h_t h_t_turns h_t_phases h_t_ups h_t_typed h_t_texts h_t_diary h_t_longs h_t_awakes h_t_fit h_t_counts h_t_worths h_t_ripes h_t_growths h_t_gains h_t_isThere h_t_forms h_t_sizes h_t_items h_t_moved v_m_hours v_m_months v_m_fitMany v_m_fitFirst v_m_finding v_m_turns v_m_phases v_m_ups)) [0, 1, 2, 3] rfl) rfl rfl) rfl rfl hl.1 rfl (lv_room (Nat.le_of_ble_eq_true rfl)) dX8_spellsOf_26 ⟨Nat.zero_le _, Nat.zero_le _⟩).run (fun x e_6 => ?_)
        rw [e_6]
        refine lv_iload_n hx hb dX8_spellsOf_29 rfl (lv_at hl 1 rfl) ?_
        obtain ⟨v38_7, ev38_7, hf⟩ := lt_e hf
        have hj38_8 : ∀ (ls : Array Slot), lv_has ls 11 [(0, .ref h_t), (1, .int x1), (2, .int x2), (3, .int r1_1), (4, .int y17_4), (5, .int y17_5), (6, .int y17_6), (7, .int y17_7)] → W p l e (headSpec wsX8_spellsOf rm_X8_spellsOf).room s m ([.ref h_t, .int x1, .int x2] : List Value).toArray below meth c s.heap [] 0 0 (MQ below (vp_Si (fun x => x = r)) ([.ref h_t, .int x1, .int x2] : List Value).toArray s 0 0 NF) (F0 m 38 ls [.int v38_7]) := by
          intro ls hl
          refine lv_istore (lv' := [(8, .int v38_7), (0, .ref h_t), (1, .int x1), (2, .int x2), (3, .int r1_1), (4, .int y17_4), (5, .int y17_5), (6, .int y17_6), (7, .int y17_7)]) hx hb dX8_spellsOf_38 hl (by decide) rfl (fun ls hl => ?_)
          refine lv_iload hx hb dX8_spellsOf_40 (lv_at hl 0 rfl) ?_
          obtain ⟨k64, ek64, hf⟩ := jn1_e hf
          have hj64 : ∀ (q64_0 : Int32) (ls : Array Slot), lv_has ls 11 [(0, .ref h_t), (1, .int x1), (2, .int x2), (3, .int r1_1), (4, .int y17_4), (5, .int y17_5), (6, .int y17_6), (7, .int y17_7), (8, .int v38_7)] → k64 q64_0 = some r → W p l e (headSpec wsX8_spellsOf rm_X8_spellsOf).room s m ([.ref h_t, .int x1, .int x2] : List Value).toArray below meth c s.heap [] 0 0 (MQ below (vp_Si (fun x => x = r)) ([.ref h_t, .int x1, .int x2] : List Value).toArray s 0 0 NF) (F0 m 64 ls [.int q64_0]) := by
            intro q64_0 ls hl hf
            rw [ek64] at hf
            refine lv_istore (lv' := [(9, .int q64_0), (0, .ref h_t), (1, .int x1), (2, .int x2), (3, .int r1_1), (4, .int y17_4), (5, .int y17_5), (6, .int y17_6), (7, .int y17_7), (8, .int v38_7)]) hx hb dX8_spellsOf_64 hl (by decide) rfl (fun ls hl => ?_)
            refine lv_iload hx hb dX8_spellsOf_66 (lv_at hl 5 rfl) ?_
            refine lv_iload hx hb dX8_spellsOf_68 (lv_at hl 9 rfl) ?_
            obtain ⟨v78_9, ev78_9, hf⟩ := lt_e hf
            have hj78_10 : ∀ (ls : Array Slot), lv_has ls 11 [(0, .ref h_t), (1, .int x1), (2, .int x2), (3, .int r1_1), (5, .int y17_5), (6, .int y17_6), (7, .int y17_7), (9, .int q64_0)] → W p l e (headSpec wsX8_spellsOf rm_X8_spellsOf).room s m ([.ref h_t, .int x1, .int x2] : List Value).toArray below meth c s.heap [] 0 0 (MQ below (vp_Si (fun x => x = r)) ([.ref h_t, .int x1, .int x2] : List Value).toArray s 0 0 NF) (F0 m 78 ls [.int v78_9, .int y17_4]) := by
              intro ls hl
              refine lv_iadd hx hb dX8_spellsOf_78 ?_
              refine lv_istore (lv' := [(4, .int (y17_4 + v78_9)), (0, .ref h_t), (1, .int x1), (2, .int x2), (3, .int r1_1), (5, .int y17_5), (6, .int y17_6), (7, .int y17_7), (9, .int q64_0)]) hx hb dX8_spellsOf_79 hl (by decide) rfl (fun ls hl => ?_)
              refine lv_iload hx hb dX8_spellsOf_81 (lv_at hl 5 rfl) ?_
              refine lv_iload hx hb dX8_spellsOf_83 (lv_at hl 8 rfl) ?_
              obtain ⟨v93_11, ev93_11, hf⟩ := lt_e hf
              have hj93_12 : ∀ (ls : Array Slot), lv_has ls 11 [(0, .ref h_t), (1, .int x1), (2, .int x2), (3, .int r1_1), (4, .int (y17_4 + v78_9)), (6, .int y17_6), (7, .int y17_7), (9, .int q64_0)] → W p l e (headSpec wsX8_spellsOf rm_X8_spellsOf).room s m ([.ref h_t, .int x1, .int x2] : List Value).toArray below meth c s.heap [] 0 0 (MQ below (vp_Si (fun x => x = r)) ([.ref h_t, .int x1, .int x2] : List Value).toArray s 0 0 NF) (F0 m 93 ls [.int v93_11, .int y17_5]) := by
                intro ls hl
                refine lv_iadd hx hb dX8_spellsOf_93 ?_
                refine lv_istore (lv' := [(5, .int (y17_5 + v93_11)), (0, .ref h_t), (1, .int x1), (2, .int x2), (3, .int r1_1), (4, .int (y17_4 + v78_9)), (6, .int y17_6), (7, .int y17_7), (9, .int q64_0)]) hx hb dX8_spellsOf_94 hl (by decide) rfl (fun ls hl => ?_)
                refine lv_iload hx hb dX8_spellsOf_96 (lv_at hl 8 rfl) ?_
                obtain ⟨k111, ek111, hf⟩ := jn1_e hf
                have hj111 : ∀ (q111_0 : Int32) (ls : Array Slot), lv_has ls 11 [(0, .ref h_t), (1, .int x1), (2, .int x2), (3, .int r1_1), (4, .int (y17_4 + v78_9)), (5, .int (y17_5 + v93_11)), (6, .int y17_6), (7, .int y17_7)] → k111 q111_0 = some r → W p l e (headSpec wsX8_spellsOf rm_X8_spellsOf).room s m ([.ref h_t, .int x1, .int x2] : List Value).toArray below meth c s.heap [] 0 0 (MQ below (vp_Si (fun x => x = r)) ([.ref h_t, .int x1, .int x2] : List Value).toArray s 0 0 NF) (F0 m 111 ls [.int q111_0]) := by
                  intro q111_0 ls hl hf
                  rw [ek111] at hf
                  refine lv_istore (lv' := [(10, .int q111_0), (0, .ref h_t), (1, .int x1), (2, .int x2), (3, .int r1_1), (4, .int (y17_4 + v78_9)), (5, .int (y17_5 + v93_11)), (6, .int y17_6), (7, .int y17_7)]) hx hb dX8_spellsOf_111 hl (by decide) rfl (fun ls hl => ?_)
                  refine lv_iload hx hb dX8_spellsOf_113 (lv_at hl 0 rfl) ?_
                  refine lv_iload hx hb dX8_spellsOf_115 (lv_at hl 7 rfl) ?_
                  obtain ⟨v127_13, ev127_13, hf⟩ := lt_e hf
                  have hj127_14 : ∀ (ls : Array Slot), lv_has ls 11 [(0, .ref h_t), (1, .int x1), (2, .int x2), (3, .int r1_1), (4, .int (y17_4 + v78_9)), (5, .int (y17_5 + v93_11)), (7, .int y17_7)] → W p l e (headSpec wsX8_spellsOf rm_X8_spellsOf).room s m ([.ref h_t, .int x1, .int x2] : List Value).toArray below meth c s.heap [] 0 0 (MQ below (vp_Si (fun x => x = r)) ([.ref h_t, .int x1, .int x2] : List Value).toArray s 0 0 NF) (F0 m 127 ls [.int v127_13]) := by
                    intro ls hl
                    refine lv_istore (lv' := [(6, .int v127_13), (0, .ref h_t), (1, .int x1), (2, .int x2), (3, .int r1_1), (4, .int (y17_4 + v78_9)), (5, .int (y17_5 + v93_11)), (7, .int y17_7)]) hx hb dX8_spellsOf_127 hl (by decide) rfl (fun ls hl => ?_)
                    refine lv_iinc (v := (y17_7 + 1)) (lv' := [(7, .int (y17_7 + 1)), (6, .int v127_13), (0, .ref h_t), (1, .int x1), (2, .int x2), (3, .int r1_1), (4, .int (y17_4 + v78_9)), (5, .int (y17_5 + v93_11))]) hx hb dX8_spellsOf_129 hl (k := 7) rfl rfl (by decide) rfl (fun ls hl => ?_)
                    refine lv_goto (tgt := 17) hx hb dX8_spellsOf_132 (by decide) ?_
                    exact ih (y17_4 + v78_9) (y17_5 + v93_11) v127_13 (y17_7 + 1) ls (lv_sub hl [2, 3, 4, 5, 6, 7, 1, 0] rfl) hf
                  clear hf
                  refine lv_icmp_le (tgt := 125) hx hb dX8_spellsOf_117 (by decide) (fun c117 => ?_) (fun c117 => ?_)
                  ·
                    refine lv_iload hx hb dX8_spellsOf_125 (lv_at hl 7 rfl) ?_
                    rw [if_pos c117] at ev127_13
                    subst ev127_13
                    exact hj127_14 ls (lv_sub hl [1, 2, 3, 4, 5, 6, 8] rfl)
                  ·
                    refine lv_iload hx hb dX8_spellsOf_120 (lv_at hl 0 rfl) ?_
                    refine lv_goto (tgt := 127) hx hb dX8_spellsOf_122 (by decide) ?_
                    rw [if_neg c117] at ev127_13
                    subst ev127_13
                    exact hj127_14 ls (lv_sub hl [1, 2, 3, 4, 5, 6, 8] rfl)
                refine lv_if_eq (tgt := 110) hx hb dX8_spellsOf_98 (by decide) (fun c98 => ?_) (fun c98 => ?_)
                · rw [if_pos c98] at hf
                  refine lv_iconst (v := 0) hx hb dX8_spellsOf_110 (by decide) ?_
                  exact hj111 0 ls (lv_sub hl [1, 2, 3, 4, 5, 0, 6, 7] rfl) hf
                · rw [if_neg c98] at hf
                  refine lv_aload_n hx hb dX8_spellsOf_101 rfl (lv_at hl 1 rfl) ?_
                  refine lv_iload hx hb dX8_spellsOf_102 (lv_at hl 7 rfl) ?_
                  obtain ⟨r104_15, hc_16, hf⟩ := bd1_e hf
                  refine vp_callSi (va_runV (As := [.int y17_7]) (rest := []) ⟨hx, hb, hml, hown, hts⟩ (c_X8_lastsOf l dC dI cI cZ cP cS h_t h_t_turns h_t_phases h_t_ups h_t_typed h_t_texts h_t_diary h_t_longs h_t_awakes h_t_fit h_t_counts h_t_worths h_t_ripes h_t_growths h_t_gains h_t_isThere h_t_forms h_t_sizes h_t_items h_t_moved v_m_hours v_m_months v_m_fitMany v_m_fitFirst v_m_finding v_m_turns v_m_phases v_m_ups y17_7 n r104_15 hc_16) (cwV 1 hts gX8_spellsOf_X8_lastsOf rfl rfl rfl (by decide +kernel) ⟨Nat.le_of_ble_eq_true rfl, Nat.le_of_ble_eq_true rfl⟩) (pv_ro (ci := 7) (q0 := 0) hK (hP.sub (ws' := (wd_X8_lastsOf cI cZ cP cS h_t h_t_turns h_t_phases h_t_ups h_t_typed h_t_texts h_t_diary h_t_longs h_t_awakes h_t_fit h_t_counts h_t_worths h_t_ripes h_t_growths h_t_gains h_t_isThere h_t_forms h_t_sizes h_t_items h_t_moved v_m_hours v_m_months v_m_fitMany v_m_fitFirst v_m_finding v_m_turns v_m_phases v_m_ups)) [0, 1, 2, 3] rfl) rfl rfl) rfl rfl hl.1 rfl (lv_room (Nat.le_of_ble_eq_true rfl)) dX8_spellsOf_104 ⟨Nat.zero_le _, Nat.zero_le _⟩).run (fun x e_17 => ?_)
                  rw [e_17]
                  refine lv_goto (tgt := 111) hx hb dX8_spellsOf_107 (by decide) ?_
                  exact hj111 r104_15 ls (lv_sub hl [1, 2, 3, 4, 5, 0, 6, 7] rfl) hf
              clear hf
              refine lv_if_eq (tgt := 92) hx hb dX8_spellsOf_85 (by decide) (fun c85 => ?_) (fun c85 => ?_)
              ·
                refine lv_iconst (v := 0) hx hb dX8_spellsOf_92 (by decide) ?_
                rw [if_pos c85] at ev93_11
                subst ev93_11
                exact hj93_12 ls (lv_sub hl [1, 2, 3, 4, 0, 6, 7, 8] rfl)
              ·
                refine lv_iconst (v := 1) hx hb dX8_spellsOf_88 (by decide) ?_
                refine lv_goto (tgt := 93) hx hb dX8_spellsOf_89 (by decide) ?_
                rw [if_neg c85] at ev93_11
                subst ev93_11
                exact hj93_12 ls (lv_sub hl [1, 2, 3, 4, 0, 6, 7, 8] rfl)
            clear hf
            refine lv_if_eq (tgt := 77) hx hb dX8_spellsOf_70 (by decide) (fun c70 => ?_) (fun c70 => ?_)
            ·
              refine lv_iconst (v := 0) hx hb dX8_spellsOf_77 (by decide) ?_
              rw [if_pos c70] at ev78_9
              subst ev78_9
              exact hj78_10 ls (lv_sub hl [1, 2, 3, 4, 6, 7, 8, 0] rfl)
            ·
              refine lv_iconst (v := 1) hx hb dX8_spellsOf_73 (by decide) ?_
              refine lv_goto (tgt := 78) hx hb dX8_spellsOf_74 (by decide) ?_
              rw [if_neg c70] at ev78_9
              subst ev78_9
              exact hj78_10 ls (lv_sub hl [1, 2, 3, 4, 6, 7, 8, 0] rfl)
          obtain ⟨k63, ek63, hf⟩ := jn0_e hf
          have hj63 : ∀ (ls : Array Slot), lv_has ls 11 [(0, .ref h_t), (1, .int x1), (2, .int x2), (3, .int r1_1), (4, .int y17_4), (5, .int y17_5), (6, .int y17_6), (7, .int y17_7), (8, .int v38_7)] → k63 = some r → W p l e (headSpec wsX8_spellsOf rm_X8_spellsOf).room s m ([.ref h_t, .int x1, .int x2] : List Value).toArray below meth c s.heap [] 0 0 (MQ below (vp_Si (fun x => x = r)) ([.ref h_t, .int x1, .int x2] : List Value).toArray s 0 0 NF) (F0 m 63 ls []) := by
            intro ls hl hf
            rw [ek63] at hf
            refine lv_iconst (v := 0) hx hb dX8_spellsOf_63 (by decide) ?_
            exact hj64 0 ls (lv_sub hl [0, 1, 2, 3, 4, 5, 6, 7, 8] rfl) hf
          refine lv_if_eq (tgt := 63) hx hb dX8_spellsOf_42 (by decide) (fun c42 => ?_) (fun c42 => ?_)
          · rw [if_pos c42] at hf
            exact hj63 ls (lv_sub hl [1, 2, 3, 4, 5, 6, 7, 8, 0] rfl) hf
          · rw [if_neg c42] at hf
            refine lv_aload_n hx hb dX8_spellsOf_45 rfl (lv_at hl 1 rfl) ?_
            refine lv_iload hx hb dX8_spellsOf_46 (lv_at hl 8 rfl) ?_
            refine lv_iload_n hx hb dX8_spellsOf_48 rfl (lv_at hl 4 rfl) ?_
            refine lv_iadd hx hb dX8_spellsOf_49 ?_
            refine lv_iconst (v := 1) hx hb dX8_spellsOf_50 (by decide) ?_
            refine lv_isub hx hb dX8_spellsOf_51 ?_
            obtain ⟨r52_18, hc_19, hf⟩ := bd1_e hf
            refine vp_callSi (va_runV (As := [.int ((y17_7 + r1_1) - 1)]) (rest := []) ⟨hx, hb, hml, hown, hts⟩ (c_X8_lightOf l dC dI cI cZ cP cS h_t h_t_turns h_t_phases h_t_ups h_t_typed h_t_texts h_t_diary h_t_longs h_t_awakes h_t_fit h_t_counts h_t_worths h_t_ripes h_t_growths h_t_gains h_t_isThere h_t_forms h_t_sizes h_t_items h_t_moved v_m_hours v_m_months v_m_fitMany v_m_fitFirst v_m_finding v_m_turns v_m_phases v_m_ups ((y17_7 + r1_1) - 1) n r52_18 hc_19) (cwV 1 hts gX8_spellsOf_X8_lightOf rfl rfl rfl (by decide +kernel) ⟨Nat.le_of_ble_eq_true rfl, Nat.le_of_ble_eq_true rfl⟩) (pv_ro (ci := 7) (q0 := 0) hK (hP.sub (ws' := (wd_X8_lightOf cI cZ cP cS h_t h_t_turns h_t_phases h_t_ups h_t_typed h_t_texts h_t_diary h_t_longs h_t_awakes h_t_fit h_t_counts h_t_worths h_t_ripes h_t_growths h_t_gains h_t_isThere h_t_forms h_t_sizes h_t_items h_t_moved v_m_hours v_m_months v_m_fitMany v_m_fitFirst v_m_finding v_m_turns v_m_phases v_m_ups)) [0, 1, 2, 3] rfl) rfl rfl) rfl rfl hl.1 rfl (lv_room (Nat.le_of_ble_eq_true rfl)) dX8_spellsOf_52 ⟨Nat.zero_le _, Nat.zero_le _⟩).run (fun x e_20 => ?_)
            rw [e_20]
            refine lv_iload_n hx hb dX8_spellsOf_55 rfl (lv_at hl 2 rfl) ?_
            refine lv_icmp_eq (tgt := 63) hx hb dX8_spellsOf_56 (by decide) (fun c56 => ?_) (fun c56 => ?_)
            · rw [if_pos c56] at hf
              exact hj63 ls (lv_sub hl [1, 2, 3, 4, 5, 6, 7, 8, 0] rfl) hf
            · rw [if_neg c56] at hf
              refine lv_iconst (v := 1) hx hb dX8_spellsOf_59 (by decide) ?_
              refine lv_goto (tgt := 64) hx hb dX8_spellsOf_60 (by decide) ?_
              exact hj64 1 ls (lv_sub hl [1, 2, 3, 4, 5, 6, 7, 8, 0] rfl) hf
        clear hf
        refine lv_icmp_ne (tgt := 37) hx hb dX8_spellsOf_30 (by decide) (fun c30 => ?_) (fun c30 => ?_)
        ·
          refine lv_iconst (v := 0) hx hb dX8_spellsOf_37 (by decide) ?_
          rw [if_neg c30] at ev38_7
          subst ev38_7
          exact hj38_8 ls (lv_sub hl [0, 1, 2, 3, 4, 5, 6, 7] rfl)
        ·
          refine lv_iconst (v := 1) hx hb dX8_spellsOf_33 (by decide) ?_
          refine lv_goto (tgt := 38) hx hb dX8_spellsOf_34 (by decide) ?_
          rw [if_pos c30] at ev38_7
          subst ev38_7
          exact hj38_8 ls (lv_sub hl [0, 1, 2, 3, 4, 5, 6, 7] rfl)
  exact hL17 n 0 0 0 0 ls (lv_sub hl [5, 6, 7, 4, 3, 2, 1, 0] rfl) hf

abbrev wd_X8_lightsOf (cI cZ cP cS : ClassId) (h_t h_t_turns h_t_phases h_t_ups h_t_typed h_t_texts h_t_diary h_t_longs h_t_awakes h_t_fit h_t_counts h_t_worths h_t_ripes h_t_growths h_t_gains h_t_isThere h_t_forms h_t_sizes h_t_items h_t_moved : Nat) (v_m_hours : Int32) (v_m_months : Int32) (v_m_fitMany : Int32) (v_m_fitFirst : Int32) (v_m_finding : Int32) (v_m_awakes : Nat → Int32) : va_W := [(h_t, .inr (7, [.ref h_t_turns, .ref h_t_phases, .ref h_t_ups, .ref h_t_typed, .ref h_t_texts, .int v_m_hours, .ref h_t_diary, .int v_m_months, .ref h_t_longs, .ref h_t_awakes, .ref h_t_fit, .int v_m_fitMany, .int v_m_fitFirst, .ref h_t_counts, .ref h_t_worths, .ref h_t_ripes, .ref h_t_growths, .ref h_t_gains, .ref h_t_isThere, .ref h_t_forms, .ref h_t_sizes, .ref h_t_items, .ref h_t_moved, .int v_m_finding])), (h_t_awakes, .inl (cI, 6, .inl v_m_awakes))]
abbrev rm_X8_lightsOf : Room := { frames := 1, cells := 0, slots := 0, locals := 21 }
def L_X8_lightsOf_5 (n : Nat) (v_m_awakes : Nat → Int32) (x1 : Int32) (kx5 : Int32 → Option (Int32)) : Nat → Int32 → Int32 → Option (Int32)
  | 0, _, _ => none
  | k5 + 1, y5_2, y5_3 => if (6 : Int32) ≤ y5_3 then kx5 y5_2 else bd1_ (f_X8_isIn n x1 y5_3) (fun (r14_1 : Int32) => jn1_ (fun (q31_0 : Int32) => L_X8_lightsOf_5 n v_m_awakes x1 kx5 k5 (y5_2 &&& q31_0) (y5_3 + 1)) (fun k31 => if r14_1 = 0 then k31 15 else ix_ y5_3 6 (k31 (v_m_awakes y5_3.toNatClampNeg))))
theorem L_X8_lightsOf_5_s (n : Nat) (v_m_awakes : Nat → Int32) (x1 : Int32) (kx5 : Int32 → Option (Int32)) (k5 : Nat) (y5_2 : Int32) (y5_3 : Int32) : L_X8_lightsOf_5 n v_m_awakes x1 kx5 (k5 + 1) y5_2 y5_3 = if (6 : Int32) ≤ y5_3 then kx5 y5_2 else bd1_ (f_X8_isIn n x1 y5_3) (fun (r14_1 : Int32) => jn1_ (fun (q31_0 : Int32) => L_X8_lightsOf_5 n v_m_awakes x1 kx5 k5 (y5_2 &&& q31_0) (y5_3 + 1)) (fun k31 => if r14_1 = 0 then k31 15 else ix_ y5_3 6 (k31 (v_m_awakes y5_3.toNatClampNeg)))) := rfl
def f_X8_lightsOf (n : Nat) (v_m_awakes : Nat → Int32) (x1 : Int32) : Option (Int32) := jn1_ (fun (z5_2 : Int32) => some z5_2) (fun kx5 => L_X8_lightsOf_5 n v_m_awakes x1 kx5 n 15 0)
set_option maxHeartbeats 4000000 in
set_option maxRecDepth 100000 in
theorem c_X8_lightsOf (l : Launch) (dC : Nat → ClassId) (dI : Nat → Nat → Nat) (cI cZ cP cS : ClassId) (h_t h_t_turns h_t_phases h_t_ups h_t_typed h_t_texts h_t_diary h_t_longs h_t_awakes h_t_fit h_t_counts h_t_worths h_t_ripes h_t_growths h_t_gains h_t_isThere h_t_forms h_t_sizes h_t_items h_t_moved : Nat) (v_m_hours : Int32) (v_m_months : Int32) (v_m_fitMany : Int32) (v_m_fitFirst : Int32) (v_m_finding : Int32) (v_m_awakes : Nat → Int32) (x1 : Int32) (n : Nat) (r : Int32) (hf : f_X8_lightsOf n v_m_awakes x1 = some r) : Met l yX8_lightsOf wsX8_lightsOf rm_X8_lightsOf (RO (dC, dI) (TY cI cZ cP cS) [.ref h_t, .int x1] (wd_X8_lightsOf cI cZ cP cS h_t h_t_turns h_t_phases h_t_ups h_t_typed h_t_texts h_t_diary h_t_longs h_t_awakes h_t_fit h_t_counts h_t_worths h_t_ripes h_t_growths h_t_gains h_t_isThere h_t_forms h_t_sizes h_t_items h_t_moved v_m_hours v_m_months v_m_fitMany v_m_fitFirst v_m_finding v_m_awakes)) (vp_Si (fun x => x = r)) 0 0 NF := by
  refine Met.ofW (cc := cX8_lightsOf) (maxL := 4) (ret := (some .int)) (by decide) rfl ?_
  intro p e s m args below meth c s₁ B hml hv
  obtain ⟨rfl, hP, hK⟩ := hv
  have hx := B.exec
  have hb := B.bytes
  have hr := B.returns
  have hts := atoms_spec (ws := wsX8_lightsOf) B.pre
  have hown : s.vm.findClass RX8 = some m.cls := findClass_of_methodNamed B.named
  have hlocks := B.notSynchronized
  have hinX8 : ∀ w ∈ wsX80, w ∈ wsX8_lightsOf := by decide +kernel
  have hl := lv_entry ([.ref h_t, .int x1]) (n := 4) (Nat.le_of_ble_eq_true rfl)
  rw [lg_entry_eq]
  generalize (lg_sl ([.ref h_t, .int x1]) ++ List.replicate (4 - (lg_sl ([.ref h_t, .int x1])).length) Slot.unset).toArray = ls at hl ⊢
  have hl : lv_has ls 4 [(0, .ref h_t), (1, .int x1)] := hl
  unfold f_X8_lightsOf at hf
  refine lv_bipush (v := 15) hx hb dX8_lightsOf_0 (by decide) ?_
  refine lv_istore_n (lv' := [(2, .int 15), (0, .ref h_t), (1, .int x1)]) hx hb dX8_lightsOf_2 rfl hl (by decide) rfl (fun ls hl => ?_)
  refine lv_iconst (v := 0) hx hb dX8_lightsOf_3 (by decide) ?_
  refine lv_istore_n (lv' := [(3, .int 0), (2, .int 15), (0, .ref h_t), (1, .int x1)]) hx hb dX8_lightsOf_4 rfl hl (by decide) rfl (fun ls hl => ?_)
  obtain ⟨kx5, ekx5, hf⟩ := jn1_e hf
  have hx5 : ∀ (z5_2 : Int32) (ls : Array Slot), lv_has ls 4 [(2, .int z5_2)] → kx5 z5_2 = some r → W p l e (headSpec wsX8_lightsOf rm_X8_lightsOf).room s m ([.ref h_t, .int x1] : List Value).toArray below meth c s.heap [] 0 0 (MQ below (vp_Si (fun x => x = r)) ([.ref h_t, .int x1] : List Value).toArray s 0 0 NF) (F0 m 39 ls []) := by
    intro z5_2 ls hl hf
    rw [ekx5] at hf
    refine lv_iload_n hx hb dX8_lightsOf_39 rfl (lv_at hl 0 rfl) ?_
    exact W.iret hx hb hr (fun t ht hW => ⟨_, rfl, Option.some.inj hf, ht⟩) (fun _ h => nomatch h) dX8_lightsOf_40
  have hL5 : ∀ (k5 : Nat) (y5_2 : Int32) (y5_3 : Int32) (ls : Array Slot), lv_has ls 4 [(0, .ref h_t), (1, .int x1), (2, .int y5_2), (3, .int y5_3)] → L_X8_lightsOf_5 n v_m_awakes x1 kx5 k5 y5_2 y5_3 = some r → W p l e (headSpec wsX8_lightsOf rm_X8_lightsOf).room s m ([.ref h_t, .int x1] : List Value).toArray below meth c s.heap [] 0 0 (MQ below (vp_Si (fun x => x = r)) ([.ref h_t, .int x1] : List Value).toArray s 0 0 NF) (F0 m 5 ls []) := by
    intro k5
    induction k5 with
    | zero =>
      intro y5_2 y5_3 ls hl hf
      exact absurd hf (fun h => Option.some_ne_none _ h.symm)
    | succ k5 ih =>
      intro y5_2 y5_3 ls hl hf
      rw [L_X8_lightsOf_5_s] at hf
      refine lv_iload_n hx hb dX8_lightsOf_5 rfl (lv_at hl 3 rfl) ?_
      refine lv_bipush (v := 6) hx hb dX8_lightsOf_6 (by decide) ?_
      refine lv_icmp_ge (tgt := 39) hx hb dX8_lightsOf_8 (by decide) (fun c8 => ?_) (fun c8 => ?_)
      · rw [if_pos c8] at hf
        exact hx5 y5_2 ls (lv_sub hl [2] rfl) hf
      · rw [if_neg c8] at hf
        refine lv_iload_n hx hb dX8_lightsOf_11 rfl (lv_at hl 2 rfl) ?_
        refine lv_iload_n hx hb dX8_lightsOf_12 rfl (lv_at hl 1 rfl) ?_
        refine lv_iload_n hx hb dX8_lightsOf_13 rfl (lv_at hl 3 rfl) ?_
        obtain ⟨r14_1, hc_2, hf⟩ := bd1_e hf
        refine vp_callSi (va_runS (As := [.int x1, .int y5_3]) (rest := [.int y5_2]) ⟨hx, hb, hml, hown, hts⟩ (c_X8_isIn l dC dI cI cZ cP cS   x1 y5_3 n r14_1 hc_2) (va_cwS 2 hts gX8_lightsOf_X8_isIn rfl rfl rfl (by decide +kernel) ⟨Nat.le_of_ble_eq_true rfl, Nat.le_of_ble_eq_true rfl⟩) (ps_ro hK (hP.sub (ws' := ([] : va_W)) [] rfl)) rfl rfl hl.1 rfl (lv_room (Nat.le_of_ble_eq_true rfl)) dX8_lightsOf_14 ⟨Nat.zero_le _, Nat.zero_le _⟩).run (fun x e_3 => ?_)
        obtain ⟨e_3, hb_4⟩ := e_3
        rw [e_3] at hb_4 ⊢
        obtain ⟨k31, ek31, hf⟩ := jn1_e hf
        have hj31 : ∀ (q31_0 : Int32) (ls : Array Slot), lv_has ls 4 [(0, .ref h_t), (1, .int x1), (3, .int y5_3)] → k31 q31_0 = some r → W p l e (headSpec wsX8_lightsOf rm_X8_lightsOf).room s m ([.ref h_t, .int x1] : List Value).toArray below meth c s.heap [] 0 0 (MQ below (vp_Si (fun x => x = r)) ([.ref h_t, .int x1] : List Value).toArray s 0 0 NF) (F0 m 31 ls [.int q31_0, .int y5_2]) := by
          intro q31_0 ls hl hf
          rw [ek31] at hf
          refine lv_iand hx hb dX8_lightsOf_31 ?_
          refine lv_istore_n (lv' := [(2, .int (y5_2 &&& q31_0)), (0, .ref h_t), (1, .int x1), (3, .int y5_3)]) hx hb dX8_lightsOf_32 rfl hl (by decide) rfl (fun ls hl => ?_)
          refine lv_iinc (v := (y5_3 + 1)) (lv' := [(3, .int (y5_3 + 1)), (2, .int (y5_2 &&& q31_0)), (0, .ref h_t), (1, .int x1)]) hx hb dX8_lightsOf_33 hl (k := 3) rfl rfl (by decide) rfl (fun ls hl => ?_)
          refine lv_goto (tgt := 5) hx hb dX8_lightsOf_36 (by decide) ?_
          exact ih (y5_2 &&& q31_0) (y5_3 + 1) ls (lv_sub hl [2, 3, 1, 0] rfl) hf
        refine lv_if_eq (tgt := 29) hx hb dX8_lightsOf_17 (by decide) (fun c17 => ?_) (fun c17 => ?_)
        · rw [if_pos c17] at hf
          refine lv_bipush (v := 15) hx hb dX8_lightsOf_29 (by decide) ?_
          exact hj31 15 ls (lv_sub hl [0, 1, 3] rfl) hf
        · rw [if_neg c17] at hf
          refine lv_aload_n hx hb dX8_lightsOf_20 rfl (lv_at hl 0 rfl) ?_
          refine va_get (D := (dC, dI)) (ci := 7) (v := .ref h_t_awakes) (C := RX8) (T := TX8) (N := 24) hx hb hts hinX8 hown hK hP 0 rfl rfl 9 (by decide) (hts (.fieldLink RX8 31 "SecondSunriseModel" "awakes" "[I") (by decide +kernel)) (fun _ h9 => h9) rfl dX8_lightsOf_21 ?_
          refine lv_iload_n hx hb dX8_lightsOf_24 rfl (lv_at hl 3 rfl) ?_
          obtain ⟨hi_5, hf⟩ := ix_e hf
          refine va_iald hx hb hK hP 1 0 rfl rfl hi_5 dX8_lightsOf_25 ?_
          refine lv_goto (tgt := 31) hx hb dX8_lightsOf_26 (by decide) ?_
          exact hj31 (v_m_awakes y5_3.toNatClampNeg) ls (lv_sub hl [0, 1, 3] rfl) hf
  exact hL5 n 15 0 ls (lv_sub hl [2, 3, 1, 0] rfl) hf
