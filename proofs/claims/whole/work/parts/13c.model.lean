abbrev wd_X8_reads (cI cZ cP cS : ClassId) (h_t h_t_turns h_t_phases h_t_ups h_t_typed h_t_texts h_t_diary h_t_longs h_t_awakes h_t_fit h_t_counts h_t_worths h_t_ripes h_t_growths h_t_gains h_t_isThere h_t_forms h_t_sizes h_t_items h_t_moved : Nat) (v_m_hours : Int32) (v_m_months : Int32) (v_m_fitMany : Int32) (v_m_fitFirst : Int32) (v_m_finding : Int32) (v_m_typed : Nat → Int32) (v_m_texts : Nat → Int32) (v_m_diary : Nat → Int32) (v_m_longs : Nat → Int32) : va_W := [(h_t, .inr (7, [.ref h_t_turns, .ref h_t_phases, .ref h_t_ups, .ref h_t_typed, .ref h_t_texts, .int v_m_hours, .ref h_t_diary, .int v_m_months, .ref h_t_longs, .ref h_t_awakes, .ref h_t_fit, .int v_m_fitMany, .int v_m_fitFirst, .ref h_t_counts, .ref h_t_worths, .ref h_t_ripes, .ref h_t_growths, .ref h_t_gains, .ref h_t_isThere, .ref h_t_forms, .ref h_t_sizes, .ref h_t_items, .ref h_t_moved, .int v_m_finding])), (h_t_typed, .inl (cI, 2, .inl v_m_typed)), (h_t_texts, .inl (cI, 120, .inl v_m_texts)), (h_t_diary, .inl (cI, 60, .inl v_m_diary)), (h_t_longs, .inl (cI, 7, .inl v_m_longs))]
abbrev rm_X8_reads : Room := { frames := 4, cells := 0, slots := 0, locals := 91 }
def f_X8_reads (n : Nat) (v_m_hours : Int32) (v_m_months : Int32) (v_m_typed : Nat → Int32) (v_m_texts : Nat → Int32) (v_m_diary : Nat → Int32) (v_m_longs : Nat → Int32) : Option (Int32 × Int32 × (Nat → Int32) × (Nat → Int32)) := bd5_ (f_X8_faultOf n v_m_hours v_m_months v_m_typed v_m_texts v_m_diary v_m_longs 0) (fun (r2_1 : Int32) (o2_2 : Int32) (o2_3 : Int32) (o2_4 : Nat → Int32) (o2_5 : Nat → Int32) => some (o2_2, o2_3, o2_4, o2_5))
set_option maxHeartbeats 4000000 in
set_option maxRecDepth 100000 in
theorem c_X8_reads (l : Launch) (dC : Nat → ClassId) (dI : Nat → Nat → Nat) (cI cZ cP cS : ClassId) (sz : Nat) (h_t h_t_turns h_t_phases h_t_ups h_t_typed h_t_texts h_t_diary h_t_longs h_t_awakes h_t_fit h_t_counts h_t_worths h_t_ripes h_t_growths h_t_gains h_t_isThere h_t_forms h_t_sizes h_t_items h_t_moved : Nat) (v_m_hours : Int32) (v_m_months : Int32) (v_m_fitMany : Int32) (v_m_fitFirst : Int32) (v_m_finding : Int32) (v_m_typed : Nat → Int32) (v_m_texts : Nat → Int32) (v_m_diary : Nat → Int32) (v_m_longs : Nat → Int32) (n : Nat) (o_m_hours : Int32) (o_m_months : Int32) (o_m_diary : Nat → Int32) (o_m_longs : Nat → Int32) (hf : f_X8_reads n v_m_hours v_m_months v_m_typed v_m_texts v_m_diary v_m_longs = some (o_m_hours, o_m_months, o_m_diary, o_m_longs)) : Met l yX8_reads wsX8_reads rm_X8_reads (RW (dC, dI) (TY cI cZ cP cS) [.ref h_t] sz (wd_X8_reads cI cZ cP cS h_t h_t_turns h_t_phases h_t_ups h_t_typed h_t_texts h_t_diary h_t_longs h_t_awakes h_t_fit h_t_counts h_t_worths h_t_ripes h_t_growths h_t_gains h_t_isThere h_t_forms h_t_sizes h_t_items h_t_moved v_m_hours v_m_months v_m_fitMany v_m_fitFirst v_m_finding v_m_typed v_m_texts v_m_diary v_m_longs)) (RWv (dC, dI) (TY cI cZ cP cS) sz (wd_X8_reads cI cZ cP cS h_t h_t_turns h_t_phases h_t_ups h_t_typed h_t_texts h_t_diary h_t_longs h_t_awakes h_t_fit h_t_counts h_t_worths h_t_ripes h_t_growths h_t_gains h_t_isThere h_t_forms h_t_sizes h_t_items h_t_moved v_m_hours v_m_months v_m_fitMany v_m_fitFirst v_m_finding v_m_typed v_m_texts v_m_diary v_m_longs) (wd_X8_reads cI cZ cP cS h_t h_t_turns h_t_phases h_t_ups h_t_typed h_t_texts h_t_diary h_t_longs h_t_awakes h_t_fit h_t_counts h_t_worths h_t_ripes h_t_growths h_t_gains h_t_isThere h_t_forms h_t_sizes h_t_items h_t_moved o_m_hours o_m_months v_m_fitMany v_m_fitFirst v_m_finding v_m_typed v_m_texts o_m_diary o_m_longs)) 0 0 (va_A (wd_X8_reads cI cZ cP cS h_t h_t_turns h_t_phases h_t_ups h_t_typed h_t_texts h_t_diary h_t_longs h_t_awakes h_t_fit h_t_counts h_t_worths h_t_ripes h_t_growths h_t_gains h_t_isThere h_t_forms h_t_sizes h_t_items h_t_moved v_m_hours v_m_months v_m_fitMany v_m_fitFirst v_m_finding v_m_typed v_m_texts v_m_diary v_m_longs) sz) := by
  refine Met.ofW (cc := cX8_reads) (maxL := 2) (ret := none) (by decide) rfl ?_
  intro p e s m args below meth c s₁ B hml hv
  obtain ⟨rfl, hsz, hP, hK, hD0⟩ := hv
  have hx := B.exec
  have hb := B.bytes
  have hr := B.returns
  have hts := atoms_spec (ws := wsX8_reads) B.pre
  have hown : s.vm.findClass RX8 = some m.cls := findClass_of_methodNamed B.named
  have hlocks := B.notSynchronized
  subst hsz
  have hD := hD0.self (sz := s.heap.size)
  have hA : ∀ q : Nat, s.heap.size ≤ q → (va_A (wd_X8_reads cI cZ cP cS h_t h_t_turns h_t_phases h_t_ups h_t_typed h_t_texts h_t_diary h_t_longs h_t_awakes h_t_fit h_t_counts h_t_worths h_t_ripes h_t_growths h_t_gains h_t_isThere h_t_forms h_t_sizes h_t_items h_t_moved v_m_hours v_m_months v_m_fitMany v_m_fitFirst v_m_finding v_m_typed v_m_texts v_m_diary v_m_longs) s.heap.size) q := fun q h => Or.inr h
  have hS : va_S (va_A (wd_X8_reads cI cZ cP cS h_t h_t_turns h_t_phases h_t_ups h_t_typed h_t_texts h_t_diary h_t_longs h_t_awakes h_t_fit h_t_counts h_t_worths h_t_ripes h_t_growths h_t_gains h_t_isThere h_t_forms h_t_sizes h_t_items h_t_moved v_m_hours v_m_months v_m_fitMany v_m_fitFirst v_m_finding v_m_typed v_m_texts v_m_diary v_m_longs) s.heap.size) s.heap s.heap [] := va_S.rf
  have hl := lv_entry ([.ref h_t]) (n := 2) (Nat.le_of_ble_eq_true rfl)
  rw [lg_entry_eq]
  generalize (lg_sl ([.ref h_t]) ++ List.replicate (2 - (lg_sl ([.ref h_t])).length) Slot.unset).toArray = ls at hl ⊢
  have hl : lv_has ls 2 [(0, .ref h_t)] := hl
  obtain ⟨H, hH⟩ : ∃ H : Heap, H = s.heap := ⟨_, rfl⟩
  have hP : va_P (dC, dI) vwCl (wd_X8_reads cI cZ cP cS h_t h_t_turns h_t_phases h_t_ups h_t_typed h_t_texts h_t_diary h_t_longs h_t_awakes h_t_fit h_t_counts h_t_worths h_t_ripes h_t_growths h_t_gains h_t_isThere h_t_forms h_t_sizes h_t_items h_t_moved v_m_hours v_m_months v_m_fitMany v_m_fitFirst v_m_finding v_m_typed v_m_texts v_m_diary v_m_longs) H := by rw [hH]; exact hP
  have hS : va_S (va_A (wd_X8_reads cI cZ cP cS h_t h_t_turns h_t_phases h_t_ups h_t_typed h_t_texts h_t_diary h_t_longs h_t_awakes h_t_fit h_t_counts h_t_worths h_t_ripes h_t_growths h_t_gains h_t_isThere h_t_forms h_t_sizes h_t_items h_t_moved v_m_hours v_m_months v_m_fitMany v_m_fitFirst v_m_finding v_m_typed v_m_texts v_m_diary v_m_longs) s.heap.size) s.heap H [] := by rw [hH]; exact hS
  obtain ⟨locs, hlo⟩ : ∃ L : List Loc, L = [] := ⟨_, rfl⟩
  rw [← hlo] at hS
  suffices hgo : W p l e (headSpec wsX8_reads rm_X8_reads).room s m ([.ref h_t] : List Value).toArray below meth c H locs 0 0 (MQ below (RWv (dC, dI) (TY cI cZ cP cS) s.heap.size (wd_X8_reads cI cZ cP cS h_t h_t_turns h_t_phases h_t_ups h_t_typed h_t_texts h_t_diary h_t_longs h_t_awakes h_t_fit h_t_counts h_t_worths h_t_ripes h_t_growths h_t_gains h_t_isThere h_t_forms h_t_sizes h_t_items h_t_moved v_m_hours v_m_months v_m_fitMany v_m_fitFirst v_m_finding v_m_typed v_m_texts v_m_diary v_m_longs) (wd_X8_reads cI cZ cP cS h_t h_t_turns h_t_phases h_t_ups h_t_typed h_t_texts h_t_diary h_t_longs h_t_awakes h_t_fit h_t_counts h_t_worths h_t_ripes h_t_growths h_t_gains h_t_isThere h_t_forms h_t_sizes h_t_items h_t_moved o_m_hours o_m_months v_m_fitMany v_m_fitFirst v_m_finding v_m_typed v_m_texts o_m_diary o_m_longs)) ([.ref h_t] : List Value).toArray s 0 0 (va_A (wd_X8_reads cI cZ cP cS h_t h_t_turns h_t_phases h_t_ups h_t_typed h_t_texts h_t_diary h_t_longs h_t_awakes h_t_fit h_t_counts h_t_worths h_t_ripes h_t_growths h_t_gains h_t_isThere h_t_forms h_t_sizes h_t_items h_t_moved v_m_hours v_m_months v_m_fitMany v_m_fitFirst v_m_finding v_m_typed v_m_texts v_m_diary v_m_longs) s.heap.size)) (F0 m 0 ls []) by rw [hH, hlo] at hgo; exact hgo
  clear hH hlo
  unfold f_X8_reads at hf
  refine lv_aload_n hx hb dX8_reads_0 rfl (lv_at hl 0 rfl) ?_
  refine lv_iconst (v := 0) hx hb dX8_reads_1 (by decide) ?_
  obtain ⟨r2_1, o2_2, o2_3, o2_4, o2_5, hc_6, hf⟩ := bd5_e hf
  refine rwi_call (isC := [0, 1, 2, 3, 4]) (isR := []) (perm := [0, 1, 2, 3, 4]) (wr := []) (ws2 := (wd_X8_reads cI cZ cP cS h_t h_t_turns h_t_phases h_t_ups h_t_typed h_t_texts h_t_diary h_t_longs h_t_awakes h_t_fit h_t_counts h_t_worths h_t_ripes h_t_growths h_t_gains h_t_isThere h_t_forms h_t_sizes h_t_items h_t_moved o2_2 o2_3 v_m_fitMany v_m_fitFirst v_m_finding v_m_typed v_m_texts o2_4 o2_5)) (va_runV (As := [.int 0]) (rest := []) ⟨hx, hb, hml, hown, hts⟩ (c_X8_faultOf l dC dI cI cZ cP cS H.size h_t h_t_turns h_t_phases h_t_ups h_t_typed h_t_texts h_t_diary h_t_longs h_t_awakes h_t_fit h_t_counts h_t_worths h_t_ripes h_t_growths h_t_gains h_t_isThere h_t_forms h_t_sizes h_t_items h_t_moved v_m_hours v_m_months v_m_fitMany v_m_fitFirst v_m_finding v_m_typed v_m_texts v_m_diary v_m_longs 0 n r2_1 o2_2 o2_3 o2_4 o2_5 hc_6) (cwV 1 hts gX8_reads_X8_faultOf rfl rfl rfl (by decide +kernel) ⟨Nat.le_of_ble_eq_true rfl, Nat.le_of_ble_eq_true rfl⟩) (pv_rw (ci := 7) (q0 := 0) hK (hP.sub (ws' := (wd_X8_faultOf cI cZ cP cS h_t h_t_turns h_t_phases h_t_ups h_t_typed h_t_texts h_t_diary h_t_longs h_t_awakes h_t_fit h_t_counts h_t_worths h_t_ripes h_t_growths h_t_gains h_t_isThere h_t_forms h_t_sizes h_t_items h_t_moved v_m_hours v_m_months v_m_fitMany v_m_fitFirst v_m_finding v_m_typed v_m_texts v_m_diary v_m_longs)) [0, 1, 2, 3, 4] rfl) (hD.sub (ws' := (wd_X8_faultOf cI cZ cP cS h_t h_t_turns h_t_phases h_t_ups h_t_typed h_t_texts h_t_diary h_t_longs h_t_awakes h_t_fit h_t_counts h_t_worths h_t_ripes h_t_growths h_t_gains h_t_isThere h_t_forms h_t_sizes h_t_items h_t_moved v_m_hours v_m_months v_m_fitMany v_m_fitFirst v_m_finding v_m_typed v_m_texts v_m_diary v_m_longs)) [0, 1, 2, 3, 4] (by decide) rfl) rfl rfl) rfl rfl hl.1 rfl (lv_room (Nat.le_of_ble_eq_true rfl)) dX8_reads_2 ⟨Nat.zero_le _, Nat.zero_le _⟩) hS hA hP hD rfl (by decide) (by decide) rfl (by decide) rfl rfl (fun H locs hP hD hS => ?_)
  refine lv_istore_n (lv' := [(1, .int r2_1), (0, .ref h_t)]) hx hb dX8_reads_5 rfl hl (by decide) rfl (fun ls hl => ?_)
  have hq0 := Option.some.inj hf
  obtain ⟨eq0, hq1⟩ := Prod.mk.inj hq0
  obtain ⟨eq1, hq2⟩ := Prod.mk.inj hq1
  obtain ⟨eq2, hq3⟩ := Prod.mk.inj hq2
  clear hf hq0 hq1 hq2
  subst eq0
  subst eq1
  subst eq2
  subst hq3
  exact W.vret hx hb hr (fun t ht hW => ⟨⟨(), rfl, trivial, by rw [ht]; exact hP, va_K.moved hW.alike hK, hD⟩, hS.F ht⟩) hS.2.2 dX8_reads_6

abbrev wd_X8_sumOf (cI cZ cP cS : ClassId) (h_t h_t_turns h_t_phases h_t_ups h_t_typed h_t_texts h_t_diary h_t_longs h_t_awakes h_t_fit h_t_counts h_t_worths h_t_ripes h_t_growths h_t_gains h_t_isThere h_t_forms h_t_sizes h_t_items h_t_moved : Nat) (v_m_hours : Int32) (v_m_months : Int32) (v_m_fitMany : Int32) (v_m_fitFirst : Int32) (v_m_finding : Int32) (v_m_typed : Nat → Int32) (v_m_texts : Nat → Int32) (v_m_diary : Nat → Int32) (v_m_longs : Nat → Int32) (v_m_worths : Nat → Int32) : va_W := [(h_t, .inr (7, [.ref h_t_turns, .ref h_t_phases, .ref h_t_ups, .ref h_t_typed, .ref h_t_texts, .int v_m_hours, .ref h_t_diary, .int v_m_months, .ref h_t_longs, .ref h_t_awakes, .ref h_t_fit, .int v_m_fitMany, .int v_m_fitFirst, .ref h_t_counts, .ref h_t_worths, .ref h_t_ripes, .ref h_t_growths, .ref h_t_gains, .ref h_t_isThere, .ref h_t_forms, .ref h_t_sizes, .ref h_t_items, .ref h_t_moved, .int v_m_finding])), (h_t_typed, .inl (cI, 2, .inl v_m_typed)), (h_t_texts, .inl (cI, 120, .inl v_m_texts)), (h_t_diary, .inl (cI, 60, .inl v_m_diary)), (h_t_longs, .inl (cI, 7, .inl v_m_longs)), (h_t_worths, .inl (cI, 6, .inl v_m_worths))]
abbrev rm_X8_sumOf : Room := { frames := 5, cells := 0, slots := 0, locals := 112 }
def L_X8_sumOf_8 (v_m_worths : Nat → Int32) (x1 : Int32) (o1_1 : Int32) (o1_2 : Int32) (o1_3 : Nat → Int32) (o1_4 : Nat → Int32) (kx8 : Int32 → Option (Int32 × Int32 × Int32 × (Nat → Int32) × (Nat → Int32))) : Nat → Int32 → Int32 → Option (Int32 × Int32 × Int32 × (Nat → Int32) × (Nat → Int32))
  | 0, _, _ => none
  | k8 + 1, y8_2, y8_3 => if (60 : Int32) ≤ y8_3 then kx8 y8_2 else jn1_ (fun (q43_0 : Int32) => jn1_ (fun (q69_0 : Int32) => jn1_ (fun (q94_0 : Int32) => L_X8_sumOf_8 v_m_worths x1 o1_1 o1_2 o1_3 o1_4 kx8 k8 (((y8_2 + q43_0) + q69_0) + q94_0) (y8_3 + 1)) (fun k94 => jn0_ (k94 0) (fun k93 => if x1 = 7 then if (6 : Int32) ≤ y8_3 then k93 else ix_ y8_3 6 (k94 (v_m_worths y8_3.toNatClampNeg)) else k93))) (fun k69 => jn0_ (k69 0) (fun k68 => if x1 = 5 then if o1_2 ≤ y8_3 then k68 else ix_ y8_3 7 (k69 (o1_4 y8_3.toNatClampNeg)) else k68))) (fun k43 => jn0_ (k43 0) (fun k42 => if x1 = 3 then if o1_1 ≤ y8_3 then k42 else ix_ y8_3 60 (if (o1_3 y8_3.toNatClampNeg) = (-1) then k42 else k43 1) else k42))
theorem L_X8_sumOf_8_s (v_m_worths : Nat → Int32) (x1 : Int32) (o1_1 : Int32) (o1_2 : Int32) (o1_3 : Nat → Int32) (o1_4 : Nat → Int32) (kx8 : Int32 → Option (Int32 × Int32 × Int32 × (Nat → Int32) × (Nat → Int32))) (k8 : Nat) (y8_2 : Int32) (y8_3 : Int32) : L_X8_sumOf_8 v_m_worths x1 o1_1 o1_2 o1_3 o1_4 kx8 (k8 + 1) y8_2 y8_3 = if (60 : Int32) ≤ y8_3 then kx8 y8_2 else jn1_ (fun (q43_0 : Int32) => jn1_ (fun (q69_0 : Int32) => jn1_ (fun (q94_0 : Int32) => L_X8_sumOf_8 v_m_worths x1 o1_1 o1_2 o1_3 o1_4 kx8 k8 (((y8_2 + q43_0) + q69_0) + q94_0) (y8_3 + 1)) (fun k94 => jn0_ (k94 0) (fun k93 => if x1 = 7 then if (6 : Int32) ≤ y8_3 then k93 else ix_ y8_3 6 (k94 (v_m_worths y8_3.toNatClampNeg)) else k93))) (fun k69 => jn0_ (k69 0) (fun k68 => if x1 = 5 then if o1_2 ≤ y8_3 then k68 else ix_ y8_3 7 (k69 (o1_4 y8_3.toNatClampNeg)) else k68))) (fun k43 => jn0_ (k43 0) (fun k42 => if x1 = 3 then if o1_1 ≤ y8_3 then k42 else ix_ y8_3 60 (if (o1_3 y8_3.toNatClampNeg) = (-1) then k42 else k43 1) else k42)) := rfl
def f_X8_sumOf (n : Nat) (v_m_hours : Int32) (v_m_months : Int32) (v_m_typed : Nat → Int32) (v_m_texts : Nat → Int32) (v_m_diary : Nat → Int32) (v_m_longs : Nat → Int32) (v_m_worths : Nat → Int32) (x1 : Int32) : Option (Int32 × Int32 × Int32 × (Nat → Int32) × (Nat → Int32)) := bd4_ (f_X8_reads n v_m_hours v_m_months v_m_typed v_m_texts v_m_diary v_m_longs) (fun (o1_1 : Int32) (o1_2 : Int32) (o1_3 : Nat → Int32) (o1_4 : Nat → Int32) => jn1_ (fun (z8_2 : Int32) => if x1 = 2 then some (o1_1, o1_1, o1_2, o1_3, o1_4) else if x1 = 4 then some (o1_2, o1_1, o1_2, o1_3, o1_4) else some (z8_2, o1_1, o1_2, o1_3, o1_4)) (fun kx8 => L_X8_sumOf_8 v_m_worths x1 o1_1 o1_2 o1_3 o1_4 kx8 n 0 0))
set_option maxHeartbeats 4000000 in
set_option maxRecDepth 100000 in
theorem c_X8_sumOf (l : Launch) (dC : Nat → ClassId) (dI : Nat → Nat → Nat) (cI cZ cP cS : ClassId) (sz : Nat) (h_t h_t_turns h_t_phases h_t_ups h_t_typed h_t_texts h_t_diary h_t_longs h_t_awakes h_t_fit h_t_counts h_t_worths h_t_ripes h_t_growths h_t_gains h_t_isThere h_t_forms h_t_sizes h_t_items h_t_moved : Nat) (v_m_hours : Int32) (v_m_months : Int32) (v_m_fitMany : Int32) (v_m_fitFirst : Int32) (v_m_finding : Int32) (v_m_typed : Nat → Int32) (v_m_texts : Nat → Int32) (v_m_diary : Nat → Int32) (v_m_longs : Nat → Int32) (v_m_worths : Nat → Int32) (x1 : Int32) (n : Nat) (r : Int32) (o_m_hours : Int32) (o_m_months : Int32) (o_m_diary : Nat → Int32) (o_m_longs : Nat → Int32) (hf : f_X8_sumOf n v_m_hours v_m_months v_m_typed v_m_texts v_m_diary v_m_longs v_m_worths x1 = some (r, o_m_hours, o_m_months, o_m_diary, o_m_longs)) : Met l yX8_sumOf wsX8_sumOf rm_X8_sumOf (RW (dC, dI) (TY cI cZ cP cS) [.ref h_t, .int x1] sz (wd_X8_sumOf cI cZ cP cS h_t h_t_turns h_t_phases h_t_ups h_t_typed h_t_texts h_t_diary h_t_longs h_t_awakes h_t_fit h_t_counts h_t_worths h_t_ripes h_t_growths h_t_gains h_t_isThere h_t_forms h_t_sizes h_t_items h_t_moved v_m_hours v_m_months v_m_fitMany v_m_fitFirst v_m_finding v_m_typed v_m_texts v_m_diary v_m_longs v_m_worths)) (RWi (dC, dI) (TY cI cZ cP cS) r sz (wd_X8_sumOf cI cZ cP cS h_t h_t_turns h_t_phases h_t_ups h_t_typed h_t_texts h_t_diary h_t_longs h_t_awakes h_t_fit h_t_counts h_t_worths h_t_ripes h_t_growths h_t_gains h_t_isThere h_t_forms h_t_sizes h_t_items h_t_moved v_m_hours v_m_months v_m_fitMany v_m_fitFirst v_m_finding v_m_typed v_m_texts v_m_diary v_m_longs v_m_worths) (wd_X8_sumOf cI cZ cP cS h_t h_t_turns h_t_phases h_t_ups h_t_typed h_t_texts h_t_diary h_t_longs h_t_awakes h_t_fit h_t_counts h_t_worths h_t_ripes h_t_growths h_t_gains h_t_isThere h_t_forms h_t_sizes h_t_items h_t_moved o_m_hours o_m_months v_m_fitMany v_m_fitFirst v_m_finding v_m_typed v_m_texts o_m_diary o_m_longs v_m_worths)) 0 0 (va_A (wd_X8_sumOf cI cZ cP cS h_t h_t_turns h_t_phases h_t_ups h_t_typed h_t_texts h_t_diary h_t_longs h_t_awakes h_t_fit h_t_counts h_t_worths h_t_ripes h_t_growths h_t_gains h_t_isThere h_t_forms h_t_sizes h_t_items h_t_moved v_m_hours v_m_months v_m_fitMany v_m_fitFirst v_m_finding v_m_typed v_m_texts v_m_diary v_m_longs v_m_worths) sz) := by
  refine Met.ofW (cc := cX8_sumOf) (maxL := 4) (ret := (some .int)) (by decide) rfl ?_
  intro p e s m args below meth c s₁ B hml hv
  obtain ⟨rfl, hsz, hP, hK, hD0⟩ := hv
  have hx := B.exec
  have hb := B.bytes
  have hr := B.returns
  have hts := atoms_spec (ws := wsX8_sumOf) B.pre
  have hown : s.vm.findClass RX8 = some m.cls := findClass_of_methodNamed B.named
  have hlocks := B.notSynchronized
  subst hsz
  have hD := hD0.self (sz := s.heap.size)
  have hA : ∀ q : Nat, s.heap.size ≤ q → (va_A (wd_X8_sumOf cI cZ cP cS h_t h_t_turns h_t_phases h_t_ups h_t_typed h_t_texts h_t_diary h_t_longs h_t_awakes h_t_fit h_t_counts h_t_worths h_t_ripes h_t_growths h_t_gains h_t_isThere h_t_forms h_t_sizes h_t_items h_t_moved v_m_hours v_m_months v_m_fitMany v_m_fitFirst v_m_finding v_m_typed v_m_texts v_m_diary v_m_longs v_m_worths) s.heap.size) q := fun q h => Or.inr h
  have hS : va_S (va_A (wd_X8_sumOf cI cZ cP cS h_t h_t_turns h_t_phases h_t_ups h_t_typed h_t_texts h_t_diary h_t_longs h_t_awakes h_t_fit h_t_counts h_t_worths h_t_ripes h_t_growths h_t_gains h_t_isThere h_t_forms h_t_sizes h_t_items h_t_moved v_m_hours v_m_months v_m_fitMany v_m_fitFirst v_m_finding v_m_typed v_m_texts v_m_diary v_m_longs v_m_worths) s.heap.size) s.heap s.heap [] := va_S.rf
  have hinX8 : ∀ w ∈ wsX80, w ∈ wsX8_sumOf := by decide +kernel
  have hl := lv_entry ([.ref h_t, .int x1]) (n := 4) (Nat.le_of_ble_eq_true rfl)
  rw [lg_entry_eq]
  generalize (lg_sl ([.ref h_t, .int x1]) ++ List.replicate (4 - (lg_sl ([.ref h_t, .int x1])).length) Slot.unset).toArray = ls at hl ⊢
  have hl : lv_has ls 4 [(0, .ref h_t), (1, .int x1)] := hl
  obtain ⟨H, hH⟩ : ∃ H : Heap, H = s.heap := ⟨_, rfl⟩
  have hP : va_P (dC, dI) vwCl (wd_X8_sumOf cI cZ cP cS h_t h_t_turns h_t_phases h_t_ups h_t_typed h_t_texts h_t_diary h_t_longs h_t_awakes h_t_fit h_t_counts h_t_worths h_t_ripes h_t_growths h_t_gains h_t_isThere h_t_forms h_t_sizes h_t_items h_t_moved v_m_hours v_m_months v_m_fitMany v_m_fitFirst v_m_finding v_m_typed v_m_texts v_m_diary v_m_longs v_m_worths) H := by rw [hH]; exact hP
  have hS : va_S (va_A (wd_X8_sumOf cI cZ cP cS h_t h_t_turns h_t_phases h_t_ups h_t_typed h_t_texts h_t_diary h_t_longs h_t_awakes h_t_fit h_t_counts h_t_worths h_t_ripes h_t_growths h_t_gains h_t_isThere h_t_forms h_t_sizes h_t_items h_t_moved v_m_hours v_m_months v_m_fitMany v_m_fitFirst v_m_finding v_m_typed v_m_texts v_m_diary v_m_longs v_m_worths) s.heap.size) s.heap H [] := by rw [hH]; exact hS
  obtain ⟨locs, hlo⟩ : ∃ L : List Loc, L = [] := ⟨_, rfl⟩
  rw [← hlo] at hS
  suffices hgo : W p l e (headSpec wsX8_sumOf rm_X8_sumOf).room s m ([.ref h_t, .int x1] : List Value).toArray below meth c H locs 0 0 (MQ below (RWi (dC, dI) (TY cI cZ cP cS) r s.heap.size (wd_X8_sumOf cI cZ cP cS h_t h_t_turns h_t_phases h_t_ups h_t_typed h_t_texts h_t_diary h_t_longs h_t_awakes h_t_fit h_t_counts h_t_worths h_t_ripes h_t_growths h_t_gains h_t_isThere h_t_forms h_t_sizes h_t_items h_t_moved v_m_hours v_m_months v_m_fitMany v_m_fitFirst v_m_finding v_m_typed v_m_texts v_m_diary v_m_longs v_m_worths) (wd_X8_sumOf cI cZ cP cS h_t h_t_turns h_t_phases h_t_ups h_t_typed h_t_texts h_t_diary h_t_longs h_t_awakes h_t_fit h_t_counts h_t_worths h_t_ripes h_t_growths h_t_gains h_t_isThere h_t_forms h_t_sizes h_t_items h_t_moved o_m_hours o_m_months v_m_fitMany v_m_fitFirst v_m_finding v_m_typed v_m_texts o_m_diary o_m_longs v_m_worths)) ([.ref h_t, .int x1] : List Value).toArray s 0 0 (va_A (wd_X8_sumOf cI cZ cP cS h_t h_t_turns h_t_phases h_t_ups h_t_typed h_t_texts h_t_diary h_t_longs h_t_awakes h_t_fit h_t_counts h_t_worths h_t_ripes h_t_growths h_t_gains h_t_isThere h_t_forms h_t_sizes h_t_items h_t_moved v_m_hours v_m_months v_m_fitMany v_m_fitFirst v_m_finding v_m_typed v_m_texts v_m_diary v_m_longs v_m_worths) s.heap.size)) (F0 m 0 ls []) by rw [hH, hlo] at hgo; exact hgo
  clear hH hlo
  unfold f_X8_sumOf at hf
  refine lv_aload_n hx hb dX8_sumOf_0 rfl (lv_at hl 0 rfl) ?_
  obtain ⟨o1_1, o1_2, o1_3, o1_4, hc_5, hf⟩ := bd4_e hf
  refine rwv_call (isC := [0, 1, 2, 3, 4]) (isR := [5]) (perm := [1, 2, 3, 4, 5, 0]) (wr := [(h_t_worths, .inl (cI, 6, .inl v_m_worths))]) (ws2 := (wd_X8_sumOf cI cZ cP cS h_t h_t_turns h_t_phases h_t_ups h_t_typed h_t_texts h_t_diary h_t_longs h_t_awakes h_t_fit h_t_counts h_t_worths h_t_ripes h_t_growths h_t_gains h_t_isThere h_t_forms h_t_sizes h_t_items h_t_moved o1_1 o1_2 v_m_fitMany v_m_fitFirst v_m_finding v_m_typed v_m_texts o1_3 o1_4 v_m_worths)) (va_runV (As := []) (rest := []) ⟨hx, hb, hml, hown, hts⟩ (c_X8_reads l dC dI cI cZ cP cS H.size h_t h_t_turns h_t_phases h_t_ups h_t_typed h_t_texts h_t_diary h_t_longs h_t_awakes h_t_fit h_t_counts h_t_worths h_t_ripes h_t_growths h_t_gains h_t_isThere h_t_forms h_t_sizes h_t_items h_t_moved v_m_hours v_m_months v_m_fitMany v_m_fitFirst v_m_finding v_m_typed v_m_texts v_m_diary v_m_longs  n o1_1 o1_2 o1_3 o1_4 hc_5) (cwV 0 hts gX8_sumOf_X8_reads rfl rfl rfl (by decide +kernel) ⟨Nat.le_of_ble_eq_true rfl, Nat.le_of_ble_eq_true rfl⟩) (pv_rw (ci := 7) (q0 := 0) hK (hP.sub (ws' := (wd_X8_reads cI cZ cP cS h_t h_t_turns h_t_phases h_t_ups h_t_typed h_t_texts h_t_diary h_t_longs h_t_awakes h_t_fit h_t_counts h_t_worths h_t_ripes h_t_growths h_t_gains h_t_isThere h_t_forms h_t_sizes h_t_items h_t_moved v_m_hours v_m_months v_m_fitMany v_m_fitFirst v_m_finding v_m_typed v_m_texts v_m_diary v_m_longs)) [0, 1, 2, 3, 4] rfl) (hD.sub (ws' := (wd_X8_reads cI cZ cP cS h_t h_t_turns h_t_phases h_t_ups h_t_typed h_t_texts h_t_diary h_t_longs h_t_awakes h_t_fit h_t_counts h_t_worths h_t_ripes h_t_growths h_t_gains h_t_isThere h_t_forms h_t_sizes h_t_items h_t_moved v_m_hours v_m_months v_m_fitMany v_m_fitFirst v_m_finding v_m_typed v_m_texts v_m_diary v_m_longs)) [0, 1, 2, 3, 4] (by decide) rfl) rfl rfl) rfl rfl hl.1 rfl (lv_room (Nat.le_of_ble_eq_true rfl)) dX8_sumOf_1 ⟨Nat.zero_le _, Nat.zero_le _⟩) hS hA hP hD rfl (by decide) (by decide) rfl (by decide) rfl rfl (fun H locs hP hD hS => ?_)
  refine lv_iconst (v := 0) hx hb dX8_sumOf_4 (by decide) ?_
  refine lv_istore_n (lv' := [(2, .int 0), (0, .ref h_t), (1, .int x1)]) hx hb dX8_sumOf_5 rfl hl (by decide) rfl (fun ls hl => ?_)
  refine lv_iconst (v := 0) hx hb dX8_sumOf_6 (by decide) ?_
  refine lv_istore_n (lv' := [(3, .int 0), (2, .int 0), (0, .ref h_t), (1, .int x1)]) hx hb dX8_sumOf_7 rfl hl (by decide) rfl (fun ls hl => ?_)
  obtain ⟨kx8, ekx8, hf⟩ := jn1_e hf
  have hx8 : ∀ (z8_2 : Int32) (ls : Array Slot), lv_has ls 4 [(0, .ref h_t), (1, .int x1), (2, .int z8_2)] → kx8 z8_2 = some (r, o_m_hours, o_m_months, o_m_diary, o_m_longs) → W p l e (headSpec wsX8_sumOf rm_X8_sumOf).room s m ([.ref h_t, .int x1] : List Value).toArray below meth c H locs 0 0 (MQ below (RWi (dC, dI) (TY cI cZ cP cS) r s.heap.size (wd_X8_sumOf cI cZ cP cS h_t h_t_turns h_t_phases h_t_ups h_t_typed h_t_texts h_t_diary h_t_longs h_t_awakes h_t_fit h_t_counts h_t_worths h_t_ripes h_t_growths h_t_gains h_t_isThere h_t_forms h_t_sizes h_t_items h_t_moved v_m_hours v_m_months v_m_fitMany v_m_fitFirst v_m_finding v_m_typed v_m_texts v_m_diary v_m_longs v_m_worths) (wd_X8_sumOf cI cZ cP cS h_t h_t_turns h_t_phases h_t_ups h_t_typed h_t_texts h_t_diary h_t_longs h_t_awakes h_t_fit h_t_counts h_t_worths h_t_ripes h_t_growths h_t_gains h_t_isThere h_t_forms h_t_sizes h_t_items h_t_moved o_m_hours o_m_months v_m_fitMany v_m_fitFirst v_m_finding v_m_typed v_m_texts o_m_diary o_m_longs v_m_worths)) ([.ref h_t, .int x1] : List Value).toArray s 0 0 (va_A (wd_X8_sumOf cI cZ cP cS h_t h_t_turns h_t_phases h_t_ups h_t_typed h_t_texts h_t_diary h_t_longs h_t_awakes h_t_fit h_t_counts h_t_worths h_t_ripes h_t_growths h_t_gains h_t_isThere h_t_forms h_t_sizes h_t_items h_t_moved v_m_hours v_m_months v_m_fitMany v_m_fitFirst v_m_finding v_m_typed v_m_texts v_m_diary v_m_longs v_m_worths) s.heap.size)) (F0 m 102 ls []) := by
    intro z8_2 ls hl hf
    rw [ekx8] at hf
    refine lv_iload_n hx hb dX8_sumOf_102 rfl (lv_at hl 1 rfl) ?_
    refine lv_iconst (v := 2) hx hb dX8_sumOf_103 (by decide) ?_
    refine lv_icmp_ne (tgt := 114) hx hb dX8_sumOf_104 (by decide) (fun c104 => ?_) (fun c104 => ?_)
    · rw [if_neg c104] at hf
      refine lv_iload_n hx hb dX8_sumOf_114 rfl (lv_at hl 1 rfl) ?_
      refine lv_iconst (v := 4) hx hb dX8_sumOf_115 (by decide) ?_
      refine lv_icmp_ne (tgt := 126) hx hb dX8_sumOf_116 (by decide) (fun c116 => ?_) (fun c116 => ?_)
      · rw [if_neg c116] at hf
        refine lv_iload_n hx hb dX8_sumOf_126 rfl (lv_at hl 2 rfl) ?_
        have hq0 := Option.some.inj hf
        obtain ⟨eq0, hq1⟩ := Prod.mk.inj hq0
        obtain ⟨eq1, hq2⟩ := Prod.mk.inj hq1
        obtain ⟨eq2, hq3⟩ := Prod.mk.inj hq2
        obtain ⟨eq3, hq4⟩ := Prod.mk.inj hq3
        clear hf hq0 hq1 hq2 hq3
        subst eq0
        subst eq1
        subst eq2
        subst eq3
        subst hq4
        exact W.iret hx hb hr (fun t ht hW => ⟨⟨_, (), rfl, rfl, by rw [ht]; exact hP, va_K.moved hW.alike hK, hD⟩, hS.F ht⟩) hS.2.2 dX8_sumOf_127
      · rw [if_pos c116] at hf
        refine lv_aload_n hx hb dX8_sumOf_119 rfl (lv_at hl 0 rfl) ?_
        refine va_get (D := (dC, dI)) (ci := 7) (v := .int o1_2) (C := RX8) (T := TX8) (N := 24) hx hb hts hinX8 hown hK hP 0 rfl rfl 7 (by decide) (hts (.fieldLink RX8 83 "SecondSunriseModel" "months" "I") (by decide +kernel)) (fun _ h9 => h9) rfl dX8_sumOf_120 ?_
        refine lv_goto (tgt := 127) hx hb dX8_sumOf_123 (by decide) ?_
        have hq0 := Option.some.inj hf
        obtain ⟨eq0, hq1⟩ := Prod.mk.inj hq0
        obtain ⟨eq1, hq2⟩ := Prod.mk.inj hq1
        obtain ⟨eq2, hq3⟩ := Prod.mk.inj hq2
        obtain ⟨eq3, hq4⟩ := Prod.mk.inj hq3
        clear hf hq0 hq1 hq2 hq3
        subst eq0
        subst eq1
        subst eq2
        subst eq3
        subst hq4
        exact W.iret hx hb hr (fun t ht hW => ⟨⟨_, (), rfl, rfl, by rw [ht]; exact hP, va_K.moved hW.alike hK, hD⟩, hS.F ht⟩) hS.2.2 dX8_sumOf_127
    · rw [if_pos c104] at hf
      refine lv_aload_n hx hb dX8_sumOf_107 rfl (lv_at hl 0 rfl) ?_
      refine va_get (D := (dC, dI)) (ci := 7) (v := .int o1_1) (C := RX8) (T := TX8) (N := 24) hx hb hts hinX8 hown hK hP 0 rfl rfl 5 (by decide) (hts (.fieldLink RX8 79 "SecondSunriseModel" "hours" "I") (by decide +kernel)) (fun _ h9 => h9) rfl dX8_sumOf_108 ?_
      refine lv_goto (tgt := 127) hx hb dX8_sumOf_111 (by decide) ?_
      have hq0 := Option.some.inj hf
      obtain ⟨eq0, hq1⟩ := Prod.mk.inj hq0
      obtain ⟨eq1, hq2⟩ := Prod.mk.inj hq1
      obtain ⟨eq2, hq3⟩ := Prod.mk.inj hq2
      obtain ⟨eq3, hq4⟩ := Prod.mk.inj hq3
      clear hf hq0 hq1 hq2 hq3
      subst eq0
      subst eq1
      subst eq2
      subst eq3
      subst hq4
      exact W.iret hx hb hr (fun t ht hW => ⟨⟨_, (), rfl, rfl, by rw [ht]; exact hP, va_K.moved hW.alike hK, hD⟩, hS.F ht⟩) hS.2.2 dX8_sumOf_127
  have hL8 : ∀ (k8 : Nat) (y8_2 : Int32) (y8_3 : Int32) (ls : Array Slot), lv_has ls 4 [(0, .ref h_t), (1, .int x1), (2, .int y8_2), (3, .int y8_3)] → L_X8_sumOf_8 v_m_worths x1 o1_1 o1_2 o1_3 o1_4 kx8 k8 y8_2 y8_3 = some (r, o_m_hours, o_m_months, o_m_diary, o_m_longs) → W p l e (headSpec wsX8_sumOf rm_X8_sumOf).room s m ([.ref h_t, .int x1] : List Value).toArray below meth c H locs 0 0 (MQ below (RWi (dC, dI) (TY cI cZ cP cS) r s.heap.size (wd_X8_sumOf cI cZ cP cS h_t h_t_turns h_t_phases h_t_ups h_t_typed h_t_texts h_t_diary h_t_longs h_t_awakes h_t_fit h_t_counts h_t_worths h_t_ripes h_t_growths h_t_gains h_t_isThere h_t_forms h_t_sizes h_t_items h_t_moved v_m_hours v_m_months v_m_fitMany v_m_fitFirst v_m_finding v_m_typed v_m_texts v_m_diary v_m_longs v_m_worths) (wd_X8_sumOf cI cZ cP cS h_t h_t_turns h_t_phases h_t_ups h_t_typed h_t_texts h_t_diary h_t_longs h_t_awakes h_t_fit h_t_counts h_t_worths h_t_ripes h_t_growths h_t_gains h_t_isThere h_t_forms h_t_sizes h_t_items h_t_moved o_m_hours o_m_months v_m_fitMany v_m_fitFirst v_m_finding v_m_typed v_m_texts o_m_diary o_m_longs v_m_worths)) ([.ref h_t, .int x1] : List Value).toArray s 0 0 (va_A (wd_X8_sumOf cI cZ cP cS h_t h_t_turns h_t_phases h_t_ups h_t_typed h_t_texts h_t_diary h_t_longs h_t_awakes h_t_fit h_t_counts h_t_worths h_t_ripes h_t_growths h_t_gains h_t_isThere h_t_forms h_t_sizes h_t_items h_t_moved v_m_hours v_m_months v_m_fitMany v_m_fitFirst v_m_finding v_m_typed v_m_texts v_m_diary v_m_longs v_m_worths) s.heap.size)) (F0 m 8 ls []) := by
    intro k8
    induction k8 with
    | zero =>
      intro y8_2 y8_3 ls hl hf
      exact absurd hf (fun h => Option.some_ne_none _ h.symm)
    | succ k8 ih =>
      intro y8_2 y8_3 ls hl hf
      rw [L_X8_sumOf_8_s] at hf
      refine lv_iload_n hx hb dX8_sumOf_8 rfl (lv_at hl 3 rfl) ?_
      refine lv_bipush (v := 60) hx hb dX8_sumOf_9 (by decide) ?_
      refine lv_icmp_ge (tgt := 102) hx hb dX8_sumOf_11 (by decide) (fun c11 => ?_) (fun c11 => ?_)
      · rw [if_pos c11] at hf
        exact hx8 y8_2 ls (lv_sub hl [0, 1, 2] rfl) hf
      · rw [if_neg c11] at hf
        refine lv_iload_n hx hb dX8_sumOf_14 rfl (lv_at hl 2 rfl) ?_
        refine lv_iload_n hx hb dX8_sumOf_15 rfl (lv_at hl 1 rfl) ?_
        refine lv_iconst (v := 3) hx hb dX8_sumOf_16 (by decide) ?_
        obtain ⟨k43, ek43, hf⟩ := jn1_e hf
        have hj43 : ∀ (q43_0 : Int32) (ls : Array Slot), lv_has ls 4 [(0, .ref h_t), (1, .int x1), (3, .int y8_3)] → k43 q43_0 = some (r, o_m_hours, o_m_months, o_m_diary, o_m_longs) → W p l e (headSpec wsX8_sumOf rm_X8_sumOf).room s m ([.ref h_t, .int x1] : List Value).toArray below meth c H locs 0 0 (MQ below (RWi (dC, dI) (TY cI cZ cP cS) r s.heap.size (wd_X8_sumOf cI cZ cP cS h_t h_t_turns h_t_phases h_t_ups h_t_typed h_t_texts h_t_diary h_t_longs h_t_awakes h_t_fit h_t_counts h_t_worths h_t_ripes h_t_growths h_t_gains h_t_isThere h_t_forms h_t_sizes h_t_items h_t_moved v_m_hours v_m_months v_m_fitMany v_m_fitFirst v_m_finding v_m_typed v_m_texts v_m_diary v_m_longs v_m_worths) (wd_X8_sumOf cI cZ cP cS h_t h_t_turns h_t_phases h_t_ups h_t_typed h_t_texts h_t_diary h_t_longs h_t_awakes h_t_fit h_t_counts h_t_worths h_t_ripes h_t_growths h_t_gains h_t_isThere h_t_forms h_t_sizes h_t_items h_t_moved o_m_hours o_m_months v_m_fitMany v_m_fitFirst v_m_finding v_m_typed v_m_texts o_m_diary o_m_longs v_m_worths)) ([.ref h_t, .int x1] : List Value).toArray s 0 0 (va_A (wd_X8_sumOf cI cZ cP cS h_t h_t_turns h_t_phases h_t_ups h_t_typed h_t_texts h_t_diary h_t_longs h_t_awakes h_t_fit h_t_counts h_t_worths h_t_ripes h_t_growths h_t_gains h_t_isThere h_t_forms h_t_sizes h_t_items h_t_moved v_m_hours v_m_months v_m_fitMany v_m_fitFirst v_m_finding v_m_typed v_m_texts v_m_diary v_m_longs v_m_worths) s.heap.size)) (F0 m 43 ls [.int q43_0, .int y8_2]) := by
          intro q43_0 ls hl hf
          rw [ek43] at hf
          refine lv_iadd hx hb dX8_sumOf_43 ?_
          refine lv_istore_n (lv' := [(2, .int (y8_2 + q43_0)), (0, .ref h_t), (1, .int x1), (3, .int y8_3)]) hx hb dX8_sumOf_44 rfl hl (by decide) rfl (fun ls hl => ?_)
          refine lv_iload_n hx hb dX8_sumOf_45 rfl (lv_at hl 0 rfl) ?_
          refine lv_iload_n hx hb dX8_sumOf_46 rfl (lv_at hl 2 rfl) ?_
          refine lv_iconst (v := 5) hx hb dX8_sumOf_47 (by decide) ?_
          obtain ⟨k69, ek69, hf⟩ := jn1_e hf
          have hj69 : ∀ (q69_0 : Int32) (ls : Array Slot), lv_has ls 4 [(0, .ref h_t), (1, .int x1), (3, .int y8_3)] → k69 q69_0 = some (r, o_m_hours, o_m_months, o_m_diary, o_m_longs) → W p l e (headSpec wsX8_sumOf rm_X8_sumOf).room s m ([.ref h_t, .int x1] : List Value).toArray below meth c H locs 0 0 (MQ below (RWi (dC, dI) (TY cI cZ cP cS) r s.heap.size (wd_X8_sumOf cI cZ cP cS h_t h_t_turns h_t_phases h_t_ups h_t_typed h_t_texts h_t_diary h_t_longs h_t_awakes h_t_fit h_t_counts h_t_worths h_t_ripes h_t_growths h_t_gains h_t_isThere h_t_forms h_t_sizes h_t_items h_t_moved v_m_hours v_m_months v_m_fitMany v_m_fitFirst v_m_finding v_m_typed v_m_texts v_m_diary v_m_longs v_m_worths) (wd_X8_sumOf cI cZ cP cS h_t h_t_turns h_t_phases h_t_ups h_t_typed h_t_texts h_t_diary h_t_longs h_t_awakes h_t_fit h_t_counts h_t_worths h_t_ripes h_t_growths h_t_gains h_t_isThere h_t_forms h_t_sizes h_t_items h_t_moved o_m_hours o_m_months v_m_fitMany v_m_fitFirst v_m_finding v_m_typed v_m_texts o_m_diary o_m_longs v_m_worths)) ([.ref h_t, .int x1] : List Value).toArray s 0 0 (va_A (wd_X8_sumOf cI cZ cP cS h_t h_t_turns h_t_phases h_t_ups h_t_typed h_t_texts h_t_diary h_t_longs h_t_awakes h_t_fit h_t_counts h_t_worths h_t_ripes h_t_growths h_t_gains h_t_isThere h_t_forms h_t_sizes h_t_items h_t_moved v_m_hours v_m_months v_m_fitMany v_m_fitFirst v_m_finding v_m_typed v_m_texts v_m_diary v_m_longs v_m_worths) s.heap.size)) (F0 m 69 ls [.int q69_0, .int (y8_2 + q43_0)]) := by
            intro q69_0 ls hl hf
            rw [ek69] at hf
            refine lv_iadd hx hb dX8_sumOf_69 ?_
            refine lv_istore_n (lv' := [(2, .int ((y8_2 + q43_0) + q69_0)), (0, .ref h_t), (1, .int x1), (3, .int y8_3)]) hx hb dX8_sumOf_70 rfl hl (by decide) rfl (fun ls hl => ?_)
            refine lv_iload_n hx hb dX8_sumOf_71 rfl (lv_at hl 0 rfl) ?_
            refine lv_iload_n hx hb dX8_sumOf_72 rfl (lv_at hl 2 rfl) ?_
            refine lv_bipush (v := 7) hx hb dX8_sumOf_73 (by decide) ?_
            obtain ⟨k94, ek94, hf⟩ := jn1_e hf
            have hj94 : ∀ (q94_0 : Int32) (ls : Array Slot), lv_has ls 4 [(0, .ref h_t), (1, .int x1), (3, .int y8_3)] → k94 q94_0 = some (r, o_m_hours, o_m_months, o_m_diary, o_m_longs) → W p l e (headSpec wsX8_sumOf rm_X8_sumOf).room s m ([.ref h_t, .int x1] : List Value).toArray below meth c H locs 0 0 (MQ below (RWi (dC, dI) (TY cI cZ cP cS) r s.heap.size (wd_X8_sumOf cI cZ cP cS h_t h_t_turns h_t_phases h_t_ups h_t_typed h_t_texts h_t_diary h_t_longs h_t_awakes h_t_fit h_t_counts h_t_worths h_t_ripes h_t_growths h_t_gains h_t_isThere h_t_forms h_t_sizes h_t_items h_t_moved v_m_hours v_m_months v_m_fitMany v_m_fitFirst v_m_finding v_m_typed v_m_texts v_m_diary v_m_longs v_m_worths) (wd_X8_sumOf cI cZ cP cS h_t h_t_turns h_t_phases h_t_ups h_t_typed h_t_texts h_t_diary h_t_longs h_t_awakes h_t_fit h_t_counts h_t_worths h_t_ripes h_t_growths h_t_gains h_t_isThere h_t_forms h_t_sizes h_t_items h_t_moved o_m_hours o_m_months v_m_fitMany v_m_fitFirst v_m_finding v_m_typed v_m_texts o_m_diary o_m_longs v_m_worths)) ([.ref h_t, .int x1] : List Value).toArray s 0 0 (va_A (wd_X8_sumOf cI cZ cP cS h_t h_t_turns h_t_phases h_t_ups h_t_typed h_t_texts h_t_diary h_t_longs h_t_awakes h_t_fit h_t_counts h_t_worths h_t_ripes h_t_growths h_t_gains h_t_isThere h_t_forms h_t_sizes h_t_items h_t_moved v_m_hours v_m_months v_m_fitMany v_m_fitFirst v_m_finding v_m_typed v_m_texts v_m_diary v_m_longs v_m_worths) s.heap.size)) (F0 m 94 ls [.int q94_0, .int ((y8_2 + q43_0) + q69_0)]) := by
              intro q94_0 ls hl hf
              rw [ek94] at hf
              refine lv_iadd hx hb dX8_sumOf_94 ?_
              refine lv_istore_n (lv' := [(2, .int (((y8_2 + q43_0) + q69_0) + q94_0)), (0, .ref h_t), (1, .int x1), (3, .int y8_3)]) hx hb dX8_sumOf_95 rfl hl (by decide) rfl (fun ls hl => ?_)
              refine lv_iinc (v := (y8_3 + 1)) (lv' := [(3, .int (y8_3 + 1)), (2, .int (((y8_2 + q43_0) + q69_0) + q94_0)), (0, .ref h_t), (1, .int x1)]) hx hb dX8_sumOf_96 hl (k := 3) rfl rfl (by decide) rfl (fun ls hl => ?_)
              refine lv_goto (tgt := 8) hx hb dX8_sumOf_99 (by decide) ?_
              exact ih (((y8_2 + q43_0) + q69_0) + q94_0) (y8_3 + 1) ls (lv_sub hl [2, 3, 1, 0] rfl) hf
            obtain ⟨k93, ek93, hf⟩ := jn0_e hf
            have hj93 : ∀ (ls : Array Slot), lv_has ls 4 [(0, .ref h_t), (1, .int x1), (3, .int y8_3)] → k93 = some (r, o_m_hours, o_m_months, o_m_diary, o_m_longs) → W p l e (headSpec wsX8_sumOf rm_X8_sumOf).room s m ([.ref h_t, .int x1] : List Value).toArray below meth c H locs 0 0 (MQ below (RWi (dC, dI) (TY cI cZ cP cS) r s.heap.size (wd_X8_sumOf cI cZ cP cS h_t h_t_turns h_t_phases h_t_ups h_t_typed h_t_texts h_t_diary h_t_longs h_t_awakes h_t_fit h_t_counts h_t_worths h_t_ripes h_t_growths h_t_gains h_t_isThere h_t_forms h_t_sizes h_t_items h_t_moved v_m_hours v_m_months v_m_fitMany v_m_fitFirst v_m_finding v_m_typed v_m_texts v_m_diary v_m_longs v_m_worths) (wd_X8_sumOf cI cZ cP cS h_t h_t_turns h_t_phases h_t_ups h_t_typed h_t_texts h_t_diary h_t_longs h_t_awakes h_t_fit h_t_counts h_t_worths h_t_ripes h_t_growths h_t_gains h_t_isThere h_t_forms h_t_sizes h_t_items h_t_moved o_m_hours o_m_months v_m_fitMany v_m_fitFirst v_m_finding v_m_typed v_m_texts o_m_diary o_m_longs v_m_worths)) ([.ref h_t, .int x1] : List Value).toArray s 0 0 (va_A (wd_X8_sumOf cI cZ cP cS h_t h_t_turns h_t_phases h_t_ups h_t_typed h_t_texts h_t_diary h_t_longs h_t_awakes h_t_fit h_t_counts h_t_worths h_t_ripes h_t_growths h_t_gains h_t_isThere h_t_forms h_t_sizes h_t_items h_t_moved v_m_hours v_m_months v_m_fitMany v_m_fitFirst v_m_finding v_m_typed v_m_texts v_m_diary v_m_longs v_m_worths) s.heap.size)) (F0 m 93 ls [.int ((y8_2 + q43_0) + q69_0)]) := by
              intro ls hl hf
              rw [ek93] at hf
              refine lv_iconst (v := 0) hx hb dX8_sumOf_93 (by decide) ?_
              exact hj94 0 ls (lv_sub hl [0, 1, 2] rfl) hf
            refine lv_icmp_ne (tgt := 93) hx hb dX8_sumOf_75 (by decide) (fun c75 => ?_) (fun c75 => ?_)
            · rw [if_neg c75] at hf
              exact hj93 ls (lv_sub hl [1, 2, 3] rfl) hf
            · rw [if_pos c75] at hf
              refine lv_iload_n hx hb dX8_sumOf_78 rfl (lv_at hl 3 rfl) ?_
              refine lv_bipush (v := 6) hx hb dX8_sumOf_79 (by decide) ?_
              refine lv_icmp_ge (tgt := 93) hx hb dX8_sumOf_81 (by decide) (fun c81 => ?_) (fun c81 => ?_)
              · rw [if_pos c81] at hf
                exact hj93 ls (lv_sub hl [1, 2, 3] rfl) hf
              · rw [if_neg c81] at hf
                refine lv_aload_n hx hb dX8_sumOf_84 rfl (lv_at hl 1 rfl) ?_
                refine va_get (D := (dC, dI)) (ci := 7) (v := .ref h_t_worths) (C := RX8) (T := TX8) (N := 24) hx hb hts hinX8 hown hK hP 0 rfl rfl 14 (by decide) (hts (.fieldLink RX8 41 "SecondSunriseModel" "worths" "[I") (by decide +kernel)) (fun _ h9 => h9) rfl dX8_sumOf_85 ?_
                refine lv_iload_n hx hb dX8_sumOf_88 rfl (lv_at hl 3 rfl) ?_
                obtain ⟨hi_7, hf⟩ := ix_e hf
                refine va_iald hx hb hK hP 5 0 rfl rfl hi_7 dX8_sumOf_89 ?_
                refine lv_goto (tgt := 94) hx hb dX8_sumOf_90 (by decide) ?_
                exact hj94 (v_m_worths y8_3.toNatClampNeg) ls (lv_sub hl [1, 2, 3] rfl) hf
          obtain ⟨k68, ek68, hf⟩ := jn0_e hf
          have hj68 : ∀ (ls : Array Slot), lv_has ls 4 [(0, .ref h_t), (1, .int x1), (3, .int y8_3)] → k68 = some (r, o_m_hours, o_m_months, o_m_diary, o_m_longs) → W p l e (headSpec wsX8_sumOf rm_X8_sumOf).room s m ([.ref h_t, .int x1] : List Value).toArray below meth c H locs 0 0 (MQ below (RWi (dC, dI) (TY cI cZ cP cS) r s.heap.size (wd_X8_sumOf cI cZ cP cS h_t h_t_turns h_t_phases h_t_ups h_t_typed h_t_texts h_t_diary h_t_longs h_t_awakes h_t_fit h_t_counts h_t_worths h_t_ripes h_t_growths h_t_gains h_t_isThere h_t_forms h_t_sizes h_t_items h_t_moved v_m_hours v_m_months v_m_fitMany v_m_fitFirst v_m_finding v_m_typed v_m_texts v_m_diary v_m_longs v_m_worths) (wd_X8_sumOf cI cZ cP cS h_t h_t_turns h_t_phases h_t_ups h_t_typed h_t_texts h_t_diary h_t_longs h_t_awakes h_t_fit h_t_counts h_t_worths h_t_ripes h_t_growths h_t_gains h_t_isThere h_t_forms h_t_sizes h_t_items h_t_moved o_m_hours o_m_months v_m_fitMany v_m_fitFirst v_m_finding v_m_typed v_m_texts o_m_diary o_m_longs v_m_worths)) ([.ref h_t, .int x1] : List Value).toArray s 0 0 (va_A (wd_X8_sumOf cI cZ cP cS h_t h_t_turns h_t_phases h_t_ups h_t_typed h_t_texts h_t_diary h_t_longs h_t_awakes h_t_fit h_t_counts h_t_worths h_t_ripes h_t_growths h_t_gains h_t_isThere h_t_forms h_t_sizes h_t_items h_t_moved v_m_hours v_m_months v_m_fitMany v_m_fitFirst v_m_finding v_m_typed v_m_texts v_m_diary v_m_longs v_m_worths) s.heap.size)) (F0 m 68 ls [.int (y8_2 + q43_0)]) := by
            intro ls hl hf
            rw [ek68] at hf
            refine lv_iconst (v := 0) hx hb dX8_sumOf_68 (by decide) ?_
            exact hj69 0 ls (lv_sub hl [0, 1, 2] rfl) hf
          refine lv_icmp_ne (tgt := 68) hx hb dX8_sumOf_48 (by decide) (fun c48 => ?_) (fun c48 => ?_)
          · rw [if_neg c48] at hf
            exact hj68 ls (lv_sub hl [1, 2, 3] rfl) hf
          · rw [if_pos c48] at hf
            refine lv_iload_n hx hb dX8_sumOf_51 rfl (lv_at hl 3 rfl) ?_
            refine lv_aload_n hx hb dX8_sumOf_52 rfl (lv_at hl 1 rfl) ?_
            refine va_get (D := (dC, dI)) (ci := 7) (v := .int o1_2) (C := RX8) (T := TX8) (N := 24) hx hb hts hinX8 hown hK hP 0 rfl rfl 7 (by decide) (hts (.fieldLink RX8 83 "SecondSunriseModel" "months" "I") (by decide +kernel)) (fun _ h9 => h9) rfl dX8_sumOf_53 ?_
            refine lv_icmp_ge (tgt := 68) hx hb dX8_sumOf_56 (by decide) (fun c56 => ?_) (fun c56 => ?_)
            · rw [if_pos c56] at hf
              exact hj68 ls (lv_sub hl [1, 2, 3] rfl) hf
            · rw [if_neg c56] at hf
              refine lv_aload_n hx hb dX8_sumOf_59 rfl (lv_at hl 1 rfl) ?_
              refine va_get (D := (dC, dI)) (ci := 7) (v := .ref h_t_longs) (C := RX8) (T := TX8) (N := 24) hx hb hts hinX8 hown hK hP 0 rfl rfl 8 (by decide) (hts (.fieldLink RX8 28 "SecondSunriseModel" "longs" "[I") (by decide +kernel)) (fun _ h9 => h9) rfl dX8_sumOf_60 ?_
              refine lv_iload_n hx hb dX8_sumOf_63 rfl (lv_at hl 3 rfl) ?_
              obtain ⟨hi_8, hf⟩ := ix_e hf
              refine va_iald hx hb hK hP 4 0 rfl rfl hi_8 dX8_sumOf_64 ?_
              refine lv_goto (tgt := 69) hx hb dX8_sumOf_65 (by decide) ?_
              exact hj69 (o1_4 y8_3.toNatClampNeg) ls (lv_sub hl [1, 2, 3] rfl) hf
        obtain ⟨k42, ek42, hf⟩ := jn0_e hf
        have hj42 : ∀ (ls : Array Slot), lv_has ls 4 [(0, .ref h_t), (1, .int x1), (3, .int y8_3)] → k42 = some (r, o_m_hours, o_m_months, o_m_diary, o_m_longs) → W p l e (headSpec wsX8_sumOf rm_X8_sumOf).room s m ([.ref h_t, .int x1] : List Value).toArray below meth c H locs 0 0 (MQ below (RWi (dC, dI) (TY cI cZ cP cS) r s.heap.size (wd_X8_sumOf cI cZ cP cS h_t h_t_turns h_t_phases h_t_ups h_t_typed h_t_texts h_t_diary h_t_longs h_t_awakes h_t_fit h_t_counts h_t_worths h_t_ripes h_t_growths h_t_gains h_t_isThere h_t_forms h_t_sizes h_t_items h_t_moved v_m_hours v_m_months v_m_fitMany v_m_fitFirst v_m_finding v_m_typed v_m_texts v_m_diary v_m_longs v_m_worths) (wd_X8_sumOf cI cZ cP cS h_t h_t_turns h_t_phases h_t_ups h_t_typed h_t_texts h_t_diary h_t_longs h_t_awakes h_t_fit h_t_counts h_t_worths h_t_ripes h_t_growths h_t_gains h_t_isThere h_t_forms h_t_sizes h_t_items h_t_moved o_m_hours o_m_months v_m_fitMany v_m_fitFirst v_m_finding v_m_typed v_m_texts o_m_diary o_m_longs v_m_worths)) ([.ref h_t, .int x1] : List Value).toArray s 0 0 (va_A (wd_X8_sumOf cI cZ cP cS h_t h_t_turns h_t_phases h_t_ups h_t_typed h_t_texts h_t_diary h_t_longs h_t_awakes h_t_fit h_t_counts h_t_worths h_t_ripes h_t_growths h_t_gains h_t_isThere h_t_forms h_t_sizes h_t_items h_t_moved v_m_hours v_m_months v_m_fitMany v_m_fitFirst v_m_finding v_m_typed v_m_texts v_m_diary v_m_longs v_m_worths) s.heap.size)) (F0 m 42 ls [.int y8_2]) := by
          intro ls hl hf
          rw [ek42] at hf
          refine lv_iconst (v := 0) hx hb dX8_sumOf_42 (by decide) ?_
          exact hj43 0 ls (lv_sub hl [0, 1, 2] rfl) hf
        refine lv_icmp_ne (tgt := 42) hx hb dX8_sumOf_17 (by decide) (fun c17 => ?_) (fun c17 => ?_)
        · rw [if_neg c17] at hf
          exact hj42 ls (lv_sub hl [0, 1, 3] rfl) hf
        · rw [if_pos c17] at hf
          refine lv_iload_n hx hb dX8_sumOf_20 rfl (lv_at hl 3 rfl) ?_
          refine lv_aload_n hx hb dX8_sumOf_21 rfl (lv_at hl 0 rfl) ?_
          refine va_get (D := (dC, dI)) (ci := 7) (v := .int o1_1) (C := RX8) (T := TX8) (N := 24) hx hb hts hinX8 hown hK hP 0 rfl rfl 5 (by decide) (hts (.fieldLink RX8 79 "SecondSunriseModel" "hours" "I") (by decide +kernel)) (fun _ h9 => h9) rfl dX8_sumOf_22 ?_
          refine lv_icmp_ge (tgt := 42) hx hb dX8_sumOf_25 (by decide) (fun c25 => ?_) (fun c25 => ?_)
          · rw [if_pos c25] at hf
            exact hj42 ls (lv_sub hl [0, 1, 3] rfl) hf
          · rw [if_neg c25] at hf
            refine lv_aload_n hx hb dX8_sumOf_28 rfl (lv_at hl 0 rfl) ?_
            refine va_get (D := (dC, dI)) (ci := 7) (v := .ref h_t_diary) (C := RX8) (T := TX8) (N := 24) hx hb hts hinX8 hown hK hP 0 rfl rfl 6 (by decide) (hts (.fieldLink RX8 25 "SecondSunriseModel" "diary" "[I") (by decide +kernel)) (fun _ h9 => h9) rfl dX8_sumOf_29 ?_
            refine lv_iload_n hx hb dX8_sumOf_32 rfl (lv_at hl 3 rfl) ?_
            obtain ⟨hi_9, hf⟩ := ix_e hf
            refine va_iald hx hb hK hP 3 0 rfl rfl hi_9 dX8_sumOf_33 ?_
            refine lv_iconst (v := (-1)) hx hb dX8_sumOf_34 (by decide) ?_
            refine lv_icmp_eq (tgt := 42) hx hb dX8_sumOf_35 (by decide) (fun c35 => ?_) (fun c35 => ?_)
            · rw [if_pos c35] at hf
              exact hj42 ls (lv_sub hl [0, 1, 3] rfl) hf
            · rw [if_neg c35] at hf
              refine lv_iconst (v := 1) hx hb dX8_sumOf_38 (by decide) ?_
              refine lv_goto (tgt := 43) hx hb dX8_sumOf_39 (by decide) ?_
              exact hj43 1 ls (lv_sub hl [0, 1, 3] rfl) hf
  exact hL8 n 0 0 ls (lv_sub hl [2, 3, 1, 0] rfl) hf

abbrev wd_X8_count (cI cZ cP cS : ClassId) (h_t h_t_turns h_t_phases h_t_ups h_t_typed h_t_texts h_t_diary h_t_longs h_t_awakes h_t_fit h_t_counts h_t_worths h_t_ripes h_t_growths h_t_gains h_t_isThere h_t_forms h_t_sizes h_t_items h_t_moved : Nat) (v_m_hours : Int32) (v_m_months : Int32) (v_m_fitMany : Int32) (v_m_fitFirst : Int32) (v_m_finding : Int32) (v_m_turns : Nat → Int32) (v_m_typed : Nat → Int32) (v_m_texts : Nat → Int32) (v_m_diary : Nat → Int32) (v_m_longs : Nat → Int32) (v_m_worths : Nat → Int32) : va_W := [(h_t, .inr (7, [.ref h_t_turns, .ref h_t_phases, .ref h_t_ups, .ref h_t_typed, .ref h_t_texts, .int v_m_hours, .ref h_t_diary, .int v_m_months, .ref h_t_longs, .ref h_t_awakes, .ref h_t_fit, .int v_m_fitMany, .int v_m_fitFirst, .ref h_t_counts, .ref h_t_worths, .ref h_t_ripes, .ref h_t_growths, .ref h_t_gains, .ref h_t_isThere, .ref h_t_forms, .ref h_t_sizes, .ref h_t_items, .ref h_t_moved, .int v_m_finding])), (h_t_turns, .inl (cI, 2, .inl v_m_turns)), (h_t_typed, .inl (cI, 2, .inl v_m_typed)), (h_t_texts, .inl (cI, 120, .inl v_m_texts)), (h_t_diary, .inl (cI, 60, .inl v_m_diary)), (h_t_longs, .inl (cI, 7, .inl v_m_longs)), (h_t_worths, .inl (cI, 6, .inl v_m_worths))]
abbrev rm_X8_count : Room := { frames := 6, cells := 0, slots := 0, locals := 135 }
def f_X8_count (n : Nat) (v_m_hours : Int32) (v_m_months : Int32) (v_m_finding : Int32) (v_m_turns : Nat → Int32) (v_m_typed : Nat → Int32) (v_m_texts : Nat → Int32) (v_m_diary : Nat → Int32) (v_m_longs : Nat → Int32) (v_m_worths : Nat → Int32) (x1 : Int32) : Option (Int32 × Int32 × Int32 × (Nat → Int32) × (Nat → Int32)) := if x1 = 0 then ix_ x1 2 (some ((v_m_typed x1.toNatClampNeg), v_m_hours, v_m_months, v_m_diary, v_m_longs)) else if x1 = 1 then ix_ x1 2 (some ((v_m_typed x1.toNatClampNeg), v_m_hours, v_m_months, v_m_diary, v_m_longs)) else if x1 = 2 then bd5_ (f_X8_sumOf n v_m_hours v_m_months v_m_typed v_m_texts v_m_diary v_m_longs v_m_worths x1) (fun (r61_3 : Int32) (o61_4 : Int32) (o61_5 : Int32) (o61_6 : Nat → Int32) (o61_7 : Nat → Int32) => some (r61_3, o61_4, o61_5, o61_6, o61_7)) else if x1 = 3 then bd5_ (f_X8_sumOf n v_m_hours v_m_months v_m_typed v_m_texts v_m_diary v_m_longs v_m_worths x1) (fun (r61_10 : Int32) (o61_11 : Int32) (o61_12 : Int32) (o61_13 : Nat → Int32) (o61_14 : Nat → Int32) => some (r61_10, o61_11, o61_12, o61_13, o61_14)) else if x1 = 4 then bd5_ (f_X8_sumOf n v_m_hours v_m_months v_m_typed v_m_texts v_m_diary v_m_longs v_m_worths x1) (fun (r61_17 : Int32) (o61_18 : Int32) (o61_19 : Int32) (o61_20 : Nat → Int32) (o61_21 : Nat → Int32) => some (r61_17, o61_18, o61_19, o61_20, o61_21)) else if x1 = 5 then bd5_ (f_X8_sumOf n v_m_hours v_m_months v_m_typed v_m_texts v_m_diary v_m_longs v_m_worths x1) (fun (r61_24 : Int32) (o61_25 : Int32) (o61_26 : Int32) (o61_27 : Nat → Int32) (o61_28 : Nat → Int32) => some (r61_24, o61_25, o61_26, o61_27, o61_28)) else if x1 = 6 then bd1_ (f_X8_roundNow n v_m_turns) (fun (r66_31 : Int32) => some (r66_31, v_m_hours, v_m_months, v_m_diary, v_m_longs)) else if x1 = 7 then bd5_ (f_X8_sumOf n v_m_hours v_m_months v_m_typed v_m_texts v_m_diary v_m_longs v_m_worths x1) (fun (r61_34 : Int32) (o61_35 : Int32) (o61_36 : Int32) (o61_37 : Nat → Int32) (o61_38 : Nat → Int32) => some (r61_34, o61_35, o61_36, o61_37, o61_38)) else if x1 = 8 then some (v_m_finding, v_m_hours, v_m_months, v_m_diary, v_m_longs) else some ((-2), v_m_hours, v_m_months, v_m_diary, v_m_longs)
set_option maxHeartbeats 4000000 in
set_option maxRecDepth 100000 in
theorem c_X8_count (l : Launch) (dC : Nat → ClassId) (dI : Nat → Nat → Nat) (cI cZ cP cS : ClassId) (sz : Nat) (h_t h_t_turns h_t_phases h_t_ups h_t_typed h_t_texts h_t_diary h_t_longs h_t_awakes h_t_fit h_t_counts h_t_worths h_t_ripes h_t_growths h_t_gains h_t_isThere h_t_forms h_t_sizes h_t_items h_t_moved : Nat) (v_m_hours : Int32) (v_m_months : Int32) (v_m_fitMany : Int32) (v_m_fitFirst : Int32) (v_m_finding : Int32) (v_m_turns : Nat → Int32) (v_m_typed : Nat → Int32) (v_m_texts : Nat → Int32) (v_m_diary : Nat → Int32) (v_m_longs : Nat → Int32) (v_m_worths : Nat → Int32) (x1 : Int32) (n : Nat) (r : Int32) (o_m_hours : Int32) (o_m_months : Int32) (o_m_diary : Nat → Int32) (o_m_longs : Nat → Int32) (hf : f_X8_count n v_m_hours v_m_months v_m_finding v_m_turns v_m_typed v_m_texts v_m_diary v_m_longs v_m_worths x1 = some (r, o_m_hours, o_m_months, o_m_diary, o_m_longs)) : Met l yX8_count wsX8_count rm_X8_count (RW (dC, dI) (TY cI cZ cP cS) [.ref h_t, .int x1] sz (wd_X8_count cI cZ cP cS h_t h_t_turns h_t_phases h_t_ups h_t_typed h_t_texts h_t_diary h_t_longs h_t_awakes h_t_fit h_t_counts h_t_worths h_t_ripes h_t_growths h_t_gains h_t_isThere h_t_forms h_t_sizes h_t_items h_t_moved v_m_hours v_m_months v_m_fitMany v_m_fitFirst v_m_finding v_m_turns v_m_typed v_m_texts v_m_diary v_m_longs v_m_worths)) (RWi (dC, dI) (TY cI cZ cP cS) r sz (wd_X8_count cI cZ cP cS h_t h_t_turns h_t_phases h_t_ups h_t_typed h_t_texts h_t_diary h_t_longs h_t_awakes h_t_fit h_t_counts h_t_worths h_t_ripes h_t_growths h_t_gains h_t_isThere h_t_forms h_t_sizes h_t_items h_t_moved v_m_hours v_m_months v_m_fitMany v_m_fitFirst v_m_finding v_m_turns v_m_typed v_m_texts v_m_diary v_m_longs v_m_worths) (wd_X8_count cI cZ cP cS h_t h_t_turns h_t_phases h_t_ups h_t_typed h_t_texts h_t_diary h_t_longs h_t_awakes h_t_fit h_t_counts h_t_worths h_t_ripes h_t_growths h_t_gains h_t_isThere h_t_forms h_t_sizes h_t_items h_t_moved o_m_hours o_m_months v_m_fitMany v_m_fitFirst v_m_finding v_m_turns v_m_typed v_m_texts o_m_diary o_m_longs v_m_worths)) 0 0 (va_A (wd_X8_count cI cZ cP cS h_t h_t_turns h_t_phases h_t_ups h_t_typed h_t_texts h_t_diary h_t_longs h_t_awakes h_t_fit h_t_counts h_t_worths h_t_ripes h_t_growths h_t_gains h_t_isThere h_t_forms h_t_sizes h_t_items h_t_moved v_m_hours v_m_months v_m_fitMany v_m_fitFirst v_m_finding v_m_turns v_m_typed v_m_texts v_m_diary v_m_longs v_m_worths) sz) := by
  refine Met.ofW (cc := cX8_count) (maxL := 2) (ret := (some .int)) (by decide) rfl ?_
  intro p e s m args below meth c s₁ B hml hv
  obtain ⟨rfl, hsz, hP, hK, hD0⟩ := hv
  have hx := B.exec
  have hb := B.bytes
  have hr := B.returns
  have hts := atoms_spec (ws := wsX8_count) B.pre
  have hown : s.vm.findClass RX8 = some m.cls := findClass_of_methodNamed B.named
  have hlocks := B.notSynchronized
  subst hsz
  have hD := hD0.self (sz := s.heap.size)
  have hA : ∀ q : Nat, s.heap.size ≤ q → (va_A (wd_X8_count cI cZ cP cS h_t h_t_turns h_t_phases h_t_ups h_t_typed h_t_texts h_t_diary h_t_longs h_t_awakes h_t_fit h_t_counts h_t_worths h_t_ripes h_t_growths h_t_gains h_t_isThere h_t_forms h_t_sizes h_t_items h_t_moved v_m_hours v_m_months v_m_fitMany v_m_fitFirst v_m_finding v_m_turns v_m_typed v_m_texts v_m_diary v_m_longs v_m_worths) s.heap.size) q := fun q h => Or.inr h
  have hS : va_S (va_A (wd_X8_count cI cZ cP cS h_t h_t_turns h_t_phases h_t_ups h_t_typed h_t_texts h_t_diary h_t_longs h_t_awakes h_t_fit h_t_counts h_t_worths h_t_ripes h_t_growths h_t_gains h_t_isThere h_t_forms h_t_sizes h_t_items h_t_moved v_m_hours v_m_months v_m_fitMany v_m_fitFirst v_m_finding v_m_turns v_m_typed v_m_texts v_m_diary v_m_longs v_m_worths) s.heap.size) s.heap s.heap [] := va_S.rf
  have hinX8 : ∀ w ∈ wsX80, w ∈ wsX8_count := by decide +kernel
  have hl := lv_entry ([.ref h_t, .int x1]) (n := 2) (Nat.le_of_ble_eq_true rfl)
  rw [lg_entry_eq]
  generalize (lg_sl ([.ref h_t, .int x1]) ++ List.replicate (2 - (lg_sl ([.ref h_t, .int x1])).length) Slot.unset).toArray = ls at hl ⊢
  have hl : lv_has ls 2 [(0, .ref h_t), (1, .int x1)] := hl
  obtain ⟨H, hH⟩ : ∃ H : Heap, H = s.heap := ⟨_, rfl⟩
  have hP : va_P (dC, dI) vwCl (wd_X8_count cI cZ cP cS h_t h_t_turns h_t_phases h_t_ups h_t_typed h_t_texts h_t_diary h_t_longs h_t_awakes h_t_fit h_t_counts h_t_worths h_t_ripes h_t_growths h_t_gains h_t_isThere h_t_forms h_t_sizes h_t_items h_t_moved v_m_hours v_m_months v_m_fitMany v_m_fitFirst v_m_finding v_m_turns v_m_typed v_m_texts v_m_diary v_m_longs v_m_worths) H := by rw [hH]; exact hP
  have hS : va_S (va_A (wd_X8_count cI cZ cP cS h_t h_t_turns h_t_phases h_t_ups h_t_typed h_t_texts h_t_diary h_t_longs h_t_awakes h_t_fit h_t_counts h_t_worths h_t_ripes h_t_growths h_t_gains h_t_isThere h_t_forms h_t_sizes h_t_items h_t_moved v_m_hours v_m_months v_m_fitMany v_m_fitFirst v_m_finding v_m_turns v_m_typed v_m_texts v_m_diary v_m_longs v_m_worths) s.heap.size) s.heap H [] := by rw [hH]; exact hS
  obtain ⟨locs, hlo⟩ : ∃ L : List Loc, L = [] := ⟨_, rfl⟩
  rw [← hlo] at hS
  suffices hgo : W p l e (headSpec wsX8_count rm_X8_count).room s m ([.ref h_t, .int x1] : List Value).toArray below meth c H locs 0 0 (MQ below (RWi (dC, dI) (TY cI cZ cP cS) r s.heap.size (wd_X8_count cI cZ cP cS h_t h_t_turns h_t_phases h_t_ups h_t_typed h_t_texts h_t_diary h_t_longs h_t_awakes h_t_fit h_t_counts h_t_worths h_t_ripes h_t_growths h_t_gains h_t_isThere h_t_forms h_t_sizes h_t_items h_t_moved v_m_hours v_m_months v_m_fitMany v_m_fitFirst v_m_finding v_m_turns v_m_typed v_m_texts v_m_diary v_m_longs v_m_worths) (wd_X8_count cI cZ cP cS h_t h_t_turns h_t_phases h_t_ups h_t_typed h_t_texts h_t_diary h_t_longs h_t_awakes h_t_fit h_t_counts h_t_worths h_t_ripes h_t_growths h_t_gains h_t_isThere h_t_forms h_t_sizes h_t_items h_t_moved o_m_hours o_m_months v_m_fitMany v_m_fitFirst v_m_finding v_m_turns v_m_typed v_m_texts o_m_diary o_m_longs v_m_worths)) ([.ref h_t, .int x1] : List Value).toArray s 0 0 (va_A (wd_X8_count cI cZ cP cS h_t h_t_turns h_t_phases h_t_ups h_t_typed h_t_texts h_t_diary h_t_longs h_t_awakes h_t_fit h_t_counts h_t_worths h_t_ripes h_t_growths h_t_gains h_t_isThere h_t_forms h_t_sizes h_t_items h_t_moved v_m_hours v_m_months v_m_fitMany v_m_fitFirst v_m_finding v_m_turns v_m_typed v_m_texts v_m_diary v_m_longs v_m_worths) s.heap.size)) (F0 m 0 ls []) by rw [hH, hlo] at hgo; exact hgo
  clear hH hlo
  unfold f_X8_count at hf
  refine lv_iload_n hx hb dX8_count_0 rfl (lv_at hl 1 rfl) ?_
  by_cases c1_0 : x1 = 0
  · rw [if_pos c1_0] at hf
    refine lv_tableIn (off := 51) (tgt := 52) hx hb dX8_count_1 (by rw [c1_0]; decide) (by rw [c1_0]; decide) (by rw [c1_0]; decide) (by decide) ?_
    refine lv_aload_n hx hb dX8_count_52 rfl (lv_at hl 0 rfl) ?_
    refine va_get (D := (dC, dI)) (ci := 7) (v := .ref h_t_typed) (C := RX8) (T := TX8) (N := 24) hx hb hts hinX8 hown hK hP 0 rfl rfl 3 (by decide) (hts (.fieldLink RX8 19 "SecondSunriseModel" "typed" "[I") (by decide +kernel)) (fun _ h9 => h9) rfl dX8_count_53 ?_
    refine lv_iload_n hx hb dX8_count_56 rfl (lv_at hl 1 rfl) ?_
    obtain ⟨hi_1, hf⟩ := ix_e hf
    refine va_iald hx hb hK hP 2 0 rfl rfl hi_1 dX8_count_57 ?_
    have hq0 := Option.some.inj hf
    obtain ⟨eq0, hq1⟩ := Prod.mk.inj hq0
    obtain ⟨eq1, hq2⟩ := Prod.mk.inj hq1
    obtain ⟨eq2, hq3⟩ := Prod.mk.inj hq2
    obtain ⟨eq3, hq4⟩ := Prod.mk.inj hq3
    clear hf hq0 hq1 hq2 hq3
    subst eq0
    subst eq1
    subst eq2
    subst eq3
    subst hq4
    exact W.iret hx hb hr (fun t ht hW => ⟨⟨_, (), rfl, rfl, by rw [ht]; exact hP, va_K.moved hW.alike hK, hD⟩, hS.F ht⟩) hS.2.2 dX8_count_58
  · rw [if_neg c1_0] at hf
    by_cases c1_1 : x1 = 1
    · rw [if_pos c1_1] at hf
      refine lv_tableIn (off := 51) (tgt := 52) hx hb dX8_count_1 (by rw [c1_1]; decide) (by rw [c1_1]; decide) (by rw [c1_1]; decide) (by decide) ?_
      refine lv_aload_n hx hb dX8_count_52 rfl (lv_at hl 0 rfl) ?_
      refine va_get (D := (dC, dI)) (ci := 7) (v := .ref h_t_typed) (C := RX8) (T := TX8) (N := 24) hx hb hts hinX8 hown hK hP 0 rfl rfl 3 (by decide) (hts (.fieldLink RX8 19 "SecondSunriseModel" "typed" "[I") (by decide +kernel)) (fun _ h9 => h9) rfl dX8_count_53 ?_
      refine lv_iload_n hx hb dX8_count_56 rfl (lv_at hl 1 rfl) ?_
      obtain ⟨hi_2, hf⟩ := ix_e hf
      refine va_iald hx hb hK hP 2 0 rfl rfl hi_2 dX8_count_57 ?_
      have hq0 := Option.some.inj hf
      obtain ⟨eq0, hq1⟩ := Prod.mk.inj hq0
      obtain ⟨eq1, hq2⟩ := Prod.mk.inj hq1
      obtain ⟨eq2, hq3⟩ := Prod.mk.inj hq2
      obtain ⟨eq3, hq4⟩ := Prod.mk.inj hq3
      clear hf hq0 hq1 hq2 hq3
      subst eq0
      subst eq1
      subst eq2
      subst eq3
      subst hq4
      exact W.iret hx hb hr (fun t ht hW => ⟨⟨_, (), rfl, rfl, by rw [ht]; exact hP, va_K.moved hW.alike hK, hD⟩, hS.F ht⟩) hS.2.2 dX8_count_58
    · rw [if_neg c1_1] at hf
      by_cases c1_2 : x1 = 2
      · rw [if_pos c1_2] at hf
        refine lv_tableIn (off := 58) (tgt := 59) hx hb dX8_count_1 (by rw [c1_2]; decide) (by rw [c1_2]; decide) (by rw [c1_2]; decide) (by decide) ?_
        refine lv_aload_n hx hb dX8_count_59 rfl (lv_at hl 0 rfl) ?_
        refine lv_iload_n hx hb dX8_count_60 rfl (lv_at hl 1 rfl) ?_
        obtain ⟨r61_3, o61_4, o61_5, o61_6, o61_7, hc_8, hf⟩ := bd5_e hf
        refine rwi_call (isC := [0, 2, 3, 4, 5, 6]) (isR := [1]) (perm := [1, 0, 2, 3, 4, 5, 6]) (wr := [(h_t_turns, .inl (cI, 2, .inl v_m_turns))]) (ws2 := (wd_X8_count cI cZ cP cS h_t h_t_turns h_t_phases h_t_ups h_t_typed h_t_texts h_t_diary h_t_longs h_t_awakes h_t_fit h_t_counts h_t_worths h_t_ripes h_t_growths h_t_gains h_t_isThere h_t_forms h_t_sizes h_t_items h_t_moved o61_4 o61_5 v_m_fitMany v_m_fitFirst v_m_finding v_m_turns v_m_typed v_m_texts o61_6 o61_7 v_m_worths)) (va_runV (As := [.int x1]) (rest := []) ⟨hx, hb, hml, hown, hts⟩ (c_X8_sumOf l dC dI cI cZ cP cS H.size h_t h_t_turns h_t_phases h_t_ups h_t_typed h_t_texts h_t_diary h_t_longs h_t_awakes h_t_fit h_t_counts h_t_worths h_t_ripes h_t_growths h_t_gains h_t_isThere h_t_forms h_t_sizes h_t_items h_t_moved v_m_hours v_m_months v_m_fitMany v_m_fitFirst v_m_finding v_m_typed v_m_texts v_m_diary v_m_longs v_m_worths x1 n r61_3 o61_4 o61_5 o61_6 o61_7 hc_8) (cwV 1 hts gX8_count_X8_sumOf rfl rfl rfl (by decide +kernel) ⟨Nat.le_of_ble_eq_true rfl, Nat.le_of_ble_eq_true rfl⟩) (pv_rw (ci := 7) (q0 := 0) hK (hP.sub (ws' := (wd_X8_sumOf cI cZ cP cS h_t h_t_turns h_t_phases h_t_ups h_t_typed h_t_texts h_t_diary h_t_longs h_t_awakes h_t_fit h_t_counts h_t_worths h_t_ripes h_t_growths h_t_gains h_t_isThere h_t_forms h_t_sizes h_t_items h_t_moved v_m_hours v_m_months v_m_fitMany v_m_fitFirst v_m_finding v_m_typed v_m_texts v_m_diary v_m_longs v_m_worths)) [0, 2, 3, 4, 5, 6] rfl) (hD.sub (ws' := (wd_X8_sumOf cI cZ cP cS h_t h_t_turns h_t_phases h_t_ups h_t_typed h_t_texts h_t_diary h_t_longs h_t_awakes h_t_fit h_t_counts h_t_worths h_t_ripes h_t_growths h_t_gains h_t_isThere h_t_forms h_t_sizes h_t_items h_t_moved v_m_hours v_m_months v_m_fitMany v_m_fitFirst v_m_finding v_m_typed v_m_texts v_m_diary v_m_longs v_m_worths)) [0, 2, 3, 4, 5, 6] (by decide) rfl) rfl rfl) rfl rfl hl.1 rfl (lv_room (Nat.le_of_ble_eq_true rfl)) dX8_count_61 ⟨Nat.zero_le _, Nat.zero_le _⟩) hS hA hP hD rfl (by decide) (by decide) rfl (by decide) rfl rfl (fun H locs hP hD hS => ?_)
        have hq0 := Option.some.inj hf
        obtain ⟨eq0, hq1⟩ := Prod.mk.inj hq0
        obtain ⟨eq1, hq2⟩ := Prod.mk.inj hq1
        obtain ⟨eq2, hq3⟩ := Prod.mk.inj hq2
        obtain ⟨eq3, hq4⟩ := Prod.mk.inj hq3
        clear hf hq0 hq1 hq2 hq3
        subst eq0
        subst eq1
        subst eq2
        subst eq3
        subst hq4
        exact W.iret hx hb hr (fun t ht hW => ⟨⟨_, (), rfl, rfl, by rw [ht]; exact hP, va_K.moved hW.alike hK, hD⟩, hS.F ht⟩) hS.2.2 dX8_count_64
      · rw [if_neg c1_2] at hf
        by_cases c1_3 : x1 = 3
        · rw [if_pos c1_3] at hf
          refine lv_tableIn (off := 58) (tgt := 59) hx hb dX8_count_1 (by rw [c1_3]; decide) (by rw [c1_3]; decide) (by rw [c1_3]; decide) (by decide) ?_
          refine lv_aload_n hx hb dX8_count_59 rfl (lv_at hl 0 rfl) ?_
          refine lv_iload_n hx hb dX8_count_60 rfl (lv_at hl 1 rfl) ?_
          obtain ⟨r61_10, o61_11, o61_12, o61_13, o61_14, hc_15, hf⟩ := bd5_e hf
          refine rwi_call (isC := [0, 2, 3, 4, 5, 6]) (isR := [1]) (perm := [1, 0, 2, 3, 4, 5, 6]) (wr := [(h_t_turns, .inl (cI, 2, .inl v_m_turns))]) (ws2 := (wd_X8_count cI cZ cP cS h_t h_t_turns h_t_phases h_t_ups h_t_typed h_t_texts h_t_diary h_t_longs h_t_awakes h_t_fit h_t_counts h_t_worths h_t_ripes h_t_growths h_t_gains h_t_isThere h_t_forms h_t_sizes h_t_items h_t_moved o61_11 o61_12 v_m_fitMany v_m_fitFirst v_m_finding v_m_turns v_m_typed v_m_texts o61_13 o61_14 v_m_worths)) (va_runV (As := [.int x1]) (rest := []) ⟨hx, hb, hml, hown, hts⟩ (c_X8_sumOf l dC dI cI cZ cP cS H.size h_t h_t_turns h_t_phases h_t_ups h_t_typed h_t_texts h_t_diary h_t_longs h_t_awakes h_t_fit h_t_counts h_t_worths h_t_ripes h_t_growths h_t_gains h_t_isThere h_t_forms h_t_sizes h_t_items h_t_moved v_m_hours v_m_months v_m_fitMany v_m_fitFirst v_m_finding v_m_typed v_m_texts v_m_diary v_m_longs v_m_worths x1 n r61_10 o61_11 o61_12 o61_13 o61_14 hc_15) (cwV 1 hts gX8_count_X8_sumOf rfl rfl rfl (by decide +kernel) ⟨Nat.le_of_ble_eq_true rfl, Nat.le_of_ble_eq_true rfl⟩) (pv_rw (ci := 7) (q0 := 0) hK (hP.sub (ws' := (wd_X8_sumOf cI cZ cP cS h_t h_t_turns h_t_phases h_t_ups h_t_typed h_t_texts h_t_diary h_t_longs h_t_awakes h_t_fit h_t_counts h_t_worths h_t_ripes h_t_growths h_t_gains h_t_isThere h_t_forms h_t_sizes h_t_items h_t_moved v_m_hours v_m_months v_m_fitMany v_m_fitFirst v_m_finding v_m_typed v_m_texts v_m_diary v_m_longs v_m_worths)) [0, 2, 3, 4, 5, 6] rfl) (hD.sub (ws' := (wd_X8_sumOf cI cZ cP cS h_t h_t_turns h_t_phases h_t_ups h_t_typed h_t_texts h_t_diary h_t_longs h_t_awakes h_t_fit h_t_counts h_t_worths h_t_ripes h_t_growths h_t_gains h_t_isThere h_t_forms h_t_sizes h_t_items h_t_moved v_m_hours v_m_months v_m_fitMany v_m_fitFirst v_m_finding v_m_typed v_m_texts v_m_diary v_m_longs v_m_worths)) [0, 2, 3, 4, 5, 6] (by decide) rfl) rfl rfl) rfl rfl hl.1 rfl (lv_room (Nat.le_of_ble_eq_true rfl)) dX8_count_61 ⟨Nat.zero_le _, Nat.zero_le _⟩) hS hA hP hD rfl (by decide) (by decide) rfl (by decide) rfl rfl (fun H locs hP hD hS => ?_)
          have hq0 := Option.some.inj hf
          obtain ⟨eq0, hq1⟩ := Prod.mk.inj hq0
          obtain ⟨eq1, hq2⟩ := Prod.mk.inj hq1
          obtain ⟨eq2, hq3⟩ := Prod.mk.inj hq2
          obtain ⟨eq3, hq4⟩ := Prod.mk.inj hq3
          clear hf hq0 hq1 hq2 hq3
          subst eq0
          subst eq1
          subst eq2
          subst eq3
          subst hq4
          exact W.iret hx hb hr (fun t ht hW => ⟨⟨_, (), rfl, rfl, by rw [ht]; exact hP, va_K.moved hW.alike hK, hD⟩, hS.F ht⟩) hS.2.2 dX8_count_64
        · rw [if_neg c1_3] at hf
          by_cases c1_4 : x1 = 4
          · rw [if_pos c1_4] at hf
            refine lv_tableIn (off := 58) (tgt := 59) hx hb dX8_count_1 (by rw [c1_4]; decide) (by rw [c1_4]; decide) (by rw [c1_4]; decide) (by decide) ?_
            refine lv_aload_n hx hb dX8_count_59 rfl (lv_at hl 0 rfl) ?_
            refine lv_iload_n hx hb dX8_count_60 rfl (lv_at hl 1 rfl) ?_
            obtain ⟨r61_17, o61_18, o61_19, o61_20, o61_21, hc_22, hf⟩ := bd5_e hf
            refine rwi_call (isC := [0, 2, 3, 4, 5, 6]) (isR := [1]) (perm := [1, 0, 2, 3, 4, 5, 6]) (wr := [(h_t_turns, .inl (cI, 2, .inl v_m_turns))]) (ws2 := (wd_X8_count cI cZ cP cS h_t h_t_turns h_t_phases h_t_ups h_t_typed h_t_texts h_t_diary h_t_longs h_t_awakes h_t_fit h_t_counts h_t_worths h_t_ripes h_t_growths h_t_gains h_t_isThere h_t_forms h_t_sizes h_t_items h_t_moved o61_18 o61_19 v_m_fitMany v_m_fitFirst v_m_finding v_m_turns v_m_typed v_m_texts o61_20 o61_21 v_m_worths)) (va_runV (As := [.int x1]) (rest := []) ⟨hx, hb, hml, hown, hts⟩ (c_X8_sumOf l dC dI cI cZ cP cS H.size h_t h_t_turns h_t_phases h_t_ups h_t_typed h_t_texts h_t_diary h_t_longs h_t_awakes h_t_fit h_t_counts h_t_worths h_t_ripes h_t_growths h_t_gains h_t_isThere h_t_forms h_t_sizes h_t_items h_t_moved v_m_hours v_m_months v_m_fitMany v_m_fitFirst v_m_finding v_m_typed v_m_texts v_m_diary v_m_longs v_m_worths x1 n r61_17 o61_18 o61_19 o61_20 o61_21 hc_22) (cwV 1 hts gX8_count_X8_sumOf rfl rfl rfl (by decide +kernel) ⟨Nat.le_of_ble_eq_true rfl, Nat.le_of_ble_eq_true rfl⟩) (pv_rw (ci := 7) (q0 := 0) hK (hP.sub (ws' := (wd_X8_sumOf cI cZ cP cS h_t h_t_turns h_t_phases h_t_ups h_t_typed h_t_texts h_t_diary h_t_longs h_t_awakes h_t_fit h_t_counts h_t_worths h_t_ripes h_t_growths h_t_gains h_t_isThere h_t_forms h_t_sizes h_t_items h_t_moved v_m_hours v_m_months v_m_fitMany v_m_fitFirst v_m_finding v_m_typed v_m_texts v_m_diary v_m_longs v_m_worths)) [0, 2, 3, 4, 5, 6] rfl) (hD.sub (ws' := (wd_X8_sumOf cI cZ cP cS h_t h_t_turns h_t_phases h_t_ups h_t_typed h_t_texts h_t_diary h_t_longs h_t_awakes h_t_fit h_t_counts h_t_worths h_t_ripes h_t_growths h_t_gains h_t_isThere h_t_forms h_t_sizes h_t_items h_t_moved v_m_hours v_m_months v_m_fitMany v_m_fitFirst v_m_finding v_m_typed v_m_texts v_m_diary v_m_longs v_m_worths)) [0, 2, 3, 4, 5, 6] (by decide) rfl) rfl rfl) rfl rfl hl.1 rfl (lv_room (Nat.le_of_ble_eq_true rfl)) dX8_count_61 ⟨Nat.zero_le _, Nat.zero_le _⟩) hS hA hP hD rfl (by decide) (by decide) rfl (by decide) rfl rfl (fun H locs hP hD hS => ?_)
            have hq0 := Option.some.inj hf
            obtain ⟨eq0, hq1⟩ := Prod.mk.inj hq0
            obtain ⟨eq1, hq2⟩ := Prod.mk.inj hq1
            obtain ⟨eq2, hq3⟩ := Prod.mk.inj hq2
            obtain ⟨eq3, hq4⟩ := Prod.mk.inj hq3
            clear hf hq0 hq1 hq2 hq3
            subst eq0
            subst eq1
            subst eq2
            subst eq3
            subst hq4
            exact W.iret hx hb hr (fun t ht hW => ⟨⟨_, (), rfl, rfl, by rw [ht]; exact hP, va_K.moved hW.alike hK, hD⟩, hS.F ht⟩) hS.2.2 dX8_count_64
          · rw [if_neg c1_4] at hf
            by_cases c1_5 : x1 = 5
            · rw [if_pos c1_5] at hf
              refine lv_tableIn (off := 58) (tgt := 59) hx hb dX8_count_1 (by rw [c1_5]; decide) (by rw [c1_5]; decide) (by rw [c1_5]; decide) (by decide) ?_
              refine lv_aload_n hx hb dX8_count_59 rfl (lv_at hl 0 rfl) ?_
              refine lv_iload_n hx hb dX8_count_60 rfl (lv_at hl 1 rfl) ?_
              obtain ⟨r61_24, o61_25, o61_26, o61_27, o61_28, hc_29, hf⟩ := bd5_e hf
              refine rwi_call (isC := [0, 2, 3, 4, 5, 6]) (isR := [1]) (perm := [1, 0, 2, 3, 4, 5, 6]) (wr := [(h_t_turns, .inl (cI, 2, .inl v_m_turns))]) (ws2 := (wd_X8_count cI cZ cP cS h_t h_t_turns h_t_phases h_t_ups h_t_typed h_t_texts h_t_diary h_t_longs h_t_awakes h_t_fit h_t_counts h_t_worths h_t_ripes h_t_growths h_t_gains h_t_isThere h_t_forms h_t_sizes h_t_items h_t_moved o61_25 o61_26 v_m_fitMany v_m_fitFirst v_m_finding v_m_turns v_m_typed v_m_texts o61_27 o61_28 v_m_worths)) (va_runV (As := [.int x1]) (rest := []) ⟨hx, hb, hml, hown, hts⟩ (c_X8_sumOf l dC dI cI cZ cP cS H.size h_t h_t_turns h_t_phases h_t_ups h_t_typed h_t_texts h_t_diary h_t_longs h_t_awakes h_t_fit h_t_counts h_t_worths h_t_ripes h_t_growths h_t_gains h_t_isThere h_t_forms h_t_sizes h_t_items h_t_moved v_m_hours v_m_months v_m_fitMany v_m_fitFirst v_m_finding v_m_typed v_m_texts v_m_diary v_m_longs v_m_worths x1 n r61_24 o61_25 o61_26 o61_27 o61_28 hc_29) (cwV 1 hts gX8_count_X8_sumOf rfl rfl rfl (by decide +kernel) ⟨Nat.le_of_ble_eq_true rfl, Nat.le_of_ble_eq_true rfl⟩) (pv_rw (ci := 7) (q0 := 0) hK (hP.sub (ws' := (wd_X8_sumOf cI cZ cP cS h_t h_t_turns h_t_phases h_t_ups h_t_typed h_t_texts h_t_diary h_t_longs h_t_awakes h_t_fit h_t_counts h_t_worths h_t_ripes h_t_growths h_t_gains h_t_isThere h_t_forms h_t_sizes h_t_items h_t_moved v_m_hours v_m_months v_m_fitMany v_m_fitFirst v_m_finding v_m_typed v_m_texts v_m_diary v_m_longs v_m_worths)) [0, 2, 3, 4, 5, 6] rfl) (hD.sub (ws' := (wd_X8_sumOf cI cZ cP cS h_t h_t_turns h_t_phases h_t_ups h_t_typed h_t_texts h_t_diary h_t_longs h_t_awakes h_t_fit h_t_counts h_t_worths h_t_ripes h_t_growths h_t_gains h_t_isThere h_t_forms h_t_sizes h_t_items h_t_moved v_m_hours v_m_months v_m_fitMany v_m_fitFirst v_m_finding v_m_typed v_m_texts v_m_diary v_m_longs v_m_worths)) [0, 2, 3, 4, 5, 6] (by decide) rfl) rfl rfl) rfl rfl hl.1 rfl (lv_room (Nat.le_of_ble_eq_true rfl)) dX8_count_61 ⟨Nat.zero_le _, Nat.zero_le _⟩) hS hA hP hD rfl (by decide) (by decide) rfl (by decide) rfl rfl (fun H locs hP hD hS => ?_)
              have hq0 := Option.some.inj hf
              obtain ⟨eq0, hq1⟩ := Prod.mk.inj hq0
              obtain ⟨eq1, hq2⟩ := Prod.mk.inj hq1
              obtain ⟨eq2, hq3⟩ := Prod.mk.inj hq2
              obtain ⟨eq3, hq4⟩ := Prod.mk.inj hq3
              clear hf hq0 hq1 hq2 hq3
              subst eq0
              subst eq1
              subst eq2
              subst eq3
              subst hq4
              exact W.iret hx hb hr (fun t ht hW => ⟨⟨_, (), rfl, rfl, by rw [ht]; exact hP, va_K.moved hW.alike hK, hD⟩, hS.F ht⟩) hS.2.2 dX8_count_64
            · rw [if_neg c1_5] at hf
              by_cases c1_6 : x1 = 6
              · rw [if_pos c1_6] at hf
                refine lv_tableIn (off := 64) (tgt := 65) hx hb dX8_count_1 (by rw [c1_6]; decide) (by rw [c1_6]; decide) (by rw [c1_6]; decide) (by decide) ?_
                refine lv_aload_n hx hb dX8_count_65 rfl (lv_at hl 0 rfl) ?_
                obtain ⟨r66_31, hc_32, hf⟩ := bd1_e hf
                refine vp_callSi (va_runV (As := []) (rest := []) ⟨hx, hb, hml, hown, hts⟩ (c_X8_roundNow l dC dI cI cZ cP cS h_t h_t_turns h_t_phases h_t_ups h_t_typed h_t_texts h_t_diary h_t_longs h_t_awakes h_t_fit h_t_counts h_t_worths h_t_ripes h_t_growths h_t_gains h_t_isThere h_t_forms h_t_sizes h_t_items h_t_moved v_m_hours v_m_months v_m_fitMany v_m_fitFirst v_m_finding v_m_turns  n r66_31 hc_32) (cwV 0 hts gX8_count_X8_roundNow rfl rfl rfl (by decide +kernel) ⟨Nat.le_of_ble_eq_true rfl, Nat.le_of_ble_eq_true rfl⟩) (pv_ro (ci := 7) (q0 := 0) hK (hP.sub (ws' := (wd_X8_roundNow cI cZ cP cS h_t h_t_turns h_t_phases h_t_ups h_t_typed h_t_texts h_t_diary h_t_longs h_t_awakes h_t_fit h_t_counts h_t_worths h_t_ripes h_t_growths h_t_gains h_t_isThere h_t_forms h_t_sizes h_t_items h_t_moved v_m_hours v_m_months v_m_fitMany v_m_fitFirst v_m_finding v_m_turns)) [0, 1] rfl) rfl rfl) rfl rfl hl.1 rfl (lv_room (Nat.le_of_ble_eq_true rfl)) dX8_count_66 ⟨Nat.zero_le _, Nat.zero_le _⟩).run (fun x e_33 => ?_)
                rw [e_33]
                have hq0 := Option.some.inj hf
                obtain ⟨eq0, hq1⟩ := Prod.mk.inj hq0
                obtain ⟨eq1, hq2⟩ := Prod.mk.inj hq1
                obtain ⟨eq2, hq3⟩ := Prod.mk.inj hq2
                obtain ⟨eq3, hq4⟩ := Prod.mk.inj hq3
                clear hf hq0 hq1 hq2 hq3
                subst eq0
                subst eq1
                subst eq2
                subst eq3
                subst hq4
                exact W.iret hx hb hr (fun t ht hW => ⟨⟨_, (), rfl, rfl, by rw [ht]; exact hP, va_K.moved hW.alike hK, hD⟩, hS.F ht⟩) hS.2.2 dX8_count_69
              · rw [if_neg c1_6] at hf
                by_cases c1_7 : x1 = 7
                · rw [if_pos c1_7] at hf
                  refine lv_tableIn (off := 58) (tgt := 59) hx hb dX8_count_1 (by rw [c1_7]; decide) (by rw [c1_7]; decide) (by rw [c1_7]; decide) (by decide) ?_
                  refine lv_aload_n hx hb dX8_count_59 rfl (lv_at hl 0 rfl) ?_
                  refine lv_iload_n hx hb dX8_count_60 rfl (lv_at hl 1 rfl) ?_
                  obtain ⟨r61_34, o61_35, o61_36, o61_37, o61_38, hc_39, hf⟩ := bd5_e hf
                  refine rwi_call (isC := [0, 2, 3, 4, 5, 6]) (isR := [1]) (perm := [1, 0, 2, 3, 4, 5, 6]) (wr := [(h_t_turns, .inl (cI, 2, .inl v_m_turns))]) (ws2 := (wd_X8_count cI cZ cP cS h_t h_t_turns h_t_phases h_t_ups h_t_typed h_t_texts h_t_diary h_t_longs h_t_awakes h_t_fit h_t_counts h_t_worths h_t_ripes h_t_growths h_t_gains h_t_isThere h_t_forms h_t_sizes h_t_items h_t_moved o61_35 o61_36 v_m_fitMany v_m_fitFirst v_m_finding v_m_turns v_m_typed v_m_texts o61_37 o61_38 v_m_worths)) (va_runV (As := [.int x1]) (rest := []) ⟨hx, hb, hml, hown, hts⟩ (c_X8_sumOf l dC dI cI cZ cP cS H.size h_t h_t_turns h_t_phases h_t_ups h_t_typed h_t_texts h_t_diary h_t_longs h_t_awakes h_t_fit h_t_counts h_t_worths h_t_ripes h_t_growths h_t_gains h_t_isThere h_t_forms h_t_sizes h_t_items h_t_moved v_m_hours v_m_months v_m_fitMany v_m_fitFirst v_m_finding v_m_typed v_m_texts v_m_diary v_m_longs v_m_worths x1 n r61_34 o61_35 o61_36 o61_37 o61_38 hc_39) (cwV 1 hts gX8_count_X8_sumOf rfl rfl rfl (by decide +kernel) ⟨Nat.le_of_ble_eq_true rfl, Nat.le_of_ble_eq_true rfl⟩) (pv_rw (ci := 7) (q0 := 0) hK (hP.sub (ws' := (wd_X8_sumOf cI cZ cP cS h_t h_t_turns h_t_phases h_t_ups h_t_typed h_t_texts h_t_diary h_t_longs h_t_awakes h_t_fit h_t_counts h_t_worths h_t_ripes h_t_growths h_t_gains h_t_isThere h_t_forms h_t_sizes h_t_items h_t_moved v_m_hours v_m_months v_m_fitMany v_m_fitFirst v_m_finding v_m_typed v_m_texts v_m_diary v_m_longs v_m_worths)) [0, 2, 3, 4, 5, 6] rfl) (hD.sub (ws' := (wd_X8_sumOf cI cZ cP cS h_t h_t_turns h_t_phases h_t_ups h_t_typed h_t_texts h_t_diary h_t_longs h_t_awakes h_t_fit h_t_counts h_t_worths h_t_ripes h_t_growths h_t_gains h_t_isThere h_t_forms h_t_sizes h_t_items h_t_moved v_m_hours v_m_months v_m_fitMany v_m_fitFirst v_m_finding v_m_typed v_m_texts v_m_diary v_m_longs v_m_worths)) [0, 2, 3, 4, 5, 6] (by decide) rfl) rfl rfl) rfl rfl hl.1 rfl (lv_room (Nat.le_of_ble_eq_true rfl)) dX8_count_61 ⟨Nat.zero_le _, Nat.zero_le _⟩) hS hA hP hD rfl (by decide) (by decide) rfl (by decide) rfl rfl (fun H locs hP hD hS => ?_)
                  have hq0 := Option.some.inj hf
                  obtain ⟨eq0, hq1⟩ := Prod.mk.inj hq0
                  obtain ⟨eq1, hq2⟩ := Prod.mk.inj hq1
                  obtain ⟨eq2, hq3⟩ := Prod.mk.inj hq2
                  obtain ⟨eq3, hq4⟩ := Prod.mk.inj hq3
                  clear hf hq0 hq1 hq2 hq3
                  subst eq0
                  subst eq1
                  subst eq2
                  subst eq3
                  subst hq4
                  exact W.iret hx hb hr (fun t ht hW => ⟨⟨_, (), rfl, rfl, by rw [ht]; exact hP, va_K.moved hW.alike hK, hD⟩, hS.F ht⟩) hS.2.2 dX8_count_64
                · rw [if_neg c1_7] at hf
                  by_cases c1_8 : x1 = 8
                  · rw [if_pos c1_8] at hf
                    refine lv_tableIn (off := 69) (tgt := 70) hx hb dX8_count_1 (by rw [c1_8]; decide) (by rw [c1_8]; decide) (by rw [c1_8]; decide) (by decide) ?_
                    refine lv_aload_n hx hb dX8_count_70 rfl (lv_at hl 0 rfl) ?_
                    refine va_get (D := (dC, dI)) (ci := 7) (v := .int v_m_finding) (C := RX8) (T := TX8) (N := 24) hx hb hts hinX8 hown hK hP 0 rfl rfl 23 (by decide) (hts (.fieldLink RX8 229 "SecondSunriseModel" "finding" "I") (by decide +kernel)) (fun _ h9 => h9) rfl dX8_count_71 ?_
                    have hq0 := Option.some.inj hf
                    obtain ⟨eq0, hq1⟩ := Prod.mk.inj hq0
                    obtain ⟨eq1, hq2⟩ := Prod.mk.inj hq1
                    obtain ⟨eq2, hq3⟩ := Prod.mk.inj hq2
                    obtain ⟨eq3, hq4⟩ := Prod.mk.inj hq3
                    clear hf hq0 hq1 hq2 hq3
                    subst eq0
                    subst eq1
                    subst eq2
                    subst eq3
                    subst hq4
                    exact W.iret hx hb hr (fun t ht hW => ⟨⟨_, (), rfl, rfl, by rw [ht]; exact hP, va_K.moved hW.alike hK, hD⟩, hS.F ht⟩) hS.2.2 dX8_count_74
                  · rw [if_neg c1_8] at hf
                    refine lv_tableOut (tgt := 75) hx hb dX8_count_1 (sw8 c1_0 c1_1 c1_2 c1_3 c1_4 c1_5 c1_6 c1_7 c1_8) (by decide) ?_
                    refine lv_bipush (v := (-2)) hx hb dX8_count_75 (by decide) ?_
                    have hq0 := Option.some.inj hf
                    obtain ⟨eq0, hq1⟩ := Prod.mk.inj hq0
                    obtain ⟨eq1, hq2⟩ := Prod.mk.inj hq1
                    obtain ⟨eq2, hq3⟩ := Prod.mk.inj hq2
                    obtain ⟨eq3, hq4⟩ := Prod.mk.inj hq3
                    clear hf hq0 hq1 hq2 hq3
                    subst eq0
                    subst eq1
                    subst eq2
                    subst eq3
                    subst hq4
                    exact W.iret hx hb hr (fun t ht hW => ⟨⟨_, (), rfl, rfl, by rw [ht]; exact hP, va_K.moved hW.alike hK, hD⟩, hS.F ht⟩) hS.2.2 dX8_count_77

abbrev wd_X8_cropOf (cI cZ cP cS : ClassId) (h_t h_t_turns h_t_phases h_t_ups h_t_typed h_t_texts h_t_diary h_t_longs h_t_awakes h_t_fit h_t_counts h_t_worths h_t_ripes h_t_growths h_t_gains h_t_isThere h_t_forms h_t_sizes h_t_items h_t_moved : Nat) (v_m_hours : Int32) (v_m_months : Int32) (v_m_fitMany : Int32) (v_m_fitFirst : Int32) (v_m_finding : Int32) (v_m_turns : Nat → Int32) (v_m_phases : Nat → Int32) (v_m_ups : Nat → Int32) (v_m_ripes : Nat → Int32) (v_m_growths : Nat → Int32) : va_W := [(h_t, .inr (7, [.ref h_t_turns, .ref h_t_phases, .ref h_t_ups, .ref h_t_typed, .ref h_t_texts, .int v_m_hours, .ref h_t_diary, .int v_m_months, .ref h_t_longs, .ref h_t_awakes, .ref h_t_fit, .int v_m_fitMany, .int v_m_fitFirst, .ref h_t_counts, .ref h_t_worths, .ref h_t_ripes, .ref h_t_growths, .ref h_t_gains, .ref h_t_isThere, .ref h_t_forms, .ref h_t_sizes, .ref h_t_items, .ref h_t_moved, .int v_m_finding])), (h_t_turns, .inl (cI, 2, .inl v_m_turns)), (h_t_phases, .inl (cI, 2, .inl v_m_phases)), (h_t_ups, .inl (cI, 2, .inl v_m_ups)), (h_t_ripes, .inl (cI, 4, .inl v_m_ripes)), (h_t_growths, .inl (cI, 16, .inl v_m_growths))]
abbrev rm_X8_cropOf : Room := { frames := 3, cells := 0, slots := 0, locals := 65 }
def L_X8_cropOf_5 (n : Nat) (v_m_turns : Nat → Int32) (v_m_phases : Nat → Int32) (v_m_ups : Nat → Int32) (v_m_ripes : Nat → Int32) (v_m_growths : Nat → Int32) (x1 : Int32) (x2 : Int32) (kx5 : Int32 → Option (Int32)) : Nat → Int32 → Int32 → Option (Int32)
  | 0, _, _ => none
  | k5 + 1, y5_3, y5_4 => ix_ x1 4 (if (x2 + (v_m_ripes x1.toNatClampNeg)) ≤ y5_4 then kx5 y5_3 else bd1_ (f_X8_lightOf n v_m_turns v_m_phases v_m_ups y5_4) (fun (r29_2 : Int32) => ix_ ((4 * x1) + r29_2) 16 (L_X8_cropOf_5 n v_m_turns v_m_phases v_m_ups v_m_ripes v_m_growths x1 x2 kx5 k5 (y5_3 + (v_m_growths ((4 * x1) + r29_2).toNatClampNeg)) (y5_4 + 1))))
theorem L_X8_cropOf_5_s (n : Nat) (v_m_turns : Nat → Int32) (v_m_phases : Nat → Int32) (v_m_ups : Nat → Int32) (v_m_ripes : Nat → Int32) (v_m_growths : Nat → Int32) (x1 : Int32) (x2 : Int32) (kx5 : Int32 → Option (Int32)) (k5 : Nat) (y5_3 : Int32) (y5_4 : Int32) : L_X8_cropOf_5 n v_m_turns v_m_phases v_m_ups v_m_ripes v_m_growths x1 x2 kx5 (k5 + 1) y5_3 y5_4 = ix_ x1 4 (if (x2 + (v_m_ripes x1.toNatClampNeg)) ≤ y5_4 then kx5 y5_3 else bd1_ (f_X8_lightOf n v_m_turns v_m_phases v_m_ups y5_4) (fun (r29_2 : Int32) => ix_ ((4 * x1) + r29_2) 16 (L_X8_cropOf_5 n v_m_turns v_m_phases v_m_ups v_m_ripes v_m_growths x1 x2 kx5 k5 (y5_3 + (v_m_growths ((4 * x1) + r29_2).toNatClampNeg)) (y5_4 + 1)))) := rfl
def f_X8_cropOf (n : Nat) (v_m_turns : Nat → Int32) (v_m_phases : Nat → Int32) (v_m_ups : Nat → Int32) (v_m_ripes : Nat → Int32) (v_m_growths : Nat → Int32) (x1 : Int32) (x2 : Int32) : Option (Int32) := jn1_ (fun (z5_3 : Int32) => if z5_3 ≤ 0 then some 0 else some z5_3) (fun kx5 => L_X8_cropOf_5 n v_m_turns v_m_phases v_m_ups v_m_ripes v_m_growths x1 x2 kx5 n 0 x2)
set_option maxHeartbeats 4000000 in
set_option maxRecDepth 100000 in
theorem c_X8_cropOf (l : Launch) (dC : Nat → ClassId) (dI : Nat → Nat → Nat) (cI cZ cP cS : ClassId) (h_t h_t_turns h_t_phases h_t_ups h_t_typed h_t_texts h_t_diary h_t_longs h_t_awakes h_t_fit h_t_counts h_t_worths h_t_ripes h_t_growths h_t_gains h_t_isThere h_t_forms h_t_sizes h_t_items h_t_moved : Nat) (v_m_hours : Int32) (v_m_months : Int32) (v_m_fitMany : Int32) (v_m_fitFirst : Int32) (v_m_finding : Int32) (v_m_turns : Nat → Int32) (v_m_phases : Nat → Int32) (v_m_ups : Nat → Int32) (v_m_ripes : Nat → Int32) (v_m_growths : Nat → Int32) (x1 : Int32) (x2 : Int32) (n : Nat) (r : Int32) (hf : f_X8_cropOf n v_m_turns v_m_phases v_m_ups v_m_ripes v_m_growths x1 x2 = some r) : Met l yX8_cropOf wsX8_cropOf rm_X8_cropOf (RO (dC, dI) (TY cI cZ cP cS) [.ref h_t, .int x1, .int x2] (wd_X8_cropOf cI cZ cP cS h_t h_t_turns h_t_phases h_t_ups h_t_typed h_t_texts h_t_diary h_t_longs h_t_awakes h_t_fit h_t_counts h_t_worths h_t_ripes h_t_growths h_t_gains h_t_isThere h_t_forms h_t_sizes h_t_items h_t_moved v_m_hours v_m_months v_m_fitMany v_m_fitFirst v_m_finding v_m_turns v_m_phases v_m_ups v_m_ripes v_m_growths)) (vp_Si (fun x => x = r)) 0 0 NF := by
  refine Met.ofW (cc := cX8_cropOf) (maxL := 5) (ret := (some .int)) (by decide) rfl ?_
  intro p e s m args below meth c s₁ B hml hv
  obtain ⟨rfl, hP, hK⟩ := hv
  have hx := B.exec
  have hb := B.bytes
  have hr := B.returns
  have hts := atoms_spec (ws := wsX8_cropOf) B.pre
  have hown : s.vm.findClass RX8 = some m.cls := findClass_of_methodNamed B.named
  have hlocks := B.notSynchronized
  have hinX8 : ∀ w ∈ wsX80, w ∈ wsX8_cropOf := by decide +kernel
  have hl := lv_entry ([.ref h_t, .int x1, .int x2]) (n := 5) (Nat.le_of_ble_eq_true rfl)
  rw [lg_entry_eq]
  generalize (lg_sl ([.ref h_t, .int x1, .int x2]) ++ List.replicate (5 - (lg_sl ([.ref h_t, .int x1, .int x2])).length) Slot.unset).toArray = ls at hl ⊢
  have hl : lv_has ls 5 [(0, .ref h_t), (1, .int x1), (2, .int x2)] := hl
  unfold f_X8_cropOf at hf
  refine lv_iconst (v := 0) hx hb dX8_cropOf_0 (by decide) ?_
  refine lv_istore_n (lv' := [(3, .int 0), (0, .ref h_t), (1, .int x1), (2, .int x2)]) hx hb dX8_cropOf_1 rfl hl (by decide) rfl (fun ls hl => ?_)
  refine lv_iload_n hx hb dX8_cropOf_2 rfl (lv_at hl 3 rfl) ?_
  refine lv_istore (lv' := [(4, .int x2), (3, .int 0), (0, .ref h_t), (1, .int x1), (2, .int x2)]) hx hb dX8_cropOf_3 hl (by decide) rfl (fun ls hl => ?_)
  obtain ⟨kx5, ekx5, hf⟩ := jn1_e hf
  have hx5 : ∀ (z5_3 : Int32) (ls : Array Slot), lv_has ls 5 [(3, .int z5_3)] → kx5 z5_3 = some r → W p l e (headSpec wsX8_cropOf rm_X8_cropOf).room s m ([.ref h_t, .int x1, .int x2] : List Value).toArray below meth c s.heap [] 0 0 (MQ below (vp_Si (fun x => x = r)) ([.ref h_t, .int x1, .int x2] : List Value).toArray s 0 0 NF) (F0 m 42 ls []) := by
    intro z5_3 ls hl hf
    rw [ekx5] at hf
    refine lv_iload_n hx hb dX8_cropOf_42 rfl (lv_at hl 0 rfl) ?_
    refine lv_if_le (tgt := 50) hx hb dX8_cropOf_43 (by decide) (fun c43 => ?_) (fun c43 => ?_)
    · rw [if_pos c43] at hf
      refine lv_iconst (v := 0) hx hb dX8_cropOf_50 (by decide) ?_
      exact W.iret hx hb hr (fun t ht hW => ⟨_, rfl, Option.some.inj hf, ht⟩) (fun _ h => nomatch h) dX8_cropOf_51
    · rw [if_neg c43] at hf
      refine lv_iload_n hx hb dX8_cropOf_46 rfl (lv_at hl 0 rfl) ?_
      refine lv_goto (tgt := 51) hx hb dX8_cropOf_47 (by decide) ?_
      exact W.iret hx hb hr (fun t ht hW => ⟨_, rfl, Option.some.inj hf, ht⟩) (fun _ h => nomatch h) dX8_cropOf_51
  have hL5 : ∀ (k5 : Nat) (y5_3 : Int32) (y5_4 : Int32) (ls : Array Slot), lv_has ls 5 [(0, .ref h_t), (1, .int x1), (2, .int x2), (3, .int y5_3), (4, .int y5_4)] → L_X8_cropOf_5 n v_m_turns v_m_phases v_m_ups v_m_ripes v_m_growths x1 x2 kx5 k5 y5_3 y5_4 = some r → W p l e (headSpec wsX8_cropOf rm_X8_cropOf).room s m ([.ref h_t, .int x1, .int x2] : List Value).toArray below meth c s.heap [] 0 0 (MQ below (vp_Si (fun x => x = r)) ([.ref h_t, .int x1, .int x2] : List Value).toArray s 0 0 NF) (F0 m 5 ls []) := by
    intro k5
    induction k5 with
    | zero =>
      intro y5_3 y5_4 ls hl hf
      exact absurd hf (fun h => Option.some_ne_none _ h.symm)
    | succ k5 ih =>
      intro y5_3 y5_4 ls hl hf
      rw [L_X8_cropOf_5_s] at hf
      refine lv_iload hx hb dX8_cropOf_5 (lv_at hl 4 rfl) ?_
      refine lv_iload_n hx hb dX8_cropOf_7 rfl (lv_at hl 2 rfl) ?_
      refine lv_aload_n hx hb dX8_cropOf_8 rfl (lv_at hl 0 rfl) ?_
      refine va_get (D := (dC, dI)) (ci := 7) (v := .ref h_t_ripes) (C := RX8) (T := TX8) (N := 24) hx hb hts hinX8 hown hK hP 0 rfl rfl 15 (by decide) (hts (.fieldLink RX8 44 "SecondSunriseModel" "ripes" "[I") (by decide +kernel)) (fun _ h9 => h9) rfl dX8_cropOf_9 ?_
      refine lv_iload_n hx hb dX8_cropOf_12 rfl (lv_at hl 1 rfl) ?_
      obtain ⟨hi_1, hf⟩ := ix_e hf
      refine va_iald hx hb hK hP 4 0 rfl rfl hi_1 dX8_cropOf_13 ?_
      refine lv_iadd hx hb dX8_cropOf_14 ?_
      refine lv_icmp_ge (tgt := 42) hx hb dX8_cropOf_15 (by decide) (fun c15 => ?_) (fun c15 => ?_)
      · rw [if_pos c15] at hf
        exact hx5 y5_3 ls (lv_sub hl [3] rfl) hf
      · rw [if_neg c15] at hf
        refine lv_iload_n hx hb dX8_cropOf_18 rfl (lv_at hl 3 rfl) ?_
        refine lv_aload_n hx hb dX8_cropOf_19 rfl (lv_at hl 0 rfl) ?_
        refine va_get (D := (dC, dI)) (ci := 7) (v := .ref h_t_growths) (C := RX8) (T := TX8) (N := 24) hx hb hts hinX8 hown hK hP 0 rfl rfl 16 (by decide) (hts (.fieldLink RX8 47 "SecondSunriseModel" "growths" "[I") (by decide +kernel)) (fun _ h9 => h9) rfl dX8_cropOf_20 ?_
        refine lv_iconst (v := 4) hx hb dX8_cropOf_23 (by decide) ?_
        refine lv_iload_n hx hb dX8_cropOf_24 rfl (lv_at hl 1 rfl) ?_
        refine lv_imul hx hb dX8_cropOf_25 ?_
        refine lv_aload_n hx hb dX8_cropOf_26 rfl (lv_at hl 0 rfl) ?_
        refine lv_iload hx hb dX8_cropOf_27 (lv_at hl 4 rfl) ?_
        obtain ⟨r29_2, hc_3, hf⟩ := bd1_e hf
        refine vp_callSi (va_runV (As := [.int y5_4]) (rest := [.int (4 * x1), .ref h_t_growths, .int y5_3]) ⟨hx, hb, hml, hown, hts⟩ (c_X8_lightOf l dC dI cI cZ cP cS h_t h_t_turns h_t_phases h_t_ups h_t_typed h_t_texts h_t_diary h_t_longs h_t_awakes h_t_fit h_t_counts h_t_worths h_t_ripes h_t_growths h_t_gains h_t_isThere h_t_forms h_t_sizes h_t_items h_t_moved v_m_hours v_m_months v_m_fitMany v_m_fitFirst v_m_finding v_m_turns v_m_phases v_m_ups y5_4 n r29_2 hc_3) (cwV 1 hts gX8_cropOf_X8_lightOf rfl rfl rfl (by decide +kernel) ⟨Nat.le_of_ble_eq_true rfl, Nat.le_of_ble_eq_true rfl⟩) (pv_ro (ci := 7) (q0 := 0) hK (hP.sub (ws' := (wd_X8_lightOf cI cZ cP cS h_t h_t_turns h_t_phases h_t_ups h_t_typed h_t_texts h_t_diary h_t_longs h_t_awakes h_t_fit h_t_counts h_t_worths h_t_ripes h_t_growths h_t_gains h_t_isThere h_t_forms h_t_sizes h_t_items h_t_moved v_m_hours v_m_months v_m_fitMany v_m_fitFirst v_m_finding v_m_turns v_m_phases v_m_ups)) [0, 1, 2, 3] rfl) rfl rfl) rfl rfl hl.1 rfl (lv_room (Nat.le_of_ble_eq_true rfl)) dX8_cropOf_29 ⟨Nat.zero_le _, Nat.zero_le _⟩).run (fun x e_4 => ?_)
        rw [e_4]
        refine lv_iadd hx hb dX8_cropOf_32 ?_
        obtain ⟨hi_5, hf⟩ := ix_e hf
        refine va_iald hx hb hK hP 5 0 rfl rfl hi_5 dX8_cropOf_33 ?_
        refine lv_iadd hx hb dX8_cropOf_34 ?_
        refine lv_istore_n (lv' := [(3, .int (y5_3 + (v_m_growths ((4 * x1) + r29_2).toNatClampNeg))), (0, .ref h_t), (1, .int x1), (2, .int x2), (4, .int y5_4)]) hx hb dX8_cropOf_35 rfl hl (by decide) rfl (fun ls hl => ?_)
        refine lv_iinc (v := (y5_4 + 1)) (lv' := [(4, .int (y5_4 + 1)), (3, .int (y5_3 + (v_m_growths ((4 * x1) + r29_2).toNatClampNeg))), (0, .ref h_t), (1, .int x1), (2, .int x2)]) hx hb dX8_cropOf_36 hl (k := 4) rfl rfl (by decide) rfl (fun ls hl => ?_)
        refine lv_goto (tgt := 5) hx hb dX8_cropOf_39 (by decide) ?_
        exact ih (y5_3 + (v_m_growths ((4 * x1) + r29_2).toNatClampNeg)) (y5_4 + 1) ls (lv_sub hl [2, 3, 4, 1, 0] rfl) hf
  exact hL5 n 0 x2 ls (lv_sub hl [2, 3, 4, 1, 0] rfl) hf

abbrev rm_X8_isPlant : Room := { frames := 1, cells := 0, slots := 0, locals := 22 }
def f_X8_isPlant (n : Nat) (x0 : Int32) : Option (Int32) := bd1_ (f_X8_in n x0 0 3) (fun (r3_1 : Int32) => some r3_1)
set_option maxHeartbeats 4000000 in
set_option maxRecDepth 100000 in
theorem c_X8_isPlant (l : Launch) (dC : Nat → ClassId) (dI : Nat → Nat → Nat) (cI cZ cP cS : ClassId) (x0 : Int32) (n : Nat) (r : Int32) (hf : f_X8_isPlant n x0 = some r) : Met l yX8_isPlant wsX8_isPlant rm_X8_isPlant (RO (dC, dI) (TY cI cZ cP cS) [.int x0] ([] : va_W)) (vp_Si (fun x => x = r ∧ narrow .boolean (.int x) = .int x)) 0 0 NF := by
  refine Met.ofW (cc := cX8_isPlant) (maxL := 1) (ret := (some .boolean)) (by decide) rfl ?_
  intro p e s m args below meth c s₁ B hml hv
  obtain ⟨rfl, hP, hK⟩ := hv
  have hx := B.exec
  have hb := B.bytes
  have hr := B.returns
  have hts := atoms_spec (ws := wsX8_isPlant) B.pre
  have hown : s.vm.findClass RX8 = some m.cls := findClass_of_methodNamed B.named
  have hlocks := B.notSynchronized
  have hl := lv_entry ([.int x0]) (n := 1) (Nat.le_of_ble_eq_true rfl)
  rw [lg_entry_eq]
  generalize (lg_sl ([.int x0]) ++ List.replicate (1 - (lg_sl ([.int x0])).length) Slot.unset).toArray = ls at hl ⊢
  have hl : lv_has ls 1 [(0, .int x0)] := hl
  unfold f_X8_isPlant at hf
  refine lv_iload_n hx hb dX8_isPlant_0 rfl (lv_at hl 0 rfl) ?_
  refine lv_iconst (v := 0) hx hb dX8_isPlant_1 (by decide) ?_
  refine lv_iconst (v := 3) hx hb dX8_isPlant_2 (by decide) ?_
  obtain ⟨r3_1, hc_2, hf⟩ := bd1_e hf
  refine vp_callSi (va_runS (As := [.int x0, .int 0, .int 3]) (rest := []) ⟨hx, hb, hml, hown, hts⟩ (c_X8_in l dC dI cI cZ cP cS   x0 0 3 n r3_1 hc_2) (va_cwS 3 hts gX8_isPlant_X8_in rfl rfl rfl (by decide +kernel) ⟨Nat.le_of_ble_eq_true rfl, Nat.le_of_ble_eq_true rfl⟩) (ps_ro hK (hP.sub (ws' := ([] : va_W)) [] rfl)) rfl rfl hl.1 rfl (lv_room (Nat.le_of_ble_eq_true rfl)) dX8_isPlant_3 ⟨Nat.zero_le _, Nat.zero_le _⟩).run (fun x e_3 => ?_)
  obtain ⟨e_3, hb_4⟩ := e_3
  rw [e_3] at hb_4 ⊢
  exact W.zret hx hb hr hb_4 (fun t ht hW => ⟨_, rfl, ⟨Option.some.inj hf, hb_4⟩, ht⟩) (fun _ h => nomatch h) dX8_isPlant_6

abbrev wd_X8_crop (cI cZ cP cS : ClassId) (h_t h_t_turns h_t_phases h_t_ups h_t_typed h_t_texts h_t_diary h_t_longs h_t_awakes h_t_fit h_t_counts h_t_worths h_t_ripes h_t_growths h_t_gains h_t_isThere h_t_forms h_t_sizes h_t_items h_t_moved : Nat) (v_m_hours : Int32) (v_m_months : Int32) (v_m_fitMany : Int32) (v_m_fitFirst : Int32) (v_m_finding : Int32) (v_m_turns : Nat → Int32) (v_m_phases : Nat → Int32) (v_m_ups : Nat → Int32) (v_m_ripes : Nat → Int32) (v_m_growths : Nat → Int32) : va_W := [(h_t, .inr (7, [.ref h_t_turns, .ref h_t_phases, .ref h_t_ups, .ref h_t_typed, .ref h_t_texts, .int v_m_hours, .ref h_t_diary, .int v_m_months, .ref h_t_longs, .ref h_t_awakes, .ref h_t_fit, .int v_m_fitMany, .int v_m_fitFirst, .ref h_t_counts, .ref h_t_worths, .ref h_t_ripes, .ref h_t_growths, .ref h_t_gains, .ref h_t_isThere, .ref h_t_forms, .ref h_t_sizes, .ref h_t_items, .ref h_t_moved, .int v_m_finding])), (h_t_turns, .inl (cI, 2, .inl v_m_turns)), (h_t_phases, .inl (cI, 2, .inl v_m_phases)), (h_t_ups, .inl (cI, 2, .inl v_m_ups)), (h_t_ripes, .inl (cI, 4, .inl v_m_ripes)), (h_t_growths, .inl (cI, 16, .inl v_m_growths))]
abbrev rm_X8_crop : Room := { frames := 4, cells := 0, slots := 0, locals := 89 }
def f_X8_crop (n : Nat) (v_m_turns : Nat → Int32) (v_m_phases : Nat → Int32) (v_m_ups : Nat → Int32) (v_m_ripes : Nat → Int32) (v_m_growths : Nat → Int32) (x1 : Int32) (x2 : Int32) : Option (Int32) := bd1_ (f_X8_isPlant n x1) (fun (r1_1 : Int32) => jn0_ (some (-2)) (fun k23 => if r1_1 = 0 then k23 else bd1_ (f_X8_isHour n x2) (fun (r8_5 : Int32) => if r8_5 = 0 then k23 else bd1_ (f_X8_cropOf n v_m_turns v_m_phases v_m_ups v_m_ripes v_m_growths x1 x2) (fun (r17_9 : Int32) => some r17_9))))
set_option maxHeartbeats 4000000 in
set_option maxRecDepth 100000 in
theorem c_X8_crop (l : Launch) (dC : Nat → ClassId) (dI : Nat → Nat → Nat) (cI cZ cP cS : ClassId) (h_t h_t_turns h_t_phases h_t_ups h_t_typed h_t_texts h_t_diary h_t_longs h_t_awakes h_t_fit h_t_counts h_t_worths h_t_ripes h_t_growths h_t_gains h_t_isThere h_t_forms h_t_sizes h_t_items h_t_moved : Nat) (v_m_hours : Int32) (v_m_months : Int32) (v_m_fitMany : Int32) (v_m_fitFirst : Int32) (v_m_finding : Int32) (v_m_turns : Nat → Int32) (v_m_phases : Nat → Int32) (v_m_ups : Nat → Int32) (v_m_ripes : Nat → Int32) (v_m_growths : Nat → Int32) (x1 : Int32) (x2 : Int32) (n : Nat) (r : Int32) (hf : f_X8_crop n v_m_turns v_m_phases v_m_ups v_m_ripes v_m_growths x1 x2 = some r) : Met l yX8_crop wsX8_crop rm_X8_crop (RO (dC, dI) (TY cI cZ cP cS) [.ref h_t, .int x1, .int x2] (wd_X8_crop cI cZ cP cS h_t h_t_turns h_t_phases h_t_ups h_t_typed h_t_texts h_t_diary h_t_longs h_t_awakes h_t_fit h_t_counts h_t_worths h_t_ripes h_t_growths h_t_gains h_t_isThere h_t_forms h_t_sizes h_t_items h_t_moved v_m_hours v_m_months v_m_fitMany v_m_fitFirst v_m_finding v_m_turns v_m_phases v_m_ups v_m_ripes v_m_growths)) (vp_Si (fun x => x = r)) 0 0 NF := by
  refine Met.ofW (cc := cX8_crop) (maxL := 3) (ret := (some .int)) (by decide) rfl ?_
  intro p e s m args below meth c s₁ B hml hv
  obtain ⟨rfl, hP, hK⟩ := hv
  have hx := B.exec
  have hb := B.bytes
  have hr := B.returns
  have hts := atoms_spec (ws := wsX8_crop) B.pre
  have hown : s.vm.findClass RX8 = some m.cls := findClass_of_methodNamed B.named
  have hlocks := B.notSynchronized
  have hl := lv_entry ([.ref h_t, .int x1, .int x2]) (n := 3) (Nat.le_of_ble_eq_true rfl)
  rw [lg_entry_eq]
  generalize (lg_sl ([.ref h_t, .int x1, .int x2]) ++ List.replicate (3 - (lg_sl ([.ref h_t, .int x1, .int x2])).length) Slot.unset).toArray = ls at hl ⊢
  have hl : lv_has ls 3 [(0, .ref h_t), (1, .int x1), (2, .int x2)] := hl
  unfold f_X8_crop at hf
  refine lv_iload_n hx hb dX8_crop_0 rfl (lv_at hl 1 rfl) ?_
  obtain ⟨r1_1, hc_2, hf⟩ := bd1_e hf
  refine vp_callSi (va_runS (As := [.int x1]) (rest := []) ⟨hx, hb, hml, hown, hts⟩ (c_X8_isPlant l dC dI cI cZ cP cS   x1 n r1_1 hc_2) (va_cwS 1 hts gX8_crop_X8_isPlant rfl rfl rfl (by decide +kernel) ⟨Nat.le_of_ble_eq_true rfl, Nat.le_of_ble_eq_true rfl⟩) (ps_ro hK (hP.sub (ws' := ([] : va_W)) [] rfl)) rfl rfl hl.1 rfl (lv_room (Nat.le_of_ble_eq_true rfl)) dX8_crop_1 ⟨Nat.zero_le _, Nat.zero_le _⟩).run (fun x e_3 => ?_)
  obtain ⟨e_3, hb_4⟩ := e_3
  rw [e_3] at hb_4 ⊢
  obtain ⟨k23, ek23, hf⟩ := jn0_e hf
  have hj23 : ∀ (ls : Array Slot), lv_has ls 3 [] → k23 = some r → W p l e (headSpec wsX8_crop rm_X8_crop).room s m ([.ref h_t, .int x1, .int x2] : List Value).toArray below meth c s.heap [] 0 0 (MQ below (vp_Si (fun x => x = r)) ([.ref h_t, .int x1, .int x2] : List Value).toArray s 0 0 NF) (F0 m 23 ls []) := by
    intro ls hl hf
    rw [ek23] at hf
    refine lv_bipush (v := (-2)) hx hb dX8_crop_23 (by decide) ?_
    exact W.iret hx hb hr (fun t ht hW => ⟨_, rfl, Option.some.inj hf, ht⟩) (fun _ h => nomatch h) dX8_crop_25
  refine lv_if_eq (tgt := 23) hx hb dX8_crop_4 (by decide) (fun c4 => ?_) (fun c4 => ?_)
  · rw [if_pos c4] at hf
    exact hj23 ls (lv_sub hl [] rfl) hf
  · rw [if_neg c4] at hf
    refine lv_iload_n hx hb dX8_crop_7 rfl (lv_at hl 2 rfl) ?_
    obtain ⟨r8_5, hc_6, hf⟩ := bd1_e hf
    refine vp_callSi (va_runS (As := [.int x2]) (rest := []) ⟨hx, hb, hml, hown, hts⟩ (c_X8_isHour l dC dI cI cZ cP cS   x2 n r8_5 hc_6) (va_cwS 1 hts gX8_crop_X8_isHour rfl rfl rfl (by decide +kernel) ⟨Nat.le_of_ble_eq_true rfl, Nat.le_of_ble_eq_true rfl⟩) (ps_ro hK (hP.sub (ws' := ([] : va_W)) [] rfl)) rfl rfl hl.1 rfl (lv_room (Nat.le_of_ble_eq_true rfl)) dX8_crop_8 ⟨Nat.zero_le _, Nat.zero_le _⟩).run (fun x e_7 => ?_)
    obtain ⟨e_7, hb_8⟩ := e_7
    rw [e_7] at hb_8 ⊢
    refine lv_if_eq (tgt := 23) hx hb dX8_crop_11 (by decide) (fun c11 => ?_) (fun c11 => ?_)
    · rw [if_pos c11] at hf
      exact hj23 ls (lv_sub hl [] rfl) hf
    · rw [if_neg c11] at hf
      refine lv_aload_n hx hb dX8_crop_14 rfl (lv_at hl 0 rfl) ?_
      refine lv_iload_n hx hb dX8_crop_15 rfl (lv_at hl 1 rfl) ?_
      refine lv_iload_n hx hb dX8_crop_16 rfl (lv_at hl 2 rfl) ?_
      obtain ⟨r17_9, hc_10, hf⟩ := bd1_e hf
      refine vp_callSi (va_runV (As := [.int x1, .int x2]) (rest := []) ⟨hx, hb, hml, hown, hts⟩ (c_X8_cropOf l dC dI cI cZ cP cS h_t h_t_turns h_t_phases h_t_ups h_t_typed h_t_texts h_t_diary h_t_longs h_t_awakes h_t_fit h_t_counts h_t_worths h_t_ripes h_t_growths h_t_gains h_t_isThere h_t_forms h_t_sizes h_t_items h_t_moved v_m_hours v_m_months v_m_fitMany v_m_fitFirst v_m_finding v_m_turns v_m_phases v_m_ups v_m_ripes v_m_growths x1 x2 n r17_9 hc_10) (cwV 2 hts gX8_crop_X8_cropOf rfl rfl rfl (by decide +kernel) ⟨Nat.le_of_ble_eq_true rfl, Nat.le_of_ble_eq_true rfl⟩) (pv_ro (ci := 7) (q0 := 0) hK (hP.sub (ws' := (wd_X8_cropOf cI cZ cP cS h_t h_t_turns h_t_phases h_t_ups h_t_typed h_t_texts h_t_diary h_t_longs h_t_awakes h_t_fit h_t_counts h_t_worths h_t_ripes h_t_growths h_t_gains h_t_isThere h_t_forms h_t_sizes h_t_items h_t_moved v_m_hours v_m_months v_m_fitMany v_m_fitFirst v_m_finding v_m_turns v_m_phases v_m_ups v_m_ripes v_m_growths)) [0, 1, 2, 3, 4, 5] rfl) rfl rfl) rfl rfl hl.1 rfl (lv_room (Nat.le_of_ble_eq_true rfl)) dX8_crop_17 ⟨Nat.zero_le _, Nat.zero_le _⟩).run (fun x e_11 => ?_)
      rw [e_11]
      refine lv_goto (tgt := 25) hx hb dX8_crop_20 (by decide) ?_
      exact W.iret hx hb hr (fun t ht hW => ⟨_, rfl, Option.some.inj hf, ht⟩) (fun _ h => nomatch h) dX8_crop_25

abbrev wd_X8_dialOf (cI cZ cP cS : ClassId) (h_t h_t_turns h_t_phases h_t_ups h_t_typed h_t_texts h_t_diary h_t_longs h_t_awakes h_t_fit h_t_counts h_t_worths h_t_ripes h_t_growths h_t_gains h_t_isThere h_t_forms h_t_sizes h_t_items h_t_moved : Nat) (v_m_hours : Int32) (v_m_months : Int32) (v_m_fitMany : Int32) (v_m_fitFirst : Int32) (v_m_finding : Int32) (v_m_turns : Nat → Int32) (v_m_phases : Nat → Int32) (v_m_ups : Nat → Int32) : va_W := [(h_t, .inr (7, [.ref h_t_turns, .ref h_t_phases, .ref h_t_ups, .ref h_t_typed, .ref h_t_texts, .int v_m_hours, .ref h_t_diary, .int v_m_months, .ref h_t_longs, .ref h_t_awakes, .ref h_t_fit, .int v_m_fitMany, .int v_m_fitFirst, .ref h_t_counts, .ref h_t_worths, .ref h_t_ripes, .ref h_t_growths, .ref h_t_gains, .ref h_t_isThere, .ref h_t_forms, .ref h_t_sizes, .ref h_t_items, .ref h_t_moved, .int v_m_finding])), (h_t_turns, .inl (cI, 2, .inl v_m_turns)), (h_t_phases, .inl (cI, 2, .inl v_m_phases)), (h_t_ups, .inl (cI, 2, .inl v_m_ups))]
abbrev rm_X8_dialOf : Room := { frames := 2, cells := 0, slots := 0, locals := 44 }
def f_X8_dialOf (n : Nat) (v_m_turns : Nat → Int32) (v_m_phases : Nat → Int32) (v_m_ups : Nat → Int32) (x1 : Int32) (x2 : Int32) : Option (Int32) := bd1_ (f_X8_isUp n v_m_turns v_m_phases v_m_ups x1 x2) (fun (r3_1 : Int32) => if r3_1 = 0 then some (-1) else bd1_ (f_X8_placeOf n v_m_turns v_m_phases x1 x2) (fun (r12_5 : Int32) => some r12_5))
set_option maxHeartbeats 4000000 in
set_option maxRecDepth 100000 in
theorem c_X8_dialOf (l : Launch) (dC : Nat → ClassId) (dI : Nat → Nat → Nat) (cI cZ cP cS : ClassId) (h_t h_t_turns h_t_phases h_t_ups h_t_typed h_t_texts h_t_diary h_t_longs h_t_awakes h_t_fit h_t_counts h_t_worths h_t_ripes h_t_growths h_t_gains h_t_isThere h_t_forms h_t_sizes h_t_items h_t_moved : Nat) (v_m_hours : Int32) (v_m_months : Int32) (v_m_fitMany : Int32) (v_m_fitFirst : Int32) (v_m_finding : Int32) (v_m_turns : Nat → Int32) (v_m_phases : Nat → Int32) (v_m_ups : Nat → Int32) (x1 : Int32) (x2 : Int32) (n : Nat) (r : Int32) (hf : f_X8_dialOf n v_m_turns v_m_phases v_m_ups x1 x2 = some r) : Met l yX8_dialOf wsX8_dialOf rm_X8_dialOf (RO (dC, dI) (TY cI cZ cP cS) [.ref h_t, .int x1, .int x2] (wd_X8_dialOf cI cZ cP cS h_t h_t_turns h_t_phases h_t_ups h_t_typed h_t_texts h_t_diary h_t_longs h_t_awakes h_t_fit h_t_counts h_t_worths h_t_ripes h_t_growths h_t_gains h_t_isThere h_t_forms h_t_sizes h_t_items h_t_moved v_m_hours v_m_months v_m_fitMany v_m_fitFirst v_m_finding v_m_turns v_m_phases v_m_ups)) (vp_Si (fun x => x = r)) 0 0 NF := by
  refine Met.ofW (cc := cX8_dialOf) (maxL := 3) (ret := (some .int)) (by decide) rfl ?_
  intro p e s m args below meth c s₁ B hml hv
  obtain ⟨rfl, hP, hK⟩ := hv
  have hx := B.exec
  have hb := B.bytes
  have hr := B.returns
  have hts := atoms_spec (ws := wsX8_dialOf) B.pre
  have hown : s.vm.findClass RX8 = some m.cls := findClass_of_methodNamed B.named
  have hlocks := B.notSynchronized
  have hl := lv_entry ([.ref h_t, .int x1, .int x2]) (n := 3) (Nat.le_of_ble_eq_true rfl)
  rw [lg_entry_eq]
  generalize (lg_sl ([.ref h_t, .int x1, .int x2]) ++ List.replicate (3 - (lg_sl ([.ref h_t, .int x1, .int x2])).length) Slot.unset).toArray = ls at hl ⊢
  have hl : lv_has ls 3 [(0, .ref h_t), (1, .int x1), (2, .int x2)] := hl
  unfold f_X8_dialOf at hf
  refine lv_aload_n hx hb dX8_dialOf_0 rfl (lv_at hl 0 rfl) ?_
  refine lv_iload_n hx hb dX8_dialOf_1 rfl (lv_at hl 1 rfl) ?_
  refine lv_iload_n hx hb dX8_dialOf_2 rfl (lv_at hl 2 rfl) ?_
  obtain ⟨r3_1, hc_2, hf⟩ := bd1_e hf
  refine vp_callSi (va_runV (As := [.int x1, .int x2]) (rest := []) ⟨hx, hb, hml, hown, hts⟩ (c_X8_isUp l dC dI cI cZ cP cS h_t h_t_turns h_t_phases h_t_ups h_t_typed h_t_texts h_t_diary h_t_longs h_t_awakes h_t_fit h_t_counts h_t_worths h_t_ripes h_t_growths h_t_gains h_t_isThere h_t_forms h_t_sizes h_t_items h_t_moved v_m_hours v_m_months v_m_fitMany v_m_fitFirst v_m_finding v_m_turns v_m_phases v_m_ups x1 x2 n r3_1 hc_2) (cwV 2 hts gX8_dialOf_X8_isUp rfl rfl rfl (by decide +kernel) ⟨Nat.le_of_ble_eq_true rfl, Nat.le_of_ble_eq_true rfl⟩) (pv_ro (ci := 7) (q0 := 0) hK (hP.sub (ws' := (wd_X8_isUp cI cZ cP cS h_t h_t_turns h_t_phases h_t_ups h_t_typed h_t_texts h_t_diary h_t_longs h_t_awakes h_t_fit h_t_counts h_t_worths h_t_ripes h_t_growths h_t_gains h_t_isThere h_t_forms h_t_sizes h_t_items h_t_moved v_m_hours v_m_months v_m_fitMany v_m_fitFirst v_m_finding v_m_turns v_m_phases v_m_ups)) [0, 1, 2, 3] rfl) rfl rfl) rfl rfl hl.1 rfl (lv_room (Nat.le_of_ble_eq_true rfl)) dX8_dialOf_3 ⟨Nat.zero_le _, Nat.zero_le _⟩).run (fun x e_3 => ?_)
  obtain ⟨e_3, hb_4⟩ := e_3
  rw [e_3] at hb_4 ⊢
  refine lv_if_eq (tgt := 18) hx hb dX8_dialOf_6 (by decide) (fun c6 => ?_) (fun c6 => ?_)
  · rw [if_pos c6] at hf
    refine lv_iconst (v := (-1)) hx hb dX8_dialOf_18 (by decide) ?_
    exact W.iret hx hb hr (fun t ht hW => ⟨_, rfl, Option.some.inj hf, ht⟩) (fun _ h => nomatch h) dX8_dialOf_19
  · rw [if_neg c6] at hf
    refine lv_aload_n hx hb dX8_dialOf_9 rfl (lv_at hl 0 rfl) ?_
    refine lv_iload_n hx hb dX8_dialOf_10 rfl (lv_at hl 1 rfl) ?_
    refine lv_iload_n hx hb dX8_dialOf_11 rfl (lv_at hl 2 rfl) ?_
    obtain ⟨r12_5, hc_6, hf⟩ := bd1_e hf
    refine vp_callSi (va_runV (As := [.int x1, .int x2]) (rest := []) ⟨hx, hb, hml, hown, hts⟩ (c_X8_placeOf l dC dI cI cZ cP cS h_t h_t_turns h_t_phases h_t_ups h_t_typed h_t_texts h_t_diary h_t_longs h_t_awakes h_t_fit h_t_counts h_t_worths h_t_ripes h_t_growths h_t_gains h_t_isThere h_t_forms h_t_sizes h_t_items h_t_moved v_m_hours v_m_months v_m_fitMany v_m_fitFirst v_m_finding v_m_turns v_m_phases x1 x2 n r12_5 hc_6) (cwV 2 hts gX8_dialOf_X8_placeOf rfl rfl rfl (by decide +kernel) ⟨Nat.le_of_ble_eq_true rfl, Nat.le_of_ble_eq_true rfl⟩) (pv_ro (ci := 7) (q0 := 0) hK (hP.sub (ws' := (wd_X8_placeOf cI cZ cP cS h_t h_t_turns h_t_phases h_t_ups h_t_typed h_t_texts h_t_diary h_t_longs h_t_awakes h_t_fit h_t_counts h_t_worths h_t_ripes h_t_growths h_t_gains h_t_isThere h_t_forms h_t_sizes h_t_items h_t_moved v_m_hours v_m_months v_m_fitMany v_m_fitFirst v_m_finding v_m_turns v_m_phases)) [0, 1, 2] rfl) rfl rfl) rfl rfl hl.1 rfl (lv_room (Nat.le_of_ble_eq_true rfl)) dX8_dialOf_12 ⟨Nat.zero_le _, Nat.zero_le _⟩).run (fun x e_7 => ?_)
    rw [e_7]
    refine lv_goto (tgt := 19) hx hb dX8_dialOf_15 (by decide) ?_
    exact W.iret hx hb hr (fun t ht hW => ⟨_, rfl, Option.some.inj hf, ht⟩) (fun _ h => nomatch h) dX8_dialOf_19

abbrev wd_X8_dialsOf (cI cZ cP cS : ClassId) (h_t h_t_turns h_t_phases h_t_ups h_t_typed h_t_texts h_t_diary h_t_longs h_t_awakes h_t_fit h_t_counts h_t_worths h_t_ripes h_t_growths h_t_gains h_t_isThere h_t_forms h_t_sizes h_t_items h_t_moved : Nat) (v_m_hours : Int32) (v_m_months : Int32) (v_m_fitMany : Int32) (v_m_fitFirst : Int32) (v_m_finding : Int32) (v_m_turns : Nat → Int32) (v_m_phases : Nat → Int32) (v_m_ups : Nat → Int32) : va_W := [(h_t, .inr (7, [.ref h_t_turns, .ref h_t_phases, .ref h_t_ups, .ref h_t_typed, .ref h_t_texts, .int v_m_hours, .ref h_t_diary, .int v_m_months, .ref h_t_longs, .ref h_t_awakes, .ref h_t_fit, .int v_m_fitMany, .int v_m_fitFirst, .ref h_t_counts, .ref h_t_worths, .ref h_t_ripes, .ref h_t_growths, .ref h_t_gains, .ref h_t_isThere, .ref h_t_forms, .ref h_t_sizes, .ref h_t_items, .ref h_t_moved, .int v_m_finding])), (h_t_turns, .inl (cI, 2, .inl v_m_turns)), (h_t_phases, .inl (cI, 2, .inl v_m_phases)), (h_t_ups, .inl (cI, 2, .inl v_m_ups))]
abbrev rm_X8_dialsOf : Room := { frames := 3, cells := 0, slots := 0, locals := 66 }
def L_X8_dialsOf_15 (n : Nat) (v_m_turns : Nat → Int32) (v_m_phases : Nat → Int32) (v_m_ups : Nat → Int32) (x1 : Int32) (x2 : Int32) (r1_1 : Int32) (kx15 : Int32 → Int32 → Option (Int32)) : Nat → Int32 → Int32 → Int32 → Option (Int32)
  | 0, _, _, _ => none
  | k15 + 1, y15_5, y15_6, y15_7 => if r1_1 ≤ y15_7 then kx15 y15_5 y15_6 else bd1_ (f_X8_dialOf n v_m_turns v_m_phases v_m_ups 0 y15_7) (fun (r26_4 : Int32) => jn1_ (fun (q49_0 : Int32) => jn1_ (fun (q68_0 : Int32) => lt_ ((if q49_0 = 0 then 0 else 1) : Int32) (fun v82_7 => L_X8_dialsOf_15 n v_m_turns v_m_phases v_m_ups x1 x2 r1_1 kx15 k15 (y15_5 + v82_7) q68_0 (y15_7 + 1))) (fun k68 => jn0_ (k68 y15_6) (fun k66 => if q49_0 = 0 then k66 else if y15_5 = 0 then k68 y15_7 else k66))) (fun k49 => jn0_ (k49 0) (fun k48 => if r26_4 = x1 then bd1_ (f_X8_dialOf n v_m_turns v_m_phases v_m_ups 1 y15_7) (fun (r37_9 : Int32) => if r37_9 = x2 then k49 1 else k48) else k48)))
theorem L_X8_dialsOf_15_s (n : Nat) (v_m_turns : Nat → Int32) (v_m_phases : Nat → Int32) (v_m_ups : Nat → Int32) (x1 : Int32) (x2 : Int32) (r1_1 : Int32) (kx15 : Int32 → Int32 → Option (Int32)) (k15 : Nat) (y15_5 : Int32) (y15_6 : Int32) (y15_7 : Int32) : L_X8_dialsOf_15 n v_m_turns v_m_phases v_m_ups x1 x2 r1_1 kx15 (k15 + 1) y15_5 y15_6 y15_7 = if r1_1 ≤ y15_7 then kx15 y15_5 y15_6 else bd1_ (f_X8_dialOf n v_m_turns v_m_phases v_m_ups 0 y15_7) (fun (r26_4 : Int32) => jn1_ (fun (q49_0 : Int32) => jn1_ (fun (q68_0 : Int32) => lt_ ((if q49_0 = 0 then 0 else 1) : Int32) (fun v82_7 => L_X8_dialsOf_15 n v_m_turns v_m_phases v_m_ups x1 x2 r1_1 kx15 k15 (y15_5 + v82_7) q68_0 (y15_7 + 1))) (fun k68 => jn0_ (k68 y15_6) (fun k66 => if q49_0 = 0 then k66 else if y15_5 = 0 then k68 y15_7 else k66))) (fun k49 => jn0_ (k49 0) (fun k48 => if r26_4 = x1 then bd1_ (f_X8_dialOf n v_m_turns v_m_phases v_m_ups 1 y15_7) (fun (r37_9 : Int32) => if r37_9 = x2 then k49 1 else k48) else k48))) := rfl
def f_X8_dialsOf (n : Nat) (v_m_turns : Nat → Int32) (v_m_phases : Nat → Int32) (v_m_ups : Nat → Int32) (x1 : Int32) (x2 : Int32) (x3 : Int32) : Option (Int32) := bd1_ (f_X8_roundNow n v_m_turns) (fun (r1_1 : Int32) => jn2_ (fun (z15_5 : Int32) (z15_6 : Int32) => if x3 = 0 then some z15_5 else some z15_6) (fun kx15 => L_X8_dialsOf_15 n v_m_turns v_m_phases v_m_ups x1 x2 r1_1 kx15 n 0 (-1) 0))
set_option maxHeartbeats 4000000 in
set_option maxRecDepth 100000 in
theorem c_X8_dialsOf (l : Launch) (dC : Nat → ClassId) (dI : Nat → Nat → Nat) (cI cZ cP cS : ClassId) (h_t h_t_turns h_t_phases h_t_ups h_t_typed h_t_texts h_t_diary h_t_longs h_t_awakes h_t_fit h_t_counts h_t_worths h_t_ripes h_t_growths h_t_gains h_t_isThere h_t_forms h_t_sizes h_t_items h_t_moved : Nat) (v_m_hours : Int32) (v_m_months : Int32) (v_m_fitMany : Int32) (v_m_fitFirst : Int32) (v_m_finding : Int32) (v_m_turns : Nat → Int32) (v_m_phases : Nat → Int32) (v_m_ups : Nat → Int32) (x1 : Int32) (x2 : Int32) (x3 : Int32) (n : Nat) (r : Int32) (hf : f_X8_dialsOf n v_m_turns v_m_phases v_m_ups x1 x2 x3 = some r) : Met l yX8_dialsOf wsX8_dialsOf rm_X8_dialsOf (RO (dC, dI) (TY cI cZ cP cS) [.ref h_t, .int x1, .int x2, .int x3] (wd_X8_dialsOf cI cZ cP cS h_t h_t_turns h_t_phases h_t_ups h_t_typed h_t_texts h_t_diary h_t_longs h_t_awakes h_t_fit h_t_counts h_t_worths h_t_ripes h_t_growths h_t_gains h_t_isThere h_t_forms h_t_sizes h_t_items h_t_moved v_m_hours v_m_months v_m_fitMany v_m_fitFirst v_m_finding v_m_turns v_m_phases v_m_ups)) (vp_Si (fun x => x = r)) 0 0 NF := by
  refine Met.ofW (cc := cX8_dialsOf) (maxL := 9) (ret := (some .int)) (by decide) rfl ?_
  intro p e s m args below meth c s₁ B hml hv
  obtain ⟨rfl, hP, hK⟩ := hv
  have hx := B.exec
  have hb := B.bytes
  have hr := B.returns
  have hts := atoms_spec (ws := wsX8_dialsOf) B.pre
  have hown : s.vm.findClass RX8 = some m.cls := findClass_of_methodNamed B.named
  have hlocks := B.notSynchronized
  have hl := lv_entry ([.ref h_t, .int x1, .int x2, .int x3]) (n := 9) (Nat.le_of_ble_eq_true rfl)
  rw [lg_entry_eq]
  generalize (lg_sl ([.ref h_t, .int x1, .int x2, .int x3]) ++ List.replicate (9 - (lg_sl ([.ref h_t, .int x1, .int x2, .int x3])).length) Slot.unset).toArray = ls at hl ⊢
  have hl : lv_has ls 9 [(0, .ref h_t), (1, .int x1), (2, .int x2), (3, .int x3)] := hl
  unfold f_X8_dialsOf at hf
  refine lv_aload_n hx hb dX8_dialsOf_0 rfl (lv_at hl 0 rfl) ?_
  obtain ⟨r1_1, hc_2, hf⟩ := bd1_e hf
  refine vp_callSi (va_runV (As := []) (rest := []) ⟨hx, hb, hml, hown, hts⟩ (c_X8_roundNow l dC dI cI cZ cP cS h_t h_t_turns h_t_phases h_t_ups h_t_typed h_t_texts h_t_diary h_t_longs h_t_awakes h_t_fit h_t_counts h_t_worths h_t_ripes h_t_growths h_t_gains h_t_isThere h_t_forms h_t_sizes h_t_items h_t_moved v_m_hours v_m_months v_m_fitMany v_m_fitFirst v_m_finding v_m_turns  n r1_1 hc_2) (cwV 0 hts gX8_dialsOf_X8_roundNow rfl rfl rfl (by decide +kernel) ⟨Nat.le_of_ble_eq_true rfl, Nat.le_of_ble_eq_true rfl⟩) (pv_ro (ci := 7) (q0 := 0) hK (hP.sub (ws' := (wd_X8_roundNow cI cZ cP cS h_t h_t_turns h_t_phases h_t_ups h_t_typed h_t_texts h_t_diary h_t_longs h_t_awakes h_t_fit h_t_counts h_t_worths h_t_ripes h_t_growths h_t_gains h_t_isThere h_t_forms h_t_sizes h_t_items h_t_moved v_m_hours v_m_months v_m_fitMany v_m_fitFirst v_m_finding v_m_turns)) [0, 1] rfl) rfl rfl) rfl rfl hl.1 rfl (lv_room (Nat.le_of_ble_eq_true rfl)) dX8_dialsOf_1 ⟨Nat.zero_le _, Nat.zero_le _⟩).run (fun x e_3 => ?_)
  rw [e_3]
  refine lv_istore (lv' := [(4, .int r1_1), (0, .ref h_t), (1, .int x1), (2, .int x2), (3, .int x3)]) hx hb dX8_dialsOf_4 hl (by decide) rfl (fun ls hl => ?_)
  refine lv_iconst (v := 0) hx hb dX8_dialsOf_6 (by decide) ?_
  refine lv_istore (lv' := [(5, .int 0), (4, .int r1_1), (0, .ref h_t), (1, .int x1), (2, .int x2), (3, .int x3)]) hx hb dX8_dialsOf_7 hl (by decide) rfl (fun ls hl => ?_)
  refine lv_iconst (v := (-1)) hx hb dX8_dialsOf_9 (by decide) ?_
  refine lv_istore (lv' := [(6, .int (-1)), (5, .int 0), (4, .int r1_1), (0, .ref h_t), (1, .int x1), (2, .int x2), (3, .int x3)]) hx hb dX8_dialsOf_10 hl (by decide) rfl (fun ls hl => ?_)
  refine lv_iconst (v := 0) hx hb dX8_dialsOf_12 (by decide) ?_
  refine lv_istore (lv' := [(7, .int 0), (6, .int (-1)), (5, .int 0), (4, .int r1_1), (0, .ref h_t), (1, .int x1), (2, .int x2), (3, .int x3)]) hx hb dX8_dialsOf_13 hl (by decide) rfl (fun ls hl => ?_)
  obtain ⟨kx15, ekx15, hf⟩ := jn2_e hf
  have hx15 : ∀ (z15_5 : Int32) (z15_6 : Int32) (ls : Array Slot), lv_has ls 9 [(3, .int x3), (5, .int z15_5), (6, .int z15_6)] → kx15 z15_5 z15_6 = some r → W p l e (headSpec wsX8_dialsOf rm_X8_dialsOf).room s m ([.ref h_t, .int x1, .int x2, .int x3] : List Value).toArray below meth c s.heap [] 0 0 (MQ below (vp_Si (fun x => x = r)) ([.ref h_t, .int x1, .int x2, .int x3] : List Value).toArray s 0 0 NF) (F0 m 91 ls []) := by
    intro z15_5 z15_6 ls hl hf
    rw [ekx15] at hf
    refine lv_iload_n hx hb dX8_dialsOf_91 rfl (lv_at hl 0 rfl) ?_
    refine lv_if_ne (tgt := 100) hx hb dX8_dialsOf_92 (by decide) (fun c92 => ?_) (fun c92 => ?_)
    · rw [if_neg c92] at hf
      refine lv_iload hx hb dX8_dialsOf_100 (lv_at hl 2 rfl) ?_
      exact W.iret hx hb hr (fun t ht hW => ⟨_, rfl, Option.some.inj hf, ht⟩) (fun _ h => nomatch h) dX8_dialsOf_102
    · rw [if_pos c92] at hf
      refine lv_iload hx hb dX8_dialsOf_95 (lv_at hl 1 rfl) ?_
      refine lv_goto (tgt := 102) hx hb dX8_dialsOf_97 (by decide) ?_
      exact W.iret hx hb hr (fun t ht hW => ⟨_, rfl, Option.some.inj hf, ht⟩) (fun _ h => nomatch h) dX8_dialsOf_102
  have hL15 : ∀ (k15 : Nat) (y15_5 : Int32) (y15_6 : Int32) (y15_7 : Int32) (ls : Array Slot), lv_has ls 9 [(0, .ref h_t), (1, .int x1), (2, .int x2), (3, .int x3), (4, .int r1_1), (5, .int y15_5), (6, .int y15_6), (7, .int y15_7)] → L_X8_dialsOf_15 n v_m_turns v_m_phases v_m_ups x1 x2 r1_1 kx15 k15 y15_5 y15_6 y15_7 = some r → W p l e (headSpec wsX8_dialsOf rm_X8_dialsOf).room s m ([.ref h_t, .int x1, .int x2, .int x3] : List Value).toArray below meth c s.heap [] 0 0 (MQ below (vp_Si (fun x => x = r)) ([.ref h_t, .int x1, .int x2, .int x3] : List Value).toArray s 0 0 NF) (F0 m 15 ls []) := by
    intro k15
    induction k15 with
    | zero =>
      intro y15_5 y15_6 y15_7 ls hl hf
      exact absurd hf (fun h => Option.some_ne_none _ h.symm)
    | succ k15 ih =>
      intro y15_5 y15_6 y15_7 ls hl hf
      rw [L_X8_dialsOf_15_s] at hf
      refine lv_iload hx hb dX8_dialsOf_15 (lv_at hl 7 rfl) ?_
      refine lv_iload hx hb dX8_dialsOf_17 (lv_at hl 4 rfl) ?_
      refine lv_icmp_ge (tgt := 91) hx hb dX8_dialsOf_19 (by decide) (fun c19 => ?_) (fun c19 => ?_)
      · rw [if_pos c19] at hf
        exact hx15 y15_5 y15_6 ls (lv_sub hl [3, 5, 6] rfl) hf
      · rw [if_neg c19] at hf
        refine lv_aload_n hx hb dX8_dialsOf_22 rfl (lv_at hl 0 rfl) ?_
        refine lv_iconst (v := 0) hx hb dX8_dialsOf_23 (by decide) ?_
        refine lv_iload hx hb dX8_dialsOf_24 (lv_at hl 7 rfl) ?_
        obtain ⟨r26_4, hc_5, hf⟩ := bd1_e hf
        refine vp_callSi (va_runV (As := [.int 0, .int y15_7]) (rest := []) ⟨hx, hb, hml, hown, hts⟩ (c_X8_dialOf l dC dI cI cZ cP cS h_t h_t_turns h_t_phases h_t_ups h_t_typed h_t_texts h_t_diary h_t_longs h_t_awakes h_t_fit h_t_counts h_t_worths h_t_ripes h_t_growths h_t_gains h_t_isThere h_t_forms h_t_sizes h_t_items h_t_moved v_m_hours v_m_months v_m_fitMany v_m_fitFirst v_m_finding v_m_turns v_m_phases v_m_ups 0 y15_7 n r26_4 hc_5) (cwV 2 hts gX8_dialsOf_X8_dialOf rfl rfl rfl (by decide +kernel) ⟨Nat.le_of_ble_eq_true rfl, Nat.le_of_ble_eq_true rfl⟩) (pv_ro (ci := 7) (q0 := 0) hK (hP.sub (ws' := (wd_X8_dialOf cI cZ cP cS h_t h_t_turns h_t_phases h_t_ups h_t_typed h_t_texts h_t_diary h_t_longs h_t_awakes h_t_fit h_t_counts h_t_worths h_t_ripes h_t_growths h_t_gains h_t_isThere h_t_forms h_t_sizes h_t_items h_t_moved v_m_hours v_m_months v_m_fitMany v_m_fitFirst v_m_finding v_m_turns v_m_phases v_m_ups)) [0, 1, 2, 3] rfl) rfl rfl) rfl rfl hl.1 rfl (lv_room (Nat.le_of_ble_eq_true rfl)) dX8_dialsOf_26 ⟨Nat.zero_le _, Nat.zero_le _⟩).run (fun x e_6 => ?_)
        rw [e_6]
        refine lv_iload_n hx hb dX8_dialsOf_29 rfl (lv_at hl 1 rfl) ?_
        obtain ⟨k49, ek49, hf⟩ := jn1_e hf
        have hj49 : ∀ (q49_0 : Int32) (ls : Array Slot), lv_has ls 9 [(0, .ref h_t), (1, .int x1), (2, .int x2), (3, .int x3), (4, .int r1_1), (5, .int y15_5), (6, .int y15_6), (7, .int y15_7)] → k49 q49_0 = some r → W p l e (headSpec wsX8_dialsOf rm_X8_dialsOf).room s m ([.ref h_t, .int x1, .int x2, .int x3] : List Value).toArray below meth c s.heap [] 0 0 (MQ below (vp_Si (fun x => x = r)) ([.ref h_t, .int x1, .int x2, .int x3] : List Value).toArray s 0 0 NF) (F0 m 49 ls [.int q49_0]) := by
          intro q49_0 ls hl hf
          rw [ek49] at hf
          refine lv_istore (lv' := [(8, .int q49_0), (0, .ref h_t), (1, .int x1), (2, .int x2), (3, .int x3), (4, .int r1_1), (5, .int y15_5), (6, .int y15_6), (7, .int y15_7)]) hx hb dX8_dialsOf_49 hl (by decide) rfl (fun ls hl => ?_)
          refine lv_iload hx hb dX8_dialsOf_51 (lv_at hl 0 rfl) ?_
          obtain ⟨k68, ek68, hf⟩ := jn1_e hf
          have hj68 : ∀ (q68_0 : Int32) (ls : Array Slot), lv_has ls 9 [(0, .ref h_t), (1, .int x1), (2, .int x2), (3, .int x3), (4, .int r1_1), (5, .int y15_5), (7, .int y15_7), (8, .int q49_0)] → k68 q68_0 = some r → W p l e (headSpec wsX8_dialsOf rm_X8_dialsOf).room s m ([.ref h_t, .int x1, .int x2, .int x3] : List Value).toArray below meth c s.heap [] 0 0 (MQ below (vp_Si (fun x => x = r)) ([.ref h_t, .int x1, .int x2, .int x3] : List Value).toArray s 0 0 NF) (F0 m 68 ls [.int q68_0]) := by
            intro q68_0 ls hl hf
            rw [ek68] at hf
            refine lv_istore (lv' := [(6, .int q68_0), (0, .ref h_t), (1, .int x1), (2, .int x2), (3, .int x3), (4, .int r1_1), (5, .int y15_5), (7, .int y15_7), (8, .int q49_0)]) hx hb dX8_dialsOf_68 hl (by decide) rfl (fun ls hl => ?_)
            refine lv_iload hx hb dX8_dialsOf_70 (lv_at hl 6 rfl) ?_
            refine lv_iload hx hb dX8_dialsOf_72 (lv_at hl 8 rfl) ?_
            obtain ⟨v82_7, ev82_7, hf⟩ := lt_e hf
            have hj82_8 : ∀ (ls : Array Slot), lv_has ls 9 [(0, .ref h_t), (1, .int x1), (2, .int x2), (3, .int x3), (4, .int r1_1), (6, .int q68_0), (7, .int y15_7)] → W p l e (headSpec wsX8_dialsOf rm_X8_dialsOf).room s m ([.ref h_t, .int x1, .int x2, .int x3] : List Value).toArray below meth c s.heap [] 0 0 (MQ below (vp_Si (fun x => x = r)) ([.ref h_t, .int x1, .int x2, .int x3] : List Value).toArray s 0 0 NF) (F0 m 82 ls [.int v82_7, .int y15_5]) := by
              intro ls hl
              refine lv_iadd hx hb dX8_dialsOf_82 ?_
              refine lv_istore (lv' := [(5, .int (y15_5 + v82_7)), (0, .ref h_t), (1, .int x1), (2, .int x2), (3, .int x3), (4, .int r1_1), (6, .int q68_0), (7, .int y15_7)]) hx hb dX8_dialsOf_83 hl (by decide) rfl (fun ls hl => ?_)
              refine lv_iinc (v := (y15_7 + 1)) (lv' := [(7, .int (y15_7 + 1)), (5, .int (y15_5 + v82_7)), (0, .ref h_t), (1, .int x1), (2, .int x2), (3, .int x3), (4, .int r1_1), (6, .int q68_0)]) hx hb dX8_dialsOf_85 hl (k := 7) rfl rfl (by decide) rfl (fun ls hl => ?_)
              refine lv_goto (tgt := 15) hx hb dX8_dialsOf_88 (by decide) ?_
              exact ih (y15_5 + v82_7) q68_0 (y15_7 + 1) ls (lv_sub hl [2, 3, 4, 5, 6, 1, 7, 0] rfl) hf
            clear hf
            refine lv_if_eq (tgt := 81) hx hb dX8_dialsOf_74 (by decide) (fun c74 => ?_) (fun c74 => ?_)
            ·
              refine lv_iconst (v := 0) hx hb dX8_dialsOf_81 (by decide) ?_
              rw [if_pos c74] at ev82_7
              subst ev82_7
              exact hj82_8 ls (lv_sub hl [1, 2, 3, 4, 5, 0, 7] rfl)
            ·
              refine lv_iconst (v := 1) hx hb dX8_dialsOf_77 (by decide) ?_
              refine lv_goto (tgt := 82) hx hb dX8_dialsOf_78 (by decide) ?_
              rw [if_neg c74] at ev82_7
              subst ev82_7
              exact hj82_8 ls (lv_sub hl [1, 2, 3, 4, 5, 0, 7] rfl)
          obtain ⟨k66, ek66, hf⟩ := jn0_e hf
          have hj66 : ∀ (ls : Array Slot), lv_has ls 9 [(0, .ref h_t), (1, .int x1), (2, .int x2), (3, .int x3), (4, .int r1_1), (5, .int y15_5), (6, .int y15_6), (7, .int y15_7), (8, .int q49_0)] → k66 = some r → W p l e (headSpec wsX8_dialsOf rm_X8_dialsOf).room s m ([.ref h_t, .int x1, .int x2, .int x3] : List Value).toArray below meth c s.heap [] 0 0 (MQ below (vp_Si (fun x => x = r)) ([.ref h_t, .int x1, .int x2, .int x3] : List Value).toArray s 0 0 NF) (F0 m 66 ls []) := by
            intro ls hl hf
            rw [ek66] at hf
            refine lv_iload hx hb dX8_dialsOf_66 (lv_at hl 6 rfl) ?_
            exact hj68 y15_6 ls (lv_sub hl [0, 1, 2, 3, 4, 5, 7, 8] rfl) hf
          refine lv_if_eq (tgt := 66) hx hb dX8_dialsOf_53 (by decide) (fun c53 => ?_) (fun c53 => ?_)
          · rw [if_pos c53] at hf
            exact hj66 ls (lv_sub hl [1, 2, 3, 4, 5, 6, 7, 8, 0] rfl) hf
          · rw [if_neg c53] at hf
            refine lv_iload hx hb dX8_dialsOf_56 (lv_at hl 6 rfl) ?_
            refine lv_if_ne (tgt := 66) hx hb dX8_dialsOf_58 (by decide) (fun c58 => ?_) (fun c58 => ?_)
            · rw [if_neg c58] at hf
              exact hj66 ls (lv_sub hl [1, 2, 3, 4, 5, 6, 7, 8, 0] rfl) hf
            · rw [if_pos c58] at hf
              refine lv_iload hx hb dX8_dialsOf_61 (lv_at hl 8 rfl) ?_
              refine lv_goto (tgt := 68) hx hb dX8_dialsOf_63 (by decide) ?_
              exact hj68 y15_7 ls (lv_sub hl [1, 2, 3, 4, 5, 6, 8, 0] rfl) hf
        obtain ⟨k48, ek48, hf⟩ := jn0_e hf
        have hj48 : ∀ (ls : Array Slot), lv_has ls 9 [(0, .ref h_t), (1, .int x1), (2, .int x2), (3, .int x3), (4, .int r1_1), (5, .int y15_5), (6, .int y15_6), (7, .int y15_7)] → k48 = some r → W p l e (headSpec wsX8_dialsOf rm_X8_dialsOf).room s m ([.ref h_t, .int x1, .int x2, .int x3] : List Value).toArray below meth c s.heap [] 0 0 (MQ below (vp_Si (fun x => x = r)) ([.ref h_t, .int x1, .int x2, .int x3] : List Value).toArray s 0 0 NF) (F0 m 48 ls []) := by
          intro ls hl hf
          rw [ek48] at hf
          refine lv_iconst (v := 0) hx hb dX8_dialsOf_48 (by decide) ?_
          exact hj49 0 ls (lv_sub hl [0, 1, 2, 3, 4, 5, 6, 7] rfl) hf
        refine lv_icmp_ne (tgt := 48) hx hb dX8_dialsOf_30 (by decide) (fun c30 => ?_) (fun c30 => ?_)
        · rw [if_neg c30] at hf
          exact hj48 ls (lv_sub hl [0, 1, 2, 3, 4, 5, 6, 7] rfl) hf
        · rw [if_pos c30] at hf
          refine lv_aload_n hx hb dX8_dialsOf_33 rfl (lv_at hl 0 rfl) ?_
          refine lv_iconst (v := 1) hx hb dX8_dialsOf_34 (by decide) ?_
          refine lv_iload hx hb dX8_dialsOf_35 (lv_at hl 7 rfl) ?_
          obtain ⟨r37_9, hc_10, hf⟩ := bd1_e hf
          refine vp_callSi (va_runV (As := [.int 1, .int y15_7]) (rest := []) ⟨hx, hb, hml, hown, hts⟩ (c_X8_dialOf l dC dI cI cZ cP cS h_t h_t_turns h_t_phases h_t_ups h_t_typed h_t_texts h_t_diary h_t_longs h_t_awakes h_t_fit h_t_counts h_t_worths h_t_ripes h_t_growths h_t_gains h_t_isThere h_t_forms h_t_sizes h_t_items h_t_moved v_m_hours v_m_months v_m_fitMany v_m_fitFirst v_m_finding v_m_turns v_m_phases v_m_ups 1 y15_7 n r37_9 hc_10) (cwV 2 hts gX8_dialsOf_X8_dialOf rfl rfl rfl (by decide +kernel) ⟨Nat.le_of_ble_eq_true rfl, Nat.le_of_ble_eq_true rfl⟩) (pv_ro (ci := 7) (q0 := 0) hK (hP.sub (ws' := (wd_X8_dialOf cI cZ cP cS h_t h_t_turns h_t_phases h_t_ups h_t_typed h_t_texts h_t_diary h_t_longs h_t_awakes h_t_fit h_t_counts h_t_worths h_t_ripes h_t_growths h_t_gains h_t_isThere h_t_forms h_t_sizes h_t_items h_t_moved v_m_hours v_m_months v_m_fitMany v_m_fitFirst v_m_finding v_m_turns v_m_phases v_m_ups)) [0, 1, 2, 3] rfl) rfl rfl) rfl rfl hl.1 rfl (lv_room (Nat.le_of_ble_eq_true rfl)) dX8_dialsOf_37 ⟨Nat.zero_le _, Nat.zero_le _⟩).run (fun x e_11 => ?_)
          rw [e_11]
          refine lv_iload_n hx hb dX8_dialsOf_40 rfl (lv_at hl 2 rfl) ?_
          refine lv_icmp_ne (tgt := 48) hx hb dX8_dialsOf_41 (by decide) (fun c41 => ?_) (fun c41 => ?_)
          · rw [if_neg c41] at hf
            exact hj48 ls (lv_sub hl [0, 1, 2, 3, 4, 5, 6, 7] rfl) hf
          · rw [if_pos c41] at hf
            refine lv_iconst (v := 1) hx hb dX8_dialsOf_44 (by decide) ?_
            refine lv_goto (tgt := 49) hx hb dX8_dialsOf_45 (by decide) ?_
            exact hj49 1 ls (lv_sub hl [0, 1, 2, 3, 4, 5, 6, 7] rfl) hf
  exact hL15 n 0 (-1) 0 ls (lv_sub hl [4, 5, 6, 7, 3, 2, 1, 0] rfl) hf

abbrev wd_X8_dials (cI cZ cP cS : ClassId) (h_t h_t_turns h_t_phases h_t_ups h_t_typed h_t_texts h_t_diary h_t_longs h_t_awakes h_t_fit h_t_counts h_t_worths h_t_ripes h_t_growths h_t_gains h_t_isThere h_t_forms h_t_sizes h_t_items h_t_moved : Nat) (v_m_hours : Int32) (v_m_months : Int32) (v_m_fitMany : Int32) (v_m_fitFirst : Int32) (v_m_finding : Int32) (v_m_turns : Nat → Int32) (v_m_phases : Nat → Int32) (v_m_ups : Nat → Int32) : va_W := [(h_t, .inr (7, [.ref h_t_turns, .ref h_t_phases, .ref h_t_ups, .ref h_t_typed, .ref h_t_texts, .int v_m_hours, .ref h_t_diary, .int v_m_months, .ref h_t_longs, .ref h_t_awakes, .ref h_t_fit, .int v_m_fitMany, .int v_m_fitFirst, .ref h_t_counts, .ref h_t_worths, .ref h_t_ripes, .ref h_t_growths, .ref h_t_gains, .ref h_t_isThere, .ref h_t_forms, .ref h_t_sizes, .ref h_t_items, .ref h_t_moved, .int v_m_finding])), (h_t_turns, .inl (cI, 2, .inl v_m_turns)), (h_t_phases, .inl (cI, 2, .inl v_m_phases)), (h_t_ups, .inl (cI, 2, .inl v_m_ups))]
abbrev rm_X8_dials : Room := { frames := 4, cells := 0, slots := 0, locals := 94 }
def f_X8_dials (n : Nat) (v_m_turns : Nat → Int32) (v_m_phases : Nat → Int32) (v_m_ups : Nat → Int32) (x1 : Int32) (x2 : Int32) (x3 : Int32) : Option (Int32) := bd1_ (f_X8_in n x1 (-1) 39) (fun (r4_1 : Int32) => jn0_ (some (-2)) (fun k39 => if r4_1 = 0 then k39 else bd1_ (f_X8_in n x2 (-1) 39) (fun (r14_5 : Int32) => if r14_5 = 0 then k39 else bd1_ (f_X8_in n x3 0 1) (fun (r23_9 : Int32) => if r23_9 = 0 then k39 else bd1_ (f_X8_dialsOf n v_m_turns v_m_phases v_m_ups x1 x2 x3) (fun (r33_13 : Int32) => some r33_13)))))
set_option maxHeartbeats 4000000 in
set_option maxRecDepth 100000 in
theorem c_X8_dials (l : Launch) (dC : Nat → ClassId) (dI : Nat → Nat → Nat) (cI cZ cP cS : ClassId) (h_t h_t_turns h_t_phases h_t_ups h_t_typed h_t_texts h_t_diary h_t_longs h_t_awakes h_t_fit h_t_counts h_t_worths h_t_ripes h_t_growths h_t_gains h_t_isThere h_t_forms h_t_sizes h_t_items h_t_moved : Nat) (v_m_hours : Int32) (v_m_months : Int32) (v_m_fitMany : Int32) (v_m_fitFirst : Int32) (v_m_finding : Int32) (v_m_turns : Nat → Int32) (v_m_phases : Nat → Int32) (v_m_ups : Nat → Int32) (x1 : Int32) (x2 : Int32) (x3 : Int32) (n : Nat) (r : Int32) (hf : f_X8_dials n v_m_turns v_m_phases v_m_ups x1 x2 x3 = some r) : Met l yX8_dials wsX8_dials rm_X8_dials (RO (dC, dI) (TY cI cZ cP cS) [.ref h_t, .int x1, .int x2, .int x3] (wd_X8_dials cI cZ cP cS h_t h_t_turns h_t_phases h_t_ups h_t_typed h_t_texts h_t_diary h_t_longs h_t_awakes h_t_fit h_t_counts h_t_worths h_t_ripes h_t_growths h_t_gains h_t_isThere h_t_forms h_t_sizes h_t_items h_t_moved v_m_hours v_m_months v_m_fitMany v_m_fitFirst v_m_finding v_m_turns v_m_phases v_m_ups)) (vp_Si (fun x => x = r)) 0 0 NF := by
  refine Met.ofW (cc := cX8_dials) (maxL := 4) (ret := (some .int)) (by decide) rfl ?_
  intro p e s m args below meth c s₁ B hml hv
  obtain ⟨rfl, hP, hK⟩ := hv
  have hx := B.exec
  have hb := B.bytes
  have hr := B.returns
  have hts := atoms_spec (ws := wsX8_dials) B.pre
  have hown : s.vm.findClass RX8 = some m.cls := findClass_of_methodNamed B.named
  have hlocks := B.notSynchronized
  have hl := lv_entry ([.ref h_t, .int x1, .int x2, .int x3]) (n := 4) (Nat.le_of_ble_eq_true rfl)
  rw [lg_entry_eq]
  generalize (lg_sl ([.ref h_t, .int x1, .int x2, .int x3]) ++ List.replicate (4 - (lg_sl ([.ref h_t, .int x1, .int x2, .int x3])).length) Slot.unset).toArray = ls at hl ⊢
  have hl : lv_has ls 4 [(0, .ref h_t), (1, .int x1), (2, .int x2), (3, .int x3)] := hl
  unfold f_X8_dials at hf
  refine lv_iload_n hx hb dX8_dials_0 rfl (lv_at hl 1 rfl) ?_
  refine lv_iconst (v := (-1)) hx hb dX8_dials_1 (by decide) ?_
  refine lv_bipush (v := 39) hx hb dX8_dials_2 (by decide) ?_
  obtain ⟨r4_1, hc_2, hf⟩ := bd1_e hf
  refine vp_callSi (va_runS (As := [.int x1, .int (-1), .int 39]) (rest := []) ⟨hx, hb, hml, hown, hts⟩ (c_X8_in l dC dI cI cZ cP cS   x1 (-1) 39 n r4_1 hc_2) (va_cwS 3 hts gX8_dials_X8_in rfl rfl rfl (by decide +kernel) ⟨Nat.le_of_ble_eq_true rfl, Nat.le_of_ble_eq_true rfl⟩) (ps_ro hK (hP.sub (ws' := ([] : va_W)) [] rfl)) rfl rfl hl.1 rfl (lv_room (Nat.le_of_ble_eq_true rfl)) dX8_dials_4 ⟨Nat.zero_le _, Nat.zero_le _⟩).run (fun x e_3 => ?_)
  obtain ⟨e_3, hb_4⟩ := e_3
  rw [e_3] at hb_4 ⊢
  obtain ⟨k39, ek39, hf⟩ := jn0_e hf
  have hj39 : ∀ (ls : Array Slot), lv_has ls 4 [] → k39 = some r → W p l e (headSpec wsX8_dials rm_X8_dials).room s m ([.ref h_t, .int x1, .int x2, .int x3] : List Value).toArray below meth c s.heap [] 0 0 (MQ below (vp_Si (fun x => x = r)) ([.ref h_t, .int x1, .int x2, .int x3] : List Value).toArray s 0 0 NF) (F0 m 39 ls []) := by
    intro ls hl hf
    rw [ek39] at hf
    refine lv_bipush (v := (-2)) hx hb dX8_dials_39 (by decide) ?_
    exact W.iret hx hb hr (fun t ht hW => ⟨_, rfl, Option.some.inj hf, ht⟩) (fun _ h => nomatch h) dX8_dials_41
  refine lv_if_eq (tgt := 39) hx hb dX8_dials_7 (by decide) (fun c7 => ?_) (fun c7 => ?_)
  · rw [if_pos c7] at hf
    exact hj39 ls (lv_sub hl [] rfl) hf
  · rw [if_neg c7] at hf
    refine lv_iload_n hx hb dX8_dials_10 rfl (lv_at hl 2 rfl) ?_
    refine lv_iconst (v := (-1)) hx hb dX8_dials_11 (by decide) ?_
    refine lv_bipush (v := 39) hx hb dX8_dials_12 (by decide) ?_
    obtain ⟨r14_5, hc_6, hf⟩ := bd1_e hf
    refine vp_callSi (va_runS (As := [.int x2, .int (-1), .int 39]) (rest := []) ⟨hx, hb, hml, hown, hts⟩ (c_X8_in l dC dI cI cZ cP cS   x2 (-1) 39 n r14_5 hc_6) (va_cwS 3 hts gX8_dials_X8_in rfl rfl rfl (by decide +kernel) ⟨Nat.le_of_ble_eq_true rfl, Nat.le_of_ble_eq_true rfl⟩) (ps_ro hK (hP.sub (ws' := ([] : va_W)) [] rfl)) rfl rfl hl.1 rfl (lv_room (Nat.le_of_ble_eq_true rfl)) dX8_dials_14 ⟨Nat.zero_le _, Nat.zero_le _⟩).run (fun x e_7 => ?_)
    obtain ⟨e_7, hb_8⟩ := e_7
    rw [e_7] at hb_8 ⊢
    refine lv_if_eq (tgt := 39) hx hb dX8_dials_17 (by decide) (fun c17 => ?_) (fun c17 => ?_)
    · rw [if_pos c17] at hf
      exact hj39 ls (lv_sub hl [] rfl) hf
    · rw [if_neg c17] at hf
      refine lv_iload_n hx hb dX8_dials_20 rfl (lv_at hl 3 rfl) ?_
      refine lv_iconst (v := 0) hx hb dX8_dials_21 (by decide) ?_
      refine lv_iconst (v := 1) hx hb dX8_dials_22 (by decide) ?_
      obtain ⟨r23_9, hc_10, hf⟩ := bd1_e hf
      refine vp_callSi (va_runS (As := [.int x3, .int 0, .int 1]) (rest := []) ⟨hx, hb, hml, hown, hts⟩ (c_X8_in l dC dI cI cZ cP cS   x3 0 1 n r23_9 hc_10) (va_cwS 3 hts gX8_dials_X8_in rfl rfl rfl (by decide +kernel) ⟨Nat.le_of_ble_eq_true rfl, Nat.le_of_ble_eq_true rfl⟩) (ps_ro hK (hP.sub (ws' := ([] : va_W)) [] rfl)) rfl rfl hl.1 rfl (lv_room (Nat.le_of_ble_eq_true rfl)) dX8_dials_23 ⟨Nat.zero_le _, Nat.zero_le _⟩).run (fun x e_11 => ?_)
      obtain ⟨e_11, hb_12⟩ := e_11
      rw [e_11] at hb_12 ⊢
      refine lv_if_eq (tgt := 39) hx hb dX8_dials_26 (by decide) (fun c26 => ?_) (fun c26 => ?_)
      · rw [if_pos c26] at hf
        exact hj39 ls (lv_sub hl [] rfl) hf
      · rw [if_neg c26] at hf
        refine lv_aload_n hx hb dX8_dials_29 rfl (lv_at hl 0 rfl) ?_
        refine lv_iload_n hx hb dX8_dials_30 rfl (lv_at hl 1 rfl) ?_
        refine lv_iload_n hx hb dX8_dials_31 rfl (lv_at hl 2 rfl) ?_
        refine lv_iload_n hx hb dX8_dials_32 rfl (lv_at hl 3 rfl) ?_
        obtain ⟨r33_13, hc_14, hf⟩ := bd1_e hf
        refine vp_callSi (va_runV (As := [.int x1, .int x2, .int x3]) (rest := []) ⟨hx, hb, hml, hown, hts⟩ (c_X8_dialsOf l dC dI cI cZ cP cS h_t h_t_turns h_t_phases h_t_ups h_t_typed h_t_texts h_t_diary h_t_longs h_t_awakes h_t_fit h_t_counts h_t_worths h_t_ripes h_t_growths h_t_gains h_t_isThere h_t_forms h_t_sizes h_t_items h_t_moved v_m_hours v_m_months v_m_fitMany v_m_fitFirst v_m_finding v_m_turns v_m_phases v_m_ups x1 x2 x3 n r33_13 hc_14) (cwV 3 hts gX8_dials_X8_dialsOf rfl rfl rfl (by decide +kernel) ⟨Nat.le_of_ble_eq_true rfl, Nat.le_of_ble_eq_true rfl⟩) (pv_ro (ci := 7) (q0 := 0) hK (hP.sub (ws' := (wd_X8_dialsOf cI cZ cP cS h_t h_t_turns h_t_phases h_t_ups h_t_typed h_t_texts h_t_diary h_t_longs h_t_awakes h_t_fit h_t_counts h_t_worths h_t_ripes h_t_growths h_t_gains h_t_isThere h_t_forms h_t_sizes h_t_items h_t_moved v_m_hours v_m_months v_m_fitMany v_m_fitFirst v_m_finding v_m_turns v_m_phases v_m_ups)) [0, 1, 2, 3] rfl) rfl rfl) rfl rfl hl.1 rfl (lv_room (Nat.le_of_ble_eq_true rfl)) dX8_dials_33 ⟨Nat.zero_le _, Nat.zero_le _⟩).run (fun x e_15 => ?_)
        rw [e_15]
        refine lv_goto (tgt := 41) hx hb dX8_dials_36 (by decide) ?_
        exact W.iret hx hb hr (fun t ht hW => ⟨_, rfl, Option.some.inj hf, ht⟩) (fun _ h => nomatch h) dX8_dials_41
