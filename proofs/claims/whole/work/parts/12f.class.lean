abbrev wd_X7_put (cI cZ cP cS : ClassId) (h_t h_t_red h_t_blue h_t_sky h_t_diary h_t_calendar h_t_awakeIn h_t_worths h_t_plants h_t_sheets h_t_bestFrom h_t_s0 h_t_s1 h_t_s2 h_t_s3 h_t_s0_items h_t_s1_items h_t_s2_items h_t_s3_items : Nat) (v_latestFinding : Int32) (v_sform : Nat → Int32) (v_ssize : Nat → Int32) (v_sitems : Nat → Nat → Int32) : va_W := [(h_t, .inr (6, [.ref h_t_red, .ref h_t_blue, .ref h_t_sky, .ref h_t_diary, .ref h_t_calendar, .ref h_t_awakeIn, .ref h_t_worths, .ref h_t_plants, .ref h_t_sheets, .ref h_t_bestFrom, .int v_latestFinding])), (h_t_sheets, .inl (cS, 4, .inr (.inr (.inr (.inr (ar4 h_t_s0 h_t_s1 h_t_s2 h_t_s3)))))), (h_t_s0, .inr (3, [.int (v_sform 0), .int (v_ssize 0), .ref h_t_s0_items])), (h_t_s0_items, .inl (cI, 48, .inl (v_sitems 0))), (h_t_s1, .inr (3, [.int (v_sform 1), .int (v_ssize 1), .ref h_t_s1_items])), (h_t_s1_items, .inl (cI, 48, .inl (v_sitems 1))), (h_t_s2, .inr (3, [.int (v_sform 2), .int (v_ssize 2), .ref h_t_s2_items])), (h_t_s2_items, .inl (cI, 48, .inl (v_sitems 2))), (h_t_s3, .inr (3, [.int (v_sform 3), .int (v_ssize 3), .ref h_t_s3_items])), (h_t_s3_items, .inl (cI, 48, .inl (v_sitems 3)))]
abbrev rm_X7_put : Room := { frames := 2, cells := 0, slots := 0, locals := 43 }
def f_X7_put (n : Nat) (v_latestFinding : Int32) (v_sform : Nat → Int32) (v_ssize : Nat → Int32) (v_sitems : Nat → Nat → Int32) (x1 : Int32) (x2 : Int32) (x3 : Int32) (x4 : Int32) : Option (Int32 × Int32 × (Nat → Nat → Int32)) := if x1 = 0 then bd1_ (f_X7_noForm n x2) (fun (r13_2 : Int32) => if r13_2 = 0 then bd1_ (f_X3_findingOf n (v_sform 0) (v_ssize 0) x2 x3) (fun (r26_6 : Int32) => if r26_6 = 0 then bd1_ (f_X3_lowestBits n (v_sform 0) x4) (fun (r53_9 : Int32) => ix_ x3 48 (some (1, v_latestFinding, (va_up v_sitems 0 (upd (v_sitems 0) x3.toNatClampNeg r53_9))))) else bd2_ (f_X7_found n v_latestFinding r26_6) (fun (r39_13 : Int32) (o39_14 : Int32) => some (r39_13, o39_14, v_sitems))) else some ((-2), v_latestFinding, v_sitems)) else if x1 = 1 then bd1_ (f_X7_noForm n x2) (fun (r13_17 : Int32) => if r13_17 = 0 then bd1_ (f_X3_findingOf n (v_sform 1) (v_ssize 1) x2 x3) (fun (r26_21 : Int32) => if r26_21 = 0 then bd1_ (f_X3_lowestBits n (v_sform 1) x4) (fun (r53_24 : Int32) => ix_ x3 48 (some (1, v_latestFinding, (va_up v_sitems 1 (upd (v_sitems 1) x3.toNatClampNeg r53_24))))) else bd2_ (f_X7_found n v_latestFinding r26_21) (fun (r39_28 : Int32) (o39_29 : Int32) => some (r39_28, o39_29, v_sitems))) else some ((-2), v_latestFinding, v_sitems)) else if x1 = 2 then bd1_ (f_X7_noForm n x2) (fun (r13_32 : Int32) => if r13_32 = 0 then bd1_ (f_X3_findingOf n (v_sform 2) (v_ssize 2) x2 x3) (fun (r26_36 : Int32) => if r26_36 = 0 then bd1_ (f_X3_lowestBits n (v_sform 2) x4) (fun (r53_39 : Int32) => ix_ x3 48 (some (1, v_latestFinding, (va_up v_sitems 2 (upd (v_sitems 2) x3.toNatClampNeg r53_39))))) else bd2_ (f_X7_found n v_latestFinding r26_36) (fun (r39_43 : Int32) (o39_44 : Int32) => some (r39_43, o39_44, v_sitems))) else some ((-2), v_latestFinding, v_sitems)) else if x1 = 3 then bd1_ (f_X7_noForm n x2) (fun (r13_47 : Int32) => if r13_47 = 0 then bd1_ (f_X3_findingOf n (v_sform 3) (v_ssize 3) x2 x3) (fun (r26_51 : Int32) => if r26_51 = 0 then bd1_ (f_X3_lowestBits n (v_sform 3) x4) (fun (r53_54 : Int32) => ix_ x3 48 (some (1, v_latestFinding, (va_up v_sitems 3 (upd (v_sitems 3) x3.toNatClampNeg r53_54))))) else bd2_ (f_X7_found n v_latestFinding r26_51) (fun (r39_58 : Int32) (o39_59 : Int32) => some (r39_58, o39_59, v_sitems))) else some ((-2), v_latestFinding, v_sitems)) else some ((-2), v_latestFinding, v_sitems)
set_option maxHeartbeats 4000000 in
set_option maxRecDepth 100000 in
theorem c_X7_put (l : Launch) (dC : Nat → ClassId) (dI : Nat → Nat → Nat) (cI cZ cP cS : ClassId) (sz : Nat) (h_t h_t_red h_t_blue h_t_sky h_t_diary h_t_calendar h_t_awakeIn h_t_worths h_t_plants h_t_sheets h_t_bestFrom h_t_s0 h_t_s1 h_t_s2 h_t_s3 h_t_s0_items h_t_s1_items h_t_s2_items h_t_s3_items : Nat) (v_latestFinding : Int32) (v_sform : Nat → Int32) (v_ssize : Nat → Int32) (v_sitems : Nat → Nat → Int32) (x1 : Int32) (x2 : Int32) (x3 : Int32) (x4 : Int32) (n : Nat) (r : Int32) (o_latestFinding : Int32) (o_sitems : Nat → Nat → Int32) (hf : f_X7_put n v_latestFinding v_sform v_ssize v_sitems x1 x2 x3 x4 = some (r, o_latestFinding, o_sitems)) : Met l yX7_put wsX7_put rm_X7_put (RW (dC, dI) (TY cI cZ cP cS) [.ref h_t, .int x1, .int x2, .int x3, .int x4] sz (wd_X7_put cI cZ cP cS h_t h_t_red h_t_blue h_t_sky h_t_diary h_t_calendar h_t_awakeIn h_t_worths h_t_plants h_t_sheets h_t_bestFrom h_t_s0 h_t_s1 h_t_s2 h_t_s3 h_t_s0_items h_t_s1_items h_t_s2_items h_t_s3_items v_latestFinding v_sform v_ssize v_sitems)) (RWi (dC, dI) (TY cI cZ cP cS) r sz (wd_X7_put cI cZ cP cS h_t h_t_red h_t_blue h_t_sky h_t_diary h_t_calendar h_t_awakeIn h_t_worths h_t_plants h_t_sheets h_t_bestFrom h_t_s0 h_t_s1 h_t_s2 h_t_s3 h_t_s0_items h_t_s1_items h_t_s2_items h_t_s3_items v_latestFinding v_sform v_ssize v_sitems) (wd_X7_put cI cZ cP cS h_t h_t_red h_t_blue h_t_sky h_t_diary h_t_calendar h_t_awakeIn h_t_worths h_t_plants h_t_sheets h_t_bestFrom h_t_s0 h_t_s1 h_t_s2 h_t_s3 h_t_s0_items h_t_s1_items h_t_s2_items h_t_s3_items o_latestFinding v_sform v_ssize o_sitems)) 0 0 (va_A (wd_X7_put cI cZ cP cS h_t h_t_red h_t_blue h_t_sky h_t_diary h_t_calendar h_t_awakeIn h_t_worths h_t_plants h_t_sheets h_t_bestFrom h_t_s0 h_t_s1 h_t_s2 h_t_s3 h_t_s0_items h_t_s1_items h_t_s2_items h_t_s3_items v_latestFinding v_sform v_ssize v_sitems) sz) := by
  refine Met.ofW (cc := cX7_put) (maxL := 7) (ret := (some .int)) (by decide) rfl ?_
  intro p e s m args below meth c s₁ B hml hv
  obtain ⟨rfl, hsz, hP, hK, hD0⟩ := hv
  have hx := B.exec
  have hb := B.bytes
  have hr := B.returns
  have hts := atoms_spec (ws := wsX7_put) B.pre
  have hown : s.vm.findClass RX7 = some m.cls := findClass_of_methodNamed B.named
  have hlocks := B.notSynchronized
  subst hsz
  have hD := hD0.self (sz := s.heap.size)
  have hA : ∀ q : Nat, s.heap.size ≤ q → (va_A (wd_X7_put cI cZ cP cS h_t h_t_red h_t_blue h_t_sky h_t_diary h_t_calendar h_t_awakeIn h_t_worths h_t_plants h_t_sheets h_t_bestFrom h_t_s0 h_t_s1 h_t_s2 h_t_s3 h_t_s0_items h_t_s1_items h_t_s2_items h_t_s3_items v_latestFinding v_sform v_ssize v_sitems) s.heap.size) q := fun q h => Or.inr h
  have hS : va_S (va_A (wd_X7_put cI cZ cP cS h_t h_t_red h_t_blue h_t_sky h_t_diary h_t_calendar h_t_awakeIn h_t_worths h_t_plants h_t_sheets h_t_bestFrom h_t_s0 h_t_s1 h_t_s2 h_t_s3 h_t_s0_items h_t_s1_items h_t_s2_items h_t_s3_items v_latestFinding v_sform v_ssize v_sitems) s.heap.size) s.heap s.heap [] := va_S.rf
  have hinX3 : ∀ w ∈ wsX30, w ∈ wsX7_put := by decide +kernel
  have hl := lv_entry ([.ref h_t, .int x1, .int x2, .int x3, .int x4]) (n := 7) (Nat.le_of_ble_eq_true rfl)
  rw [lg_entry_eq]
  generalize (lg_sl ([.ref h_t, .int x1, .int x2, .int x3, .int x4]) ++ List.replicate (7 - (lg_sl ([.ref h_t, .int x1, .int x2, .int x3, .int x4])).length) Slot.unset).toArray = ls at hl ⊢
  have hl : lv_has ls 7 [(0, .ref h_t), (1, .int x1), (2, .int x2), (3, .int x3), (4, .int x4)] := hl
  obtain ⟨H, hH⟩ : ∃ H : Heap, H = s.heap := ⟨_, rfl⟩
  have hP : va_P (dC, dI) vwCl (wd_X7_put cI cZ cP cS h_t h_t_red h_t_blue h_t_sky h_t_diary h_t_calendar h_t_awakeIn h_t_worths h_t_plants h_t_sheets h_t_bestFrom h_t_s0 h_t_s1 h_t_s2 h_t_s3 h_t_s0_items h_t_s1_items h_t_s2_items h_t_s3_items v_latestFinding v_sform v_ssize v_sitems) H := by rw [hH]; exact hP
  have hS : va_S (va_A (wd_X7_put cI cZ cP cS h_t h_t_red h_t_blue h_t_sky h_t_diary h_t_calendar h_t_awakeIn h_t_worths h_t_plants h_t_sheets h_t_bestFrom h_t_s0 h_t_s1 h_t_s2 h_t_s3 h_t_s0_items h_t_s1_items h_t_s2_items h_t_s3_items v_latestFinding v_sform v_ssize v_sitems) s.heap.size) s.heap H [] := by rw [hH]; exact hS
  obtain ⟨locs, hlo⟩ : ∃ L : List Loc, L = [] := ⟨_, rfl⟩
  rw [← hlo] at hS
  suffices hgo : W p l e (headSpec wsX7_put rm_X7_put).room s m ([.ref h_t, .int x1, .int x2, .int x3, .int x4] : List Value).toArray below meth c H locs 0 0 (MQ below (RWi (dC, dI) (TY cI cZ cP cS) r s.heap.size (wd_X7_put cI cZ cP cS h_t h_t_red h_t_blue h_t_sky h_t_diary h_t_calendar h_t_awakeIn h_t_worths h_t_plants h_t_sheets h_t_bestFrom h_t_s0 h_t_s1 h_t_s2 h_t_s3 h_t_s0_items h_t_s1_items h_t_s2_items h_t_s3_items v_latestFinding v_sform v_ssize v_sitems) (wd_X7_put cI cZ cP cS h_t h_t_red h_t_blue h_t_sky h_t_diary h_t_calendar h_t_awakeIn h_t_worths h_t_plants h_t_sheets h_t_bestFrom h_t_s0 h_t_s1 h_t_s2 h_t_s3 h_t_s0_items h_t_s1_items h_t_s2_items h_t_s3_items o_latestFinding v_sform v_ssize o_sitems)) ([.ref h_t, .int x1, .int x2, .int x3, .int x4] : List Value).toArray s 0 0 (va_A (wd_X7_put cI cZ cP cS h_t h_t_red h_t_blue h_t_sky h_t_diary h_t_calendar h_t_awakeIn h_t_worths h_t_plants h_t_sheets h_t_bestFrom h_t_s0 h_t_s1 h_t_s2 h_t_s3 h_t_s0_items h_t_s1_items h_t_s2_items h_t_s3_items v_latestFinding v_sform v_ssize v_sitems) s.heap.size)) (F0 m 0 ls []) by rw [hH, hlo] at hgo; exact hgo
  clear hH hlo
  unfold f_X7_put at hf
  refine lv_aload_n hx hb dX7_put_0 rfl (lv_at hl 0 rfl) ?_
  refine lv_iload_n hx hb dX7_put_1 rfl (lv_at hl 1 rfl) ?_
  refine va_csq (va_runV (As := [.int x1]) (rest := []) ⟨hx, hb, hml, hown, hts⟩ (c_X7_sheetOf l dC dI cI cZ cP cS h_t h_t_red h_t_blue h_t_sky h_t_diary h_t_calendar h_t_awakeIn h_t_worths h_t_plants h_t_sheets h_t_bestFrom h_t_s0 h_t_s1 h_t_s2 h_t_s3 v_latestFinding x1) (cwV 1 hts gX7_put_X7_sheetOf rfl rfl rfl (by decide +kernel) ⟨Nat.le_of_ble_eq_true rfl, Nat.le_of_ble_eq_true rfl⟩) (pv_ro (ci := 6) (q0 := 0) hK (hP.sub (ws' := (wd_X7_sheetOf cI cZ cP cS h_t h_t_red h_t_blue h_t_sky h_t_diary h_t_calendar h_t_awakeIn h_t_worths h_t_plants h_t_sheets h_t_bestFrom h_t_s0 h_t_s1 h_t_s2 h_t_s3 v_latestFinding)) [0, 1] rfl) rfl rfl) rfl rfl hl.1 rfl (lv_room (Nat.le_of_ble_eq_true rfl)) dX7_put_2 ⟨Nat.zero_le _, Nat.zero_le _⟩).run (fun x e_1 => ?_)
  by_cases c2_0 : x1 = 0
  · rw [if_pos c2_0] at hf e_1
    subst e_1
    refine W.eq (g2 := F0 m 5 ls [.ref h_t_s0]) rfl ?_
    refine lv_astore (lv' := [(5, .ref h_t_s0), (0, .ref h_t), (1, .int x1), (2, .int x2), (3, .int x3), (4, .int x4)]) hx hb dX7_put_5 hl (by decide) rfl (fun ls hl => ?_)
    refine lv_aload hx hb dX7_put_7 (lv_at hl 0 rfl) ?_
    refine lv_ifnull hx hb dX7_put_9 ?_
    refine lv_iload_n hx hb dX7_put_12 rfl (lv_at hl 3 rfl) ?_
    obtain ⟨r13_2, hc_3, hf⟩ := bd1_e hf
    refine vp_callSi (va_runS (As := [.int x2]) (rest := []) ⟨hx, hb, hml, hown, hts⟩ (c_X7_noForm l dC dI cI cZ cP cS   x2 n r13_2 hc_3) (va_cwS 1 hts gX7_put_X7_noForm rfl rfl rfl (by decide +kernel) ⟨Nat.le_of_ble_eq_true rfl, Nat.le_of_ble_eq_true rfl⟩) (ps_ro hK (hP.sub (ws' := ([] : va_W)) [] rfl)) rfl rfl hl.1 rfl (lv_room (Nat.le_of_ble_eq_true rfl)) dX7_put_13 ⟨Nat.zero_le _, Nat.zero_le _⟩).run (fun x e_4 => ?_)
    obtain ⟨e_4, hb_5⟩ := e_4
    rw [e_4] at hb_5 ⊢
    refine lv_if_eq (tgt := 22) hx hb dX7_put_16 (by decide) (fun c16 => ?_) (fun c16 => ?_)
    · rw [if_pos c16] at hf
      refine lv_aload hx hb dX7_put_22 (lv_at hl 0 rfl) ?_
      refine lv_iload_n hx hb dX7_put_24 rfl (lv_at hl 3 rfl) ?_
      refine lv_iload_n hx hb dX7_put_25 rfl (lv_at hl 4 rfl) ?_
      obtain ⟨r26_6, hc_7, hf⟩ := bd1_e hf
      refine vp_callSi (va_runV (As := [.int x2, .int x3]) (rest := []) ⟨hx, hb, hml, hown, hts⟩ (c_X3_findingOf l dC dI cI cZ cP cS h_t_s0 h_t_s0_items (v_sform 0) (v_ssize 0) x2 x3 n r26_6 hc_7) (cwV 2 hts gX7_put_X3_findingOf rfl rfl rfl (by decide +kernel) ⟨Nat.le_of_ble_eq_true rfl, Nat.le_of_ble_eq_true rfl⟩) (pv_ro (ci := 3) (q0 := 0) hK (hP.sub (ws' := (wd_X3_findingOf cI cZ cP cS h_t_s0 h_t_s0_items (v_sform 0) (v_ssize 0))) [2] rfl) rfl rfl) rfl rfl hl.1 rfl (lv_room (Nat.le_of_ble_eq_true rfl)) dX7_put_26 ⟨Nat.zero_le _, Nat.zero_le _⟩).run (fun x e_8 => ?_)
      rw [e_8]
      refine lv_istore (lv' := [(6, .int r26_6), (5, .ref h_t_s0), (0, .ref h_t), (1, .int x1), (2, .int x2), (3, .int x3), (4, .int x4)]) hx hb dX7_put_29 hl (by decide) rfl (fun ls hl => ?_)
      refine lv_iload hx hb dX7_put_31 (lv_at hl 0 rfl) ?_
      refine lv_if_eq (tgt := 43) hx hb dX7_put_33 (by decide) (fun c33 => ?_) (fun c33 => ?_)
      · rw [if_pos c33] at hf
        refine lv_aload hx hb dX7_put_43 (lv_at hl 1 rfl) ?_
        refine va_get (D := (dC, dI)) (ci := 3) (v := .ref h_t_s0_items) (C := RX3) (T := TX3) (N := 3) hx hb hts hinX3 hown hK hP 2 rfl rfl 2 (by decide) (hts (.fieldLink RX7 229 "SecondSunrise$Sheet" "items" "[I") (by decide +kernel)) (fun _ h9 => h9) rfl dX7_put_45 ?_
        refine lv_iload_n hx hb dX7_put_48 rfl (lv_at hl 5 rfl) ?_
        refine lv_aload hx hb dX7_put_49 (lv_at hl 1 rfl) ?_
        refine lv_iload hx hb dX7_put_51 (lv_at hl 6 rfl) ?_
        obtain ⟨r53_9, hc_10, hf⟩ := bd1_e hf
        refine vp_callSi (va_runV (As := [.int x4]) (rest := [.int x3, .ref h_t_s0_items]) ⟨hx, hb, hml, hown, hts⟩ (c_X3_lowestBits l dC dI cI cZ cP cS h_t_s0 h_t_s0_items (v_sform 0) (v_ssize 0) x4 n r53_9 hc_10) (cwV 1 hts gX7_put_X3_lowestBits rfl rfl rfl (by decide +kernel) ⟨Nat.le_of_ble_eq_true rfl, Nat.le_of_ble_eq_true rfl⟩) (pv_ro (ci := 3) (q0 := 0) hK (hP.sub (ws' := (wd_X3_lowestBits cI cZ cP cS h_t_s0 h_t_s0_items (v_sform 0) (v_ssize 0))) [2] rfl) rfl rfl) rfl rfl hl.1 rfl (lv_room (Nat.le_of_ble_eq_true rfl)) dX7_put_53 ⟨Nat.zero_le _, Nat.zero_le _⟩).run (fun x e_11 => ?_)
        rw [e_11]
        obtain ⟨hi_12, hf⟩ := ix_e hf
        refine va_iast hx hb hK hP hD hS 3 0 rfl rfl hi_12 dX7_put_56 (fun H locs hP hD hS => ?_)
        have hP : va_P (dC, dI) vwCl (wd_X7_put cI cZ cP cS h_t h_t_red h_t_blue h_t_sky h_t_diary h_t_calendar h_t_awakeIn h_t_worths h_t_plants h_t_sheets h_t_bestFrom h_t_s0 h_t_s1 h_t_s2 h_t_s3 h_t_s0_items h_t_s1_items h_t_s2_items h_t_s3_items v_latestFinding v_sform v_ssize (va_up v_sitems 0 (upd (v_sitems 0) x3.toNatClampNeg r53_9))) H := hP
        have hD : va_D (va_A (wd_X7_put cI cZ cP cS h_t h_t_red h_t_blue h_t_sky h_t_diary h_t_calendar h_t_awakeIn h_t_worths h_t_plants h_t_sheets h_t_bestFrom h_t_s0 h_t_s1 h_t_s2 h_t_s3 h_t_s0_items h_t_s1_items h_t_s2_items h_t_s3_items v_latestFinding v_sform v_ssize v_sitems) s.heap.size) (wd_X7_put cI cZ cP cS h_t h_t_red h_t_blue h_t_sky h_t_diary h_t_calendar h_t_awakeIn h_t_worths h_t_plants h_t_sheets h_t_bestFrom h_t_s0 h_t_s1 h_t_s2 h_t_s3 h_t_s0_items h_t_s1_items h_t_s2_items h_t_s3_items v_latestFinding v_sform v_ssize (va_up v_sitems 0 (upd (v_sitems 0) x3.toNatClampNeg r53_9))) := hD
        refine lv_iconst (v := 1) hx hb dX7_put_57 (by decide) ?_
        have hq0 := Option.some.inj hf
        obtain ⟨eq0, hq1⟩ := Prod.mk.inj hq0
        obtain ⟨eq1, hq2⟩ := Prod.mk.inj hq1
        clear hf hq0 hq1
        subst eq0
        subst eq1
        subst hq2
        exact W.iret hx hb hr (fun t ht hW => ⟨⟨_, (), rfl, rfl, by rw [ht]; exact hP, va_K.moved hW.alike hK, hD⟩, hS.F ht⟩) hS.2.2 dX7_put_58
      · rw [if_neg c33] at hf
        refine lv_aload_n hx hb dX7_put_36 rfl (lv_at hl 2 rfl) ?_
        refine lv_iload hx hb dX7_put_37 (lv_at hl 0 rfl) ?_
        obtain ⟨r39_13, o39_14, hc_15, hf⟩ := bd2_e hf
        refine rwi_call (isC := [0]) (isR := [1, 2, 3, 4, 5, 6, 7, 8, 9]) (perm := [9, 0, 1, 2, 3, 4, 5, 6, 7, 8]) (wr := [(h_t_sheets, .inl (cS, 4, .inr (.inr (.inr (.inr (ar4 h_t_s0 h_t_s1 h_t_s2 h_t_s3)))))), (h_t_s0, .inr (3, [.int (v_sform 0), .int (v_ssize 0), .ref h_t_s0_items])), (h_t_s0_items, .inl (cI, 48, .inl (v_sitems 0))), (h_t_s1, .inr (3, [.int (v_sform 1), .int (v_ssize 1), .ref h_t_s1_items])), (h_t_s1_items, .inl (cI, 48, .inl (v_sitems 1))), (h_t_s2, .inr (3, [.int (v_sform 2), .int (v_ssize 2), .ref h_t_s2_items])), (h_t_s2_items, .inl (cI, 48, .inl (v_sitems 2))), (h_t_s3, .inr (3, [.int (v_sform 3), .int (v_ssize 3), .ref h_t_s3_items])), (h_t_s3_items, .inl (cI, 48, .inl (v_sitems 3)))]) (ws2 := (wd_X7_put cI cZ cP cS h_t h_t_red h_t_blue h_t_sky h_t_diary h_t_calendar h_t_awakeIn h_t_worths h_t_plants h_t_sheets h_t_bestFrom h_t_s0 h_t_s1 h_t_s2 h_t_s3 h_t_s0_items h_t_s1_items h_t_s2_items h_t_s3_items o39_14 v_sform v_ssize v_sitems)) (va_runV (As := [.int r26_6]) (rest := []) ⟨hx, hb, hml, hown, hts⟩ (c_X7_found l dC dI cI cZ cP cS H.size h_t h_t_red h_t_blue h_t_sky h_t_diary h_t_calendar h_t_awakeIn h_t_worths h_t_plants h_t_sheets h_t_bestFrom v_latestFinding r26_6 n r39_13 o39_14 hc_15) (cwV 1 hts gX7_put_X7_found rfl rfl rfl (by decide +kernel) ⟨Nat.le_of_ble_eq_true rfl, Nat.le_of_ble_eq_true rfl⟩) (pv_rw (ci := 6) (q0 := 0) hK (hP.sub (ws' := (wd_X7_found cI cZ cP cS h_t h_t_red h_t_blue h_t_sky h_t_diary h_t_calendar h_t_awakeIn h_t_worths h_t_plants h_t_sheets h_t_bestFrom v_latestFinding)) [0] rfl) (hD.sub (ws' := (wd_X7_found cI cZ cP cS h_t h_t_red h_t_blue h_t_sky h_t_diary h_t_calendar h_t_awakeIn h_t_worths h_t_plants h_t_sheets h_t_bestFrom v_latestFinding)) [0] (by decide) rfl) rfl rfl) rfl rfl hl.1 rfl (lv_room (Nat.le_of_ble_eq_true rfl)) dX7_put_39 ⟨Nat.zero_le _, Nat.zero_le _⟩) hS hA hP hD rfl (by decide) (by decide) rfl (by decide) rfl rfl (fun H locs hP hD hS => ?_)
        have hq0 := Option.some.inj hf
        obtain ⟨eq0, hq1⟩ := Prod.mk.inj hq0
        obtain ⟨eq1, hq2⟩ := Prod.mk.inj hq1
        clear hf hq0 hq1
        subst eq0
        subst eq1
        subst hq2
        exact W.iret hx hb hr (fun t ht hW => ⟨⟨_, (), rfl, rfl, by rw [ht]; exact hP, va_K.moved hW.alike hK, hD⟩, hS.F ht⟩) hS.2.2 dX7_put_42
    · rw [if_neg c16] at hf
      refine lv_bipush (v := (-2)) hx hb dX7_put_19 (by decide) ?_
      have hq0 := Option.some.inj hf
      obtain ⟨eq0, hq1⟩ := Prod.mk.inj hq0
      obtain ⟨eq1, hq2⟩ := Prod.mk.inj hq1
      clear hf hq0 hq1
      subst eq0
      subst eq1
      subst hq2
      exact W.iret hx hb hr (fun t ht hW => ⟨⟨_, (), rfl, rfl, by rw [ht]; exact hP, va_K.moved hW.alike hK, hD⟩, hS.F ht⟩) hS.2.2 dX7_put_21
  · rw [if_neg c2_0] at hf e_1
    by_cases c2_1 : x1 = 1
    · rw [if_pos c2_1] at hf e_1
      subst e_1
      refine W.eq (g2 := F0 m 5 ls [.ref h_t_s1]) rfl ?_
      refine lv_astore (lv' := [(5, .ref h_t_s1), (0, .ref h_t), (1, .int x1), (2, .int x2), (3, .int x3), (4, .int x4)]) hx hb dX7_put_5 hl (by decide) rfl (fun ls hl => ?_)
      refine lv_aload hx hb dX7_put_7 (lv_at hl 0 rfl) ?_
      refine lv_ifnull hx hb dX7_put_9 ?_
      refine lv_iload_n hx hb dX7_put_12 rfl (lv_at hl 3 rfl) ?_
      obtain ⟨r13_17, hc_18, hf⟩ := bd1_e hf
      refine vp_callSi (va_runS (As := [.int x2]) (rest := []) ⟨hx, hb, hml, hown, hts⟩ (c_X7_noForm l dC dI cI cZ cP cS   x2 n r13_17 hc_18) (va_cwS 1 hts gX7_put_X7_noForm rfl rfl rfl (by decide +kernel) ⟨Nat.le_of_ble_eq_true rfl, Nat.le_of_ble_eq_true rfl⟩) (ps_ro hK (hP.sub (ws' := ([] : va_W)) [] rfl)) rfl rfl hl.1 rfl (lv_room (Nat.le_of_ble_eq_true rfl)) dX7_put_13 ⟨Nat.zero_le _, Nat.zero_le _⟩).run (fun x e_19 => ?_)
      obtain ⟨e_19, hb_20⟩ := e_19
      rw [e_19] at hb_20 ⊢
      refine lv_if_eq (tgt := 22) hx hb dX7_put_16 (by decide) (fun c16 => ?_) (fun c16 => ?_)
      · rw [if_pos c16] at hf
        refine lv_aload hx hb dX7_put_22 (lv_at hl 0 rfl) ?_
        refine lv_iload_n hx hb dX7_put_24 rfl (lv_at hl 3 rfl) ?_
        refine lv_iload_n hx hb dX7_put_25 rfl (lv_at hl 4 rfl) ?_
        obtain ⟨r26_21, hc_22, hf⟩ := bd1_e hf
        refine vp_callSi (va_runV (As := [.int x2, .int x3]) (rest := []) ⟨hx, hb, hml, hown, hts⟩ (c_X3_findingOf l dC dI cI cZ cP cS h_t_s1 h_t_s1_items (v_sform 1) (v_ssize 1) x2 x3 n r26_21 hc_22) (cwV 2 hts gX7_put_X3_findingOf rfl rfl rfl (by decide +kernel) ⟨Nat.le_of_ble_eq_true rfl, Nat.le_of_ble_eq_true rfl⟩) (pv_ro (ci := 3) (q0 := 0) hK (hP.sub (ws' := (wd_X3_findingOf cI cZ cP cS h_t_s1 h_t_s1_items (v_sform 1) (v_ssize 1))) [4] rfl) rfl rfl) rfl rfl hl.1 rfl (lv_room (Nat.le_of_ble_eq_true rfl)) dX7_put_26 ⟨Nat.zero_le _, Nat.zero_le _⟩).run (fun x e_23 => ?_)
        rw [e_23]
        refine lv_istore (lv' := [(6, .int r26_21), (5, .ref h_t_s1), (0, .ref h_t), (1, .int x1), (2, .int x2), (3, .int x3), (4, .int x4)]) hx hb dX7_put_29 hl (by decide) rfl (fun ls hl => ?_)
        refine lv_iload hx hb dX7_put_31 (lv_at hl 0 rfl) ?_
        refine lv_if_eq (tgt := 43) hx hb dX7_put_33 (by decide) (fun c33 => ?_) (fun c33 => ?_)
        · rw [if_pos c33] at hf
          refine lv_aload hx hb dX7_put_43 (lv_at hl 1 rfl) ?_
          refine va_get (D := (dC, dI)) (ci := 3) (v := .ref h_t_s1_items) (C := RX3) (T := TX3) (N := 3) hx hb hts hinX3 hown hK hP 4 rfl rfl 2 (by decide) (hts (.fieldLink RX7 229 "SecondSunrise$Sheet" "items" "[I") (by decide +kernel)) (fun _ h9 => h9) rfl dX7_put_45 ?_
          refine lv_iload_n hx hb dX7_put_48 rfl (lv_at hl 5 rfl) ?_
          refine lv_aload hx hb dX7_put_49 (lv_at hl 1 rfl) ?_
          refine lv_iload hx hb dX7_put_51 (lv_at hl 6 rfl) ?_
          obtain ⟨r53_24, hc_25, hf⟩ := bd1_e hf
          refine vp_callSi (va_runV (As := [.int x4]) (rest := [.int x3, .ref h_t_s1_items]) ⟨hx, hb, hml, hown, hts⟩ (c_X3_lowestBits l dC dI cI cZ cP cS h_t_s1 h_t_s1_items (v_sform 1) (v_ssize 1) x4 n r53_24 hc_25) (cwV 1 hts gX7_put_X3_lowestBits rfl rfl rfl (by decide +kernel) ⟨Nat.le_of_ble_eq_true rfl, Nat.le_of_ble_eq_true rfl⟩) (pv_ro (ci := 3) (q0 := 0) hK (hP.sub (ws' := (wd_X3_lowestBits cI cZ cP cS h_t_s1 h_t_s1_items (v_sform 1) (v_ssize 1))) [4] rfl) rfl rfl) rfl rfl hl.1 rfl (lv_room (Nat.le_of_ble_eq_true rfl)) dX7_put_53 ⟨Nat.zero_le _, Nat.zero_le _⟩).run (fun x e_26 => ?_)
          rw [e_26]
          obtain ⟨hi_27, hf⟩ := ix_e hf
          refine va_iast hx hb hK hP hD hS 5 0 rfl rfl hi_27 dX7_put_56 (fun H locs hP hD hS => ?_)
          have hP : va_P (dC, dI) vwCl (wd_X7_put cI cZ cP cS h_t h_t_red h_t_blue h_t_sky h_t_diary h_t_calendar h_t_awakeIn h_t_worths h_t_plants h_t_sheets h_t_bestFrom h_t_s0 h_t_s1 h_t_s2 h_t_s3 h_t_s0_items h_t_s1_items h_t_s2_items h_t_s3_items v_latestFinding v_sform v_ssize (va_up v_sitems 1 (upd (v_sitems 1) x3.toNatClampNeg r53_24))) H := hP
          have hD : va_D (va_A (wd_X7_put cI cZ cP cS h_t h_t_red h_t_blue h_t_sky h_t_diary h_t_calendar h_t_awakeIn h_t_worths h_t_plants h_t_sheets h_t_bestFrom h_t_s0 h_t_s1 h_t_s2 h_t_s3 h_t_s0_items h_t_s1_items h_t_s2_items h_t_s3_items v_latestFinding v_sform v_ssize v_sitems) s.heap.size) (wd_X7_put cI cZ cP cS h_t h_t_red h_t_blue h_t_sky h_t_diary h_t_calendar h_t_awakeIn h_t_worths h_t_plants h_t_sheets h_t_bestFrom h_t_s0 h_t_s1 h_t_s2 h_t_s3 h_t_s0_items h_t_s1_items h_t_s2_items h_t_s3_items v_latestFinding v_sform v_ssize (va_up v_sitems 1 (upd (v_sitems 1) x3.toNatClampNeg r53_24))) := hD
          refine lv_iconst (v := 1) hx hb dX7_put_57 (by decide) ?_
          have hq0 := Option.some.inj hf
          obtain ⟨eq0, hq1⟩ := Prod.mk.inj hq0
          obtain ⟨eq1, hq2⟩ := Prod.mk.inj hq1
          clear hf hq0 hq1
          subst eq0
          subst eq1
          subst hq2
          exact W.iret hx hb hr (fun t ht hW => ⟨⟨_, (), rfl, rfl, by rw [ht]; exact hP, va_K.moved hW.alike hK, hD⟩, hS.F ht⟩) hS.2.2 dX7_put_58
        · rw [if_neg c33] at hf
          refine lv_aload_n hx hb dX7_put_36 rfl (lv_at hl 2 rfl) ?_
          refine lv_iload hx hb dX7_put_37 (lv_at hl 0 rfl) ?_
          obtain ⟨r39_28, o39_29, hc_30, hf⟩ := bd2_e hf
          refine rwi_call (isC := [0]) (isR := [1, 2, 3, 4, 5, 6, 7, 8, 9]) (perm := [9, 0, 1, 2, 3, 4, 5, 6, 7, 8]) (wr := [(h_t_sheets, .inl (cS, 4, .inr (.inr (.inr (.inr (ar4 h_t_s0 h_t_s1 h_t_s2 h_t_s3)))))), (h_t_s0, .inr (3, [.int (v_sform 0), .int (v_ssize 0), .ref h_t_s0_items])), (h_t_s0_items, .inl (cI, 48, .inl (v_sitems 0))), (h_t_s1, .inr (3, [.int (v_sform 1), .int (v_ssize 1), .ref h_t_s1_items])), (h_t_s1_items, .inl (cI, 48, .inl (v_sitems 1))), (h_t_s2, .inr (3, [.int (v_sform 2), .int (v_ssize 2), .ref h_t_s2_items])), (h_t_s2_items, .inl (cI, 48, .inl (v_sitems 2))), (h_t_s3, .inr (3, [.int (v_sform 3), .int (v_ssize 3), .ref h_t_s3_items])), (h_t_s3_items, .inl (cI, 48, .inl (v_sitems 3)))]) (ws2 := (wd_X7_put cI cZ cP cS h_t h_t_red h_t_blue h_t_sky h_t_diary h_t_calendar h_t_awakeIn h_t_worths h_t_plants h_t_sheets h_t_bestFrom h_t_s0 h_t_s1 h_t_s2 h_t_s3 h_t_s0_items h_t_s1_items h_t_s2_items h_t_s3_items o39_29 v_sform v_ssize v_sitems)) (va_runV (As := [.int r26_21]) (rest := []) ⟨hx, hb, hml, hown, hts⟩ (c_X7_found l dC dI cI cZ cP cS H.size h_t h_t_red h_t_blue h_t_sky h_t_diary h_t_calendar h_t_awakeIn h_t_worths h_t_plants h_t_sheets h_t_bestFrom v_latestFinding r26_21 n r39_28 o39_29 hc_30) (cwV 1 hts gX7_put_X7_found rfl rfl rfl (by decide +kernel) ⟨Nat.le_of_ble_eq_true rfl, Nat.le_of_ble_eq_true rfl⟩) (pv_rw (ci := 6) (q0 := 0) hK (hP.sub (ws' := (wd_X7_found cI cZ cP cS h_t h_t_red h_t_blue h_t_sky h_t_diary h_t_calendar h_t_awakeIn h_t_worths h_t_plants h_t_sheets h_t_bestFrom v_latestFinding)) [0] rfl) (hD.sub (ws' := (wd_X7_found cI cZ cP cS h_t h_t_red h_t_blue h_t_sky h_t_diary h_t_calendar h_t_awakeIn h_t_worths h_t_plants h_t_sheets h_t_bestFrom v_latestFinding)) [0] (by decide) rfl) rfl rfl) rfl rfl hl.1 rfl (lv_room (Nat.le_of_ble_eq_true rfl)) dX7_put_39 ⟨Nat.zero_le _, Nat.zero_le _⟩) hS hA hP hD rfl (by decide) (by decide) rfl (by decide) rfl rfl (fun H locs hP hD hS => ?_)
          have hq0 := Option.some.inj hf
          obtain ⟨eq0, hq1⟩ := Prod.mk.inj hq0
          obtain ⟨eq1, hq2⟩ := Prod.mk.inj hq1
          clear hf hq0 hq1
          subst eq0
          subst eq1
          subst hq2
          exact W.iret hx hb hr (fun t ht hW => ⟨⟨_, (), rfl, rfl, by rw [ht]; exact hP, va_K.moved hW.alike hK, hD⟩, hS.F ht⟩) hS.2.2 dX7_put_42
      · rw [if_neg c16] at hf
        refine lv_bipush (v := (-2)) hx hb dX7_put_19 (by decide) ?_
        have hq0 := Option.some.inj hf
        obtain ⟨eq0, hq1⟩ := Prod.mk.inj hq0
        obtain ⟨eq1, hq2⟩ := Prod.mk.inj hq1
        clear hf hq0 hq1
        subst eq0
        subst eq1
        subst hq2
        exact W.iret hx hb hr (fun t ht hW => ⟨⟨_, (), rfl, rfl, by rw [ht]; exact hP, va_K.moved hW.alike hK, hD⟩, hS.F ht⟩) hS.2.2 dX7_put_21
    · rw [if_neg c2_1] at hf e_1
      by_cases c2_2 : x1 = 2
      · rw [if_pos c2_2] at hf e_1
        subst e_1
        refine W.eq (g2 := F0 m 5 ls [.ref h_t_s2]) rfl ?_
        refine lv_astore (lv' := [(5, .ref h_t_s2), (0, .ref h_t), (1, .int x1), (2, .int x2), (3, .int x3), (4, .int x4)]) hx hb dX7_put_5 hl (by decide) rfl (fun ls hl => ?_)
        refine lv_aload hx hb dX7_put_7 (lv_at hl 0 rfl) ?_
        refine lv_ifnull hx hb dX7_put_9 ?_
        refine lv_iload_n hx hb dX7_put_12 rfl (lv_at hl 3 rfl) ?_
        obtain ⟨r13_32, hc_33, hf⟩ := bd1_e hf
        refine vp_callSi (va_runS (As := [.int x2]) (rest := []) ⟨hx, hb, hml, hown, hts⟩ (c_X7_noForm l dC dI cI cZ cP cS   x2 n r13_32 hc_33) (va_cwS 1 hts gX7_put_X7_noForm rfl rfl rfl (by decide +kernel) ⟨Nat.le_of_ble_eq_true rfl, Nat.le_of_ble_eq_true rfl⟩) (ps_ro hK (hP.sub (ws' := ([] : va_W)) [] rfl)) rfl rfl hl.1 rfl (lv_room (Nat.le_of_ble_eq_true rfl)) dX7_put_13 ⟨Nat.zero_le _, Nat.zero_le _⟩).run (fun x e_34 => ?_)
        obtain ⟨e_34, hb_35⟩ := e_34
        rw [e_34] at hb_35 ⊢
        refine lv_if_eq (tgt := 22) hx hb dX7_put_16 (by decide) (fun c16 => ?_) (fun c16 => ?_)
        · rw [if_pos c16] at hf
          refine lv_aload hx hb dX7_put_22 (lv_at hl 0 rfl) ?_
          refine lv_iload_n hx hb dX7_put_24 rfl (lv_at hl 3 rfl) ?_
          refine lv_iload_n hx hb dX7_put_25 rfl (lv_at hl 4 rfl) ?_
          obtain ⟨r26_36, hc_37, hf⟩ := bd1_e hf
          refine vp_callSi (va_runV (As := [.int x2, .int x3]) (rest := []) ⟨hx, hb, hml, hown, hts⟩ (c_X3_findingOf l dC dI cI cZ cP cS h_t_s2 h_t_s2_items (v_sform 2) (v_ssize 2) x2 x3 n r26_36 hc_37) (cwV 2 hts gX7_put_X3_findingOf rfl rfl rfl (by decide +kernel) ⟨Nat.le_of_ble_eq_true rfl, Nat.le_of_ble_eq_true rfl⟩) (pv_ro (ci := 3) (q0 := 0) hK (hP.sub (ws' := (wd_X3_findingOf cI cZ cP cS h_t_s2 h_t_s2_items (v_sform 2) (v_ssize 2))) [6] rfl) rfl rfl) rfl rfl hl.1 rfl (lv_room (Nat.le_of_ble_eq_true rfl)) dX7_put_26 ⟨Nat.zero_le _, Nat.zero_le _⟩).run (fun x e_38 => ?_)
          rw [e_38]
          refine lv_istore (lv' := [(6, .int r26_36), (5, .ref h_t_s2), (0, .ref h_t), (1, .int x1), (2, .int x2), (3, .int x3), (4, .int x4)]) hx hb dX7_put_29 hl (by decide) rfl (fun ls hl => ?_)
          refine lv_iload hx hb dX7_put_31 (lv_at hl 0 rfl) ?_
          refine lv_if_eq (tgt := 43) hx hb dX7_put_33 (by decide) (fun c33 => ?_) (fun c33 => ?_)
          · rw [if_pos c33] at hf
            refine lv_aload hx hb dX7_put_43 (lv_at hl 1 rfl) ?_
            refine va_get (D := (dC, dI)) (ci := 3) (v := .ref h_t_s2_items) (C := RX3) (T := TX3) (N := 3) hx hb hts hinX3 hown hK hP 6 rfl rfl 2 (by decide) (hts (.fieldLink RX7 229 "SecondSunrise$Sheet" "items" "[I") (by decide +kernel)) (fun _ h9 => h9) rfl dX7_put_45 ?_
            refine lv_iload_n hx hb dX7_put_48 rfl (lv_at hl 5 rfl) ?_
            refine lv_aload hx hb dX7_put_49 (lv_at hl 1 rfl) ?_
            refine lv_iload hx hb dX7_put_51 (lv_at hl 6 rfl) ?_
            obtain ⟨r53_39, hc_40, hf⟩ := bd1_e hf
            refine vp_callSi (va_runV (As := [.int x4]) (rest := [.int x3, .ref h_t_s2_items]) ⟨hx, hb, hml, hown, hts⟩ (c_X3_lowestBits l dC dI cI cZ cP cS h_t_s2 h_t_s2_items (v_sform 2) (v_ssize 2) x4 n r53_39 hc_40) (cwV 1 hts gX7_put_X3_lowestBits rfl rfl rfl (by decide +kernel) ⟨Nat.le_of_ble_eq_true rfl, Nat.le_of_ble_eq_true rfl⟩) (pv_ro (ci := 3) (q0 := 0) hK (hP.sub (ws' := (wd_X3_lowestBits cI cZ cP cS h_t_s2 h_t_s2_items (v_sform 2) (v_ssize 2))) [6] rfl) rfl rfl) rfl rfl hl.1 rfl (lv_room (Nat.le_of_ble_eq_true rfl)) dX7_put_53 ⟨Nat.zero_le _, Nat.zero_le _⟩).run (fun x e_41 => ?_)
            rw [e_41]
            obtain ⟨hi_42, hf⟩ := ix_e hf
            refine va_iast hx hb hK hP hD hS 7 0 rfl rfl hi_42 dX7_put_56 (fun H locs hP hD hS => ?_)
            have hP : va_P (dC, dI) vwCl (wd_X7_put cI cZ cP cS h_t h_t_red h_t_blue h_t_sky h_t_diary h_t_calendar h_t_awakeIn h_t_worths h_t_plants h_t_sheets h_t_bestFrom h_t_s0 h_t_s1 h_t_s2 h_t_s3 h_t_s0_items h_t_s1_items h_t_s2_items h_t_s3_items v_latestFinding v_sform v_ssize (va_up v_sitems 2 (upd (v_sitems 2) x3.toNatClampNeg r53_39))) H := hP
            have hD : va_D (va_A (wd_X7_put cI cZ cP cS h_t h_t_red h_t_blue h_t_sky h_t_diary h_t_calendar h_t_awakeIn h_t_worths h_t_plants h_t_sheets h_t_bestFrom h_t_s0 h_t_s1 h_t_s2 h_t_s3 h_t_s0_items h_t_s1_items h_t_s2_items h_t_s3_items v_latestFinding v_sform v_ssize v_sitems) s.heap.size) (wd_X7_put cI cZ cP cS h_t h_t_red h_t_blue h_t_sky h_t_diary h_t_calendar h_t_awakeIn h_t_worths h_t_plants h_t_sheets h_t_bestFrom h_t_s0 h_t_s1 h_t_s2 h_t_s3 h_t_s0_items h_t_s1_items h_t_s2_items h_t_s3_items v_latestFinding v_sform v_ssize (va_up v_sitems 2 (upd (v_sitems 2) x3.toNatClampNeg r53_39))) := hD
            refine lv_iconst (v := 1) hx hb dX7_put_57 (by decide) ?_
            have hq0 := Option.some.inj hf
            obtain ⟨eq0, hq1⟩ := Prod.mk.inj hq0
            obtain ⟨eq1, hq2⟩ := Prod.mk.inj hq1
            clear hf hq0 hq1
            subst eq0
            subst eq1
            subst hq2
            exact W.iret hx hb hr (fun t ht hW => ⟨⟨_, (), rfl, rfl, by rw [ht]; exact hP, va_K.moved hW.alike hK, hD⟩, hS.F ht⟩) hS.2.2 dX7_put_58
          · rw [if_neg c33] at hf
            refine lv_aload_n hx hb dX7_put_36 rfl (lv_at hl 2 rfl) ?_
            refine lv_iload hx hb dX7_put_37 (lv_at hl 0 rfl) ?_
            obtain ⟨r39_43, o39_44, hc_45, hf⟩ := bd2_e hf
            refine rwi_call (isC := [0]) (isR := [1, 2, 3, 4, 5, 6, 7, 8, 9]) (perm := [9, 0, 1, 2, 3, 4, 5, 6, 7, 8]) (wr := [(h_t_sheets, .inl (cS, 4, .inr (.inr (.inr (.inr (ar4 h_t_s0 h_t_s1 h_t_s2 h_t_s3)))))), (h_t_s0, .inr (3, [.int (v_sform 0), .int (v_ssize 0), .ref h_t_s0_items])), (h_t_s0_items, .inl (cI, 48, .inl (v_sitems 0))), (h_t_s1, .inr (3, [.int (v_sform 1), .int (v_ssize 1), .ref h_t_s1_items])), (h_t_s1_items, .inl (cI, 48, .inl (v_sitems 1))), (h_t_s2, .inr (3, [.int (v_sform 2), .int (v_ssize 2), .ref h_t_s2_items])), (h_t_s2_items, .inl (cI, 48, .inl (v_sitems 2))), (h_t_s3, .inr (3, [.int (v_sform 3), .int (v_ssize 3), .ref h_t_s3_items])), (h_t_s3_items, .inl (cI, 48, .inl (v_sitems 3)))]) (ws2 := (wd_X7_put cI cZ cP cS h_t h_t_red h_t_blue h_t_sky h_t_diary h_t_calendar h_t_awakeIn h_t_worths h_t_plants h_t_sheets h_t_bestFrom h_t_s0 h_t_s1 h_t_s2 h_t_s3 h_t_s0_items h_t_s1_items h_t_s2_items h_t_s3_items o39_44 v_sform v_ssize v_sitems)) (va_runV (As := [.int r26_36]) (rest := []) ⟨hx, hb, hml, hown, hts⟩ (c_X7_found l dC dI cI cZ cP cS H.size h_t h_t_red h_t_blue h_t_sky h_t_diary h_t_calendar h_t_awakeIn h_t_worths h_t_plants h_t_sheets h_t_bestFrom v_latestFinding r26_36 n r39_43 o39_44 hc_45) (cwV 1 hts gX7_put_X7_found rfl rfl rfl (by decide +kernel) ⟨Nat.le_of_ble_eq_true rfl, Nat.le_of_ble_eq_true rfl⟩) (pv_rw (ci := 6) (q0 := 0) hK (hP.sub (ws' := (wd_X7_found cI cZ cP cS h_t h_t_red h_t_blue h_t_sky h_t_diary h_t_calendar h_t_awakeIn h_t_worths h_t_plants h_t_sheets h_t_bestFrom v_latestFinding)) [0] rfl) (hD.sub (ws' := (wd_X7_found cI cZ cP cS h_t h_t_red h_t_blue h_t_sky h_t_diary h_t_calendar h_t_awakeIn h_t_worths h_t_plants h_t_sheets h_t_bestFrom v_latestFinding)) [0] (by decide) rfl) rfl rfl) rfl rfl hl.1 rfl (lv_room (Nat.le_of_ble_eq_true rfl)) dX7_put_39 ⟨Nat.zero_le _, Nat.zero_le _⟩) hS hA hP hD rfl (by decide) (by decide) rfl (by decide) rfl rfl (fun H locs hP hD hS => ?_)
            have hq0 := Option.some.inj hf
            obtain ⟨eq0, hq1⟩ := Prod.mk.inj hq0
            obtain ⟨eq1, hq2⟩ := Prod.mk.inj hq1
            clear hf hq0 hq1
            subst eq0
            subst eq1
            subst hq2
            exact W.iret hx hb hr (fun t ht hW => ⟨⟨_, (), rfl, rfl, by rw [ht]; exact hP, va_K.moved hW.alike hK, hD⟩, hS.F ht⟩) hS.2.2 dX7_put_42
        · rw [if_neg c16] at hf
          refine lv_bipush (v := (-2)) hx hb dX7_put_19 (by decide) ?_
          have hq0 := Option.some.inj hf
          obtain ⟨eq0, hq1⟩ := Prod.mk.inj hq0
          obtain ⟨eq1, hq2⟩ := Prod.mk.inj hq1
          clear hf hq0 hq1
          subst eq0
          subst eq1
          subst hq2
          exact W.iret hx hb hr (fun t ht hW => ⟨⟨_, (), rfl, rfl, by rw [ht]; exact hP, va_K.moved hW.alike hK, hD⟩, hS.F ht⟩) hS.2.2 dX7_put_21
      · rw [if_neg c2_2] at hf e_1
        by_cases c2_3 : x1 = 3
        · rw [if_pos c2_3] at hf e_1
          subst e_1
          refine W.eq (g2 := F0 m 5 ls [.ref h_t_s3]) rfl ?_
          refine lv_astore (lv' := [(5, .ref h_t_s3), (0, .ref h_t), (1, .int x1), (2, .int x2), (3, .int x3), (4, .int x4)]) hx hb dX7_put_5 hl (by decide) rfl (fun ls hl => ?_)
          refine lv_aload hx hb dX7_put_7 (lv_at hl 0 rfl) ?_
          refine lv_ifnull hx hb dX7_put_9 ?_
          refine lv_iload_n hx hb dX7_put_12 rfl (lv_at hl 3 rfl) ?_
          obtain ⟨r13_47, hc_48, hf⟩ := bd1_e hf
          refine vp_callSi (va_runS (As := [.int x2]) (rest := []) ⟨hx, hb, hml, hown, hts⟩ (c_X7_noForm l dC dI cI cZ cP cS   x2 n r13_47 hc_48) (va_cwS 1 hts gX7_put_X7_noForm rfl rfl rfl (by decide +kernel) ⟨Nat.le_of_ble_eq_true rfl, Nat.le_of_ble_eq_true rfl⟩) (ps_ro hK (hP.sub (ws' := ([] : va_W)) [] rfl)) rfl rfl hl.1 rfl (lv_room (Nat.le_of_ble_eq_true rfl)) dX7_put_13 ⟨Nat.zero_le _, Nat.zero_le _⟩).run (fun x e_49 => ?_)
          obtain ⟨e_49, hb_50⟩ := e_49
          rw [e_49] at hb_50 ⊢
          refine lv_if_eq (tgt := 22) hx hb dX7_put_16 (by decide) (fun c16 => ?_) (fun c16 => ?_)
          · rw [if_pos c16] at hf
            refine lv_aload hx hb dX7_put_22 (lv_at hl 0 rfl) ?_
            refine lv_iload_n hx hb dX7_put_24 rfl (lv_at hl 3 rfl) ?_
            refine lv_iload_n hx hb dX7_put_25 rfl (lv_at hl 4 rfl) ?_
            obtain ⟨r26_51, hc_52, hf⟩ := bd1_e hf
            refine vp_callSi (va_runV (As := [.int x2, .int x3]) (rest := []) ⟨hx, hb, hml, hown, hts⟩ (c_X3_findingOf l dC dI cI cZ cP cS h_t_s3 h_t_s3_items (v_sform 3) (v_ssize 3) x2 x3 n r26_51 hc_52) (cwV 2 hts gX7_put_X3_findingOf rfl rfl rfl (by decide +kernel) ⟨Nat.le_of_ble_eq_true rfl, Nat.le_of_ble_eq_true rfl⟩) (pv_ro (ci := 3) (q0 := 0) hK (hP.sub (ws' := (wd_X3_findingOf cI cZ cP cS h_t_s3 h_t_s3_items (v_sform 3) (v_ssize 3))) [8] rfl) rfl rfl) rfl rfl hl.1 rfl (lv_room (Nat.le_of_ble_eq_true rfl)) dX7_put_26 ⟨Nat.zero_le _, Nat.zero_le _⟩).run (fun x e_53 => ?_)
            rw [e_53]
            refine lv_istore (lv' := [(6, .int r26_51), (5, .ref h_t_s3), (0, .ref h_t), (1, .int x1), (2, .int x2), (3, .int x3), (4, .int x4)]) hx hb dX7_put_29 hl (by decide) rfl (fun ls hl => ?_)
            refine lv_iload hx hb dX7_put_31 (lv_at hl 0 rfl) ?_
            refine lv_if_eq (tgt := 43) hx hb dX7_put_33 (by decide) (fun c33 => ?_) (fun c33 => ?_)
            · rw [if_pos c33] at hf
              refine lv_aload hx hb dX7_put_43 (lv_at hl 1 rfl) ?_
              refine va_get (D := (dC, dI)) (ci := 3) (v := .ref h_t_s3_items) (C := RX3) (T := TX3) (N := 3) hx hb hts hinX3 hown hK hP 8 rfl rfl 2 (by decide) (hts (.fieldLink RX7 229 "SecondSunrise$Sheet" "items" "[I") (by decide +kernel)) (fun _ h9 => h9) rfl dX7_put_45 ?_
              refine lv_iload_n hx hb dX7_put_48 rfl (lv_at hl 5 rfl) ?_
              refine lv_aload hx hb dX7_put_49 (lv_at hl 1 rfl) ?_
              refine lv_iload hx hb dX7_put_51 (lv_at hl 6 rfl) ?_
              obtain ⟨r53_54, hc_55, hf⟩ := bd1_e hf
              refine vp_callSi (va_runV (As := [.int x4]) (rest := [.int x3, .ref h_t_s3_items]) ⟨hx, hb, hml, hown, hts⟩ (c_X3_lowestBits l dC dI cI cZ cP cS h_t_s3 h_t_s3_items (v_sform 3) (v_ssize 3) x4 n r53_54 hc_55) (cwV 1 hts gX7_put_X3_lowestBits rfl rfl rfl (by decide +kernel) ⟨Nat.le_of_ble_eq_true rfl, Nat.le_of_ble_eq_true rfl⟩) (pv_ro (ci := 3) (q0 := 0) hK (hP.sub (ws' := (wd_X3_lowestBits cI cZ cP cS h_t_s3 h_t_s3_items (v_sform 3) (v_ssize 3))) [8] rfl) rfl rfl) rfl rfl hl.1 rfl (lv_room (Nat.le_of_ble_eq_true rfl)) dX7_put_53 ⟨Nat.zero_le _, Nat.zero_le _⟩).run (fun x e_56 => ?_)
              rw [e_56]
              obtain ⟨hi_57, hf⟩ := ix_e hf
              refine va_iast hx hb hK hP hD hS 9 0 rfl rfl hi_57 dX7_put_56 (fun H locs hP hD hS => ?_)
              have hP : va_P (dC, dI) vwCl (wd_X7_put cI cZ cP cS h_t h_t_red h_t_blue h_t_sky h_t_diary h_t_calendar h_t_awakeIn h_t_worths h_t_plants h_t_sheets h_t_bestFrom h_t_s0 h_t_s1 h_t_s2 h_t_s3 h_t_s0_items h_t_s1_items h_t_s2_items h_t_s3_items v_latestFinding v_sform v_ssize (va_up v_sitems 3 (upd (v_sitems 3) x3.toNatClampNeg r53_54))) H := hP
              have hD : va_D (va_A (wd_X7_put cI cZ cP cS h_t h_t_red h_t_blue h_t_sky h_t_diary h_t_calendar h_t_awakeIn h_t_worths h_t_plants h_t_sheets h_t_bestFrom h_t_s0 h_t_s1 h_t_s2 h_t_s3 h_t_s0_items h_t_s1_items h_t_s2_items h_t_s3_items v_latestFinding v_sform v_ssize v_sitems) s.heap.size) (wd_X7_put cI cZ cP cS h_t h_t_red h_t_blue h_t_sky h_t_diary h_t_calendar h_t_awakeIn h_t_worths h_t_plants h_t_sheets h_t_bestFrom h_t_s0 h_t_s1 h_t_s2 h_t_s3 h_t_s0_items h_t_s1_items h_t_s2_items h_t_s3_items v_latestFinding v_sform v_ssize (va_up v_sitems 3 (upd (v_sitems 3) x3.toNatClampNeg r53_54))) := hD
              refine lv_iconst (v := 1) hx hb dX7_put_57 (by decide) ?_
              have hq0 := Option.some.inj hf
              obtain ⟨eq0, hq1⟩ := Prod.mk.inj hq0
              obtain ⟨eq1, hq2⟩ := Prod.mk.inj hq1
              clear hf hq0 hq1
              subst eq0
              subst eq1
              subst hq2
              exact W.iret hx hb hr (fun t ht hW => ⟨⟨_, (), rfl, rfl, by rw [ht]; exact hP, va_K.moved hW.alike hK, hD⟩, hS.F ht⟩) hS.2.2 dX7_put_58
            · rw [if_neg c33] at hf
              refine lv_aload_n hx hb dX7_put_36 rfl (lv_at hl 2 rfl) ?_
              refine lv_iload hx hb dX7_put_37 (lv_at hl 0 rfl) ?_
              obtain ⟨r39_58, o39_59, hc_60, hf⟩ := bd2_e hf
              refine rwi_call (isC := [0]) (isR := [1, 2, 3, 4, 5, 6, 7, 8, 9]) (perm := [9, 0, 1, 2, 3, 4, 5, 6, 7, 8]) (wr := [(h_t_sheets, .inl (cS, 4, .inr (.inr (.inr (.inr (ar4 h_t_s0 h_t_s1 h_t_s2 h_t_s3)))))), (h_t_s0, .inr (3, [.int (v_sform 0), .int (v_ssize 0), .ref h_t_s0_items])), (h_t_s0_items, .inl (cI, 48, .inl (v_sitems 0))), (h_t_s1, .inr (3, [.int (v_sform 1), .int (v_ssize 1), .ref h_t_s1_items])), (h_t_s1_items, .inl (cI, 48, .inl (v_sitems 1))), (h_t_s2, .inr (3, [.int (v_sform 2), .int (v_ssize 2), .ref h_t_s2_items])), (h_t_s2_items, .inl (cI, 48, .inl (v_sitems 2))), (h_t_s3, .inr (3, [.int (v_sform 3), .int (v_ssize 3), .ref h_t_s3_items])), (h_t_s3_items, .inl (cI, 48, .inl (v_sitems 3)))]) (ws2 := (wd_X7_put cI cZ cP cS h_t h_t_red h_t_blue h_t_sky h_t_diary h_t_calendar h_t_awakeIn h_t_worths h_t_plants h_t_sheets h_t_bestFrom h_t_s0 h_t_s1 h_t_s2 h_t_s3 h_t_s0_items h_t_s1_items h_t_s2_items h_t_s3_items o39_59 v_sform v_ssize v_sitems)) (va_runV (As := [.int r26_51]) (rest := []) ⟨hx, hb, hml, hown, hts⟩ (c_X7_found l dC dI cI cZ cP cS H.size h_t h_t_red h_t_blue h_t_sky h_t_diary h_t_calendar h_t_awakeIn h_t_worths h_t_plants h_t_sheets h_t_bestFrom v_latestFinding r26_51 n r39_58 o39_59 hc_60) (cwV 1 hts gX7_put_X7_found rfl rfl rfl (by decide +kernel) ⟨Nat.le_of_ble_eq_true rfl, Nat.le_of_ble_eq_true rfl⟩) (pv_rw (ci := 6) (q0 := 0) hK (hP.sub (ws' := (wd_X7_found cI cZ cP cS h_t h_t_red h_t_blue h_t_sky h_t_diary h_t_calendar h_t_awakeIn h_t_worths h_t_plants h_t_sheets h_t_bestFrom v_latestFinding)) [0] rfl) (hD.sub (ws' := (wd_X7_found cI cZ cP cS h_t h_t_red h_t_blue h_t_sky h_t_diary h_t_calendar h_t_awakeIn h_t_worths h_t_plants h_t_sheets h_t_bestFrom v_latestFinding)) [0] (by decide) rfl) rfl rfl) rfl rfl hl.1 rfl (lv_room (Nat.le_of_ble_eq_true rfl)) dX7_put_39 ⟨Nat.zero_le _, Nat.zero_le _⟩) hS hA hP hD rfl (by decide) (by decide) rfl (by decide) rfl rfl (fun H locs hP hD hS => ?_)
              have hq0 := Option.some.inj hf
              obtain ⟨eq0, hq1⟩ := Prod.mk.inj hq0
              obtain ⟨eq1, hq2⟩ := Prod.mk.inj hq1
              clear hf hq0 hq1
              subst eq0
              subst eq1
              subst hq2
              exact W.iret hx hb hr (fun t ht hW => ⟨⟨_, (), rfl, rfl, by rw [ht]; exact hP, va_K.moved hW.alike hK, hD⟩, hS.F ht⟩) hS.2.2 dX7_put_42
          · rw [if_neg c16] at hf
            refine lv_bipush (v := (-2)) hx hb dX7_put_19 (by decide) ?_
            have hq0 := Option.some.inj hf
            obtain ⟨eq0, hq1⟩ := Prod.mk.inj hq0
            obtain ⟨eq1, hq2⟩ := Prod.mk.inj hq1
            clear hf hq0 hq1
            subst eq0
            subst eq1
            subst hq2
            exact W.iret hx hb hr (fun t ht hW => ⟨⟨_, (), rfl, rfl, by rw [ht]; exact hP, va_K.moved hW.alike hK, hD⟩, hS.F ht⟩) hS.2.2 dX7_put_21
        · rw [if_neg c2_3] at hf e_1
          subst e_1
          refine W.eq (g2 := F0 m 5 ls [.null]) rfl ?_
          refine lv_astoreN (lv' := [(5, .null), (0, .ref h_t), (1, .int x1), (2, .int x2), (3, .int x3), (4, .int x4)]) hx hb dX7_put_5 hl (by decide) rfl (fun ls hl => ?_)
          refine lv_aloadN hx hb dX7_put_7 (lv_at hl 0 rfl) ?_
          refine lv_ifnullN (tgt := 19) hx hb dX7_put_9 (by decide) ?_
          refine lv_bipush (v := (-2)) hx hb dX7_put_19 (by decide) ?_
          have hq0 := Option.some.inj hf
          obtain ⟨eq0, hq1⟩ := Prod.mk.inj hq0
          obtain ⟨eq1, hq2⟩ := Prod.mk.inj hq1
          clear hf hq0 hq1
          subst eq0
          subst eq1
          subst hq2
          exact W.iret hx hb hr (fun t ht hW => ⟨⟨_, (), rfl, rfl, by rw [ht]; exact hP, va_K.moved hW.alike hK, hD⟩, hS.F ht⟩) hS.2.2 dX7_put_21
