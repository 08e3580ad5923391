abbrev wd_X7_shortest (cI cZ cP cS : ClassId) (h_t h_t_red h_t_blue h_t_sky h_t_diary h_t_calendar h_t_awakeIn h_t_worths h_t_plants h_t_sheets h_t_bestFrom h_t_red_fitting h_t_red_worstLeft h_t_blue_fitting h_t_blue_worstLeft : Nat) (v_latestFinding : Int32) (v_turn : Nat → Int32) (v_phase : Nat → Int32) (v_up : Nat → Int32) : va_W := [(h_t, .inr (6, [.ref h_t_red, .ref h_t_blue, .ref h_t_sky, .ref h_t_diary, .ref h_t_calendar, .ref h_t_awakeIn, .ref h_t_worths, .ref h_t_plants, .ref h_t_sheets, .ref h_t_bestFrom, .int v_latestFinding])), (h_t_red, .inr (5, [.int (v_turn 0), .int (v_phase 0), .int (v_up 0), .ref h_t_red_fitting, .ref h_t_red_worstLeft])), (h_t_blue, .inr (5, [.int (v_turn 1), .int (v_phase 1), .int (v_up 1), .ref h_t_blue_fitting, .ref h_t_blue_worstLeft]))]
abbrev rm_X7_shortest : Room := { frames := 4, cells := 0, slots := 0, locals := 93 }
def f_X7_shortest (n : Nat) (v_turn : Nat → Int32) (v_phase : Nat → Int32) (v_up : Nat → Int32) (x1 : Int32) (x2 : Int32) (x3 : Int32) (x4 : Int32) : Option (Int32) := if x1 = 0 then bd1_ (f_X7_outside n x2 0 20) (fun (r16_2 : Int32) => if r16_2 = 0 then bd1_ (f_X7_outside n x3 2 80) (fun (r26_6 : Int32) => if r26_6 = 0 then bd1_ (f_X7_outside n x4 0 1) (fun (r36_10 : Int32) => if r36_10 = 0 then if (v_up 0) = 0 then some (-3) else bd1_ (f_X7_driftByTwo n (v_turn 0) (v_phase 0) x3 x3) (fun (r60_14 : Int32) => if x2 < r60_14 then bd1_ (f_X7_firstOfTwo n (v_turn 0) (v_phase 0) x2 x3) (fun (r82_17 : Int32) => jn0_ (some r82_17) (fun k98 => if r82_17 = (-1) then k98 else if x4 = 0 then k98 else some (x3 - r82_17))) else if x4 = 0 then some x3 else some 0) else some (-2)) else some (-2)) else some (-2)) else if x1 = 1 then bd1_ (f_X7_outside n x2 0 20) (fun (r16_20 : Int32) => if r16_20 = 0 then bd1_ (f_X7_outside n x3 2 80) (fun (r26_24 : Int32) => if r26_24 = 0 then bd1_ (f_X7_outside n x4 0 1) (fun (r36_28 : Int32) => if r36_28 = 0 then if (v_up 1) = 0 then some (-3) else bd1_ (f_X7_driftByTwo n (v_turn 1) (v_phase 1) x3 x3) (fun (r60_32 : Int32) => if x2 < r60_32 then bd1_ (f_X7_firstOfTwo n (v_turn 1) (v_phase 1) x2 x3) (fun (r82_35 : Int32) => jn0_ (some r82_35) (fun k98 => if r82_35 = (-1) then k98 else if x4 = 0 then k98 else some (x3 - r82_35))) else if x4 = 0 then some x3 else some 0) else some (-2)) else some (-2)) else some (-2)) else some (-2)
set_option maxHeartbeats 4000000 in
set_option maxRecDepth 100000 in
theorem c_X7_shortest (l : Launch) (dC : Nat → ClassId) (dI : Nat → Nat → Nat) (cI cZ cP cS : ClassId) (h_t h_t_red h_t_blue h_t_sky h_t_diary h_t_calendar h_t_awakeIn h_t_worths h_t_plants h_t_sheets h_t_bestFrom h_t_red_fitting h_t_red_worstLeft h_t_blue_fitting h_t_blue_worstLeft : Nat) (v_latestFinding : Int32) (v_turn : Nat → Int32) (v_phase : Nat → Int32) (v_up : Nat → Int32) (x1 : Int32) (x2 : Int32) (x3 : Int32) (x4 : Int32) (n : Nat) (r : Int32) (hf : f_X7_shortest n v_turn v_phase v_up x1 x2 x3 x4 = some r) : Met l yX7_shortest wsX7_shortest rm_X7_shortest (RO (dC, dI) (TY cI cZ cP cS) [.ref h_t, .int x1, .int x2, .int x3, .int x4] (wd_X7_shortest cI cZ cP cS h_t h_t_red h_t_blue h_t_sky h_t_diary h_t_calendar h_t_awakeIn h_t_worths h_t_plants h_t_sheets h_t_bestFrom h_t_red_fitting h_t_red_worstLeft h_t_blue_fitting h_t_blue_worstLeft v_latestFinding v_turn v_phase v_up)) (vp_Si (fun x => x = r)) 0 0 NF := by
  refine Met.ofW (cc := cX7_shortest) (maxL := 7) (ret := (some .int)) (by decide) rfl ?_
  intro p e s m args below meth c s₁ B hml hv
  obtain ⟨rfl, hP, hK⟩ := hv
  have hx := B.exec
  have hb := B.bytes
  have hr := B.returns
  have hts := atoms_spec (ws := wsX7_shortest) B.pre
  have hown : s.vm.findClass RX7 = some m.cls := findClass_of_methodNamed B.named
  have hlocks := B.notSynchronized
  have hinX5 : ∀ w ∈ wsX50, w ∈ wsX7_shortest := by decide +kernel
  have hl := lv_entry ([.ref h_t, .int x1, .int x2, .int x3, .int x4]) (n := 7) (Nat.le_of_ble_eq_true rfl)
  rw [lg_entry_eq]
  generalize (lg_sl ([.ref h_t, .int x1, .int x2, .int x3, .int x4]) ++ List.replicate (7 - (lg_sl ([.ref h_t, .int x1, .int x2, .int x3, .int x4])).length) Slot.unset).toArray = ls at hl ⊢
  have hl : lv_has ls 7 [(0, .ref h_t), (1, .int x1), (2, .int x2), (3, .int x3), (4, .int x4)] := hl
  unfold f_X7_shortest at hf
  refine lv_aload_n hx hb dX7_shortest_0 rfl (lv_at hl 0 rfl) ?_
  refine lv_iload_n hx hb dX7_shortest_1 rfl (lv_at hl 1 rfl) ?_
  refine va_csq (va_runV (As := [.int x1]) (rest := []) ⟨hx, hb, hml, hown, hts⟩ (c_X7_sunOf l dC dI cI cZ cP cS h_t h_t_red h_t_blue h_t_sky h_t_diary h_t_calendar h_t_awakeIn h_t_worths h_t_plants h_t_sheets h_t_bestFrom v_latestFinding x1) (cwV 1 hts gX7_shortest_X7_sunOf rfl rfl rfl (by decide +kernel) ⟨Nat.le_of_ble_eq_true rfl, Nat.le_of_ble_eq_true rfl⟩) (pv_ro (ci := 6) (q0 := 0) hK (hP.sub (ws' := (wd_X7_sunOf cI cZ cP cS h_t h_t_red h_t_blue h_t_sky h_t_diary h_t_calendar h_t_awakeIn h_t_worths h_t_plants h_t_sheets h_t_bestFrom v_latestFinding)) [0] rfl) rfl rfl) rfl rfl hl.1 rfl (lv_room (Nat.le_of_ble_eq_true rfl)) dX7_shortest_2 ⟨Nat.zero_le _, Nat.zero_le _⟩).run (fun x e_1 => ?_)
  by_cases c2_0 : x1 = 0
  · rw [if_pos c2_0] at hf e_1
    subst e_1
    refine W.eq (g2 := F0 m 5 ls [.ref h_t_red]) rfl ?_
    refine lv_astore (lv' := [(5, .ref h_t_red), (0, .ref h_t), (1, .int x1), (2, .int x2), (3, .int x3), (4, .int x4)]) hx hb dX7_shortest_5 hl (by decide) rfl (fun ls hl => ?_)
    refine lv_aload hx hb dX7_shortest_7 (lv_at hl 0 rfl) ?_
    refine lv_ifnull hx hb dX7_shortest_9 ?_
    refine lv_iload_n hx hb dX7_shortest_12 rfl (lv_at hl 3 rfl) ?_
    refine lv_iconst (v := 0) hx hb dX7_shortest_13 (by decide) ?_
    refine lv_bipush (v := 20) hx hb dX7_shortest_14 (by decide) ?_
    obtain ⟨r16_2, hc_3, hf⟩ := bd1_e hf
    refine vp_callSi (va_runS (As := [.int x2, .int 0, .int 20]) (rest := []) ⟨hx, hb, hml, hown, hts⟩ (c_X7_outside l dC dI cI cZ cP cS   x2 0 20 n r16_2 hc_3) (va_cwS 3 hts gX7_shortest_X7_outside rfl rfl rfl (by decide +kernel) ⟨Nat.le_of_ble_eq_true rfl, Nat.le_of_ble_eq_true rfl⟩) (ps_ro hK (hP.sub (ws' := ([] : va_W)) [] rfl)) rfl rfl hl.1 rfl (lv_room (Nat.le_of_ble_eq_true rfl)) dX7_shortest_16 ⟨Nat.zero_le _, Nat.zero_le _⟩).run (fun x e_4 => ?_)
    obtain ⟨e_4, hb_5⟩ := e_4
    rw [e_4] at hb_5 ⊢
    refine lv_if_ne (tgt := 42) hx hb dX7_shortest_19 (by decide) (fun c19 => ?_) (fun c19 => ?_)
    · rw [if_neg c19] at hf
      refine lv_bipush (v := (-2)) hx hb dX7_shortest_42 (by decide) ?_
      exact W.iret hx hb hr (fun t ht hW => ⟨_, rfl, Option.some.inj hf, ht⟩) (fun _ h => nomatch h) dX7_shortest_44
    · rw [if_pos c19] at hf
      refine lv_iload_n hx hb dX7_shortest_22 rfl (lv_at hl 4 rfl) ?_
      refine lv_iconst (v := 2) hx hb dX7_shortest_23 (by decide) ?_
      refine lv_bipush (v := 80) hx hb dX7_shortest_24 (by decide) ?_
      obtain ⟨r26_6, hc_7, hf⟩ := bd1_e hf
      refine vp_callSi (va_runS (As := [.int x3, .int 2, .int 80]) (rest := []) ⟨hx, hb, hml, hown, hts⟩ (c_X7_outside l dC dI cI cZ cP cS   x3 2 80 n r26_6 hc_7) (va_cwS 3 hts gX7_shortest_X7_outside rfl rfl rfl (by decide +kernel) ⟨Nat.le_of_ble_eq_true rfl, Nat.le_of_ble_eq_true rfl⟩) (ps_ro hK (hP.sub (ws' := ([] : va_W)) [] rfl)) rfl rfl hl.1 rfl (lv_room (Nat.le_of_ble_eq_true rfl)) dX7_shortest_26 ⟨Nat.zero_le _, Nat.zero_le _⟩).run (fun x e_8 => ?_)
      obtain ⟨e_8, hb_9⟩ := e_8
      rw [e_8] at hb_9 ⊢
      refine lv_if_ne (tgt := 42) hx hb dX7_shortest_29 (by decide) (fun c29 => ?_) (fun c29 => ?_)
      · rw [if_neg c29] at hf
        refine lv_bipush (v := (-2)) hx hb dX7_shortest_42 (by decide) ?_
        exact W.iret hx hb hr (fun t ht hW => ⟨_, rfl, Option.some.inj hf, ht⟩) (fun _ h => nomatch h) dX7_shortest_44
      · rw [if_pos c29] at hf
        refine lv_iload hx hb dX7_shortest_32 (lv_at hl 5 rfl) ?_
        refine lv_iconst (v := 0) hx hb dX7_shortest_34 (by decide) ?_
        refine lv_iconst (v := 1) hx hb dX7_shortest_35 (by decide) ?_
        obtain ⟨r36_10, hc_11, hf⟩ := bd1_e hf
        refine vp_callSi (va_runS (As := [.int x4, .int 0, .int 1]) (rest := []) ⟨hx, hb, hml, hown, hts⟩ (c_X7_outside l dC dI cI cZ cP cS   x4 0 1 n r36_10 hc_11) (va_cwS 3 hts gX7_shortest_X7_outside rfl rfl rfl (by decide +kernel) ⟨Nat.le_of_ble_eq_true rfl, Nat.le_of_ble_eq_true rfl⟩) (ps_ro hK (hP.sub (ws' := ([] : va_W)) [] rfl)) rfl rfl hl.1 rfl (lv_room (Nat.le_of_ble_eq_true rfl)) dX7_shortest_36 ⟨Nat.zero_le _, Nat.zero_le _⟩).run (fun x e_12 => ?_)
        obtain ⟨e_12, hb_13⟩ := e_12
        rw [e_12] at hb_13 ⊢
        refine lv_if_eq (tgt := 45) hx hb dX7_shortest_39 (by decide) (fun c39 => ?_) (fun c39 => ?_)
        · rw [if_pos c39] at hf
          refine lv_aload hx hb dX7_shortest_45 (lv_at hl 0 rfl) ?_
          refine va_get (D := (dC, dI)) (ci := 5) (v := .int (v_up 0)) (C := RX5) (T := TX5) (N := 5) hx hb hts hinX5 hown hK hP 1 rfl rfl 2 (by decide) (hts (.fieldLink RX7 141 "SecondSunrise$Sun" "up" "I") (by decide +kernel)) (fun _ h9 => h9) rfl dX7_shortest_47 ?_
          refine lv_if_ne (tgt := 56) hx hb dX7_shortest_50 (by decide) (fun c50 => ?_) (fun c50 => ?_)
          · rw [if_neg c50] at hf
            refine lv_aload hx hb dX7_shortest_56 (lv_at hl 0 rfl) ?_
            refine lv_iload_n hx hb dX7_shortest_58 rfl (lv_at hl 4 rfl) ?_
            refine lv_iload_n hx hb dX7_shortest_59 rfl (lv_at hl 4 rfl) ?_
            obtain ⟨r60_14, hc_15, hf⟩ := bd1_e hf
            refine vp_callSi (va_runS (As := [.ref h_t_red, .int x3, .int x3]) (rest := []) ⟨hx, hb, hml, hown, hts⟩ (c_X7_driftByTwo l dC dI cI cZ cP cS h_t_red h_t_red_fitting h_t_red_worstLeft (v_turn 0) (v_phase 0) (v_up 0) x3 x3 n r60_14 hc_15) (va_cwS 3 hts gX7_shortest_X7_driftByTwo rfl rfl rfl (by decide +kernel) ⟨Nat.le_of_ble_eq_true rfl, Nat.le_of_ble_eq_true rfl⟩) (ps_ro hK (hP.sub (ws' := (wd_X7_driftByTwo cI cZ cP cS h_t_red h_t_red_fitting h_t_red_worstLeft (v_turn 0) (v_phase 0) (v_up 0))) [1] rfl)) rfl rfl hl.1 rfl (lv_room (Nat.le_of_ble_eq_true rfl)) dX7_shortest_60 ⟨Nat.zero_le _, Nat.zero_le _⟩).run (fun x e_16 => ?_)
            rw [e_16]
            refine lv_iload_n hx hb dX7_shortest_63 rfl (lv_at hl 3 rfl) ?_
            refine lv_icmp_gt (tgt := 78) hx hb dX7_shortest_64 (by decide) (fun c64 => ?_) (fun c64 => ?_)
            · rw [if_pos c64] at hf
              refine lv_aload hx hb dX7_shortest_78 (lv_at hl 0 rfl) ?_
              refine lv_iload_n hx hb dX7_shortest_80 rfl (lv_at hl 3 rfl) ?_
              refine lv_iload_n hx hb dX7_shortest_81 rfl (lv_at hl 4 rfl) ?_
              obtain ⟨r82_17, hc_18, hf⟩ := bd1_e hf
              refine vp_callSi (va_runS (As := [.ref h_t_red, .int x2, .int x3]) (rest := []) ⟨hx, hb, hml, hown, hts⟩ (c_X7_firstOfTwo l dC dI cI cZ cP cS h_t_red h_t_red_fitting h_t_red_worstLeft (v_turn 0) (v_phase 0) (v_up 0) x2 x3 n r82_17 hc_18) (va_cwS 3 hts gX7_shortest_X7_firstOfTwo rfl rfl rfl (by decide +kernel) ⟨Nat.le_of_ble_eq_true rfl, Nat.le_of_ble_eq_true rfl⟩) (ps_ro hK (hP.sub (ws' := (wd_X7_firstOfTwo cI cZ cP cS h_t_red h_t_red_fitting h_t_red_worstLeft (v_turn 0) (v_phase 0) (v_up 0))) [1] rfl)) rfl rfl hl.1 rfl (lv_room (Nat.le_of_ble_eq_true rfl)) dX7_shortest_82 ⟨Nat.zero_le _, Nat.zero_le _⟩).run (fun x e_19 => ?_)
              rw [e_19]
              refine lv_istore (lv' := [(6, .int r82_17), (5, .ref h_t_red), (0, .ref h_t), (1, .int x1), (2, .int x2), (3, .int x3), (4, .int x4)]) hx hb dX7_shortest_85 hl (by decide) rfl (fun ls hl => ?_)
              refine lv_iload hx hb dX7_shortest_87 (lv_at hl 0 rfl) ?_
              refine lv_iconst (v := (-1)) hx hb dX7_shortest_89 (by decide) ?_
              obtain ⟨k98, ek98, hf⟩ := jn0_e hf
              have hj98 : ∀ (ls : Array Slot), lv_has ls 7 [(6, .int r82_17)] → k98 = some r → W p l e (headSpec wsX7_shortest rm_X7_shortest).room s m ([.ref h_t, .int x1, .int x2, .int x3, .int x4] : List Value).toArray below meth c s.heap [] 0 0 (MQ below (vp_Si (fun x => x = r)) ([.ref h_t, .int x1, .int x2, .int x3, .int x4] : List Value).toArray s 0 0 NF) (F0 m 98 ls []) := by
                intro ls hl hf
                rw [ek98] at hf
                refine lv_iload hx hb dX7_shortest_98 (lv_at hl 0 rfl) ?_
                refine lv_goto (tgt := 107) hx hb dX7_shortest_100 (by decide) ?_
                exact W.iret hx hb hr (fun t ht hW => ⟨_, rfl, Option.some.inj hf, ht⟩) (fun _ h => nomatch h) dX7_shortest_107
              refine lv_icmp_eq (tgt := 98) hx hb dX7_shortest_90 (by decide) (fun c90 => ?_) (fun c90 => ?_)
              · rw [if_pos c90] at hf
                exact hj98 ls (lv_sub hl [0] rfl) hf
              · rw [if_neg c90] at hf
                refine lv_iload hx hb dX7_shortest_93 (lv_at hl 6 rfl) ?_
                refine lv_if_ne (tgt := 103) hx hb dX7_shortest_95 (by decide) (fun c95 => ?_) (fun c95 => ?_)
                · rw [if_neg c95] at hf
                  refine lv_iload_n hx hb dX7_shortest_103 rfl (lv_at hl 5 rfl) ?_
                  refine lv_iload hx hb dX7_shortest_104 (lv_at hl 0 rfl) ?_
                  refine lv_isub hx hb dX7_shortest_106 ?_
                  exact W.iret hx hb hr (fun t ht hW => ⟨_, rfl, Option.some.inj hf, ht⟩) (fun _ h => nomatch h) dX7_shortest_107
                · rw [if_pos c95] at hf
                  exact hj98 ls (lv_sub hl [0] rfl) hf
            · rw [if_neg c64] at hf
              refine lv_iload hx hb dX7_shortest_67 (lv_at hl 5 rfl) ?_
              refine lv_if_ne (tgt := 76) hx hb dX7_shortest_69 (by decide) (fun c69 => ?_) (fun c69 => ?_)
              · rw [if_neg c69] at hf
                refine lv_iconst (v := 0) hx hb dX7_shortest_76 (by decide) ?_
                exact W.iret hx hb hr (fun t ht hW => ⟨_, rfl, Option.some.inj hf, ht⟩) (fun _ h => nomatch h) dX7_shortest_77
              · rw [if_pos c69] at hf
                refine lv_iload_n hx hb dX7_shortest_72 rfl (lv_at hl 4 rfl) ?_
                refine lv_goto (tgt := 77) hx hb dX7_shortest_73 (by decide) ?_
                exact W.iret hx hb hr (fun t ht hW => ⟨_, rfl, Option.some.inj hf, ht⟩) (fun _ h => nomatch h) dX7_shortest_77
          · rw [if_pos c50] at hf
            refine lv_bipush (v := (-3)) hx hb dX7_shortest_53 (by decide) ?_
            exact W.iret hx hb hr (fun t ht hW => ⟨_, rfl, Option.some.inj hf, ht⟩) (fun _ h => nomatch h) dX7_shortest_55
        · rw [if_neg c39] at hf
          refine lv_bipush (v := (-2)) hx hb dX7_shortest_42 (by decide) ?_
          exact W.iret hx hb hr (fun t ht hW => ⟨_, rfl, Option.some.inj hf, ht⟩) (fun _ h => nomatch h) dX7_shortest_44
  · rw [if_neg c2_0] at hf e_1
    by_cases c2_1 : x1 = 1
    · rw [if_pos c2_1] at hf e_1
      subst e_1
      refine W.eq (g2 := F0 m 5 ls [.ref h_t_blue]) rfl ?_
      refine lv_astore (lv' := [(5, .ref h_t_blue), (0, .ref h_t), (1, .int x1), (2, .int x2), (3, .int x3), (4, .int x4)]) hx hb dX7_shortest_5 hl (by decide) rfl (fun ls hl => ?_)
      refine lv_aload hx hb dX7_shortest_7 (lv_at hl 0 rfl) ?_
      refine lv_ifnull hx hb dX7_shortest_9 ?_
      refine lv_iload_n hx hb dX7_shortest_12 rfl (lv_at hl 3 rfl) ?_
      refine lv_iconst (v := 0) hx hb dX7_shortest_13 (by decide) ?_
      refine lv_bipush (v := 20) hx hb dX7_shortest_14 (by decide) ?_
      obtain ⟨r16_20, hc_21, hf⟩ := bd1_e hf
      refine vp_callSi (va_runS (As := [.int x2, .int 0, .int 20]) (rest := []) ⟨hx, hb, hml, hown, hts⟩ (c_X7_outside l dC dI cI cZ cP cS   x2 0 20 n r16_20 hc_21) (va_cwS 3 hts gX7_shortest_X7_outside rfl rfl rfl (by decide +kernel) ⟨Nat.le_of_ble_eq_true rfl, Nat.le_of_ble_eq_true rfl⟩) (ps_ro hK (hP.sub (ws' := ([] : va_W)) [] rfl)) rfl rfl hl.1 rfl (lv_room (Nat.le_of_ble_eq_true rfl)) dX7_shortest_16 ⟨Nat.zero_le _, Nat.zero_le _⟩).run (fun x e_22 => ?_)
      obtain ⟨e_22, hb_23⟩ := e_22
      rw [e_22] at hb_23 ⊢
      refine lv_if_ne (tgt := 42) hx hb dX7_shortest_19 (by decide) (fun c19 => ?_) (fun c19 => ?_)
      · rw [if_neg c19] at hf
        refine lv_bipush (v := (-2)) hx hb dX7_shortest_42 (by decide) ?_
        exact W.iret hx hb hr (fun t ht hW => ⟨_, rfl, Option.some.inj hf, ht⟩) (fun _ h => nomatch h) dX7_shortest_44
      · rw [if_pos c19] at hf
        refine lv_iload_n hx hb dX7_shortest_22 rfl (lv_at hl 4 rfl) ?_
        refine lv_iconst (v := 2) hx hb dX7_shortest_23 (by decide) ?_
        refine lv_bipush (v := 80) hx hb dX7_shortest_24 (by decide) ?_
        obtain ⟨r26_24, hc_25, hf⟩ := bd1_e hf
        refine vp_callSi (va_runS (As := [.int x3, .int 2, .int 80]) (rest := []) ⟨hx, hb, hml, hown, hts⟩ (c_X7_outside l dC dI cI cZ cP cS   x3 2 80 n r26_24 hc_25) (va_cwS 3 hts gX7_shortest_X7_outside rfl rfl rfl (by decide +kernel) ⟨Nat.le_of_ble_eq_true rfl, Nat.le_of_ble_eq_true rfl⟩) (ps_ro hK (hP.sub (ws' := ([] : va_W)) [] rfl)) rfl rfl hl.1 rfl (lv_room (Nat.le_of_ble_eq_true rfl)) dX7_shortest_26 ⟨Nat.zero_le _, Nat.zero_le _⟩).run (fun x e_26 => ?_)
        obtain ⟨e_26, hb_27⟩ := e_26
        rw [e_26] at hb_27 ⊢
        refine lv_if_ne (tgt := 42) hx hb dX7_shortest_29 (by decide) (fun c29 => ?_) (fun c29 => ?_)
        · rw [if_neg c29] at hf
          refine lv_bipush (v := (-2)) hx hb dX7_shortest_42 (by decide) ?_
          exact W.iret hx hb hr (fun t ht hW => ⟨_, rfl, Option.some.inj hf, ht⟩) (fun _ h => nomatch h) dX7_shortest_44
        · rw [if_pos c29] at hf
          refine lv_iload hx hb dX7_shortest_32 (lv_at hl 5 rfl) ?_
          refine lv_iconst (v := 0) hx hb dX7_shortest_34 (by decide) ?_
          refine lv_iconst (v := 1) hx hb dX7_shortest_35 (by decide) ?_
          obtain ⟨r36_28, hc_29, hf⟩ := bd1_e hf
          refine vp_callSi (va_runS (As := [.int x4, .int 0, .int 1]) (rest := []) ⟨hx, hb, hml, hown, hts⟩ (c_X7_outside l dC dI cI cZ cP cS   x4 0 1 n r36_28 hc_29) (va_cwS 3 hts gX7_shortest_X7_outside rfl rfl rfl (by decide +kernel) ⟨Nat.le_of_ble_eq_true rfl, Nat.le_of_ble_eq_true rfl⟩) (ps_ro hK (hP.sub (ws' := ([] : va_W)) [] rfl)) rfl rfl hl.1 rfl (lv_room (Nat.le_of_ble_eq_true rfl)) dX7_shortest_36 ⟨Nat.zero_le _, Nat.zero_le _⟩).run (fun x e_30 => ?_)
          obtain ⟨e_30, hb_31⟩ := e_30
          rw [e_30] at hb_31 ⊢
          refine lv_if_eq (tgt := 45) hx hb dX7_shortest_39 (by decide) (fun c39 => ?_) (fun c39 => ?_)
          · rw [if_pos c39] at hf
            refine lv_aload hx hb dX7_shortest_45 (lv_at hl 0 rfl) ?_
            refine va_get (D := (dC, dI)) (ci := 5) (v := .int (v_up 1)) (C := RX5) (T := TX5) (N := 5) hx hb hts hinX5 hown hK hP 2 rfl rfl 2 (by decide) (hts (.fieldLink RX7 141 "SecondSunrise$Sun" "up" "I") (by decide +kernel)) (fun _ h9 => h9) rfl dX7_shortest_47 ?_
            refine lv_if_ne (tgt := 56) hx hb dX7_shortest_50 (by decide) (fun c50 => ?_) (fun c50 => ?_)
            · rw [if_neg c50] at hf
              refine lv_aload hx hb dX7_shortest_56 (lv_at hl 0 rfl) ?_
              refine lv_iload_n hx hb dX7_shortest_58 rfl (lv_at hl 4 rfl) ?_
              refine lv_iload_n hx hb dX7_shortest_59 rfl (lv_at hl 4 rfl) ?_
              obtain ⟨r60_32, hc_33, hf⟩ := bd1_e hf
              refine vp_callSi (va_runS (As := [.ref h_t_blue, .int x3, .int x3]) (rest := []) ⟨hx, hb, hml, hown, hts⟩ (c_X7_driftByTwo l dC dI cI cZ cP cS h_t_blue h_t_blue_fitting h_t_blue_worstLeft (v_turn 1) (v_phase 1) (v_up 1) x3 x3 n r60_32 hc_33) (va_cwS 3 hts gX7_shortest_X7_driftByTwo rfl rfl rfl (by decide +kernel) ⟨Nat.le_of_ble_eq_true rfl, Nat.le_of_ble_eq_true rfl⟩) (ps_ro hK (hP.sub (ws' := (wd_X7_driftByTwo cI cZ cP cS h_t_blue h_t_blue_fitting h_t_blue_worstLeft (v_turn 1) (v_phase 1) (v_up 1))) [2] rfl)) rfl rfl hl.1 rfl (lv_room (Nat.le_of_ble_eq_true rfl)) dX7_shortest_60 ⟨Nat.zero_le _, Nat.zero_le _⟩).run (fun x e_34 => ?_)
              rw [e_34]
              refine lv_iload_n hx hb dX7_shortest_63 rfl (lv_at hl 3 rfl) ?_
              refine lv_icmp_gt (tgt := 78) hx hb dX7_shortest_64 (by decide) (fun c64 => ?_) (fun c64 => ?_)
              · rw [if_pos c64] at hf
                refine lv_aload hx hb dX7_shortest_78 (lv_at hl 0 rfl) ?_
                refine lv_iload_n hx hb dX7_shortest_80 rfl (lv_at hl 3 rfl) ?_
                refine lv_iload_n hx hb dX7_shortest_81 rfl (lv_at hl 4 rfl) ?_
                obtain ⟨r82_35, hc_36, hf⟩ := bd1_e hf
                refine vp_callSi (va_runS (As := [.ref h_t_blue, .int x2, .int x3]) (rest := []) ⟨hx, hb, hml, hown, hts⟩ (c_X7_firstOfTwo l dC dI cI cZ cP cS h_t_blue h_t_blue_fitting h_t_blue_worstLeft (v_turn 1) (v_phase 1) (v_up 1) x2 x3 n r82_35 hc_36) (va_cwS 3 hts gX7_shortest_X7_firstOfTwo rfl rfl rfl (by decide +kernel) ⟨Nat.le_of_ble_eq_true rfl, Nat.le_of_ble_eq_true rfl⟩) (ps_ro hK (hP.sub (ws' := (wd_X7_firstOfTwo cI cZ cP cS h_t_blue h_t_blue_fitting h_t_blue_worstLeft (v_turn 1) (v_phase 1) (v_up 1))) [2] rfl)) rfl rfl hl.1 rfl (lv_room (Nat.le_of_ble_eq_true rfl)) dX7_shortest_82 ⟨Nat.zero_le _, Nat.zero_le _⟩).run (fun x e_37 => ?_)
                rw [e_37]
                refine lv_istore (lv' := [(6, .int r82_35), (5, .ref h_t_blue), (0, .ref h_t), (1, .int x1), (2, .int x2), (3, .int x3), (4, .int x4)]) hx hb dX7_shortest_85 hl (by decide) rfl (fun ls hl => ?_)
                refine lv_iload hx hb dX7_shortest_87 (lv_at hl 0 rfl) ?_
                refine lv_iconst (v := (-1)) hx hb dX7_shortest_89 (by decide) ?_
                obtain ⟨k98, ek98, hf⟩ := jn0_e hf
                have hj98 : ∀ (ls : Array Slot), lv_has ls 7 [(6, .int r82_35)] → k98 = some r → W p l e (headSpec wsX7_shortest rm_X7_shortest).room s m ([.ref h_t, .int x1, .int x2, .int x3, .int x4] : List Value).toArray below meth c s.heap [] 0 0 (MQ below (vp_Si (fun x => x = r)) ([.ref h_t, .int x1, .int x2, .int x3, .int x4] : List Value).toArray s 0 0 NF) (F0 m 98 ls []) := by
                  intro ls hl hf
                  rw [ek98] at hf
                  refine lv_iload hx hb dX7_shortest_98 (lv_at hl 0 rfl) ?_
                  refine lv_goto (tgt := 107) hx hb dX7_shortest_100 (by decide) ?_
                  exact W.iret hx hb hr (fun t ht hW => ⟨_, rfl, Option.some.inj hf, ht⟩) (fun _ h => nomatch h) dX7_shortest_107
                refine lv_icmp_eq (tgt := 98) hx hb dX7_shortest_90 (by decide) (fun c90 => ?_) (fun c90 => ?_)
                · rw [if_pos c90] at hf
                  exact hj98 ls (lv_sub hl [0] rfl) hf
                · rw [if_neg c90] at hf
                  refine lv_iload hx hb dX7_shortest_93 (lv_at hl 6 rfl) ?_
                  refine lv_if_ne (tgt := 103) hx hb dX7_shortest_95 (by decide) (fun c95 => ?_) (fun c95 => ?_)
                  · rw [if_neg c95] at hf
                    refine lv_iload_n hx hb dX7_shortest_103 rfl (lv_at hl 5 rfl) ?_
                    refine lv_iload hx hb dX7_shortest_104 (lv_at hl 0 rfl) ?_
                    refine lv_isub hx hb dX7_shortest_106 ?_
                    exact W.iret hx hb hr (fun t ht hW => ⟨_, rfl, Option.some.inj hf, ht⟩) (fun _ h => nomatch h) dX7_shortest_107
                  · rw [if_pos c95] at hf
                    exact hj98 ls (lv_sub hl [0] rfl) hf
              · rw [if_neg c64] at hf
                refine lv_iload hx hb dX7_shortest_67 (lv_at hl 5 rfl) ?_
                refine lv_if_ne (tgt := 76) hx hb dX7_shortest_69 (by decide) (fun c69 => ?_) (fun c69 => ?_)
                · rw [if_neg c69] at hf
                  refine lv_iconst (v := 0) hx hb dX7_shortest_76 (by decide) ?_
                  exact W.iret hx hb hr (fun t ht hW => ⟨_, rfl, Option.some.inj hf, ht⟩) (fun _ h => nomatch h) dX7_shortest_77
                · rw [if_pos c69] at hf
                  refine lv_iload_n hx hb dX7_shortest_72 rfl (lv_at hl 4 rfl) ?_
                  refine lv_goto (tgt := 77) hx hb dX7_shortest_73 (by decide) ?_
                  exact W.iret hx hb hr (fun t ht hW => ⟨_, rfl, Option.some.inj hf, ht⟩) (fun _ h => nomatch h) dX7_shortest_77
            · rw [if_pos c50] at hf
              refine lv_bipush (v := (-3)) hx hb dX7_shortest_53 (by decide) ?_
              exact W.iret hx hb hr (fun t ht hW => ⟨_, rfl, Option.some.inj hf, ht⟩) (fun _ h => nomatch h) dX7_shortest_55
          · rw [if_neg c39] at hf
            refine lv_bipush (v := (-2)) hx hb dX7_shortest_42 (by decide) ?_
            exact W.iret hx hb hr (fun t ht hW => ⟨_, rfl, Option.some.inj hf, ht⟩) (fun _ h => nomatch h) dX7_shortest_44
    · rw [if_neg c2_1] at hf e_1
      subst e_1
      refine W.eq (g2 := F0 m 5 ls [.null]) rfl ?_
      refine lv_astoreN (lv' := [(5, .null), (0, .ref h_t), (1, .int x1), (2, .int x2), (3, .int x3), (4, .int x4)]) hx hb dX7_shortest_5 hl (by decide) rfl (fun ls hl => ?_)
      refine lv_aloadN hx hb dX7_shortest_7 (lv_at hl 0 rfl) ?_
      refine lv_ifnullN (tgt := 42) hx hb dX7_shortest_9 (by decide) ?_
      refine lv_bipush (v := (-2)) hx hb dX7_shortest_42 (by decide) ?_
      exact W.iret hx hb hr (fun t ht hW => ⟨_, rfl, Option.some.inj hf, ht⟩) (fun _ h => nomatch h) dX7_shortest_44

abbrev wd_X7_without (cI cZ cP cS : ClassId) (h_t h_t_red h_t_blue h_t_sky h_t_diary h_t_calendar h_t_awakeIn h_t_worths h_t_plants h_t_sheets h_t_bestFrom h_t_red_fitting h_t_red_worstLeft h_t_blue_fitting h_t_blue_worstLeft : Nat) (v_latestFinding : Int32) (v_turn : Nat → Int32) (v_phase : Nat → Int32) (v_up : Nat → Int32) : va_W := [(h_t, .inr (6, [.ref h_t_red, .ref h_t_blue, .ref h_t_sky, .ref h_t_diary, .ref h_t_calendar, .ref h_t_awakeIn, .ref h_t_worths, .ref h_t_plants, .ref h_t_sheets, .ref h_t_bestFrom, .int v_latestFinding])), (h_t_red, .inr (5, [.int (v_turn 0), .int (v_phase 0), .int (v_up 0), .ref h_t_red_fitting, .ref h_t_red_worstLeft])), (h_t_blue, .inr (5, [.int (v_turn 1), .int (v_phase 1), .int (v_up 1), .ref h_t_blue_fitting, .ref h_t_blue_worstLeft])), (h_t_sky, .inr (4, [.ref h_t_red, .ref h_t_blue]))]
abbrev rm_X7_without : Room := { frames := 1, cells := 0, slots := 0, locals := 22 }
def f_X7_without (n : Nat) (v_turn : Nat → Int32) (v_up : Nat → Int32) (x1 : Int32) : Option (Int32) := if x1 = 0 then if (v_up 0) = 0 then bd1_ (f_X4_hoursOfRound n v_turn) (fun (r24_2 : Int32) => some r24_2) else some ((v_turn 0) - (v_up 0)) else if x1 = 1 then if (v_up 1) = 0 then bd1_ (f_X4_hoursOfRound n v_turn) (fun (r24_5 : Int32) => some r24_5) else some ((v_turn 1) - (v_up 1)) else some (-2)
set_option maxHeartbeats 4000000 in
set_option maxRecDepth 100000 in
theorem c_X7_without (l : Launch) (dC : Nat → ClassId) (dI : Nat → Nat → Nat) (cI cZ cP cS : ClassId) (h_t h_t_red h_t_blue h_t_sky h_t_diary h_t_calendar h_t_awakeIn h_t_worths h_t_plants h_t_sheets h_t_bestFrom h_t_red_fitting h_t_red_worstLeft h_t_blue_fitting h_t_blue_worstLeft : Nat) (v_latestFinding : Int32) (v_turn : Nat → Int32) (v_phase : Nat → Int32) (v_up : Nat → Int32) (x1 : Int32) (n : Nat) (r : Int32) (hf : f_X7_without n v_turn v_up x1 = some r) : Met l yX7_without wsX7_without rm_X7_without (RO (dC, dI) (TY cI cZ cP cS) [.ref h_t, .int x1] (wd_X7_without cI cZ cP cS h_t h_t_red h_t_blue h_t_sky h_t_diary h_t_calendar h_t_awakeIn h_t_worths h_t_plants h_t_sheets h_t_bestFrom h_t_red_fitting h_t_red_worstLeft h_t_blue_fitting h_t_blue_worstLeft v_latestFinding v_turn v_phase v_up)) (vp_Si (fun x => x = r)) 0 0 NF := by
  refine Met.ofW (cc := cX7_without) (maxL := 3) (ret := (some .int)) (by decide) rfl ?_
  intro p e s m args below meth c s₁ B hml hv
  obtain ⟨rfl, hP, hK⟩ := hv
  have hx := B.exec
  have hb := B.bytes
  have hr := B.returns
  have hts := atoms_spec (ws := wsX7_without) B.pre
  have hown : s.vm.findClass RX7 = some m.cls := findClass_of_methodNamed B.named
  have hlocks := B.notSynchronized
  have hinX5 : ∀ w ∈ wsX50, w ∈ wsX7_without := by decide +kernel
  have hinX7 : ∀ w ∈ wsX70, w ∈ wsX7_without := by decide +kernel
  have hl := lv_entry ([.ref h_t, .int x1]) (n := 3) (Nat.le_of_ble_eq_true rfl)
  rw [lg_entry_eq]
  generalize (lg_sl ([.ref h_t, .int x1]) ++ List.replicate (3 - (lg_sl ([.ref h_t, .int x1])).length) Slot.unset).toArray = ls at hl ⊢
  have hl : lv_has ls 3 [(0, .ref h_t), (1, .int x1)] := hl
  unfold f_X7_without at hf
  refine lv_aload_n hx hb dX7_without_0 rfl (lv_at hl 0 rfl) ?_
  refine lv_iload_n hx hb dX7_without_1 rfl (lv_at hl 1 rfl) ?_
  refine va_csq (va_runV (As := [.int x1]) (rest := []) ⟨hx, hb, hml, hown, hts⟩ (c_X7_sunOf l dC dI cI cZ cP cS h_t h_t_red h_t_blue h_t_sky h_t_diary h_t_calendar h_t_awakeIn h_t_worths h_t_plants h_t_sheets h_t_bestFrom v_latestFinding x1) (cwV 1 hts gX7_without_X7_sunOf rfl rfl rfl (by decide +kernel) ⟨Nat.le_of_ble_eq_true rfl, Nat.le_of_ble_eq_true rfl⟩) (pv_ro (ci := 6) (q0 := 0) hK (hP.sub (ws' := (wd_X7_sunOf cI cZ cP cS h_t h_t_red h_t_blue h_t_sky h_t_diary h_t_calendar h_t_awakeIn h_t_worths h_t_plants h_t_sheets h_t_bestFrom v_latestFinding)) [0] rfl) rfl rfl) rfl rfl hl.1 rfl (lv_room (Nat.le_of_ble_eq_true rfl)) dX7_without_2 ⟨Nat.zero_le _, Nat.zero_le _⟩).run (fun x e_1 => ?_)
  by_cases c2_0 : x1 = 0
  · rw [if_pos c2_0] at hf e_1
    subst e_1
    refine W.eq (g2 := F0 m 5 ls [.ref h_t_red]) rfl ?_
    refine lv_astore_n (lv' := [(2, .ref h_t_red), (0, .ref h_t), (1, .int x1)]) hx hb dX7_without_5 rfl hl (by decide) rfl (fun ls hl => ?_)
    refine lv_aload_n hx hb dX7_without_6 rfl (lv_at hl 0 rfl) ?_
    refine lv_ifnonnull (tgt := 13) hx hb dX7_without_7 (by decide) ?_
    refine lv_aload_n hx hb dX7_without_13 rfl (lv_at hl 0 rfl) ?_
    refine va_get (D := (dC, dI)) (ci := 5) (v := .int (v_up 0)) (C := RX5) (T := TX5) (N := 5) hx hb hts hinX5 hown hK hP 1 rfl rfl 2 (by decide) (hts (.fieldLink RX7 141 "SecondSunrise$Sun" "up" "I") (by decide +kernel)) (fun _ h9 => h9) rfl dX7_without_14 ?_
    refine lv_if_ne (tgt := 30) hx hb dX7_without_17 (by decide) (fun c17 => ?_) (fun c17 => ?_)
    · rw [if_neg c17] at hf
      refine lv_aload_n hx hb dX7_without_30 rfl (lv_at hl 0 rfl) ?_
      refine va_get (D := (dC, dI)) (ci := 5) (v := .int (v_turn 0)) (C := RX5) (T := TX5) (N := 5) hx hb hts hinX5 hown hK hP 1 rfl rfl 0 (by decide) (hts (.fieldLink RX7 84 "SecondSunrise$Sun" "turn" "I") (by decide +kernel)) (fun _ h9 => h9) rfl dX7_without_31 ?_
      refine lv_aload_n hx hb dX7_without_34 rfl (lv_at hl 0 rfl) ?_
      refine va_get (D := (dC, dI)) (ci := 5) (v := .int (v_up 0)) (C := RX5) (T := TX5) (N := 5) hx hb hts hinX5 hown hK hP 1 rfl rfl 2 (by decide) (hts (.fieldLink RX7 141 "SecondSunrise$Sun" "up" "I") (by decide +kernel)) (fun _ h9 => h9) rfl dX7_without_35 ?_
      refine lv_isub hx hb dX7_without_38 ?_
      exact W.iret hx hb hr (fun t ht hW => ⟨_, rfl, Option.some.inj hf, ht⟩) (fun _ h => nomatch h) dX7_without_39
    · rw [if_pos c17] at hf
      refine lv_aload_n hx hb dX7_without_20 rfl (lv_at hl 1 rfl) ?_
      refine va_get (D := (dC, dI)) (ci := 6) (v := .ref h_t_sky) (C := RX7) (T := TX7) (N := 11) hx hb hts hinX7 hown hK hP 0 rfl rfl 2 (by decide) (hts (.fieldLink RX7 26 "SecondSunrise" "sky" "LSecondSunrise$Sky;") (by decide +kernel)) (fun _ h9 => h9) rfl dX7_without_21 ?_
      obtain ⟨r24_2, hc_3, hf⟩ := bd1_e hf
      refine vp_callSi (va_runV (As := []) (rest := []) ⟨hx, hb, hml, hown, hts⟩ (c_X4_hoursOfRound l dC dI cI cZ cP cS h_t_sky h_t_red h_t_blue h_t_red_fitting h_t_red_worstLeft h_t_blue_fitting h_t_blue_worstLeft v_turn v_phase v_up  n r24_2 hc_3) (cwV 0 hts gX7_without_X4_hoursOfRound rfl rfl rfl (by decide +kernel) ⟨Nat.le_of_ble_eq_true rfl, Nat.le_of_ble_eq_true rfl⟩) (pv_ro (ci := 4) (q0 := 0) hK (hP.sub (ws' := (wd_X4_hoursOfRound cI cZ cP cS h_t_sky h_t_red h_t_blue h_t_red_fitting h_t_red_worstLeft h_t_blue_fitting h_t_blue_worstLeft v_turn v_phase v_up)) [3, 1, 2] rfl) rfl rfl) rfl rfl hl.1 rfl (lv_room (Nat.le_of_ble_eq_true rfl)) dX7_without_24 ⟨Nat.zero_le _, Nat.zero_le _⟩).run (fun x e_4 => ?_)
      rw [e_4]
      refine lv_goto (tgt := 39) hx hb dX7_without_27 (by decide) ?_
      exact W.iret hx hb hr (fun t ht hW => ⟨_, rfl, Option.some.inj hf, ht⟩) (fun _ h => nomatch h) dX7_without_39
  · rw [if_neg c2_0] at hf e_1
    by_cases c2_1 : x1 = 1
    · rw [if_pos c2_1] at hf e_1
      subst e_1
      refine W.eq (g2 := F0 m 5 ls [.ref h_t_blue]) rfl ?_
      refine lv_astore_n (lv' := [(2, .ref h_t_blue), (0, .ref h_t), (1, .int x1)]) hx hb dX7_without_5 rfl hl (by decide) rfl (fun ls hl => ?_)
      refine lv_aload_n hx hb dX7_without_6 rfl (lv_at hl 0 rfl) ?_
      refine lv_ifnonnull (tgt := 13) hx hb dX7_without_7 (by decide) ?_
      refine lv_aload_n hx hb dX7_without_13 rfl (lv_at hl 0 rfl) ?_
      refine va_get (D := (dC, dI)) (ci := 5) (v := .int (v_up 1)) (C := RX5) (T := TX5) (N := 5) hx hb hts hinX5 hown hK hP 2 rfl rfl 2 (by decide) (hts (.fieldLink RX7 141 "SecondSunrise$Sun" "up" "I") (by decide +kernel)) (fun _ h9 => h9) rfl dX7_without_14 ?_
      refine lv_if_ne (tgt := 30) hx hb dX7_without_17 (by decide) (fun c17 => ?_) (fun c17 => ?_)
      · rw [if_neg c17] at hf
        refine lv_aload_n hx hb dX7_without_30 rfl (lv_at hl 0 rfl) ?_
        refine va_get (D := (dC, dI)) (ci := 5) (v := .int (v_turn 1)) (C := RX5) (T := TX5) (N := 5) hx hb hts hinX5 hown hK hP 2 rfl rfl 0 (by decide) (hts (.fieldLink RX7 84 "SecondSunrise$Sun" "turn" "I") (by decide +kernel)) (fun _ h9 => h9) rfl dX7_without_31 ?_
        refine lv_aload_n hx hb dX7_without_34 rfl (lv_at hl 0 rfl) ?_
        refine va_get (D := (dC, dI)) (ci := 5) (v := .int (v_up 1)) (C := RX5) (T := TX5) (N := 5) hx hb hts hinX5 hown hK hP 2 rfl rfl 2 (by decide) (hts (.fieldLink RX7 141 "SecondSunrise$Sun" "up" "I") (by decide +kernel)) (fun _ h9 => h9) rfl dX7_without_35 ?_
        refine lv_isub hx hb dX7_without_38 ?_
        exact W.iret hx hb hr (fun t ht hW => ⟨_, rfl, Option.some.inj hf, ht⟩) (fun _ h => nomatch h) dX7_without_39
      · rw [if_pos c17] at hf
        refine lv_aload_n hx hb dX7_without_20 rfl (lv_at hl 1 rfl) ?_
        refine va_get (D := (dC, dI)) (ci := 6) (v := .ref h_t_sky) (C := RX7) (T := TX7) (N := 11) hx hb hts hinX7 hown hK hP 0 rfl rfl 2 (by decide) (hts (.fieldLink RX7 26 "SecondSunrise" "sky" "LSecondSunrise$Sky;") (by decide +kernel)) (fun _ h9 => h9) rfl dX7_without_21 ?_
        obtain ⟨r24_5, hc_6, hf⟩ := bd1_e hf
        refine vp_callSi (va_runV (As := []) (rest := []) ⟨hx, hb, hml, hown, hts⟩ (c_X4_hoursOfRound l dC dI cI cZ cP cS h_t_sky h_t_red h_t_blue h_t_red_fitting h_t_red_worstLeft h_t_blue_fitting h_t_blue_worstLeft v_turn v_phase v_up  n r24_5 hc_6) (cwV 0 hts gX7_without_X4_hoursOfRound rfl rfl rfl (by decide +kernel) ⟨Nat.le_of_ble_eq_true rfl, Nat.le_of_ble_eq_true rfl⟩) (pv_ro (ci := 4) (q0 := 0) hK (hP.sub (ws' := (wd_X4_hoursOfRound cI cZ cP cS h_t_sky h_t_red h_t_blue h_t_red_fitting h_t_red_worstLeft h_t_blue_fitting h_t_blue_worstLeft v_turn v_phase v_up)) [3, 1, 2] rfl) rfl rfl) rfl rfl hl.1 rfl (lv_room (Nat.le_of_ble_eq_true rfl)) dX7_without_24 ⟨Nat.zero_le _, Nat.zero_le _⟩).run (fun x e_7 => ?_)
        rw [e_7]
        refine lv_goto (tgt := 39) hx hb dX7_without_27 (by decide) ?_
        exact W.iret hx hb hr (fun t ht hW => ⟨_, rfl, Option.some.inj hf, ht⟩) (fun _ h => nomatch h) dX7_without_39
    · rw [if_neg c2_1] at hf e_1
      subst e_1
      refine W.eq (g2 := F0 m 5 ls [.null]) rfl ?_
      refine lv_astore_nN (lv' := [(2, .null), (0, .ref h_t), (1, .int x1)]) hx hb dX7_without_5 rfl hl (by decide) rfl (fun ls hl => ?_)
      refine lv_aload_nN hx hb dX7_without_6 rfl (lv_at hl 0 rfl) ?_
      refine lv_ifnonnullN hx hb dX7_without_7 ?_
      refine lv_bipush (v := (-2)) hx hb dX7_without_10 (by decide) ?_
      exact W.iret hx hb hr (fun t ht hW => ⟨_, rfl, Option.some.inj hf, ht⟩) (fun _ h => nomatch h) dX7_without_12

abbrev wd_X7_mixedSuns (cI cZ cP cS : ClassId) (h_t h_t_red h_t_blue h_t_sky h_t_diary h_t_calendar h_t_awakeIn h_t_worths h_t_plants h_t_sheets h_t_bestFrom h_t_red_fitting h_t_red_worstLeft h_t_blue_fitting h_t_blue_worstLeft h_t_calendar_bytes : Nat) (v_latestFinding : Int32) (v_turn : Nat → Int32) (v_phase : Nat → Int32) (v_up : Nat → Int32) (v_csize : Int32) (v_cbytes : Nat → Int32) : va_W := [(h_t, .inr (6, [.ref h_t_red, .ref h_t_blue, .ref h_t_sky, .ref h_t_diary, .ref h_t_calendar, .ref h_t_awakeIn, .ref h_t_worths, .ref h_t_plants, .ref h_t_sheets, .ref h_t_bestFrom, .int v_latestFinding])), (h_t_red, .inr (5, [.int (v_turn 0), .int (v_phase 0), .int (v_up 0), .ref h_t_red_fitting, .ref h_t_red_worstLeft])), (h_t_blue, .inr (5, [.int (v_turn 1), .int (v_phase 1), .int (v_up 1), .ref h_t_blue_fitting, .ref h_t_blue_worstLeft])), (h_t_sky, .inr (4, [.ref h_t_red, .ref h_t_blue])), (h_t_calendar, .inr (0, [.ref h_t_calendar_bytes, .int v_csize])), (h_t_calendar_bytes, .inl (cI, 20, .inl v_cbytes))]
abbrev rm_X7_mixedSuns : Room := { frames := 5, cells := 0, slots := 0, locals := 119 }
def L_X7_mixedSuns_5 (n : Nat) (v_turn : Nat → Int32) (v_phase : Nat → Int32) (v_up : Nat → Int32) (v_csize : Int32) (v_cbytes : Nat → Int32) (kx5 : Int64 → Option (Int64)) : Nat → Int64 → Int32 → Option (Int64)
  | 0, _, _ => none
  | k5 + 1, y5_3, y5_5 => if (1 : Int32) < y5_5 then kx5 y5_3 else bd1_ (f_X7_without n v_turn v_up y5_5) (fun (r15_1 : Int32) => bd1_ (f_X7_mixed n y5_3 (r15_1.toInt64)) (fun (r19_4 : Int64) => bd1_ (f_X7_place n v_turn v_phase y5_5 77) (fun (r29_7 : Int32) => bd1_ (f_X7_mixed n r19_4 (r29_7.toInt64)) (fun (r33_10 : Int64) => bd1_ (f_X7_drift n v_turn v_phase v_up v_csize v_cbytes y5_5 9) (fun (r43_13 : Int32) => bd1_ (f_X7_mixed n r33_10 (r43_13.toInt64)) (fun (r47_16 : Int64) => bd1_ (f_X7_shortest n v_turn v_phase v_up y5_5 4 20 0) (fun (r59_19 : Int32) => bd1_ (f_X7_mixed n r47_16 (r59_19.toInt64)) (fun (r63_22 : Int64) => bd1_ (f_X7_shortest n v_turn v_phase v_up y5_5 4 20 1) (fun (r75_25 : Int32) => bd1_ (f_X7_mixed n r63_22 (r75_25.toInt64)) (fun (r79_28 : Int64) => bd1_ (f_X7_clouds n v_turn v_phase v_up y5_5 3 5 4 0) (fun (r91_31 : Int64) => bd1_ (f_X7_mixed n r79_28 r91_31) (fun (r94_34 : Int64) => bd1_ (f_X7_clouds n v_turn v_phase v_up y5_5 3 5 4 1) (fun (r106_37 : Int64) => bd1_ (f_X7_mixed n r94_34 r106_37) (fun (r109_40 : Int64) => L_X7_mixedSuns_5 n v_turn v_phase v_up v_csize v_cbytes kx5 k5 r109_40 (y5_5 + 1)))))))))))))))
theorem L_X7_mixedSuns_5_s (n : Nat) (v_turn : Nat → Int32) (v_phase : Nat → Int32) (v_up : Nat → Int32) (v_csize : Int32) (v_cbytes : Nat → Int32) (kx5 : Int64 → Option (Int64)) (k5 : Nat) (y5_3 : Int64) (y5_5 : Int32) : L_X7_mixedSuns_5 n v_turn v_phase v_up v_csize v_cbytes kx5 (k5 + 1) y5_3 y5_5 = if (1 : Int32) < y5_5 then kx5 y5_3 else bd1_ (f_X7_without n v_turn v_up y5_5) (fun (r15_1 : Int32) => bd1_ (f_X7_mixed n y5_3 (r15_1.toInt64)) (fun (r19_4 : Int64) => bd1_ (f_X7_place n v_turn v_phase y5_5 77) (fun (r29_7 : Int32) => bd1_ (f_X7_mixed n r19_4 (r29_7.toInt64)) (fun (r33_10 : Int64) => bd1_ (f_X7_drift n v_turn v_phase v_up v_csize v_cbytes y5_5 9) (fun (r43_13 : Int32) => bd1_ (f_X7_mixed n r33_10 (r43_13.toInt64)) (fun (r47_16 : Int64) => bd1_ (f_X7_shortest n v_turn v_phase v_up y5_5 4 20 0) (fun (r59_19 : Int32) => bd1_ (f_X7_mixed n r47_16 (r59_19.toInt64)) (fun (r63_22 : Int64) => bd1_ (f_X7_shortest n v_turn v_phase v_up y5_5 4 20 1) (fun (r75_25 : Int32) => bd1_ (f_X7_mixed n r63_22 (r75_25.toInt64)) (fun (r79_28 : Int64) => bd1_ (f_X7_clouds n v_turn v_phase v_up y5_5 3 5 4 0) (fun (r91_31 : Int64) => bd1_ (f_X7_mixed n r79_28 r91_31) (fun (r94_34 : Int64) => bd1_ (f_X7_clouds n v_turn v_phase v_up y5_5 3 5 4 1) (fun (r106_37 : Int64) => bd1_ (f_X7_mixed n r94_34 r106_37) (fun (r109_40 : Int64) => L_X7_mixedSuns_5 n v_turn v_phase v_up v_csize v_cbytes kx5 k5 r109_40 (y5_5 + 1))))))))))))))) := rfl
def f_X7_mixedSuns (n : Nat) (v_turn : Nat → Int32) (v_phase : Nat → Int32) (v_up : Nat → Int32) (v_csize : Int32) (v_cbytes : Nat → Int32) (x1 : Int64) : Option (Int64) := jn1_ (fun (z5_3 : Int64) => some z5_3) (fun kx5 => L_X7_mixedSuns_5 n v_turn v_phase v_up v_csize v_cbytes kx5 n x1 0)
set_option maxHeartbeats 4000000 in
set_option maxRecDepth 100000 in
theorem c_X7_mixedSuns (l : Launch) (dC : Nat → ClassId) (dI : Nat → Nat → Nat) (cI cZ cP cS : ClassId) (h_t h_t_red h_t_blue h_t_sky h_t_diary h_t_calendar h_t_awakeIn h_t_worths h_t_plants h_t_sheets h_t_bestFrom h_t_red_fitting h_t_red_worstLeft h_t_blue_fitting h_t_blue_worstLeft h_t_calendar_bytes : Nat) (v_latestFinding : Int32) (v_turn : Nat → Int32) (v_phase : Nat → Int32) (v_up : Nat → Int32) (v_csize : Int32) (v_cbytes : Nat → Int32) (x1 : Int64) (n : Nat) (r : Int64) (hf : f_X7_mixedSuns n v_turn v_phase v_up v_csize v_cbytes x1 = some r) : Met l yX7_mixedSuns wsX7_mixedSuns rm_X7_mixedSuns (RO (dC, dI) (TY cI cZ cP cS) [.ref h_t, .long x1] (wd_X7_mixedSuns cI cZ cP cS h_t h_t_red h_t_blue h_t_sky h_t_diary h_t_calendar h_t_awakeIn h_t_worths h_t_plants h_t_sheets h_t_bestFrom h_t_red_fitting h_t_red_worstLeft h_t_blue_fitting h_t_blue_worstLeft h_t_calendar_bytes v_latestFinding v_turn v_phase v_up v_csize v_cbytes)) (vp_Sl (fun x => x = r)) 0 0 NF := by
  refine Met.ofW (cc := cX7_mixedSuns) (maxL := 6) (ret := (some .long)) (by decide) rfl ?_
  intro p e s m args below meth c s₁ B hml hv
  obtain ⟨rfl, hP, hK⟩ := hv
  have hx := B.exec
  have hb := B.bytes
  have hr := B.returns
  have hts := atoms_spec (ws := wsX7_mixedSuns) B.pre
  have hown : s.vm.findClass RX7 = some m.cls := findClass_of_methodNamed B.named
  have hlocks := B.notSynchronized
  have hl := lv_entry ([.ref h_t, .long x1]) (n := 6) (Nat.le_of_ble_eq_true rfl)
  rw [lg_entry_eq]
  generalize (lg_sl ([.ref h_t, .long x1]) ++ List.replicate (6 - (lg_sl ([.ref h_t, .long x1])).length) Slot.unset).toArray = ls at hl ⊢
  have hl : lv_has ls 6 [(0, .ref h_t), (1, .long x1)] := hl
  unfold f_X7_mixedSuns at hf
  refine lv_lload_n hx hb dX7_mixedSuns_0 rfl (lv_at hl 1 rfl) ?_
  refine lv_lstore_n (lv' := [(3, .long x1), (0, .ref h_t), (1, .long x1)]) hx hb dX7_mixedSuns_1 rfl hl (by decide) rfl (fun ls hl => ?_)
  refine lv_iconst (v := 0) hx hb dX7_mixedSuns_2 (by decide) ?_
  refine lv_istore (lv' := [(5, .int 0), (3, .long x1), (0, .ref h_t), (1, .long x1)]) hx hb dX7_mixedSuns_3 hl (by decide) rfl (fun ls hl => ?_)
  obtain ⟨kx5, ekx5, hf⟩ := jn1_e hf
  have hx5 : ∀ (z5_3 : Int64) (ls : Array Slot), lv_has ls 6 [(3, .long z5_3)] → kx5 z5_3 = some r → W p l e (headSpec wsX7_mixedSuns rm_X7_mixedSuns).room s m ([.ref h_t, .long x1] : List Value).toArray below meth c s.heap [] 0 0 (MQ below (vp_Sl (fun x => x = r)) ([.ref h_t, .long x1] : List Value).toArray s 0 0 NF) (F0 m 119 ls []) := by
    intro z5_3 ls hl hf
    rw [ekx5] at hf
    refine lv_lload_n hx hb dX7_mixedSuns_119 rfl (lv_at hl 0 rfl) ?_
    exact W.lret hx hb hr (fun t ht hW => ⟨_, rfl, Option.some.inj hf, ht⟩) (fun _ h => nomatch h) dX7_mixedSuns_120
  have hL5 : ∀ (k5 : Nat) (y5_3 : Int64) (y5_5 : Int32) (ls : Array Slot), lv_has ls 6 [(0, .ref h_t), (3, .long y5_3), (5, .int y5_5)] → L_X7_mixedSuns_5 n v_turn v_phase v_up v_csize v_cbytes kx5 k5 y5_3 y5_5 = some r → W p l e (headSpec wsX7_mixedSuns rm_X7_mixedSuns).room s m ([.ref h_t, .long x1] : List Value).toArray below meth c s.heap [] 0 0 (MQ below (vp_Sl (fun x => x = r)) ([.ref h_t, .long x1] : List Value).toArray s 0 0 NF) (F0 m 5 ls []) := by
    intro k5
    induction k5 with
    | zero =>
      intro y5_3 y5_5 ls hl hf
      exact absurd hf (fun h => Option.some_ne_none _ h.symm)
    | succ k5 ih =>
      intro y5_3 y5_5 ls hl hf
      rw [L_X7_mixedSuns_5_s] at hf
      refine lv_iload hx hb dX7_mixedSuns_5 (lv_at hl 2 rfl) ?_
      refine lv_iconst (v := 1) hx hb dX7_mixedSuns_7 (by decide) ?_
      refine lv_icmp_gt (tgt := 119) hx hb dX7_mixedSuns_8 (by decide) (fun c8 => ?_) (fun c8 => ?_)
      · rw [if_pos c8] at hf
        exact hx5 y5_3 ls (lv_sub hl [1] rfl) hf
      · rw [if_neg c8] at hf
        refine lv_lload_n hx hb dX7_mixedSuns_11 rfl (lv_at hl 1 rfl) ?_
        refine lv_aload_n hx hb dX7_mixedSuns_12 rfl (lv_at hl 0 rfl) ?_
        refine lv_iload hx hb dX7_mixedSuns_13 (lv_at hl 2 rfl) ?_
        obtain ⟨r15_1, hc_2, hf⟩ := bd1_e hf
        refine vp_callSi (va_runV (As := [.int y5_5]) (rest := [.long y5_3]) ⟨hx, hb, hml, hown, hts⟩ (c_X7_without l dC dI cI cZ cP cS h_t h_t_red h_t_blue h_t_sky h_t_diary h_t_calendar h_t_awakeIn h_t_worths h_t_plants h_t_sheets h_t_bestFrom h_t_red_fitting h_t_red_worstLeft h_t_blue_fitting h_t_blue_worstLeft v_latestFinding v_turn v_phase v_up y5_5 n r15_1 hc_2) (cwV 1 hts gX7_mixedSuns_X7_without rfl rfl rfl (by decide +kernel) ⟨Nat.le_of_ble_eq_true rfl, Nat.le_of_ble_eq_true rfl⟩) (pv_ro (ci := 6) (q0 := 0) hK (hP.sub (ws' := (wd_X7_without cI cZ cP cS h_t h_t_red h_t_blue h_t_sky h_t_diary h_t_calendar h_t_awakeIn h_t_worths h_t_plants h_t_sheets h_t_bestFrom h_t_red_fitting h_t_red_worstLeft h_t_blue_fitting h_t_blue_worstLeft v_latestFinding v_turn v_phase v_up)) [0, 1, 2, 3] rfl) rfl rfl) rfl rfl hl.1 rfl (lv_room (Nat.le_of_ble_eq_true rfl)) dX7_mixedSuns_15 ⟨Nat.zero_le _, Nat.zero_le _⟩).run (fun x e_3 => ?_)
        rw [e_3]
        refine lv_i2l (v := r15_1.toInt64) hx hb dX7_mixedSuns_18 rfl ?_
        obtain ⟨r19_4, hc_5, hf⟩ := bd1_e hf
        refine vp_callSl (va_runS (As := [.long y5_3, .long (r15_1.toInt64)]) (rest := []) ⟨hx, hb, hml, hown, hts⟩ (c_X7_mixed l dC dI cI cZ cP cS   y5_3 (r15_1.toInt64) n r19_4 hc_5) (va_cwS 2 hts gX7_mixedSuns_X7_mixed rfl rfl rfl (by decide +kernel) ⟨Nat.le_of_ble_eq_true rfl, Nat.le_of_ble_eq_true rfl⟩) (ps_ro hK (hP.sub (ws' := ([] : va_W)) [] rfl)) rfl rfl hl.1 rfl (lv_room (Nat.le_of_ble_eq_true rfl)) dX7_mixedSuns_19 ⟨Nat.zero_le _, Nat.zero_le _⟩).run (fun x e_6 => ?_)
        rw [e_6]
        refine lv_lstore_n (lv' := [(3, .long r19_4), (0, .ref h_t), (5, .int y5_5)]) hx hb dX7_mixedSuns_22 rfl hl (by decide) rfl (fun ls hl => ?_)
        refine lv_lload_n hx hb dX7_mixedSuns_23 rfl (lv_at hl 0 rfl) ?_
        refine lv_aload_n hx hb dX7_mixedSuns_24 rfl (lv_at hl 1 rfl) ?_
        refine lv_iload hx hb dX7_mixedSuns_25 (lv_at hl 2 rfl) ?_
        refine lv_bipush (v := 77) hx hb dX7_mixedSuns_27 (by decide) ?_
        obtain ⟨r29_7, hc_8, hf⟩ := bd1_e hf
        refine vp_callSi (va_runV (As := [.int y5_5, .int 77]) (rest := [.long r19_4]) ⟨hx, hb, hml, hown, hts⟩ (c_X7_place l dC dI cI cZ cP cS h_t h_t_red h_t_blue h_t_sky h_t_diary h_t_calendar h_t_awakeIn h_t_worths h_t_plants h_t_sheets h_t_bestFrom h_t_red_fitting h_t_red_worstLeft h_t_blue_fitting h_t_blue_worstLeft v_latestFinding v_turn v_phase v_up y5_5 77 n r29_7 hc_8) (cwV 2 hts gX7_mixedSuns_X7_place rfl rfl rfl (by decide +kernel) ⟨Nat.le_of_ble_eq_true rfl, Nat.le_of_ble_eq_true rfl⟩) (pv_ro (ci := 6) (q0 := 0) hK (hP.sub (ws' := (wd_X7_place cI cZ cP cS h_t h_t_red h_t_blue h_t_sky h_t_diary h_t_calendar h_t_awakeIn h_t_worths h_t_plants h_t_sheets h_t_bestFrom h_t_red_fitting h_t_red_worstLeft h_t_blue_fitting h_t_blue_worstLeft v_latestFinding v_turn v_phase v_up)) [0, 1, 2] rfl) rfl rfl) rfl rfl hl.1 rfl (lv_room (Nat.le_of_ble_eq_true rfl)) dX7_mixedSuns_29 ⟨Nat.zero_le _, Nat.zero_le _⟩).run (fun x e_9 => ?_)
        rw [e_9]
        refine lv_i2l (v := r29_7.toInt64) hx hb dX7_mixedSuns_32 rfl ?_
        obtain ⟨r33_10, hc_11, hf⟩ := bd1_e hf
        refine vp_callSl (va_runS (As := [.long r19_4, .long (r29_7.toInt64)]) (rest := []) ⟨hx, hb, hml, hown, hts⟩ (c_X7_mixed l dC dI cI cZ cP cS   r19_4 (r29_7.toInt64) n r33_10 hc_11) (va_cwS 2 hts gX7_mixedSuns_X7_mixed rfl rfl rfl (by decide +kernel) ⟨Nat.le_of_ble_eq_true rfl, Nat.le_of_ble_eq_true rfl⟩) (ps_ro hK (hP.sub (ws' := ([] : va_W)) [] rfl)) rfl rfl hl.1 rfl (lv_room (Nat.le_of_ble_eq_true rfl)) dX7_mixedSuns_33 ⟨Nat.zero_le _, Nat.zero_le _⟩).run (fun x e_12 => ?_)
        rw [e_12]
        refine lv_lstore_n (lv' := [(3, .long r33_10), (0, .ref h_t), (5, .int y5_5)]) hx hb dX7_mixedSuns_36 rfl hl (by decide) rfl (fun ls hl => ?_)
        refine lv_lload_n hx hb dX7_mixedSuns_37 rfl (lv_at hl 0 rfl) ?_
        refine lv_aload_n hx hb dX7_mixedSuns_38 rfl (lv_at hl 1 rfl) ?_
        refine lv_iload hx hb dX7_mixedSuns_39 (lv_at hl 2 rfl) ?_
        refine lv_bipush (v := 9) hx hb dX7_mixedSuns_41 (by decide) ?_
        obtain ⟨r43_13, hc_14, hf⟩ := bd1_e hf
        refine vp_callSi (va_runV (As := [.int y5_5, .int 9]) (rest := [.long r33_10]) ⟨hx, hb, hml, hown, hts⟩ (c_X7_drift l dC dI cI cZ cP cS h_t h_t_red h_t_blue h_t_sky h_t_diary h_t_calendar h_t_awakeIn h_t_worths h_t_plants h_t_sheets h_t_bestFrom h_t_red_fitting h_t_red_worstLeft h_t_blue_fitting h_t_blue_worstLeft h_t_calendar_bytes v_latestFinding v_turn v_phase v_up v_csize v_cbytes y5_5 9 n r43_13 hc_14) (cwV 2 hts gX7_mixedSuns_X7_drift rfl rfl rfl (by decide +kernel) ⟨Nat.le_of_ble_eq_true rfl, Nat.le_of_ble_eq_true rfl⟩) (pv_ro (ci := 6) (q0 := 0) hK (hP.sub (ws' := (wd_X7_drift cI cZ cP cS h_t h_t_red h_t_blue h_t_sky h_t_diary h_t_calendar h_t_awakeIn h_t_worths h_t_plants h_t_sheets h_t_bestFrom h_t_red_fitting h_t_red_worstLeft h_t_blue_fitting h_t_blue_worstLeft h_t_calendar_bytes v_latestFinding v_turn v_phase v_up v_csize v_cbytes)) [0, 1, 2, 4, 5] rfl) rfl rfl) rfl rfl hl.1 rfl (lv_room (Nat.le_of_ble_eq_true rfl)) dX7_mixedSuns_43 ⟨Nat.zero_le _, Nat.zero_le _⟩).run (fun x e_15 => ?_)
        rw [e_15]
        refine lv_i2l (v := r43_13.toInt64) hx hb dX7_mixedSuns_46 rfl ?_
        obtain ⟨r47_16, hc_17, hf⟩ := bd1_e hf
        refine vp_callSl (va_runS (As := [.long r33_10, .long (r43_13.toInt64)]) (rest := []) ⟨hx, hb, hml, hown, hts⟩ (c_X7_mixed l dC dI cI cZ cP cS   r33_10 (r43_13.toInt64) n r47_16 hc_17) (va_cwS 2 hts gX7_mixedSuns_X7_mixed rfl rfl rfl (by decide +kernel) ⟨Nat.le_of_ble_eq_true rfl, Nat.le_of_ble_eq_true rfl⟩) (ps_ro hK (hP.sub (ws' := ([] : va_W)) [] rfl)) rfl rfl hl.1 rfl (lv_room (Nat.le_of_ble_eq_true rfl)) dX7_mixedSuns_47 ⟨Nat.zero_le _, Nat.zero_le _⟩).run (fun x e_18 => ?_)
        rw [e_18]
        refine lv_lstore_n (lv' := [(3, .long r47_16), (0, .ref h_t), (5, .int y5_5)]) hx hb dX7_mixedSuns_50 rfl hl (by decide) rfl (fun ls hl => ?_)
        refine lv_lload_n hx hb dX7_mixedSuns_51 rfl (lv_at hl 0 rfl) ?_
        refine lv_aload_n hx hb dX7_mixedSuns_52 rfl (lv_at hl 1 rfl) ?_
        refine lv_iload hx hb dX7_mixedSuns_53 (lv_at hl 2 rfl) ?_
        refine lv_iconst (v := 4) hx hb dX7_mixedSuns_55 (by decide) ?_
        refine lv_bipush (v := 20) hx hb dX7_mixedSuns_56 (by decide) ?_
        refine lv_iconst (v := 0) hx hb dX7_mixedSuns_58 (by decide) ?_
        obtain ⟨r59_19, hc_20, hf⟩ := bd1_e hf
        refine vp_callSi (va_runV (As := [.int y5_5, .int 4, .int 20, .int 0]) (rest := [.long r47_16]) ⟨hx, hb, hml, hown, hts⟩ (c_X7_shortest l dC dI cI cZ cP cS h_t h_t_red h_t_blue h_t_sky h_t_diary h_t_calendar h_t_awakeIn h_t_worths h_t_plants h_t_sheets h_t_bestFrom h_t_red_fitting h_t_red_worstLeft h_t_blue_fitting h_t_blue_worstLeft v_latestFinding v_turn v_phase v_up y5_5 4 20 0 n r59_19 hc_20) (cwV 4 hts gX7_mixedSuns_X7_shortest rfl rfl rfl (by decide +kernel) ⟨Nat.le_of_ble_eq_true rfl, Nat.le_of_ble_eq_true rfl⟩) (pv_ro (ci := 6) (q0 := 0) hK (hP.sub (ws' := (wd_X7_shortest cI cZ cP cS h_t h_t_red h_t_blue h_t_sky h_t_diary h_t_calendar h_t_awakeIn h_t_worths h_t_plants h_t_sheets h_t_bestFrom h_t_red_fitting h_t_red_worstLeft h_t_blue_fitting h_t_blue_worstLeft v_latestFinding v_turn v_phase v_up)) [0, 1, 2] rfl) rfl rfl) rfl rfl hl.1 rfl (lv_room (Nat.le_of_ble_eq_true rfl)) dX7_mixedSuns_59 ⟨Nat.zero_le _, Nat.zero_le _⟩).run (fun x e_21 => ?_)
        rw [e_21]
        refine lv_i2l (v := r59_19.toInt64) hx hb dX7_mixedSuns_62 rfl ?_
        obtain ⟨r63_22, hc_23, hf⟩ := bd1_e hf
        refine vp_callSl (va_runS (As := [.long r47_16, .long (r59_19.toInt64)]) (rest := []) ⟨hx, hb, hml, hown, hts⟩ (c_X7_mixed l dC dI cI cZ cP cS   r47_16 (r59_19.toInt64) n r63_22 hc_23) (va_cwS 2 hts gX7_mixedSuns_X7_mixed rfl rfl rfl (by decide +kernel) ⟨Nat.le_of_ble_eq_true rfl, Nat.le_of_ble_eq_true rfl⟩) (ps_ro hK (hP.sub (ws' := ([] : va_W)) [] rfl)) rfl rfl hl.1 rfl (lv_room (Nat.le_of_ble_eq_true rfl)) dX7_mixedSuns_63 ⟨Nat.zero_le _, Nat.zero_le _⟩).run (fun x e_24 => ?_)
        rw [e_24]
        refine lv_lstore_n (lv' := [(3, .long r63_22), (0, .ref h_t), (5, .int y5_5)]) hx hb dX7_mixedSuns_66 rfl hl (by decide) rfl (fun ls hl => ?_)
        refine lv_lload_n hx hb dX7_mixedSuns_67 rfl (lv_at hl 0 rfl) ?_
        refine lv_aload_n hx hb dX7_mixedSuns_68 rfl (lv_at hl 1 rfl) ?_
        refine lv_iload hx hb dX7_mixedSuns_69 (lv_at hl 2 rfl) ?_
        refine lv_iconst (v := 4) hx hb dX7_mixedSuns_71 (by decide) ?_
        refine lv_bipush (v := 20) hx hb dX7_mixedSuns_72 (by decide) ?_
        refine lv_iconst (v := 1) hx hb dX7_mixedSuns_74 (by decide) ?_
        obtain ⟨r75_25, hc_26, hf⟩ := bd1_e hf
        refine vp_callSi (va_runV (As := [.int y5_5, .int 4, .int 20, .int 1]) (rest := [.long r63_22]) ⟨hx, hb, hml, hown, hts⟩ (c_X7_shortest l dC dI cI cZ cP cS h_t h_t_red h_t_blue h_t_sky h_t_diary h_t_calendar h_t_awakeIn h_t_worths h_t_plants h_t_sheets h_t_bestFrom h_t_red_fitting h_t_red_worstLeft h_t_blue_fitting h_t_blue_worstLeft v_latestFinding v_turn v_phase v_up y5_5 4 20 1 n r75_25 hc_26) (cwV 4 hts gX7_mixedSuns_X7_shortest rfl rfl rfl (by decide +kernel) ⟨Nat.le_of_ble_eq_true rfl, Nat.le_of_ble_eq_true rfl⟩) (pv_ro (ci := 6) (q0 := 0) hK (hP.sub (ws' := (wd_X7_shortest cI cZ cP cS h_t h_t_red h_t_blue h_t_sky h_t_diary h_t_calendar h_t_awakeIn h_t_worths h_t_plants h_t_sheets h_t_bestFrom h_t_red_fitting h_t_red_worstLeft h_t_blue_fitting h_t_blue_worstLeft v_latestFinding v_turn v_phase v_up)) [0, 1, 2] rfl) rfl rfl) rfl rfl hl.1 rfl (lv_room (Nat.le_of_ble_eq_true rfl)) dX7_mixedSuns_75 ⟨Nat.zero_le _, Nat.zero_le _⟩).run (fun x e_27 => ?_)
        rw [e_27]
        refine lv_i2l (v := r75_25.toInt64) hx hb dX7_mixedSuns_78 rfl ?_
        obtain ⟨r79_28, hc_29, hf⟩ := bd1_e hf
        refine vp_callSl (va_runS (As := [.long r63_22, .long (r75_25.toInt64)]) (rest := []) ⟨hx, hb, hml, hown, hts⟩ (c_X7_mixed l dC dI cI cZ cP cS   r63_22 (r75_25.toInt64) n r79_28 hc_29) (va_cwS 2 hts gX7_mixedSuns_X7_mixed rfl rfl rfl (by decide +kernel) ⟨Nat.le_of_ble_eq_true rfl, Nat.le_of_ble_eq_true rfl⟩) (ps_ro hK (hP.sub (ws' := ([] : va_W)) [] rfl)) rfl rfl hl.1 rfl (lv_room (Nat.le_of_ble_eq_true rfl)) dX7_mixedSuns_79 ⟨Nat.zero_le _, Nat.zero_le _⟩).run (fun x e_30 => ?_)
        rw [e_30]
        refine lv_lstore_n (lv' := [(3, .long r79_28), (0, .ref h_t), (5, .int y5_5)]) hx hb dX7_mixedSuns_82 rfl hl (by decide) rfl (fun ls hl => ?_)
        refine lv_lload_n hx hb dX7_mixedSuns_83 rfl (lv_at hl 0 rfl) ?_
        refine lv_aload_n hx hb dX7_mixedSuns_84 rfl (lv_at hl 1 rfl) ?_
        refine lv_iload hx hb dX7_mixedSuns_85 (lv_at hl 2 rfl) ?_
        refine lv_iconst (v := 3) hx hb dX7_mixedSuns_87 (by decide) ?_
        refine lv_iconst (v := 5) hx hb dX7_mixedSuns_88 (by decide) ?_
        refine lv_iconst (v := 4) hx hb dX7_mixedSuns_89 (by decide) ?_
        refine lv_iconst (v := 0) hx hb dX7_mixedSuns_90 (by decide) ?_
        obtain ⟨r91_31, hc_32, hf⟩ := bd1_e hf
        refine vp_callSl (va_runV (As := [.int y5_5, .int 3, .int 5, .int 4, .int 0]) (rest := [.long r79_28]) ⟨hx, hb, hml, hown, hts⟩ (c_X7_clouds l dC dI cI cZ cP cS h_t h_t_red h_t_blue h_t_sky h_t_diary h_t_calendar h_t_awakeIn h_t_worths h_t_plants h_t_sheets h_t_bestFrom h_t_red_fitting h_t_red_worstLeft h_t_blue_fitting h_t_blue_worstLeft v_latestFinding v_turn v_phase v_up y5_5 3 5 4 0 n r91_31 hc_32) (cwV 5 hts gX7_mixedSuns_X7_clouds rfl rfl rfl (by decide +kernel) ⟨Nat.le_of_ble_eq_true rfl, Nat.le_of_ble_eq_true rfl⟩) (pv_ro (ci := 6) (q0 := 0) hK (hP.sub (ws' := (wd_X7_clouds cI cZ cP cS h_t h_t_red h_t_blue h_t_sky h_t_diary h_t_calendar h_t_awakeIn h_t_worths h_t_plants h_t_sheets h_t_bestFrom h_t_red_fitting h_t_red_worstLeft h_t_blue_fitting h_t_blue_worstLeft v_latestFinding v_turn v_phase v_up)) [0, 1, 2] rfl) rfl rfl) rfl rfl hl.1 rfl (lv_room (Nat.le_of_ble_eq_true rfl)) dX7_mixedSuns_91 ⟨Nat.zero_le _, Nat.zero_le _⟩).run (fun x e_33 => ?_)
        rw [e_33]
        obtain ⟨r94_34, hc_35, hf⟩ := bd1_e hf
        refine vp_callSl (va_runS (As := [.long r79_28, .long r91_31]) (rest := []) ⟨hx, hb, hml, hown, hts⟩ (c_X7_mixed l dC dI cI cZ cP cS   r79_28 r91_31 n r94_34 hc_35) (va_cwS 2 hts gX7_mixedSuns_X7_mixed rfl rfl rfl (by decide +kernel) ⟨Nat.le_of_ble_eq_true rfl, Nat.le_of_ble_eq_true rfl⟩) (ps_ro hK (hP.sub (ws' := ([] : va_W)) [] rfl)) rfl rfl hl.1 rfl (lv_room (Nat.le_of_ble_eq_true rfl)) dX7_mixedSuns_94 ⟨Nat.zero_le _, Nat.zero_le _⟩).run (fun x e_36 => ?_)
        rw [e_36]
        refine lv_lstore_n (lv' := [(3, .long r94_34), (0, .ref h_t), (5, .int y5_5)]) hx hb dX7_mixedSuns_97 rfl hl (by decide) rfl (fun ls hl => ?_)
        refine lv_lload_n hx hb dX7_mixedSuns_98 rfl (lv_at hl 0 rfl) ?_
        refine lv_aload_n hx hb dX7_mixedSuns_99 rfl (lv_at hl 1 rfl) ?_
        refine lv_iload hx hb dX7_mixedSuns_100 (lv_at hl 2 rfl) ?_
        refine lv_iconst (v := 3) hx hb dX7_mixedSuns_102 (by decide) ?_
        refine lv_iconst (v := 5) hx hb dX7_mixedSuns_103 (by decide) ?_
        refine lv_iconst (v := 4) hx hb dX7_mixedSuns_104 (by decide) ?_
        refine lv_iconst (v := 1) hx hb dX7_mixedSuns_105 (by decide) ?_
        obtain ⟨r106_37, hc_38, hf⟩ := bd1_e hf
        refine vp_callSl (va_runV (As := [.int y5_5, .int 3, .int 5, .int 4, .int 1]) (rest := [.long r94_34]) ⟨hx, hb, hml, hown, hts⟩ (c_X7_clouds l dC dI cI cZ cP cS h_t h_t_red h_t_blue h_t_sky h_t_diary h_t_calendar h_t_awakeIn h_t_worths h_t_plants h_t_sheets h_t_bestFrom h_t_red_fitting h_t_red_worstLeft h_t_blue_fitting h_t_blue_worstLeft v_latestFinding v_turn v_phase v_up y5_5 3 5 4 1 n r106_37 hc_38) (cwV 5 hts gX7_mixedSuns_X7_clouds rfl rfl rfl (by decide +kernel) ⟨Nat.le_of_ble_eq_true rfl, Nat.le_of_ble_eq_true rfl⟩) (pv_ro (ci := 6) (q0 := 0) hK (hP.sub (ws' := (wd_X7_clouds cI cZ cP cS h_t h_t_red h_t_blue h_t_sky h_t_diary h_t_calendar h_t_awakeIn h_t_worths h_t_plants h_t_sheets h_t_bestFrom h_t_red_fitting h_t_red_worstLeft h_t_blue_fitting h_t_blue_worstLeft v_latestFinding v_turn v_phase v_up)) [0, 1, 2] rfl) rfl rfl) rfl rfl hl.1 rfl (lv_room (Nat.le_of_ble_eq_true rfl)) dX7_mixedSuns_106 ⟨Nat.zero_le _, Nat.zero_le _⟩).run (fun x e_39 => ?_)
        rw [e_39]
        obtain ⟨r109_40, hc_41, hf⟩ := bd1_e hf
        refine vp_callSl (va_runS (As := [.long r94_34, .long r106_37]) (rest := []) ⟨hx, hb, hml, hown, hts⟩ (c_X7_mixed l dC dI cI cZ cP cS   r94_34 r106_37 n r109_40 hc_41) (va_cwS 2 hts gX7_mixedSuns_X7_mixed rfl rfl rfl (by decide +kernel) ⟨Nat.le_of_ble_eq_true rfl, Nat.le_of_ble_eq_true rfl⟩) (ps_ro hK (hP.sub (ws' := ([] : va_W)) [] rfl)) rfl rfl hl.1 rfl (lv_room (Nat.le_of_ble_eq_true rfl)) dX7_mixedSuns_109 ⟨Nat.zero_le _, Nat.zero_le _⟩).run (fun x e_42 => ?_)
        rw [e_42]
        refine lv_lstore_n (lv' := [(3, .long r109_40), (0, .ref h_t), (5, .int y5_5)]) hx hb dX7_mixedSuns_112 rfl hl (by decide) rfl (fun ls hl => ?_)
        refine lv_iinc (v := (y5_5 + 1)) (lv' := [(5, .int (y5_5 + 1)), (3, .long r109_40), (0, .ref h_t)]) hx hb dX7_mixedSuns_113 hl (k := 2) rfl rfl (by decide) rfl (fun ls hl => ?_)
        refine lv_goto (tgt := 5) hx hb dX7_mixedSuns_116 (by decide) ?_
        exact ih r109_40 (y5_5 + 1) ls (lv_sub hl [2, 1, 0] rfl) hf
  exact hL5 n x1 0 ls (lv_sub hl [2, 1, 0] rfl) hf

abbrev wd_X7_findBest (cI cZ cP cS : ClassId) (h_t h_t_red h_t_blue h_t_sky h_t_diary h_t_calendar h_t_awakeIn h_t_worths h_t_plants h_t_sheets h_t_bestFrom h_t_red_fitting h_t_red_worstLeft h_t_blue_fitting h_t_blue_worstLeft h_t_p0 h_t_p1 h_t_p2 h_t_p3 h_t_p0_growth h_t_p1_growth h_t_p2_growth h_t_p3_growth : Nat) (v_latestFinding : Int32) (v_turn : Nat → Int32) (v_phase : Nat → Int32) (v_up : Nat → Int32) (v_phours : Nat → Int32) (v_pgrowth : Nat → Nat → Int32) (v_bestFrom : Nat → Int32) : va_W := [(h_t, .inr (6, [.ref h_t_red, .ref h_t_blue, .ref h_t_sky, .ref h_t_diary, .ref h_t_calendar, .ref h_t_awakeIn, .ref h_t_worths, .ref h_t_plants, .ref h_t_sheets, .ref h_t_bestFrom, .int v_latestFinding])), (h_t_red, .inr (5, [.int (v_turn 0), .int (v_phase 0), .int (v_up 0), .ref h_t_red_fitting, .ref h_t_red_worstLeft])), (h_t_blue, .inr (5, [.int (v_turn 1), .int (v_phase 1), .int (v_up 1), .ref h_t_blue_fitting, .ref h_t_blue_worstLeft])), (h_t_sky, .inr (4, [.ref h_t_red, .ref h_t_blue])), (h_t_plants, .inl (cP, 4, .inr (.inr (.inr (.inr (ar4 h_t_p0 h_t_p1 h_t_p2 h_t_p3)))))), (h_t_p0, .inr (2, [.int (v_phours 0), .ref h_t_p0_growth])), (h_t_p0_growth, .inl (cI, 4, .inl (v_pgrowth 0))), (h_t_p1, .inr (2, [.int (v_phours 1), .ref h_t_p1_growth])), (h_t_p1_growth, .inl (cI, 4, .inl (v_pgrowth 1))), (h_t_p2, .inr (2, [.int (v_phours 2), .ref h_t_p2_growth])), (h_t_p2_growth, .inl (cI, 4, .inl (v_pgrowth 2))), (h_t_p3, .inr (2, [.int (v_phours 3), .ref h_t_p3_growth])), (h_t_p3_growth, .inl (cI, 4, .inl (v_pgrowth 3))), (h_t_bestFrom, .inl (cI, 61, .inl v_bestFrom))]
abbrev rm_X7_findBest : Room := { frames := 4, cells := 0, slots := 0, locals := 92 }
def L_X7_findBest_28 (n : Nat) (v_turn : Nat → Int32) (v_phase : Nat → Int32) (v_up : Nat → Int32) (v_phours : Nat → Int32) (v_pgrowth : Nat → Nat → Int32) (x1 : Int32) (x2 : Int32) (y11_3 : Int32) (w11_bestFrom : Nat → Int32) (kx28 : Int32 → Option ((Nat → Int32))) : Nat → Int32 → Int32 → Option ((Nat → Int32))
  | 0, _, _ => none
  | k28 + 1, y28_4, y28_5 => if (4 : Int32) ≤ y28_5 then kx28 y28_4 else bd1_ (f_X7_bestWith n v_turn v_phase v_up v_phours v_pgrowth w11_bestFrom y28_5 x1 y11_3 x2) (fun (r42_4 : Int32) => L_X7_findBest_28 n v_turn v_phase v_up v_phours v_pgrowth x1 x2 y11_3 w11_bestFrom kx28 k28 (if y28_4 < r42_4 then r42_4 else y28_4) (y28_5 + 1))
theorem L_X7_findBest_28_s (n : Nat) (v_turn : Nat → Int32) (v_phase : Nat → Int32) (v_up : Nat → Int32) (v_phours : Nat → Int32) (v_pgrowth : Nat → Nat → Int32) (x1 : Int32) (x2 : Int32) (y11_3 : Int32) (w11_bestFrom : Nat → Int32) (kx28 : Int32 → Option ((Nat → Int32))) (k28 : Nat) (y28_4 : Int32) (y28_5 : Int32) : L_X7_findBest_28 n v_turn v_phase v_up v_phours v_pgrowth x1 x2 y11_3 w11_bestFrom kx28 (k28 + 1) y28_4 y28_5 = if (4 : Int32) ≤ y28_5 then kx28 y28_4 else bd1_ (f_X7_bestWith n v_turn v_phase v_up v_phours v_pgrowth w11_bestFrom y28_5 x1 y11_3 x2) (fun (r42_4 : Int32) => L_X7_findBest_28 n v_turn v_phase v_up v_phours v_pgrowth x1 x2 y11_3 w11_bestFrom kx28 k28 (if y28_4 < r42_4 then r42_4 else y28_4) (y28_5 + 1)) := rfl
def L_X7_findBest_11 (n : Nat) (v_turn : Nat → Int32) (v_phase : Nat → Int32) (v_up : Nat → Int32) (v_phours : Nat → Int32) (v_pgrowth : Nat → Nat → Int32) (x1 : Int32) (x2 : Int32) (kx11 : (Nat → Int32) → Option ((Nat → Int32))) : Nat → Int32 → (Nat → Int32) → Option ((Nat → Int32))
  | 0, _, _ => none
  | k11 + 1, y11_3, w11_bestFrom => if y11_3 < 0 then kx11 w11_bestFrom else ix_ (y11_3 + 1) 61 (jn1_ (fun (z28_4 : Int32) => ix_ y11_3 61 (L_X7_findBest_11 n v_turn v_phase v_up v_phours v_pgrowth x1 x2 kx11 k11 (y11_3 + (-1)) (upd w11_bestFrom y11_3.toNatClampNeg z28_4))) (fun kx28 => L_X7_findBest_28 n v_turn v_phase v_up v_phours v_pgrowth x1 x2 y11_3 w11_bestFrom kx28 n (w11_bestFrom (y11_3 + 1).toNatClampNeg) 0))
theorem L_X7_findBest_11_s (n : Nat) (v_turn : Nat → Int32) (v_phase : Nat → Int32) (v_up : Nat → Int32) (v_phours : Nat → Int32) (v_pgrowth : Nat → Nat → Int32) (x1 : Int32) (x2 : Int32) (kx11 : (Nat → Int32) → Option ((Nat → Int32))) (k11 : Nat) (y11_3 : Int32) (w11_bestFrom : Nat → Int32) : L_X7_findBest_11 n v_turn v_phase v_up v_phours v_pgrowth x1 x2 kx11 (k11 + 1) y11_3 w11_bestFrom = if y11_3 < 0 then kx11 w11_bestFrom else ix_ (y11_3 + 1) 61 (jn1_ (fun (z28_4 : Int32) => ix_ y11_3 61 (L_X7_findBest_11 n v_turn v_phase v_up v_phours v_pgrowth x1 x2 kx11 k11 (y11_3 + (-1)) (upd w11_bestFrom y11_3.toNatClampNeg z28_4))) (fun kx28 => L_X7_findBest_28 n v_turn v_phase v_up v_phours v_pgrowth x1 x2 y11_3 w11_bestFrom kx28 n (w11_bestFrom (y11_3 + 1).toNatClampNeg) 0)) := rfl
def f_X7_findBest (n : Nat) (v_turn : Nat → Int32) (v_phase : Nat → Int32) (v_up : Nat → Int32) (v_phours : Nat → Int32) (v_pgrowth : Nat → Nat → Int32) (v_bestFrom : Nat → Int32) (x1 : Int32) (x2 : Int32) : Option ((Nat → Int32)) := ix_ x2 61 (jn1_ (fun (u11_bestFrom : Nat → Int32) => some u11_bestFrom) (fun kx11 => L_X7_findBest_11 n v_turn v_phase v_up v_phours v_pgrowth x1 x2 kx11 n (x2 - 1) (upd v_bestFrom x2.toNatClampNeg 0)))
set_option maxHeartbeats 4000000 in
set_option maxRecDepth 100000 in
theorem c_X7_findBest (l : Launch) (dC : Nat → ClassId) (dI : Nat → Nat → Nat) (cI cZ cP cS : ClassId) (sz : Nat) (h_t h_t_red h_t_blue h_t_sky h_t_diary h_t_calendar h_t_awakeIn h_t_worths h_t_plants h_t_sheets h_t_bestFrom h_t_red_fitting h_t_red_worstLeft h_t_blue_fitting h_t_blue_worstLeft h_t_p0 h_t_p1 h_t_p2 h_t_p3 h_t_p0_growth h_t_p1_growth h_t_p2_growth h_t_p3_growth : Nat) (v_latestFinding : Int32) (v_turn : Nat → Int32) (v_phase : Nat → Int32) (v_up : Nat → Int32) (v_phours : Nat → Int32) (v_pgrowth : Nat → Nat → Int32) (v_bestFrom : Nat → Int32) (x1 : Int32) (x2 : Int32) (n : Nat) (o_bestFrom : Nat → Int32) (hf : f_X7_findBest n v_turn v_phase v_up v_phours v_pgrowth v_bestFrom x1 x2 = some o_bestFrom) : Met l yX7_findBest wsX7_findBest rm_X7_findBest (RW (dC, dI) (TY cI cZ cP cS) [.ref h_t, .int x1, .int x2] sz (wd_X7_findBest cI cZ cP cS h_t h_t_red h_t_blue h_t_sky h_t_diary h_t_calendar h_t_awakeIn h_t_worths h_t_plants h_t_sheets h_t_bestFrom h_t_red_fitting h_t_red_worstLeft h_t_blue_fitting h_t_blue_worstLeft h_t_p0 h_t_p1 h_t_p2 h_t_p3 h_t_p0_growth h_t_p1_growth h_t_p2_growth h_t_p3_growth v_latestFinding v_turn v_phase v_up v_phours v_pgrowth v_bestFrom)) (RWv (dC, dI) (TY cI cZ cP cS) sz (wd_X7_findBest cI cZ cP cS h_t h_t_red h_t_blue h_t_sky h_t_diary h_t_calendar h_t_awakeIn h_t_worths h_t_plants h_t_sheets h_t_bestFrom h_t_red_fitting h_t_red_worstLeft h_t_blue_fitting h_t_blue_worstLeft h_t_p0 h_t_p1 h_t_p2 h_t_p3 h_t_p0_growth h_t_p1_growth h_t_p2_growth h_t_p3_growth v_latestFinding v_turn v_phase v_up v_phours v_pgrowth v_bestFrom) (wd_X7_findBest cI cZ cP cS h_t h_t_red h_t_blue h_t_sky h_t_diary h_t_calendar h_t_awakeIn h_t_worths h_t_plants h_t_sheets h_t_bestFrom h_t_red_fitting h_t_red_worstLeft h_t_blue_fitting h_t_blue_worstLeft h_t_p0 h_t_p1 h_t_p2 h_t_p3 h_t_p0_growth h_t_p1_growth h_t_p2_growth h_t_p3_growth v_latestFinding v_turn v_phase v_up v_phours v_pgrowth o_bestFrom)) 0 0 (va_A (wd_X7_findBest cI cZ cP cS h_t h_t_red h_t_blue h_t_sky h_t_diary h_t_calendar h_t_awakeIn h_t_worths h_t_plants h_t_sheets h_t_bestFrom h_t_red_fitting h_t_red_worstLeft h_t_blue_fitting h_t_blue_worstLeft h_t_p0 h_t_p1 h_t_p2 h_t_p3 h_t_p0_growth h_t_p1_growth h_t_p2_growth h_t_p3_growth v_latestFinding v_turn v_phase v_up v_phours v_pgrowth v_bestFrom) sz) := by
  refine Met.ofW (cc := cX7_findBest) (maxL := 6) (ret := none) (by decide) rfl ?_
  intro p e s m args below meth c s₁ B hml hv
  obtain ⟨rfl, hsz, hP, hK, hD0⟩ := hv
  have hx := B.exec
  have hb := B.bytes
  have hr := B.returns
  have hts := atoms_spec (ws := wsX7_findBest) B.pre
  have hown : s.vm.findClass RX7 = some m.cls := findClass_of_methodNamed B.named
  have hlocks := B.notSynchronized
  subst hsz
  have hD := hD0.self (sz := s.heap.size)
  have hA : ∀ q : Nat, s.heap.size ≤ q → (va_A (wd_X7_findBest cI cZ cP cS h_t h_t_red h_t_blue h_t_sky h_t_diary h_t_calendar h_t_awakeIn h_t_worths h_t_plants h_t_sheets h_t_bestFrom h_t_red_fitting h_t_red_worstLeft h_t_blue_fitting h_t_blue_worstLeft h_t_p0 h_t_p1 h_t_p2 h_t_p3 h_t_p0_growth h_t_p1_growth h_t_p2_growth h_t_p3_growth v_latestFinding v_turn v_phase v_up v_phours v_pgrowth v_bestFrom) s.heap.size) q := fun q h => Or.inr h
  have hS : va_S (va_A (wd_X7_findBest cI cZ cP cS h_t h_t_red h_t_blue h_t_sky h_t_diary h_t_calendar h_t_awakeIn h_t_worths h_t_plants h_t_sheets h_t_bestFrom h_t_red_fitting h_t_red_worstLeft h_t_blue_fitting h_t_blue_worstLeft h_t_p0 h_t_p1 h_t_p2 h_t_p3 h_t_p0_growth h_t_p1_growth h_t_p2_growth h_t_p3_growth v_latestFinding v_turn v_phase v_up v_phours v_pgrowth v_bestFrom) s.heap.size) s.heap s.heap [] := va_S.rf
  have hinX7 : ∀ w ∈ wsX70, w ∈ wsX7_findBest := by decide +kernel
  have hl := lv_entry ([.ref h_t, .int x1, .int x2]) (n := 6) (Nat.le_of_ble_eq_true rfl)
  rw [lg_entry_eq]
  generalize (lg_sl ([.ref h_t, .int x1, .int x2]) ++ List.replicate (6 - (lg_sl ([.ref h_t, .int x1, .int x2])).length) Slot.unset).toArray = ls at hl ⊢
  have hl : lv_has ls 6 [(0, .ref h_t), (1, .int x1), (2, .int x2)] := hl
  obtain ⟨H, hH⟩ : ∃ H : Heap, H = s.heap := ⟨_, rfl⟩
  have hP : va_P (dC, dI) vwCl (wd_X7_findBest cI cZ cP cS h_t h_t_red h_t_blue h_t_sky h_t_diary h_t_calendar h_t_awakeIn h_t_worths h_t_plants h_t_sheets h_t_bestFrom h_t_red_fitting h_t_red_worstLeft h_t_blue_fitting h_t_blue_worstLeft h_t_p0 h_t_p1 h_t_p2 h_t_p3 h_t_p0_growth h_t_p1_growth h_t_p2_growth h_t_p3_growth v_latestFinding v_turn v_phase v_up v_phours v_pgrowth v_bestFrom) H := by rw [hH]; exact hP
  have hS : va_S (va_A (wd_X7_findBest cI cZ cP cS h_t h_t_red h_t_blue h_t_sky h_t_diary h_t_calendar h_t_awakeIn h_t_worths h_t_plants h_t_sheets h_t_bestFrom h_t_red_fitting h_t_red_worstLeft h_t_blue_fitting h_t_blue_worstLeft h_t_p0 h_t_p1 h_t_p2 h_t_p3 h_t_p0_growth h_t_p1_growth h_t_p2_growth h_t_p3_growth v_latestFinding v_turn v_phase v_up v_phours v_pgrowth v_bestFrom) s.heap.size) s.heap H [] := by rw [hH]; exact hS
  obtain ⟨locs, hlo⟩ : ∃ L : List Loc, L = [] := ⟨_, rfl⟩
  rw [← hlo] at hS
  suffices hgo : W p l e (headSpec wsX7_findBest rm_X7_findBest).room s m ([.ref h_t, .int x1, .int x2] : List Value).toArray below meth c H locs 0 0 (MQ below (RWv (dC, dI) (TY cI cZ cP cS) s.heap.size (wd_X7_findBest cI cZ cP cS h_t h_t_red h_t_blue h_t_sky h_t_diary h_t_calendar h_t_awakeIn h_t_worths h_t_plants h_t_sheets h_t_bestFrom h_t_red_fitting h_t_red_worstLeft h_t_blue_fitting h_t_blue_worstLeft h_t_p0 h_t_p1 h_t_p2 h_t_p3 h_t_p0_growth h_t_p1_growth h_t_p2_growth h_t_p3_growth v_latestFinding v_turn v_phase v_up v_phours v_pgrowth v_bestFrom) (wd_X7_findBest cI cZ cP cS h_t h_t_red h_t_blue h_t_sky h_t_diary h_t_calendar h_t_awakeIn h_t_worths h_t_plants h_t_sheets h_t_bestFrom h_t_red_fitting h_t_red_worstLeft h_t_blue_fitting h_t_blue_worstLeft h_t_p0 h_t_p1 h_t_p2 h_t_p3 h_t_p0_growth h_t_p1_growth h_t_p2_growth h_t_p3_growth v_latestFinding v_turn v_phase v_up v_phours v_pgrowth o_bestFrom)) ([.ref h_t, .int x1, .int x2] : List Value).toArray s 0 0 (va_A (wd_X7_findBest cI cZ cP cS h_t h_t_red h_t_blue h_t_sky h_t_diary h_t_calendar h_t_awakeIn h_t_worths h_t_plants h_t_sheets h_t_bestFrom h_t_red_fitting h_t_red_worstLeft h_t_blue_fitting h_t_blue_worstLeft h_t_p0 h_t_p1 h_t_p2 h_t_p3 h_t_p0_growth h_t_p1_growth h_t_p2_growth h_t_p3_growth v_latestFinding v_turn v_phase v_up v_phours v_pgrowth v_bestFrom) s.heap.size)) (F0 m 0 ls []) by rw [hH, hlo] at hgo; exact hgo
  clear hH hlo
  unfold f_X7_findBest at hf
  refine lv_aload_n hx hb dX7_findBest_0 rfl (lv_at hl 0 rfl) ?_
  refine va_get (D := (dC, dI)) (ci := 6) (v := .ref h_t_bestFrom) (C := RX7) (T := TX7) (N := 11) hx hb hts hinX7 hown hK hP 0 rfl rfl 9 (by decide) (hts (.fieldLink RX7 63 "SecondSunrise" "bestFrom" "[I") (by decide +kernel)) (fun _ h9 => h9) rfl dX7_findBest_1 ?_
  refine lv_iload_n hx hb dX7_findBest_4 rfl (lv_at hl 2 rfl) ?_
  refine lv_iconst (v := 0) hx hb dX7_findBest_5 (by decide) ?_
  obtain ⟨hi_1, hf⟩ := ix_e hf
  refine va_iast hx hb hK hP hD hS 13 0 rfl rfl hi_1 dX7_findBest_6 (fun H locs hP hD hS => ?_)
  have hP : va_P (dC, dI) vwCl (wd_X7_findBest cI cZ cP cS h_t h_t_red h_t_blue h_t_sky h_t_diary h_t_calendar h_t_awakeIn h_t_worths h_t_plants h_t_sheets h_t_bestFrom h_t_red_fitting h_t_red_worstLeft h_t_blue_fitting h_t_blue_worstLeft h_t_p0 h_t_p1 h_t_p2 h_t_p3 h_t_p0_growth h_t_p1_growth h_t_p2_growth h_t_p3_growth v_latestFinding v_turn v_phase v_up v_phours v_pgrowth (upd v_bestFrom x2.toNatClampNeg 0)) H := hP
  have hD : va_D (va_A (wd_X7_findBest cI cZ cP cS h_t h_t_red h_t_blue h_t_sky h_t_diary h_t_calendar h_t_awakeIn h_t_worths h_t_plants h_t_sheets h_t_bestFrom h_t_red_fitting h_t_red_worstLeft h_t_blue_fitting h_t_blue_worstLeft h_t_p0 h_t_p1 h_t_p2 h_t_p3 h_t_p0_growth h_t_p1_growth h_t_p2_growth h_t_p3_growth v_latestFinding v_turn v_phase v_up v_phours v_pgrowth v_bestFrom) s.heap.size) (wd_X7_findBest cI cZ cP cS h_t h_t_red h_t_blue h_t_sky h_t_diary h_t_calendar h_t_awakeIn h_t_worths h_t_plants h_t_sheets h_t_bestFrom h_t_red_fitting h_t_red_worstLeft h_t_blue_fitting h_t_blue_worstLeft h_t_p0 h_t_p1 h_t_p2 h_t_p3 h_t_p0_growth h_t_p1_growth h_t_p2_growth h_t_p3_growth v_latestFinding v_turn v_phase v_up v_phours v_pgrowth (upd v_bestFrom x2.toNatClampNeg 0)) := hD
  refine lv_iload_n hx hb dX7_findBest_7 rfl (lv_at hl 2 rfl) ?_
  refine lv_iconst (v := 1) hx hb dX7_findBest_8 (by decide) ?_
  refine lv_isub hx hb dX7_findBest_9 ?_
  refine lv_istore_n (lv' := [(3, .int (x2 - 1)), (0, .ref h_t), (1, .int x1), (2, .int x2)]) hx hb dX7_findBest_10 rfl hl (by decide) rfl (fun ls hl => ?_)
  obtain ⟨kx11, ekx11, hf⟩ := jn1_e hf
  have hx11 : ∀ (u11_bestFrom : Nat → Int32) (H : Heap) (locs : List Loc) (ls : Array Slot), lv_has ls 6 [] → va_P (dC, dI) vwCl (wd_X7_findBest cI cZ cP cS h_t h_t_red h_t_blue h_t_sky h_t_diary h_t_calendar h_t_awakeIn h_t_worths h_t_plants h_t_sheets h_t_bestFrom h_t_red_fitting h_t_red_worstLeft h_t_blue_fitting h_t_blue_worstLeft h_t_p0 h_t_p1 h_t_p2 h_t_p3 h_t_p0_growth h_t_p1_growth h_t_p2_growth h_t_p3_growth v_latestFinding v_turn v_phase v_up v_phours v_pgrowth u11_bestFrom) H → va_D (va_A (wd_X7_findBest cI cZ cP cS h_t h_t_red h_t_blue h_t_sky h_t_diary h_t_calendar h_t_awakeIn h_t_worths h_t_plants h_t_sheets h_t_bestFrom h_t_red_fitting h_t_red_worstLeft h_t_blue_fitting h_t_blue_worstLeft h_t_p0 h_t_p1 h_t_p2 h_t_p3 h_t_p0_growth h_t_p1_growth h_t_p2_growth h_t_p3_growth v_latestFinding v_turn v_phase v_up v_phours v_pgrowth v_bestFrom) s.heap.size) (wd_X7_findBest cI cZ cP cS h_t h_t_red h_t_blue h_t_sky h_t_diary h_t_calendar h_t_awakeIn h_t_worths h_t_plants h_t_sheets h_t_bestFrom h_t_red_fitting h_t_red_worstLeft h_t_blue_fitting h_t_blue_worstLeft h_t_p0 h_t_p1 h_t_p2 h_t_p3 h_t_p0_growth h_t_p1_growth h_t_p2_growth h_t_p3_growth v_latestFinding v_turn v_phase v_up v_phours v_pgrowth u11_bestFrom) → va_S (va_A (wd_X7_findBest cI cZ cP cS h_t h_t_red h_t_blue h_t_sky h_t_diary h_t_calendar h_t_awakeIn h_t_worths h_t_plants h_t_sheets h_t_bestFrom h_t_red_fitting h_t_red_worstLeft h_t_blue_fitting h_t_blue_worstLeft h_t_p0 h_t_p1 h_t_p2 h_t_p3 h_t_p0_growth h_t_p1_growth h_t_p2_growth h_t_p3_growth v_latestFinding v_turn v_phase v_up v_phours v_pgrowth v_bestFrom) s.heap.size) s.heap H locs → kx11 u11_bestFrom = some o_bestFrom → W p l e (headSpec wsX7_findBest rm_X7_findBest).room s m ([.ref h_t, .int x1, .int x2] : List Value).toArray below meth c H locs 0 0 (MQ below (RWv (dC, dI) (TY cI cZ cP cS) s.heap.size (wd_X7_findBest cI cZ cP cS h_t h_t_red h_t_blue h_t_sky h_t_diary h_t_calendar h_t_awakeIn h_t_worths h_t_plants h_t_sheets h_t_bestFrom h_t_red_fitting h_t_red_worstLeft h_t_blue_fitting h_t_blue_worstLeft h_t_p0 h_t_p1 h_t_p2 h_t_p3 h_t_p0_growth h_t_p1_growth h_t_p2_growth h_t_p3_growth v_latestFinding v_turn v_phase v_up v_phours v_pgrowth v_bestFrom) (wd_X7_findBest cI cZ cP cS h_t h_t_red h_t_blue h_t_sky h_t_diary h_t_calendar h_t_awakeIn h_t_worths h_t_plants h_t_sheets h_t_bestFrom h_t_red_fitting h_t_red_worstLeft h_t_blue_fitting h_t_blue_worstLeft h_t_p0 h_t_p1 h_t_p2 h_t_p3 h_t_p0_growth h_t_p1_growth h_t_p2_growth h_t_p3_growth v_latestFinding v_turn v_phase v_up v_phours v_pgrowth o_bestFrom)) ([.ref h_t, .int x1, .int x2] : List Value).toArray s 0 0 (va_A (wd_X7_findBest cI cZ cP cS h_t h_t_red h_t_blue h_t_sky h_t_diary h_t_calendar h_t_awakeIn h_t_worths h_t_plants h_t_sheets h_t_bestFrom h_t_red_fitting h_t_red_worstLeft h_t_blue_fitting h_t_blue_worstLeft h_t_p0 h_t_p1 h_t_p2 h_t_p3 h_t_p0_growth h_t_p1_growth h_t_p2_growth h_t_p3_growth v_latestFinding v_turn v_phase v_up v_phours v_pgrowth v_bestFrom) s.heap.size)) (F0 m 70 ls []) := by
    intro u11_bestFrom H locs ls hl hP hD hS hf
    rw [ekx11] at hf
    have hq := Option.some.inj hf
    subst hq
    exact W.vret hx hb hr (fun t ht hW => ⟨⟨(), rfl, trivial, by rw [ht]; exact hP, va_K.moved hW.alike hK, hD⟩, hS.F ht⟩) hS.2.2 dX7_findBest_70
  have hL11 : ∀ (k11 : Nat) (y11_3 : Int32) (w11_bestFrom : Nat → Int32) (H : Heap) (locs : List Loc) (ls : Array Slot), lv_has ls 6 [(0, .ref h_t), (1, .int x1), (2, .int x2), (3, .int y11_3)] → va_P (dC, dI) vwCl (wd_X7_findBest cI cZ cP cS h_t h_t_red h_t_blue h_t_sky h_t_diary h_t_calendar h_t_awakeIn h_t_worths h_t_plants h_t_sheets h_t_bestFrom h_t_red_fitting h_t_red_worstLeft h_t_blue_fitting h_t_blue_worstLeft h_t_p0 h_t_p1 h_t_p2 h_t_p3 h_t_p0_growth h_t_p1_growth h_t_p2_growth h_t_p3_growth v_latestFinding v_turn v_phase v_up v_phours v_pgrowth w11_bestFrom) H → va_D (va_A (wd_X7_findBest cI cZ cP cS h_t h_t_red h_t_blue h_t_sky h_t_diary h_t_calendar h_t_awakeIn h_t_worths h_t_plants h_t_sheets h_t_bestFrom h_t_red_fitting h_t_red_worstLeft h_t_blue_fitting h_t_blue_worstLeft h_t_p0 h_t_p1 h_t_p2 h_t_p3 h_t_p0_growth h_t_p1_growth h_t_p2_growth h_t_p3_growth v_latestFinding v_turn v_phase v_up v_phours v_pgrowth v_bestFrom) s.heap.size) (wd_X7_findBest cI cZ cP cS h_t h_t_red h_t_blue h_t_sky h_t_diary h_t_calendar h_t_awakeIn h_t_worths h_t_plants h_t_sheets h_t_bestFrom h_t_red_fitting h_t_red_worstLeft h_t_blue_fitting h_t_blue_worstLeft h_t_p0 h_t_p1 h_t_p2 h_t_p3 h_t_p0_growth h_t_p1_growth h_t_p2_growth h_t_p3_growth v_latestFinding v_turn v_phase v_up v_phours v_pgrowth w11_bestFrom) → va_S (va_A (wd_X7_findBest cI cZ cP cS h_t h_t_red h_t_blue h_t_sky h_t_diary h_t_calendar h_t_awakeIn h_t_worths h_t_plants h_t_sheets h_t_bestFrom h_t_red_fitting h_t_red_worstLeft h_t_blue_fitting h_t_blue_worstLeft h_t_p0 h_t_p1 h_t_p2 h_t_p3 h_t_p0_growth h_t_p1_growth h_t_p2_growth h_t_p3_growth v_latestFinding v_turn v_phase v_up v_phours v_pgrowth v_bestFrom) s.heap.size) s.heap H locs → L_X7_findBest_11 n v_turn v_phase v_up v_phours v_pgrowth x1 x2 kx11 k11 y11_3 w11_bestFrom = some o_bestFrom → W p l e (headSpec wsX7_findBest rm_X7_findBest).room s m ([.ref h_t, .int x1, .int x2] : List Value).toArray below meth c H locs 0 0 (MQ below (RWv (dC, dI) (TY cI cZ cP cS) s.heap.size (wd_X7_findBest cI cZ cP cS h_t h_t_red h_t_blue h_t_sky h_t_diary h_t_calendar h_t_awakeIn h_t_worths h_t_plants h_t_sheets h_t_bestFrom h_t_red_fitting h_t_red_worstLeft h_t_blue_fitting h_t_blue_worstLeft h_t_p0 h_t_p1 h_t_p2 h_t_p3 h_t_p0_growth h_t_p1_growth h_t_p2_growth h_t_p3_growth v_latestFinding v_turn v_phase v_up v_phours v_pgrowth v_bestFrom) (wd_X7_findBest cI cZ cP cS h_t h_t_red h_t_blue h_t_sky h_t_diary h_t_calendar h_t_awakeIn h_t_worths h_t_plants h_t_sheets h_t_bestFrom h_t_red_fitting h_t_red_worstLeft h_t_blue_fitting h_t_blue_worstLeft h_t_p0 h_t_p1 h_t_p2 h_t_p3 h_t_p0_growth h_t_p1_growth h_t_p2_growth h_t_p3_growth v_latestFinding v_turn v_phase v_up v_phours v_pgrowth o_bestFrom)) ([.ref h_t, .int x1, .int x2] : List Value).toArray s 0 0 (va_A (wd_X7_findBest cI cZ cP cS h_t h_t_red h_t_blue h_t_sky h_t_diary h_t_calendar h_t_awakeIn h_t_worths h_t_plants h_t_sheets h_t_bestFrom h_t_red_fitting h_t_red_worstLeft h_t_blue_fitting h_t_blue_worstLeft h_t_p0 h_t_p1 h_t_p2 h_t_p3 h_t_p0_growth h_t_p1_growth h_t_p2_growth h_t_p3_growth v_latestFinding v_turn v_phase v_up v_phours v_pgrowth v_bestFrom) s.heap.size)) (F0 m 11 ls []) := by
    intro k11
    induction k11 with
    | zero =>
      intro y11_3 w11_bestFrom H locs ls hl hP hD hS hf
      exact absurd hf (fun h => Option.some_ne_none _ h.symm)
    | succ k11 ih =>
      intro y11_3 w11_bestFrom H locs ls hl hP hD hS hf
      rw [L_X7_findBest_11_s] at hf
      refine lv_iload_n hx hb dX7_findBest_11 rfl (lv_at hl 3 rfl) ?_
      refine lv_if_lt (tgt := 70) hx hb dX7_findBest_12 (by decide) (fun c12 => ?_) (fun c12 => ?_)
      · rw [if_pos c12] at hf
        exact hx11 w11_bestFrom H locs ls (lv_sub hl [] rfl) hP hD hS hf
      · rw [if_neg c12] at hf
        refine lv_aload_n hx hb dX7_findBest_15 rfl (lv_at hl 0 rfl) ?_
        refine va_get (D := (dC, dI)) (ci := 6) (v := .ref h_t_bestFrom) (C := RX7) (T := TX7) (N := 11) hx hb hts hinX7 hown hK hP 0 rfl rfl 9 (by decide) (hts (.fieldLink RX7 63 "SecondSunrise" "bestFrom" "[I") (by decide +kernel)) (fun _ h9 => h9) rfl dX7_findBest_16 ?_
        refine lv_iload_n hx hb dX7_findBest_19 rfl (lv_at hl 3 rfl) ?_
        refine lv_iconst (v := 1) hx hb dX7_findBest_20 (by decide) ?_
        refine lv_iadd hx hb dX7_findBest_21 ?_
        obtain ⟨hi_2, hf⟩ := ix_e hf
        refine va_iald hx hb hK hP 13 0 rfl rfl hi_2 dX7_findBest_22 ?_
        refine lv_istore (lv' := [(4, .int (w11_bestFrom (y11_3 + 1).toNatClampNeg)), (0, .ref h_t), (1, .int x1), (2, .int x2), (3, .int y11_3)]) hx hb dX7_findBest_23 hl (by decide) rfl (fun ls hl => ?_)
        refine lv_iconst (v := 0) hx hb dX7_findBest_25 (by decide) ?_
        refine lv_istore (lv' := [(5, .int 0), (4, .int (w11_bestFrom (y11_3 + 1).toNatClampNeg)), (0, .ref h_t), (1, .int x1), (2, .int x2), (3, .int y11_3)]) hx hb dX7_findBest_26 hl (by decide) rfl (fun ls hl => ?_)
        obtain ⟨kx28, ekx28, hf⟩ := jn1_e hf
        have hx28 : ∀ (z28_4 : Int32) (ls : Array Slot), lv_has ls 6 [(0, .ref h_t), (1, .int x1), (2, .int x2), (3, .int y11_3), (4, .int z28_4)] → kx28 z28_4 = some o_bestFrom → W p l e (headSpec wsX7_findBest rm_X7_findBest).room s m ([.ref h_t, .int x1, .int x2] : List Value).toArray below meth c H locs 0 0 (MQ below (RWv (dC, dI) (TY cI cZ cP cS) s.heap.size (wd_X7_findBest cI cZ cP cS h_t h_t_red h_t_blue h_t_sky h_t_diary h_t_calendar h_t_awakeIn h_t_worths h_t_plants h_t_sheets h_t_bestFrom h_t_red_fitting h_t_red_worstLeft h_t_blue_fitting h_t_blue_worstLeft h_t_p0 h_t_p1 h_t_p2 h_t_p3 h_t_p0_growth h_t_p1_growth h_t_p2_growth h_t_p3_growth v_latestFinding v_turn v_phase v_up v_phours v_pgrowth v_bestFrom) (wd_X7_findBest cI cZ cP cS h_t h_t_red h_t_blue h_t_sky h_t_diary h_t_calendar h_t_awakeIn h_t_worths h_t_plants h_t_sheets h_t_bestFrom h_t_red_fitting h_t_red_worstLeft h_t_blue_fitting h_t_blue_worstLeft h_t_p0 h_t_p1 h_t_p2 h_t_p3 h_t_p0_growth h_t_p1_growth h_t_p2_growth h_t_p3_growth v_latestFinding v_turn v_phase v_up v_phours v_pgrowth o_bestFrom)) ([.ref h_t, .int x1, .int x2] : List Value).toArray s 0 0 (va_A (wd_X7_findBest cI cZ cP cS h_t h_t_red h_t_blue h_t_sky h_t_diary h_t_calendar h_t_awakeIn h_t_worths h_t_plants h_t_sheets h_t_bestFrom h_t_red_fitting h_t_red_worstLeft h_t_blue_fitting h_t_blue_worstLeft h_t_p0 h_t_p1 h_t_p2 h_t_p3 h_t_p0_growth h_t_p1_growth h_t_p2_growth h_t_p3_growth v_latestFinding v_turn v_phase v_up v_phours v_pgrowth v_bestFrom) s.heap.size)) (F0 m 56 ls []) := by
          intro z28_4 ls hl hf
          rw [ekx28] at hf
          refine lv_aload_n hx hb dX7_findBest_56 rfl (lv_at hl 0 rfl) ?_
          refine va_get (D := (dC, dI)) (ci := 6) (v := .ref h_t_bestFrom) (C := RX7) (T := TX7) (N := 11) hx hb hts hinX7 hown hK hP 0 rfl rfl 9 (by decide) (hts (.fieldLink RX7 63 "SecondSunrise" "bestFrom" "[I") (by decide +kernel)) (fun _ h9 => h9) rfl dX7_findBest_57 ?_
          refine lv_iload_n hx hb dX7_findBest_60 rfl (lv_at hl 3 rfl) ?_
          refine lv_iload hx hb dX7_findBest_61 (lv_at hl 4 rfl) ?_
          obtain ⟨hi_3, hf⟩ := ix_e hf
          refine va_iast hx hb hK hP hD hS 13 0 rfl rfl hi_3 dX7_findBest_63 (fun H locs hP hD hS => ?_)
          have hP : va_P (dC, dI) vwCl (wd_X7_findBest cI cZ cP cS h_t h_t_red h_t_blue h_t_sky h_t_diary h_t_calendar h_t_awakeIn h_t_worths h_t_plants h_t_sheets h_t_bestFrom h_t_red_fitting h_t_red_worstLeft h_t_blue_fitting h_t_blue_worstLeft h_t_p0 h_t_p1 h_t_p2 h_t_p3 h_t_p0_growth h_t_p1_growth h_t_p2_growth h_t_p3_growth v_latestFinding v_turn v_phase v_up v_phours v_pgrowth (upd w11_bestFrom y11_3.toNatClampNeg z28_4)) H := hP
          have hD : va_D (va_A (wd_X7_findBest cI cZ cP cS h_t h_t_red h_t_blue h_t_sky h_t_diary h_t_calendar h_t_awakeIn h_t_worths h_t_plants h_t_sheets h_t_bestFrom h_t_red_fitting h_t_red_worstLeft h_t_blue_fitting h_t_blue_worstLeft h_t_p0 h_t_p1 h_t_p2 h_t_p3 h_t_p0_growth h_t_p1_growth h_t_p2_growth h_t_p3_growth v_latestFinding v_turn v_phase v_up v_phours v_pgrowth v_bestFrom) s.heap.size) (wd_X7_findBest cI cZ cP cS h_t h_t_red h_t_blue h_t_sky h_t_diary h_t_calendar h_t_awakeIn h_t_worths h_t_plants h_t_sheets h_t_bestFrom h_t_red_fitting h_t_red_worstLeft h_t_blue_fitting h_t_blue_worstLeft h_t_p0 h_t_p1 h_t_p2 h_t_p3 h_t_p0_growth h_t_p1_growth h_t_p2_growth h_t_p3_growth v_latestFinding v_turn v_phase v_up v_phours v_pgrowth (upd w11_bestFrom y11_3.toNatClampNeg z28_4)) := hD
          refine lv_iinc (v := (y11_3 + (-1))) (lv' := [(3, .int (y11_3 + (-1))), (0, .ref h_t), (1, .int x1), (2, .int x2), (4, .int z28_4)]) hx hb dX7_findBest_64 hl (k := 3) rfl rfl (by decide) rfl (fun ls hl => ?_)
          refine lv_goto (tgt := 11) hx hb dX7_findBest_67 (by decide) ?_
          exact ih (y11_3 + (-1)) (upd w11_bestFrom y11_3.toNatClampNeg z28_4) H locs ls (lv_sub hl [1, 2, 3, 0] rfl) hP hD hS hf
        have hL28 : ∀ (k28 : Nat) (y28_4 : Int32) (y28_5 : Int32) (ls : Array Slot), lv_has ls 6 [(0, .ref h_t), (1, .int x1), (2, .int x2), (3, .int y11_3), (4, .int y28_4), (5, .int y28_5)] → L_X7_findBest_28 n v_turn v_phase v_up v_phours v_pgrowth x1 x2 y11_3 w11_bestFrom kx28 k28 y28_4 y28_5 = some o_bestFrom → W p l e (headSpec wsX7_findBest rm_X7_findBest).room s m ([.ref h_t, .int x1, .int x2] : List Value).toArray below meth c H locs 0 0 (MQ below (RWv (dC, dI) (TY cI cZ cP cS) s.heap.size (wd_X7_findBest cI cZ cP cS h_t h_t_red h_t_blue h_t_sky h_t_diary h_t_calendar h_t_awakeIn h_t_worths h_t_plants h_t_sheets h_t_bestFrom h_t_red_fitting h_t_red_worstLeft h_t_blue_fitting h_t_blue_worstLeft h_t_p0 h_t_p1 h_t_p2 h_t_p3 h_t_p0_growth h_t_p1_growth h_t_p2_growth h_t_p3_growth v_latestFinding v_turn v_phase v_up v_phours v_pgrowth v_bestFrom) (wd_X7_findBest cI cZ cP cS h_t h_t_red h_t_blue h_t_sky h_t_diary h_t_calendar h_t_awakeIn h_t_worths h_t_plants h_t_sheets h_t_bestFrom h_t_red_fitting h_t_red_worstLeft h_t_blue_fitting h_t_blue_worstLeft h_t_p0 h_t_p1 h_t_p2 h_t_p3 h_t_p0_growth h_t_p1_growth h_t_p2_growth h_t_p3_growth v_latestFinding v_turn v_phase v_up v_phours v_pgrowth o_bestFrom)) ([.ref h_t, .int x1, .int x2] : List Value).toArray s 0 0 (va_A (wd_X7_findBest cI cZ cP cS h_t h_t_red h_t_blue h_t_sky h_t_diary h_t_calendar h_t_awakeIn h_t_worths h_t_plants h_t_sheets h_t_bestFrom h_t_red_fitting h_t_red_worstLeft h_t_blue_fitting h_t_blue_worstLeft h_t_p0 h_t_p1 h_t_p2 h_t_p3 h_t_p0_growth h_t_p1_growth h_t_p2_growth h_t_p3_growth v_latestFinding v_turn v_phase v_up v_phours v_pgrowth v_bestFrom) s.heap.size)) (F0 m 28 ls []) := by
          intro k28
          induction k28 with
          | zero =>
            intro y28_4 y28_5 ls hl hf
            exact absurd hf (fun h => Option.some_ne_none _ h.symm)
          | succ k28 ih =>
            intro y28_4 y28_5 ls hl hf
            rw [L_X7_findBest_28_s] at hf
            refine lv_iload hx hb dX7_findBest_28 (lv_at hl 5 rfl) ?_
            refine lv_iconst (v := 4) hx hb dX7_findBest_30 (by decide) ?_
            refine lv_icmp_ge (tgt := 56) hx hb dX7_findBest_31 (by decide) (fun c31 => ?_) (fun c31 => ?_)
            · rw [if_pos c31] at hf
              exact hx28 y28_4 ls (lv_sub hl [0, 1, 2, 3, 4] rfl) hf
            · rw [if_neg c31] at hf
              refine lv_iload hx hb dX7_findBest_34 (lv_at hl 4 rfl) ?_
              refine lv_aload_n hx hb dX7_findBest_36 rfl (lv_at hl 0 rfl) ?_
              refine lv_iload hx hb dX7_findBest_37 (lv_at hl 5 rfl) ?_
              refine lv_iload_n hx hb dX7_findBest_39 rfl (lv_at hl 1 rfl) ?_
              refine lv_iload_n hx hb dX7_findBest_40 rfl (lv_at hl 3 rfl) ?_
              refine lv_iload_n hx hb dX7_findBest_41 rfl (lv_at hl 2 rfl) ?_
              obtain ⟨r42_4, hc_5, hf⟩ := bd1_e hf
              refine vp_callSi (va_runV (As := [.int y28_5, .int x1, .int y11_3, .int x2]) (rest := [.int y28_4]) ⟨hx, hb, hml, hown, hts⟩ (c_X7_bestWith l dC dI cI cZ cP cS h_t h_t_red h_t_blue h_t_sky h_t_diary h_t_calendar h_t_awakeIn h_t_worths h_t_plants h_t_sheets h_t_bestFrom h_t_red_fitting h_t_red_worstLeft h_t_blue_fitting h_t_blue_worstLeft h_t_p0 h_t_p1 h_t_p2 h_t_p3 h_t_p0_growth h_t_p1_growth h_t_p2_growth h_t_p3_growth v_latestFinding v_turn v_phase v_up v_phours v_pgrowth w11_bestFrom y28_5 x1 y11_3 x2 n r42_4 hc_5) (cwV 4 hts gX7_findBest_X7_bestWith rfl rfl rfl (by decide +kernel) ⟨Nat.le_of_ble_eq_true rfl, Nat.le_of_ble_eq_true rfl⟩) (pv_ro (ci := 6) (q0 := 0) hK (hP.sub (ws' := (wd_X7_bestWith cI cZ cP cS h_t h_t_red h_t_blue h_t_sky h_t_diary h_t_calendar h_t_awakeIn h_t_worths h_t_plants h_t_sheets h_t_bestFrom h_t_red_fitting h_t_red_worstLeft h_t_blue_fitting h_t_blue_worstLeft h_t_p0 h_t_p1 h_t_p2 h_t_p3 h_t_p0_growth h_t_p1_growth h_t_p2_growth h_t_p3_growth v_latestFinding v_turn v_phase v_up v_phours v_pgrowth w11_bestFrom)) [0, 1, 2, 3, 4, 5, 6, 7, 8, 9, 10, 11, 12, 13] rfl) rfl rfl) rfl rfl hl.1 rfl (lv_room (Nat.le_of_ble_eq_true rfl)) dX7_findBest_42 ⟨Nat.zero_le _, Nat.zero_le _⟩).run (fun x e_6 => ?_)
              rw [e_6]
              refine va_mmax hx hb (hml.trans hl.1.symm) hown (hts (.methodLink RX7 366 Lib.Math.max.name) (by decide +kernel)) (hts (.static Lib.Math.max.name) (by decide +kernel)) (hts (.initialized "java/lang/Math") (by decide +kernel)) (hts (.code Lib.Math.max.name Lib.Math.max.code 2 (some .int)) (by decide +kernel)) (Nat.le_of_ble_eq_true rfl) (Nat.le_of_ble_eq_true rfl) (Nat.zero_le _) (Nat.zero_le _) dX7_findBest_45 ?_
              refine lv_istore (lv' := [(4, .int (if y28_4 < r42_4 then r42_4 else y28_4)), (0, .ref h_t), (1, .int x1), (2, .int x2), (3, .int y11_3), (5, .int y28_5)]) hx hb dX7_findBest_48 hl (by decide) rfl (fun ls hl => ?_)
              refine lv_iinc (v := (y28_5 + 1)) (lv' := [(5, .int (y28_5 + 1)), (4, .int (if y28_4 < r42_4 then r42_4 else y28_4)), (0, .ref h_t), (1, .int x1), (2, .int x2), (3, .int y11_3)]) hx hb dX7_findBest_50 hl (k := 5) rfl rfl (by decide) rfl (fun ls hl => ?_)
              refine lv_goto (tgt := 28) hx hb dX7_findBest_53 (by decide) ?_
              exact ih (if y28_4 < r42_4 then r42_4 else y28_4) (y28_5 + 1) ls (lv_sub hl [2, 3, 4, 5, 1, 0] rfl) hf
        exact hL28 n (w11_bestFrom (y11_3 + 1).toNatClampNeg) 0 ls (lv_sub hl [2, 3, 4, 5, 1, 0] rfl) hf
  exact hL11 n (x2 - 1) (upd v_bestFrom x2.toNatClampNeg 0) H locs ls (lv_sub hl [1, 2, 3, 0] rfl) hP hD hS hf

abbrev wd_X7_firstToPlant (cI cZ cP cS : ClassId) (h_t h_t_red h_t_blue h_t_sky h_t_diary h_t_calendar h_t_awakeIn h_t_worths h_t_plants h_t_sheets h_t_bestFrom h_t_red_fitting h_t_red_worstLeft h_t_blue_fitting h_t_blue_worstLeft h_t_p0 h_t_p1 h_t_p2 h_t_p3 h_t_p0_growth h_t_p1_growth h_t_p2_growth h_t_p3_growth : Nat) (v_latestFinding : Int32) (v_turn : Nat → Int32) (v_phase : Nat → Int32) (v_up : Nat → Int32) (v_phours : Nat → Int32) (v_pgrowth : Nat → Nat → Int32) (v_bestFrom : Nat → Int32) : va_W := [(h_t, .inr (6, [.ref h_t_red, .ref h_t_blue, .ref h_t_sky, .ref h_t_diary, .ref h_t_calendar, .ref h_t_awakeIn, .ref h_t_worths, .ref h_t_plants, .ref h_t_sheets, .ref h_t_bestFrom, .int v_latestFinding])), (h_t_red, .inr (5, [.int (v_turn 0), .int (v_phase 0), .int (v_up 0), .ref h_t_red_fitting, .ref h_t_red_worstLeft])), (h_t_blue, .inr (5, [.int (v_turn 1), .int (v_phase 1), .int (v_up 1), .ref h_t_blue_fitting, .ref h_t_blue_worstLeft])), (h_t_sky, .inr (4, [.ref h_t_red, .ref h_t_blue])), (h_t_plants, .inl (cP, 4, .inr (.inr (.inr (.inr (ar4 h_t_p0 h_t_p1 h_t_p2 h_t_p3)))))), (h_t_p0, .inr (2, [.int (v_phours 0), .ref h_t_p0_growth])), (h_t_p0_growth, .inl (cI, 4, .inl (v_pgrowth 0))), (h_t_p1, .inr (2, [.int (v_phours 1), .ref h_t_p1_growth])), (h_t_p1_growth, .inl (cI, 4, .inl (v_pgrowth 1))), (h_t_p2, .inr (2, [.int (v_phours 2), .ref h_t_p2_growth])), (h_t_p2_growth, .inl (cI, 4, .inl (v_pgrowth 2))), (h_t_p3, .inr (2, [.int (v_phours 3), .ref h_t_p3_growth])), (h_t_p3_growth, .inl (cI, 4, .inl (v_pgrowth 3))), (h_t_bestFrom, .inl (cI, 61, .inl v_bestFrom))]
abbrev rm_X7_firstToPlant : Room := { frames := 4, cells := 0, slots := 0, locals := 92 }
def L_X7_firstToPlant_23 (n : Nat) (v_turn : Nat → Int32) (v_phase : Nat → Int32) (v_up : Nat → Int32) (v_phours : Nat → Int32) (v_pgrowth : Nat → Nat → Int32) (v_bestFrom : Nat → Int32) (x1 : Int32) (x2 : Int32) (kx23 : Option (Int32)) : Nat → Int32 → Option (Int32)
  | 0, _ => none
  | k23 + 1, y23_3 => if (4 : Int32) ≤ y23_3 then kx23 else bd1_ (f_X7_bestWith n v_turn v_phase v_up v_phours v_pgrowth v_bestFrom y23_3 x1 0 x2) (fun (r33_1 : Int32) => if r33_1 = (v_bestFrom (0 : Int32).toNatClampNeg) then some y23_3 else L_X7_firstToPlant_23 n v_turn v_phase v_up v_phours v_pgrowth v_bestFrom x1 x2 kx23 k23 (y23_3 + 1))
theorem L_X7_firstToPlant_23_s (n : Nat) (v_turn : Nat → Int32) (v_phase : Nat → Int32) (v_up : Nat → Int32) (v_phours : Nat → Int32) (v_pgrowth : Nat → Nat → Int32) (v_bestFrom : Nat → Int32) (x1 : Int32) (x2 : Int32) (kx23 : Option (Int32)) (k23 : Nat) (y23_3 : Int32) : L_X7_firstToPlant_23 n v_turn v_phase v_up v_phours v_pgrowth v_bestFrom x1 x2 kx23 (k23 + 1) y23_3 = if (4 : Int32) ≤ y23_3 then kx23 else bd1_ (f_X7_bestWith n v_turn v_phase v_up v_phours v_pgrowth v_bestFrom y23_3 x1 0 x2) (fun (r33_1 : Int32) => if r33_1 = (v_bestFrom (0 : Int32).toNatClampNeg) then some y23_3 else L_X7_firstToPlant_23 n v_turn v_phase v_up v_phours v_pgrowth v_bestFrom x1 x2 kx23 k23 (y23_3 + 1)) := rfl
def f_X7_firstToPlant (n : Nat) (v_turn : Nat → Int32) (v_phase : Nat → Int32) (v_up : Nat → Int32) (v_phours : Nat → Int32) (v_pgrowth : Nat → Nat → Int32) (v_bestFrom : Nat → Int32) (x1 : Int32) (x2 : Int32) : Option (Int32) := if x2 = 0 then some (-1) else if (v_bestFrom (0 : Int32).toNatClampNeg) = (v_bestFrom (1 : Int32).toNatClampNeg) then some (-1) else jn0_ (some (-1)) (fun kx23 => L_X7_firstToPlant_23 n v_turn v_phase v_up v_phours v_pgrowth v_bestFrom x1 x2 kx23 n 0)
set_option maxHeartbeats 4000000 in
set_option maxRecDepth 100000 in
theorem c_X7_firstToPlant (l : Launch) (dC : Nat → ClassId) (dI : Nat → Nat → Nat) (cI cZ cP cS : ClassId) (h_t h_t_red h_t_blue h_t_sky h_t_diary h_t_calendar h_t_awakeIn h_t_worths h_t_plants h_t_sheets h_t_bestFrom h_t_red_fitting h_t_red_worstLeft h_t_blue_fitting h_t_blue_worstLeft h_t_p0 h_t_p1 h_t_p2 h_t_p3 h_t_p0_growth h_t_p1_growth h_t_p2_growth h_t_p3_growth : Nat) (v_latestFinding : Int32) (v_turn : Nat → Int32) (v_phase : Nat → Int32) (v_up : Nat → Int32) (v_phours : Nat → Int32) (v_pgrowth : Nat → Nat → Int32) (v_bestFrom : Nat → Int32) (x1 : Int32) (x2 : Int32) (n : Nat) (r : Int32) (hf : f_X7_firstToPlant n v_turn v_phase v_up v_phours v_pgrowth v_bestFrom x1 x2 = some r) : Met l yX7_firstToPlant wsX7_firstToPlant rm_X7_firstToPlant (RO (dC, dI) (TY cI cZ cP cS) [.ref h_t, .int x1, .int x2] (wd_X7_firstToPlant cI cZ cP cS h_t h_t_red h_t_blue h_t_sky h_t_diary h_t_calendar h_t_awakeIn h_t_worths h_t_plants h_t_sheets h_t_bestFrom h_t_red_fitting h_t_red_worstLeft h_t_blue_fitting h_t_blue_worstLeft h_t_p0 h_t_p1 h_t_p2 h_t_p3 h_t_p0_growth h_t_p1_growth h_t_p2_growth h_t_p3_growth v_latestFinding v_turn v_phase v_up v_phours v_pgrowth v_bestFrom)) (vp_Si (fun x => x = r)) 0 0 NF := by
  refine Met.ofW (cc := cX7_firstToPlant) (maxL := 4) (ret := (some .int)) (by decide) rfl ?_
  intro p e s m args below meth c s₁ B hml hv
  obtain ⟨rfl, hP, hK⟩ := hv
  have hx := B.exec
  have hb := B.bytes
  have hr := B.returns
  have hts := atoms_spec (ws := wsX7_firstToPlant) B.pre
  have hown : s.vm.findClass RX7 = some m.cls := findClass_of_methodNamed B.named
  have hlocks := B.notSynchronized
  have hinX7 : ∀ w ∈ wsX70, w ∈ wsX7_firstToPlant := by decide +kernel
  have hl := lv_entry ([.ref h_t, .int x1, .int x2]) (n := 4) (Nat.le_of_ble_eq_true rfl)
  rw [lg_entry_eq]
  generalize (lg_sl ([.ref h_t, .int x1, .int x2]) ++ List.replicate (4 - (lg_sl ([.ref h_t, .int x1, .int x2])).length) Slot.unset).toArray = ls at hl ⊢
  have hl : lv_has ls 4 [(0, .ref h_t), (1, .int x1), (2, .int x2)] := hl
  unfold f_X7_firstToPlant at hf
  refine lv_iload_n hx hb dX7_firstToPlant_0 rfl (lv_at hl 2 rfl) ?_
  refine lv_if_eq (tgt := 19) hx hb dX7_firstToPlant_1 (by decide) (fun c1 => ?_) (fun c1 => ?_)
  · rw [if_pos c1] at hf
    refine lv_iconst (v := (-1)) hx hb dX7_firstToPlant_19 (by decide) ?_
    exact W.iret hx hb hr (fun t ht hW => ⟨_, rfl, Option.some.inj hf, ht⟩) (fun _ h => nomatch h) dX7_firstToPlant_20
  · rw [if_neg c1] at hf
    refine lv_aload_n hx hb dX7_firstToPlant_4 rfl (lv_at hl 0 rfl) ?_
    refine va_get (D := (dC, dI)) (ci := 6) (v := .ref h_t_bestFrom) (C := RX7) (T := TX7) (N := 11) hx hb hts hinX7 hown hK hP 0 rfl rfl 9 (by decide) (hts (.fieldLink RX7 63 "SecondSunrise" "bestFrom" "[I") (by decide +kernel)) (fun _ h9 => h9) rfl dX7_firstToPlant_5 ?_
    refine lv_iconst (v := 0) hx hb dX7_firstToPlant_8 (by decide) ?_
    refine va_iald hx hb hK hP 13 0 rfl rfl (show vp_in 0 61 by unfold vp_in; decide) dX7_firstToPlant_9 ?_
    refine lv_aload_n hx hb dX7_firstToPlant_10 rfl (lv_at hl 0 rfl) ?_
    refine va_get (D := (dC, dI)) (ci := 6) (v := .ref h_t_bestFrom) (C := RX7) (T := TX7) (N := 11) hx hb hts hinX7 hown hK hP 0 rfl rfl 9 (by decide) (hts (.fieldLink RX7 63 "SecondSunrise" "bestFrom" "[I") (by decide +kernel)) (fun _ h9 => h9) rfl dX7_firstToPlant_11 ?_
    refine lv_iconst (v := 1) hx hb dX7_firstToPlant_14 (by decide) ?_
    refine va_iald hx hb hK hP 13 0 rfl rfl (show vp_in 1 61 by unfold vp_in; decide) dX7_firstToPlant_15 ?_
    refine lv_icmp_ne (tgt := 21) hx hb dX7_firstToPlant_16 (by decide) (fun c16 => ?_) (fun c16 => ?_)
    · rw [if_neg c16] at hf
      refine lv_iconst (v := 0) hx hb dX7_firstToPlant_21 (by decide) ?_
      refine lv_istore_n (lv' := [(3, .int 0), (0, .ref h_t), (1, .int x1), (2, .int x2)]) hx hb dX7_firstToPlant_22 rfl hl (by decide) rfl (fun ls hl => ?_)
      obtain ⟨kx23, ekx23, hf⟩ := jn0_e hf
      have hx23 : ∀ (ls : Array Slot), lv_has ls 4 [] → kx23 = some r → W p l e (headSpec wsX7_firstToPlant rm_X7_firstToPlant).room s m ([.ref h_t, .int x1, .int x2] : List Value).toArray below meth c s.heap [] 0 0 (MQ below (vp_Si (fun x => x = r)) ([.ref h_t, .int x1, .int x2] : List Value).toArray s 0 0 NF) (F0 m 53 ls []) := by
        intro ls hl hf
        rw [ekx23] at hf
        refine lv_iconst (v := (-1)) hx hb dX7_firstToPlant_53 (by decide) ?_
        exact W.iret hx hb hr (fun t ht hW => ⟨_, rfl, Option.some.inj hf, ht⟩) (fun _ h => nomatch h) dX7_firstToPlant_54
      have hL23 : ∀ (k23 : Nat) (y23_3 : Int32) (ls : Array Slot), lv_has ls 4 [(0, .ref h_t), (1, .int x1), (2, .int x2), (3, .int y23_3)] → L_X7_firstToPlant_23 n v_turn v_phase v_up v_phours v_pgrowth v_bestFrom x1 x2 kx23 k23 y23_3 = some r → W p l e (headSpec wsX7_firstToPlant rm_X7_firstToPlant).room s m ([.ref h_t, .int x1, .int x2] : List Value).toArray below meth c s.heap [] 0 0 (MQ below (vp_Si (fun x => x = r)) ([.ref h_t, .int x1, .int x2] : List Value).toArray s 0 0 NF) (F0 m 23 ls []) := by
        intro k23
        induction k23 with
        | zero =>
          intro y23_3 ls hl hf
          exact absurd hf (fun h => Option.some_ne_none _ h.symm)
        | succ k23 ih =>
          intro y23_3 ls hl hf
          rw [L_X7_firstToPlant_23_s] at hf
          refine lv_iload_n hx hb dX7_firstToPlant_23 rfl (lv_at hl 3 rfl) ?_
          refine lv_iconst (v := 4) hx hb dX7_firstToPlant_24 (by decide) ?_
          refine lv_icmp_ge (tgt := 53) hx hb dX7_firstToPlant_25 (by decide) (fun c25 => ?_) (fun c25 => ?_)
          · rw [if_pos c25] at hf
            exact hx23 ls (lv_sub hl [] rfl) hf
          · rw [if_neg c25] at hf
            refine lv_aload_n hx hb dX7_firstToPlant_28 rfl (lv_at hl 0 rfl) ?_
            refine lv_iload_n hx hb dX7_firstToPlant_29 rfl (lv_at hl 3 rfl) ?_
            refine lv_iload_n hx hb dX7_firstToPlant_30 rfl (lv_at hl 1 rfl) ?_
            refine lv_iconst (v := 0) hx hb dX7_firstToPlant_31 (by decide) ?_
            refine lv_iload_n hx hb dX7_firstToPlant_32 rfl (lv_at hl 2 rfl) ?_
            obtain ⟨r33_1, hc_2, hf⟩ := bd1_e hf
            refine vp_callSi (va_runV (As := [.int y23_3, .int x1, .int 0, .int x2]) (rest := []) ⟨hx, hb, hml, hown, hts⟩ (c_X7_bestWith l dC dI cI cZ cP cS h_t h_t_red h_t_blue h_t_sky h_t_diary h_t_calendar h_t_awakeIn h_t_worths h_t_plants h_t_sheets h_t_bestFrom h_t_red_fitting h_t_red_worstLeft h_t_blue_fitting h_t_blue_worstLeft h_t_p0 h_t_p1 h_t_p2 h_t_p3 h_t_p0_growth h_t_p1_growth h_t_p2_growth h_t_p3_growth v_latestFinding v_turn v_phase v_up v_phours v_pgrowth v_bestFrom y23_3 x1 0 x2 n r33_1 hc_2) (cwV 4 hts gX7_firstToPlant_X7_bestWith rfl rfl rfl (by decide +kernel) ⟨Nat.le_of_ble_eq_true rfl, Nat.le_of_ble_eq_true rfl⟩) (pv_ro (ci := 6) (q0 := 0) hK (hP.sub (ws' := (wd_X7_bestWith cI cZ cP cS h_t h_t_red h_t_blue h_t_sky h_t_diary h_t_calendar h_t_awakeIn h_t_worths h_t_plants h_t_sheets h_t_bestFrom h_t_red_fitting h_t_red_worstLeft h_t_blue_fitting h_t_blue_worstLeft h_t_p0 h_t_p1 h_t_p2 h_t_p3 h_t_p0_growth h_t_p1_growth h_t_p2_growth h_t_p3_growth v_latestFinding v_turn v_phase v_up v_phours v_pgrowth v_bestFrom)) [0, 1, 2, 3, 4, 5, 6, 7, 8, 9, 10, 11, 12, 13] rfl) rfl rfl) rfl rfl hl.1 rfl (lv_room (Nat.le_of_ble_eq_true rfl)) dX7_firstToPlant_33 ⟨Nat.zero_le _, Nat.zero_le _⟩).run (fun x e_3 => ?_)
            rw [e_3]
            refine lv_aload_n hx hb dX7_firstToPlant_36 rfl (lv_at hl 0 rfl) ?_
            refine va_get (D := (dC, dI)) (ci := 6) (v := .ref h_t_bestFrom) (C := RX7) (T := TX7) (N := 11) hx hb hts hinX7 hown hK hP 0 rfl rfl 9 (by decide) (hts (.fieldLink RX7 63 "SecondSunrise" "bestFrom" "[I") (by decide +kernel)) (fun _ h9 => h9) rfl dX7_firstToPlant_37 ?_
            refine lv_iconst (v := 0) hx hb dX7_firstToPlant_40 (by decide) ?_
            refine va_iald hx hb hK hP 13 0 rfl rfl (show vp_in 0 61 by unfold vp_in; decide) dX7_firstToPlant_41 ?_
            refine lv_icmp_ne (tgt := 47) hx hb dX7_firstToPlant_42 (by decide) (fun c42 => ?_) (fun c42 => ?_)
            · rw [if_neg c42] at hf
              refine lv_iinc (v := (y23_3 + 1)) (lv' := [(3, .int (y23_3 + 1)), (0, .ref h_t), (1, .int x1), (2, .int x2)]) hx hb dX7_firstToPlant_47 hl (k := 3) rfl rfl (by decide) rfl (fun ls hl => ?_)
              refine lv_goto (tgt := 23) hx hb dX7_firstToPlant_50 (by decide) ?_
              exact ih (y23_3 + 1) ls (lv_sub hl [1, 2, 3, 0] rfl) hf
            · rw [if_pos c42] at hf
              refine lv_iload_n hx hb dX7_firstToPlant_45 rfl (lv_at hl 3 rfl) ?_
              exact W.iret hx hb hr (fun t ht hW => ⟨_, rfl, Option.some.inj hf, ht⟩) (fun _ h => nomatch h) dX7_firstToPlant_46
      exact hL23 n 0 ls (lv_sub hl [1, 2, 3, 0] rfl) hf
    · rw [if_pos c16] at hf
      refine lv_iconst (v := (-1)) hx hb dX7_firstToPlant_19 (by decide) ?_
      exact W.iret hx hb hr (fun t ht hW => ⟨_, rfl, Option.some.inj hf, ht⟩) (fun _ h => nomatch h) dX7_firstToPlant_20

abbrev wd_X7_planting (cI cZ cP cS : ClassId) (h_t h_t_red h_t_blue h_t_sky h_t_diary h_t_calendar h_t_awakeIn h_t_worths h_t_plants h_t_sheets h_t_bestFrom h_t_red_fitting h_t_red_worstLeft h_t_blue_fitting h_t_blue_worstLeft h_t_p0 h_t_p1 h_t_p2 h_t_p3 h_t_p0_growth h_t_p1_growth h_t_p2_growth h_t_p3_growth : Nat) (v_latestFinding : Int32) (v_turn : Nat → Int32) (v_phase : Nat → Int32) (v_up : Nat → Int32) (v_phours : Nat → Int32) (v_pgrowth : Nat → Nat → Int32) (v_bestFrom : Nat → Int32) : va_W := [(h_t, .inr (6, [.ref h_t_red, .ref h_t_blue, .ref h_t_sky, .ref h_t_diary, .ref h_t_calendar, .ref h_t_awakeIn, .ref h_t_worths, .ref h_t_plants, .ref h_t_sheets, .ref h_t_bestFrom, .int v_latestFinding])), (h_t_red, .inr (5, [.int (v_turn 0), .int (v_phase 0), .int (v_up 0), .ref h_t_red_fitting, .ref h_t_red_worstLeft])), (h_t_blue, .inr (5, [.int (v_turn 1), .int (v_phase 1), .int (v_up 1), .ref h_t_blue_fitting, .ref h_t_blue_worstLeft])), (h_t_sky, .inr (4, [.ref h_t_red, .ref h_t_blue])), (h_t_plants, .inl (cP, 4, .inr (.inr (.inr (.inr (ar4 h_t_p0 h_t_p1 h_t_p2 h_t_p3)))))), (h_t_p0, .inr (2, [.int (v_phours 0), .ref h_t_p0_growth])), (h_t_p0_growth, .inl (cI, 4, .inl (v_pgrowth 0))), (h_t_p1, .inr (2, [.int (v_phours 1), .ref h_t_p1_growth])), (h_t_p1_growth, .inl (cI, 4, .inl (v_pgrowth 1))), (h_t_p2, .inr (2, [.int (v_phours 2), .ref h_t_p2_growth])), (h_t_p2_growth, .inl (cI, 4, .inl (v_pgrowth 2))), (h_t_p3, .inr (2, [.int (v_phours 3), .ref h_t_p3_growth])), (h_t_p3_growth, .inl (cI, 4, .inl (v_pgrowth 3))), (h_t_bestFrom, .inl (cI, 61, .inl v_bestFrom))]
abbrev rm_X7_planting : Room := { frames := 5, cells := 0, slots := 0, locals := 117 }
def f_X7_planting (n : Nat) (v_turn : Nat → Int32) (v_phase : Nat → Int32) (v_up : Nat → Int32) (v_phours : Nat → Int32) (v_pgrowth : Nat → Nat → Int32) (v_bestFrom : Nat → Int32) (x1 : Int32) (x2 : Int32) (x3 : Int32) : Option (Int32 × (Nat → Int32)) := bd1_ (f_X7_noHour n x1) (fun (r1_1 : Int32) => if r1_1 = 0 then bd1_ (f_X7_outside n x2 0 60) (fun (r11_5 : Int32) => if r11_5 = 0 then bd1_ (f_X7_outside n x3 0 1) (fun (r20_9 : Int32) => if r20_9 = 0 then bd1_ (f_X7_findBest n v_turn v_phase v_up v_phours v_pgrowth v_bestFrom x1 x2) (fun (o32_13 : Nat → Int32) => if x3 = 0 then some ((o32_13 (0 : Int32).toNatClampNeg), o32_13) else bd1_ (f_X7_firstToPlant n v_turn v_phase v_up v_phours v_pgrowth o32_13 x1 x2) (fun (r51_16 : Int32) => some (r51_16, o32_13))) else some ((-2), v_bestFrom)) else some ((-2), v_bestFrom)) else some ((-2), v_bestFrom))
set_option maxHeartbeats 4000000 in
set_option maxRecDepth 100000 in
theorem c_X7_planting (l : Launch) (dC : Nat → ClassId) (dI : Nat → Nat → Nat) (cI cZ cP cS : ClassId) (sz : Nat) (h_t h_t_red h_t_blue h_t_sky h_t_diary h_t_calendar h_t_awakeIn h_t_worths h_t_plants h_t_sheets h_t_bestFrom h_t_red_fitting h_t_red_worstLeft h_t_blue_fitting h_t_blue_worstLeft h_t_p0 h_t_p1 h_t_p2 h_t_p3 h_t_p0_growth h_t_p1_growth h_t_p2_growth h_t_p3_growth : Nat) (v_latestFinding : Int32) (v_turn : Nat → Int32) (v_phase : Nat → Int32) (v_up : Nat → Int32) (v_phours : Nat → Int32) (v_pgrowth : Nat → Nat → Int32) (v_bestFrom : Nat → Int32) (x1 : Int32) (x2 : Int32) (x3 : Int32) (n : Nat) (r : Int32) (o_bestFrom : Nat → Int32) (hf : f_X7_planting n v_turn v_phase v_up v_phours v_pgrowth v_bestFrom x1 x2 x3 = some (r, o_bestFrom)) : Met l yX7_planting wsX7_planting rm_X7_planting (RW (dC, dI) (TY cI cZ cP cS) [.ref h_t, .int x1, .int x2, .int x3] sz (wd_X7_planting cI cZ cP cS h_t h_t_red h_t_blue h_t_sky h_t_diary h_t_calendar h_t_awakeIn h_t_worths h_t_plants h_t_sheets h_t_bestFrom h_t_red_fitting h_t_red_worstLeft h_t_blue_fitting h_t_blue_worstLeft h_t_p0 h_t_p1 h_t_p2 h_t_p3 h_t_p0_growth h_t_p1_growth h_t_p2_growth h_t_p3_growth v_latestFinding v_turn v_phase v_up v_phours v_pgrowth v_bestFrom)) (RWi (dC, dI) (TY cI cZ cP cS) r sz (wd_X7_planting cI cZ cP cS h_t h_t_red h_t_blue h_t_sky h_t_diary h_t_calendar h_t_awakeIn h_t_worths h_t_plants h_t_sheets h_t_bestFrom h_t_red_fitting h_t_red_worstLeft h_t_blue_fitting h_t_blue_worstLeft h_t_p0 h_t_p1 h_t_p2 h_t_p3 h_t_p0_growth h_t_p1_growth h_t_p2_growth h_t_p3_growth v_latestFinding v_turn v_phase v_up v_phours v_pgrowth v_bestFrom) (wd_X7_planting cI cZ cP cS h_t h_t_red h_t_blue h_t_sky h_t_diary h_t_calendar h_t_awakeIn h_t_worths h_t_plants h_t_sheets h_t_bestFrom h_t_red_fitting h_t_red_worstLeft h_t_blue_fitting h_t_blue_worstLeft h_t_p0 h_t_p1 h_t_p2 h_t_p3 h_t_p0_growth h_t_p1_growth h_t_p2_growth h_t_p3_growth v_latestFinding v_turn v_phase v_up v_phours v_pgrowth o_bestFrom)) 0 0 (va_A (wd_X7_planting cI cZ cP cS h_t h_t_red h_t_blue h_t_sky h_t_diary h_t_calendar h_t_awakeIn h_t_worths h_t_plants h_t_sheets h_t_bestFrom h_t_red_fitting h_t_red_worstLeft h_t_blue_fitting h_t_blue_worstLeft h_t_p0 h_t_p1 h_t_p2 h_t_p3 h_t_p0_growth h_t_p1_growth h_t_p2_growth h_t_p3_growth v_latestFinding v_turn v_phase v_up v_phours v_pgrowth v_bestFrom) sz) := by
  refine Met.ofW (cc := cX7_planting) (maxL := 4) (ret := (some .int)) (by decide) rfl ?_
  intro p e s m args below meth c s₁ B hml hv
  obtain ⟨rfl, hsz, hP, hK, hD0⟩ := hv
  have hx := B.exec
  have hb := B.bytes
  have hr := B.returns
  have hts := atoms_spec (ws := wsX7_planting) B.pre
  have hown : s.vm.findClass RX7 = some m.cls := findClass_of_methodNamed B.named
  have hlocks := B.notSynchronized
  subst hsz
  have hD := hD0.self (sz := s.heap.size)
  have hA : ∀ q : Nat, s.heap.size ≤ q → (va_A (wd_X7_planting cI cZ cP cS h_t h_t_red h_t_blue h_t_sky h_t_diary h_t_calendar h_t_awakeIn h_t_worths h_t_plants h_t_sheets h_t_bestFrom h_t_red_fitting h_t_red_worstLeft h_t_blue_fitting h_t_blue_worstLeft h_t_p0 h_t_p1 h_t_p2 h_t_p3 h_t_p0_growth h_t_p1_growth h_t_p2_growth h_t_p3_growth v_latestFinding v_turn v_phase v_up v_phours v_pgrowth v_bestFrom) s.heap.size) q := fun q h => Or.inr h
  have hS : va_S (va_A (wd_X7_planting cI cZ cP cS h_t h_t_red h_t_blue h_t_sky h_t_diary h_t_calendar h_t_awakeIn h_t_worths h_t_plants h_t_sheets h_t_bestFrom h_t_red_fitting h_t_red_worstLeft h_t_blue_fitting h_t_blue_worstLeft h_t_p0 h_t_p1 h_t_p2 h_t_p3 h_t_p0_growth h_t_p1_growth h_t_p2_growth h_t_p3_growth v_latestFinding v_turn v_phase v_up v_phours v_pgrowth v_bestFrom) s.heap.size) s.heap s.heap [] := va_S.rf
  have hinX7 : ∀ w ∈ wsX70, w ∈ wsX7_planting := by decide +kernel
  have hl := lv_entry ([.ref h_t, .int x1, .int x2, .int x3]) (n := 4) (Nat.le_of_ble_eq_true rfl)
  rw [lg_entry_eq]
  generalize (lg_sl ([.ref h_t, .int x1, .int x2, .int x3]) ++ List.replicate (4 - (lg_sl ([.ref h_t, .int x1, .int x2, .int x3])).length) Slot.unset).toArray = ls at hl ⊢
  have hl : lv_has ls 4 [(0, .ref h_t), (1, .int x1), (2, .int x2), (3, .int x3)] := hl
  obtain ⟨H, hH⟩ : ∃ H : Heap, H = s.heap := ⟨_, rfl⟩
  have hP : va_P (dC, dI) vwCl (wd_X7_planting cI cZ cP cS h_t h_t_red h_t_blue h_t_sky h_t_diary h_t_calendar h_t_awakeIn h_t_worths h_t_plants h_t_sheets h_t_bestFrom h_t_red_fitting h_t_red_worstLeft h_t_blue_fitting h_t_blue_worstLeft h_t_p0 h_t_p1 h_t_p2 h_t_p3 h_t_p0_growth h_t_p1_growth h_t_p2_growth h_t_p3_growth v_latestFinding v_turn v_phase v_up v_phours v_pgrowth v_bestFrom) H := by rw [hH]; exact hP
  have hS : va_S (va_A (wd_X7_planting cI cZ cP cS h_t h_t_red h_t_blue h_t_sky h_t_diary h_t_calendar h_t_awakeIn h_t_worths h_t_plants h_t_sheets h_t_bestFrom h_t_red_fitting h_t_red_worstLeft h_t_blue_fitting h_t_blue_worstLeft h_t_p0 h_t_p1 h_t_p2 h_t_p3 h_t_p0_growth h_t_p1_growth h_t_p2_growth h_t_p3_growth v_latestFinding v_turn v_phase v_up v_phours v_pgrowth v_bestFrom) s.heap.size) s.heap H [] := by rw [hH]; exact hS
  obtain ⟨locs, hlo⟩ : ∃ L : List Loc, L = [] := ⟨_, rfl⟩
  rw [← hlo] at hS
  suffices hgo : W p l e (headSpec wsX7_planting rm_X7_planting).room s m ([.ref h_t, .int x1, .int x2, .int x3] : List Value).toArray below meth c H locs 0 0 (MQ below (RWi (dC, dI) (TY cI cZ cP cS) r s.heap.size (wd_X7_planting cI cZ cP cS h_t h_t_red h_t_blue h_t_sky h_t_diary h_t_calendar h_t_awakeIn h_t_worths h_t_plants h_t_sheets h_t_bestFrom h_t_red_fitting h_t_red_worstLeft h_t_blue_fitting h_t_blue_worstLeft h_t_p0 h_t_p1 h_t_p2 h_t_p3 h_t_p0_growth h_t_p1_growth h_t_p2_growth h_t_p3_growth v_latestFinding v_turn v_phase v_up v_phours v_pgrowth v_bestFrom) (wd_X7_planting cI cZ cP cS h_t h_t_red h_t_blue h_t_sky h_t_diary h_t_calendar h_t_awakeIn h_t_worths h_t_plants h_t_sheets h_t_bestFrom h_t_red_fitting h_t_red_worstLeft h_t_blue_fitting h_t_blue_worstLeft h_t_p0 h_t_p1 h_t_p2 h_t_p3 h_t_p0_growth h_t_p1_growth h_t_p2_growth h_t_p3_growth v_latestFinding v_turn v_phase v_up v_phours v_pgrowth o_bestFrom)) ([.ref h_t, .int x1, .int x2, .int x3] : List Value).toArray s 0 0 (va_A (wd_X7_planting cI cZ cP cS h_t h_t_red h_t_blue h_t_sky h_t_diary h_t_calendar h_t_awakeIn h_t_worths h_t_plants h_t_sheets h_t_bestFrom h_t_red_fitting h_t_red_worstLeft h_t_blue_fitting h_t_blue_worstLeft h_t_p0 h_t_p1 h_t_p2 h_t_p3 h_t_p0_growth h_t_p1_growth h_t_p2_growth h_t_p3_growth v_latestFinding v_turn v_phase v_up v_phours v_pgrowth v_bestFrom) s.heap.size)) (F0 m 0 ls []) by rw [hH, hlo] at hgo; exact hgo
  clear hH hlo
  unfold f_X7_planting at hf
  refine lv_iload_n hx hb dX7_planting_0 rfl (lv_at hl 1 rfl) ?_
  obtain ⟨r1_1, hc_2, hf⟩ := bd1_e hf
  refine vp_callSi (va_runS (As := [.int x1]) (rest := []) ⟨hx, hb, hml, hown, hts⟩ (c_X7_noHour l dC dI cI cZ cP cS   x1 n r1_1 hc_2) (va_cwS 1 hts gX7_planting_X7_noHour rfl rfl rfl (by decide +kernel) ⟨Nat.le_of_ble_eq_true rfl, Nat.le_of_ble_eq_true rfl⟩) (ps_ro hK (hP.sub (ws' := ([] : va_W)) [] rfl)) rfl rfl hl.1 rfl (lv_room (Nat.le_of_ble_eq_true rfl)) dX7_planting_1 ⟨Nat.zero_le _, Nat.zero_le _⟩).run (fun x e_3 => ?_)
  obtain ⟨e_3, hb_4⟩ := e_3
  rw [e_3] at hb_4 ⊢
  refine lv_if_ne (tgt := 26) hx hb dX7_planting_4 (by decide) (fun c4 => ?_) (fun c4 => ?_)
  · rw [if_neg c4] at hf
    refine lv_bipush (v := (-2)) hx hb dX7_planting_26 (by decide) ?_
    have hq0 := Option.some.inj hf
    obtain ⟨eq0, hq1⟩ := Prod.mk.inj hq0
    clear hf hq0
    subst eq0
    subst hq1
    exact W.iret hx hb hr (fun t ht hW => ⟨⟨_, (), rfl, rfl, by rw [ht]; exact hP, va_K.moved hW.alike hK, hD⟩, hS.F ht⟩) hS.2.2 dX7_planting_28
  · rw [if_pos c4] at hf
    refine lv_iload_n hx hb dX7_planting_7 rfl (lv_at hl 2 rfl) ?_
    refine lv_iconst (v := 0) hx hb dX7_planting_8 (by decide) ?_
    refine lv_bipush (v := 60) hx hb dX7_planting_9 (by decide) ?_
    obtain ⟨r11_5, hc_6, hf⟩ := bd1_e hf
    refine vp_callSi (va_runS (As := [.int x2, .int 0, .int 60]) (rest := []) ⟨hx, hb, hml, hown, hts⟩ (c_X7_outside l dC dI cI cZ cP cS   x2 0 60 n r11_5 hc_6) (va_cwS 3 hts gX7_planting_X7_outside rfl rfl rfl (by decide +kernel) ⟨Nat.le_of_ble_eq_true rfl, Nat.le_of_ble_eq_true rfl⟩) (ps_ro hK (hP.sub (ws' := ([] : va_W)) [] rfl)) rfl rfl hl.1 rfl (lv_room (Nat.le_of_ble_eq_true rfl)) dX7_planting_11 ⟨Nat.zero_le _, Nat.zero_le _⟩).run (fun x e_7 => ?_)
    obtain ⟨e_7, hb_8⟩ := e_7
    rw [e_7] at hb_8 ⊢
    refine lv_if_ne (tgt := 26) hx hb dX7_planting_14 (by decide) (fun c14 => ?_) (fun c14 => ?_)
    · rw [if_neg c14] at hf
      refine lv_bipush (v := (-2)) hx hb dX7_planting_26 (by decide) ?_
      have hq0 := Option.some.inj hf
      obtain ⟨eq0, hq1⟩ := Prod.mk.inj hq0
      clear hf hq0
      subst eq0
      subst hq1
      exact W.iret hx hb hr (fun t ht hW => ⟨⟨_, (), rfl, rfl, by rw [ht]; exact hP, va_K.moved hW.alike hK, hD⟩, hS.F ht⟩) hS.2.2 dX7_planting_28
    · rw [if_pos c14] at hf
      refine lv_iload_n hx hb dX7_planting_17 rfl (lv_at hl 3 rfl) ?_
      refine lv_iconst (v := 0) hx hb dX7_planting_18 (by decide) ?_
      refine lv_iconst (v := 1) hx hb dX7_planting_19 (by decide) ?_
      obtain ⟨r20_9, hc_10, hf⟩ := bd1_e hf
      refine vp_callSi (va_runS (As := [.int x3, .int 0, .int 1]) (rest := []) ⟨hx, hb, hml, hown, hts⟩ (c_X7_outside l dC dI cI cZ cP cS   x3 0 1 n r20_9 hc_10) (va_cwS 3 hts gX7_planting_X7_outside rfl rfl rfl (by decide +kernel) ⟨Nat.le_of_ble_eq_true rfl, Nat.le_of_ble_eq_true rfl⟩) (ps_ro hK (hP.sub (ws' := ([] : va_W)) [] rfl)) rfl rfl hl.1 rfl (lv_room (Nat.le_of_ble_eq_true rfl)) dX7_planting_20 ⟨Nat.zero_le _, Nat.zero_le _⟩).run (fun x e_11 => ?_)
      obtain ⟨e_11, hb_12⟩ := e_11
      rw [e_11] at hb_12 ⊢
      refine lv_if_eq (tgt := 29) hx hb dX7_planting_23 (by decide) (fun c23 => ?_) (fun c23 => ?_)
      · rw [if_pos c23] at hf
        refine lv_aload_n hx hb dX7_planting_29 rfl (lv_at hl 0 rfl) ?_
        refine lv_iload_n hx hb dX7_planting_30 rfl (lv_at hl 1 rfl) ?_
        refine lv_iload_n hx hb dX7_planting_31 rfl (lv_at hl 2 rfl) ?_
        obtain ⟨o32_13, hc_14, hf⟩ := bd1_e hf
        refine rwv_call (isC := [0, 1, 2, 3, 4, 5, 6, 7, 8, 9, 10, 11, 12, 13]) (isR := []) (perm := [0, 1, 2, 3, 4, 5, 6, 7, 8, 9, 10, 11, 12, 13]) (wr := []) (ws2 := (wd_X7_planting cI cZ cP cS h_t h_t_red h_t_blue h_t_sky h_t_diary h_t_calendar h_t_awakeIn h_t_worths h_t_plants h_t_sheets h_t_bestFrom h_t_red_fitting h_t_red_worstLeft h_t_blue_fitting h_t_blue_worstLeft h_t_p0 h_t_p1 h_t_p2 h_t_p3 h_t_p0_growth h_t_p1_growth h_t_p2_growth h_t_p3_growth v_latestFinding v_turn v_phase v_up v_phours v_pgrowth o32_13)) (va_runV (As := [.int x1, .int x2]) (rest := []) ⟨hx, hb, hml, hown, hts⟩ (c_X7_findBest l dC dI cI cZ cP cS H.size h_t h_t_red h_t_blue h_t_sky h_t_diary h_t_calendar h_t_awakeIn h_t_worths h_t_plants h_t_sheets h_t_bestFrom h_t_red_fitting h_t_red_worstLeft h_t_blue_fitting h_t_blue_worstLeft h_t_p0 h_t_p1 h_t_p2 h_t_p3 h_t_p0_growth h_t_p1_growth h_t_p2_growth h_t_p3_growth v_latestFinding v_turn v_phase v_up v_phours v_pgrowth v_bestFrom x1 x2 n o32_13 hc_14) (cwV 2 hts gX7_planting_X7_findBest rfl rfl rfl (by decide +kernel) ⟨Nat.le_of_ble_eq_true rfl, Nat.le_of_ble_eq_true rfl⟩) (pv_rw (ci := 6) (q0 := 0) hK (hP.sub (ws' := (wd_X7_findBest cI cZ cP cS h_t h_t_red h_t_blue h_t_sky h_t_diary h_t_calendar h_t_awakeIn h_t_worths h_t_plants h_t_sheets h_t_bestFrom h_t_red_fitting h_t_red_worstLeft h_t_blue_fitting h_t_blue_worstLeft h_t_p0 h_t_p1 h_t_p2 h_t_p3 h_t_p0_growth h_t_p1_growth h_t_p2_growth h_t_p3_growth v_latestFinding v_turn v_phase v_up v_phours v_pgrowth v_bestFrom)) [0, 1, 2, 3, 4, 5, 6, 7, 8, 9, 10, 11, 12, 13] rfl) (hD.sub (ws' := (wd_X7_findBest cI cZ cP cS h_t h_t_red h_t_blue h_t_sky h_t_diary h_t_calendar h_t_awakeIn h_t_worths h_t_plants h_t_sheets h_t_bestFrom h_t_red_fitting h_t_red_worstLeft h_t_blue_fitting h_t_blue_worstLeft h_t_p0 h_t_p1 h_t_p2 h_t_p3 h_t_p0_growth h_t_p1_growth h_t_p2_growth h_t_p3_growth v_latestFinding v_turn v_phase v_up v_phours v_pgrowth v_bestFrom)) [0, 1, 2, 3, 4, 5, 6, 7, 8, 9, 10, 11, 12, 13] (by decide) rfl) rfl rfl) rfl rfl hl.1 rfl (lv_room (Nat.le_of_ble_eq_true rfl)) dX7_planting_32 ⟨Nat.zero_le _, Nat.zero_le _⟩) hS hA hP hD rfl (by decide) (by decide) rfl (by decide) rfl rfl (fun H locs hP hD hS => ?_)
        refine lv_iload_n hx hb dX7_planting_35 rfl (lv_at hl 3 rfl) ?_
        refine lv_if_ne (tgt := 48) hx hb dX7_planting_36 (by decide) (fun c36 => ?_) (fun c36 => ?_)
        · rw [if_neg c36] at hf
          refine lv_aload_n hx hb dX7_planting_48 rfl (lv_at hl 0 rfl) ?_
          refine lv_iload_n hx hb dX7_planting_49 rfl (lv_at hl 1 rfl) ?_
          refine lv_iload_n hx hb dX7_planting_50 rfl (lv_at hl 2 rfl) ?_
          obtain ⟨r51_16, hc_17, hf⟩ := bd1_e hf
          refine vp_callSi (va_runV (As := [.int x1, .int x2]) (rest := []) ⟨hx, hb, hml, hown, hts⟩ (c_X7_firstToPlant l dC dI cI cZ cP cS h_t h_t_red h_t_blue h_t_sky h_t_diary h_t_calendar h_t_awakeIn h_t_worths h_t_plants h_t_sheets h_t_bestFrom h_t_red_fitting h_t_red_worstLeft h_t_blue_fitting h_t_blue_worstLeft h_t_p0 h_t_p1 h_t_p2 h_t_p3 h_t_p0_growth h_t_p1_growth h_t_p2_growth h_t_p3_growth v_latestFinding v_turn v_phase v_up v_phours v_pgrowth o32_13 x1 x2 n r51_16 hc_17) (cwV 2 hts gX7_planting_X7_firstToPlant rfl rfl rfl (by decide +kernel) ⟨Nat.le_of_ble_eq_true rfl, Nat.le_of_ble_eq_true rfl⟩) (pv_ro (ci := 6) (q0 := 0) hK (hP.sub (ws' := (wd_X7_firstToPlant cI cZ cP cS h_t h_t_red h_t_blue h_t_sky h_t_diary h_t_calendar h_t_awakeIn h_t_worths h_t_plants h_t_sheets h_t_bestFrom h_t_red_fitting h_t_red_worstLeft h_t_blue_fitting h_t_blue_worstLeft h_t_p0 h_t_p1 h_t_p2 h_t_p3 h_t_p0_growth h_t_p1_growth h_t_p2_growth h_t_p3_growth v_latestFinding v_turn v_phase v_up v_phours v_pgrowth o32_13)) [0, 1, 2, 3, 4, 5, 6, 7, 8, 9, 10, 11, 12, 13] rfl) rfl rfl) rfl rfl hl.1 rfl (lv_room (Nat.le_of_ble_eq_true rfl)) dX7_planting_51 ⟨Nat.zero_le _, Nat.zero_le _⟩).run (fun x e_18 => ?_)
          rw [e_18]
          have hq0 := Option.some.inj hf
          obtain ⟨eq0, hq1⟩ := Prod.mk.inj hq0
          clear hf hq0
          subst eq0
          subst hq1
          exact W.iret hx hb hr (fun t ht hW => ⟨⟨_, (), rfl, rfl, by rw [ht]; exact hP, va_K.moved hW.alike hK, hD⟩, hS.F ht⟩) hS.2.2 dX7_planting_54
        · rw [if_pos c36] at hf
          refine lv_aload_n hx hb dX7_planting_39 rfl (lv_at hl 0 rfl) ?_
          refine va_get (D := (dC, dI)) (ci := 6) (v := .ref h_t_bestFrom) (C := RX7) (T := TX7) (N := 11) hx hb hts hinX7 hown hK hP 0 rfl rfl 9 (by decide) (hts (.fieldLink RX7 63 "SecondSunrise" "bestFrom" "[I") (by decide +kernel)) (fun _ h9 => h9) rfl dX7_planting_40 ?_
          refine lv_iconst (v := 0) hx hb dX7_planting_43 (by decide) ?_
          refine va_iald hx hb hK hP 13 0 rfl rfl (show vp_in 0 61 by unfold vp_in; decide) dX7_planting_44 ?_
          refine lv_goto (tgt := 54) hx hb dX7_planting_45 (by decide) ?_
          have hq0 := Option.some.inj hf
          obtain ⟨eq0, hq1⟩ := Prod.mk.inj hq0
          clear hf hq0
          subst eq0
          subst hq1
          exact W.iret hx hb hr (fun t ht hW => ⟨⟨_, (), rfl, rfl, by rw [ht]; exact hP, va_K.moved hW.alike hK, hD⟩, hS.F ht⟩) hS.2.2 dX7_planting_54
      · rw [if_neg c23] at hf
        refine lv_bipush (v := (-2)) hx hb dX7_planting_26 (by decide) ?_
        have hq0 := Option.some.inj hf
        obtain ⟨eq0, hq1⟩ := Prod.mk.inj hq0
        clear hf hq0
        subst eq0
        subst hq1
        exact W.iret hx hb hr (fun t ht hW => ⟨⟨_, (), rfl, rfl, by rw [ht]; exact hP, va_K.moved hW.alike hK, hD⟩, hS.F ht⟩) hS.2.2 dX7_planting_28

abbrev wd_X7_price (cI cZ cP cS : ClassId) (h_t h_t_red h_t_blue h_t_sky h_t_diary h_t_calendar h_t_awakeIn h_t_worths h_t_plants h_t_sheets h_t_bestFrom : Nat) (v_latestFinding : Int32) (v_awakeIn : Nat → Int32) (v_worths : Nat → Int32) : va_W := [(h_t, .inr (6, [.ref h_t_red, .ref h_t_blue, .ref h_t_sky, .ref h_t_diary, .ref h_t_calendar, .ref h_t_awakeIn, .ref h_t_worths, .ref h_t_plants, .ref h_t_sheets, .ref h_t_bestFrom, .int v_latestFinding])), (h_t_awakeIn, .inl (cI, 6, .inl v_awakeIn)), (h_t_worths, .inl (cI, 6, .inl v_worths))]
abbrev rm_X7_price : Room := { frames := 2, cells := 0, slots := 0, locals := 45 }
def L_X7_price_15 (n : Nat) (v_awakeIn : Nat → Int32) (v_worths : Nat → Int32) (x1 : Int32) (kx15 : Option (Int32)) : Nat → Int32 → Option (Int32)
  | 0, _ => none
  | k15 + 1, y15_2 => if (6 : Int32) ≤ y15_2 then kx15 else bd1_ (f_X7_wantsDark n v_awakeIn y15_2) (fun (r23_5 : Int32) => jn0_ (L_X7_price_15 n v_awakeIn v_worths x1 kx15 k15 (y15_2 + 1)) (fun k45 => if r23_5 = 0 then k45 else bd1_ (f_X7_aheadInBidding n v_awakeIn v_worths y15_2) (fun (r31_9 : Int32) => if r31_9 = x1 then ix_ y15_2 6 (some (v_worths y15_2.toNatClampNeg)) else k45)))
theorem L_X7_price_15_s (n : Nat) (v_awakeIn : Nat → Int32) (v_worths : Nat → Int32) (x1 : Int32) (kx15 : Option (Int32)) (k15 : Nat) (y15_2 : Int32) : L_X7_price_15 n v_awakeIn v_worths x1 kx15 (k15 + 1) y15_2 = if (6 : Int32) ≤ y15_2 then kx15 else bd1_ (f_X7_wantsDark n v_awakeIn y15_2) (fun (r23_5 : Int32) => jn0_ (L_X7_price_15 n v_awakeIn v_worths x1 kx15 k15 (y15_2 + 1)) (fun k45 => if r23_5 = 0 then k45 else bd1_ (f_X7_aheadInBidding n v_awakeIn v_worths y15_2) (fun (r31_9 : Int32) => if r31_9 = x1 then ix_ y15_2 6 (some (v_worths y15_2.toNatClampNeg)) else k45))) := rfl
def f_X7_price (n : Nat) (v_awakeIn : Nat → Int32) (v_worths : Nat → Int32) (x1 : Int32) : Option (Int32) := bd1_ (f_X7_outside n x1 0 6) (fun (r4_1 : Int32) => if r4_1 = 0 then jn0_ (some 0) (fun kx15 => L_X7_price_15 n v_awakeIn v_worths x1 kx15 n 0) else some (-2))
set_option maxHeartbeats 4000000 in
set_option maxRecDepth 100000 in
theorem c_X7_price (l : Launch) (dC : Nat → ClassId) (dI : Nat → Nat → Nat) (cI cZ cP cS : ClassId) (h_t h_t_red h_t_blue h_t_sky h_t_diary h_t_calendar h_t_awakeIn h_t_worths h_t_plants h_t_sheets h_t_bestFrom : Nat) (v_latestFinding : Int32) (v_awakeIn : Nat → Int32) (v_worths : Nat → Int32) (x1 : Int32) (n : Nat) (r : Int32) (hf : f_X7_price n v_awakeIn v_worths x1 = some r) : Met l yX7_price wsX7_price rm_X7_price (RO (dC, dI) (TY cI cZ cP cS) [.ref h_t, .int x1] (wd_X7_price cI cZ cP cS h_t h_t_red h_t_blue h_t_sky h_t_diary h_t_calendar h_t_awakeIn h_t_worths h_t_plants h_t_sheets h_t_bestFrom v_latestFinding v_awakeIn v_worths)) (vp_Si (fun x => x = r)) 0 0 NF := by
  refine Met.ofW (cc := cX7_price) (maxL := 3) (ret := (some .int)) (by decide) rfl ?_
  intro p e s m args below meth c s₁ B hml hv
  obtain ⟨rfl, hP, hK⟩ := hv
  have hx := B.exec
  have hb := B.bytes
  have hr := B.returns
  have hts := atoms_spec (ws := wsX7_price) B.pre
  have hown : s.vm.findClass RX7 = some m.cls := findClass_of_methodNamed B.named
  have hlocks := B.notSynchronized
  have hinX7 : ∀ w ∈ wsX70, w ∈ wsX7_price := by decide +kernel
  have hl := lv_entry ([.ref h_t, .int x1]) (n := 3) (Nat.le_of_ble_eq_true rfl)
  rw [lg_entry_eq]
  generalize (lg_sl ([.ref h_t, .int x1]) ++ List.replicate (3 - (lg_sl ([.ref h_t, .int x1])).length) Slot.unset).toArray = ls at hl ⊢
  have hl : lv_has ls 3 [(0, .ref h_t), (1, .int x1)] := hl
  unfold f_X7_price at hf
  refine lv_iload_n hx hb dX7_price_0 rfl (lv_at hl 1 rfl) ?_
  refine lv_iconst (v := 0) hx hb dX7_price_1 (by decide) ?_
  refine lv_bipush (v := 6) hx hb dX7_price_2 (by decide) ?_
  obtain ⟨r4_1, hc_2, hf⟩ := bd1_e hf
  refine vp_callSi (va_runS (As := [.int x1, .int 0, .int 6]) (rest := []) ⟨hx, hb, hml, hown, hts⟩ (c_X7_outside l dC dI cI cZ cP cS   x1 0 6 n r4_1 hc_2) (va_cwS 3 hts gX7_price_X7_outside rfl rfl rfl (by decide +kernel) ⟨Nat.le_of_ble_eq_true rfl, Nat.le_of_ble_eq_true rfl⟩) (ps_ro hK (hP.sub (ws' := ([] : va_W)) [] rfl)) rfl rfl hl.1 rfl (lv_room (Nat.le_of_ble_eq_true rfl)) dX7_price_4 ⟨Nat.zero_le _, Nat.zero_le _⟩).run (fun x e_3 => ?_)
  obtain ⟨e_3, hb_4⟩ := e_3
  rw [e_3] at hb_4 ⊢
  refine lv_if_eq (tgt := 13) hx hb dX7_price_7 (by decide) (fun c7 => ?_) (fun c7 => ?_)
  · rw [if_pos c7] at hf
    refine lv_iconst (v := 0) hx hb dX7_price_13 (by decide) ?_
    refine lv_istore_n (lv' := [(2, .int 0), (0, .ref h_t), (1, .int x1)]) hx hb dX7_price_14 rfl hl (by decide) rfl (fun ls hl => ?_)
    obtain ⟨kx15, ekx15, hf⟩ := jn0_e hf
    have hx15 : ∀ (ls : Array Slot), lv_has ls 3 [] → kx15 = some r → W p l e (headSpec wsX7_price rm_X7_price).room s m ([.ref h_t, .int x1] : List Value).toArray below meth c s.heap [] 0 0 (MQ below (vp_Si (fun x => x = r)) ([.ref h_t, .int x1] : List Value).toArray s 0 0 NF) (F0 m 51 ls []) := by
      intro ls hl hf
      rw [ekx15] at hf
      refine lv_iconst (v := 0) hx hb dX7_price_51 (by decide) ?_
      exact W.iret hx hb hr (fun t ht hW => ⟨_, rfl, Option.some.inj hf, ht⟩) (fun _ h => nomatch h) dX7_price_52
    have hL15 : ∀ (k15 : Nat) (y15_2 : Int32) (ls : Array Slot), lv_has ls 3 [(0, .ref h_t), (1, .int x1), (2, .int y15_2)] → L_X7_price_15 n v_awakeIn v_worths x1 kx15 k15 y15_2 = some r → W p l e (headSpec wsX7_price rm_X7_price).room s m ([.ref h_t, .int x1] : List Value).toArray below meth c s.heap [] 0 0 (MQ below (vp_Si (fun x => x = r)) ([.ref h_t, .int x1] : List Value).toArray s 0 0 NF) (F0 m 15 ls []) := by
      intro k15
      induction k15 with
      | zero =>
        intro y15_2 ls hl hf
        exact absurd hf (fun h => Option.some_ne_none _ h.symm)
      | succ k15 ih =>
        intro y15_2 ls hl hf
        rw [L_X7_price_15_s] at hf
        refine lv_iload_n hx hb dX7_price_15 rfl (lv_at hl 2 rfl) ?_
        refine lv_bipush (v := 6) hx hb dX7_price_16 (by decide) ?_
        refine lv_icmp_ge (tgt := 51) hx hb dX7_price_18 (by decide) (fun c18 => ?_) (fun c18 => ?_)
        · rw [if_pos c18] at hf
          exact hx15 ls (lv_sub hl [] rfl) hf
        · rw [if_neg c18] at hf
          refine lv_aload_n hx hb dX7_price_21 rfl (lv_at hl 0 rfl) ?_
          refine lv_iload_n hx hb dX7_price_22 rfl (lv_at hl 2 rfl) ?_
          obtain ⟨r23_5, hc_6, hf⟩ := bd1_e hf
          refine vp_callSi (va_runV (As := [.int y15_2]) (rest := []) ⟨hx, hb, hml, hown, hts⟩ (c_X7_wantsDark l dC dI cI cZ cP cS h_t h_t_red h_t_blue h_t_sky h_t_diary h_t_calendar h_t_awakeIn h_t_worths h_t_plants h_t_sheets h_t_bestFrom v_latestFinding v_awakeIn y15_2 n r23_5 hc_6) (cwV 1 hts gX7_price_X7_wantsDark rfl rfl rfl (by decide +kernel) ⟨Nat.le_of_ble_eq_true rfl, Nat.le_of_ble_eq_true rfl⟩) (pv_ro (ci := 6) (q0 := 0) hK (hP.sub (ws' := (wd_X7_wantsDark cI cZ cP cS h_t h_t_red h_t_blue h_t_sky h_t_diary h_t_calendar h_t_awakeIn h_t_worths h_t_plants h_t_sheets h_t_bestFrom v_latestFinding v_awakeIn)) [0, 1] rfl) rfl rfl) rfl rfl hl.1 rfl (lv_room (Nat.le_of_ble_eq_true rfl)) dX7_price_23 ⟨Nat.zero_le _, Nat.zero_le _⟩).run (fun x e_7 => ?_)
          obtain ⟨e_7, hb_8⟩ := e_7
          rw [e_7] at hb_8 ⊢
          obtain ⟨k45, ek45, hf⟩ := jn0_e hf
          have hj45 : ∀ (ls : Array Slot), lv_has ls 3 [(0, .ref h_t), (1, .int x1), (2, .int y15_2)] → k45 = some r → W p l e (headSpec wsX7_price rm_X7_price).room s m ([.ref h_t, .int x1] : List Value).toArray below meth c s.heap [] 0 0 (MQ below (vp_Si (fun x => x = r)) ([.ref h_t, .int x1] : List Value).toArray s 0 0 NF) (F0 m 45 ls []) := by
            intro ls hl hf
            rw [ek45] at hf
            refine lv_iinc (v := (y15_2 + 1)) (lv' := [(2, .int (y15_2 + 1)), (0, .ref h_t), (1, .int x1)]) hx hb dX7_price_45 hl (k := 2) rfl rfl (by decide) rfl (fun ls hl => ?_)
            refine lv_goto (tgt := 15) hx hb dX7_price_48 (by decide) ?_
            exact ih (y15_2 + 1) ls (lv_sub hl [1, 2, 0] rfl) hf
          refine lv_if_eq (tgt := 45) hx hb dX7_price_26 (by decide) (fun c26 => ?_) (fun c26 => ?_)
          · rw [if_pos c26] at hf
            exact hj45 ls (lv_sub hl [0, 1, 2] rfl) hf
          · rw [if_neg c26] at hf
            refine lv_aload_n hx hb dX7_price_29 rfl (lv_at hl 0 rfl) ?_
            refine lv_iload_n hx hb dX7_price_30 rfl (lv_at hl 2 rfl) ?_
            obtain ⟨r31_9, hc_10, hf⟩ := bd1_e hf
            refine vp_callSi (va_runV (As := [.int y15_2]) (rest := []) ⟨hx, hb, hml, hown, hts⟩ (c_X7_aheadInBidding l dC dI cI cZ cP cS h_t h_t_red h_t_blue h_t_sky h_t_diary h_t_calendar h_t_awakeIn h_t_worths h_t_plants h_t_sheets h_t_bestFrom v_latestFinding v_awakeIn v_worths y15_2 n r31_9 hc_10) (cwV 1 hts gX7_price_X7_aheadInBidding rfl rfl rfl (by decide +kernel) ⟨Nat.le_of_ble_eq_true rfl, Nat.le_of_ble_eq_true rfl⟩) (pv_ro (ci := 6) (q0 := 0) hK (hP.sub (ws' := (wd_X7_aheadInBidding cI cZ cP cS h_t h_t_red h_t_blue h_t_sky h_t_diary h_t_calendar h_t_awakeIn h_t_worths h_t_plants h_t_sheets h_t_bestFrom v_latestFinding v_awakeIn v_worths)) [0, 1, 2] rfl) rfl rfl) rfl rfl hl.1 rfl (lv_room (Nat.le_of_ble_eq_true rfl)) dX7_price_31 ⟨Nat.zero_le _, Nat.zero_le _⟩).run (fun x e_11 => ?_)
            rw [e_11]
            refine lv_iload_n hx hb dX7_price_34 rfl (lv_at hl 1 rfl) ?_
            refine lv_icmp_ne (tgt := 45) hx hb dX7_price_35 (by decide) (fun c35 => ?_) (fun c35 => ?_)
            · rw [if_neg c35] at hf
              exact hj45 ls (lv_sub hl [0, 1, 2] rfl) hf
            · rw [if_pos c35] at hf
              refine lv_aload_n hx hb dX7_price_38 rfl (lv_at hl 0 rfl) ?_
              refine va_get (D := (dC, dI)) (ci := 6) (v := .ref h_t_worths) (C := RX7) (T := TX7) (N := 11) hx hb hts hinX7 hown hK hP 0 rfl rfl 6 (by decide) (hts (.fieldLink RX7 48 "SecondSunrise" "worths" "[I") (by decide +kernel)) (fun _ h9 => h9) rfl dX7_price_39 ?_
              refine lv_iload_n hx hb dX7_price_42 rfl (lv_at hl 2 rfl) ?_
              obtain ⟨hi_12, hf⟩ := ix_e hf
              refine va_iald hx hb hK hP 2 0 rfl rfl hi_12 dX7_price_43 ?_
              exact W.iret hx hb hr (fun t ht hW => ⟨_, rfl, Option.some.inj hf, ht⟩) (fun _ h => nomatch h) dX7_price_44
    exact hL15 n 0 ls (lv_sub hl [1, 2, 0] rfl) hf
  · rw [if_neg c7] at hf
    refine lv_bipush (v := (-2)) hx hb dX7_price_10 (by decide) ?_
    exact W.iret hx hb hr (fun t ht hW => ⟨_, rfl, Option.some.inj hf, ht⟩) (fun _ h => nomatch h) dX7_price_12

abbrev wd_X7_lightsOfAll (cI cZ cP cS : ClassId) (h_t h_t_red h_t_blue h_t_sky h_t_diary h_t_calendar h_t_awakeIn h_t_worths h_t_plants h_t_sheets h_t_bestFrom : Nat) (v_latestFinding : Int32) (v_awakeIn : Nat → Int32) : va_W := [(h_t, .inr (6, [.ref h_t_red, .ref h_t_blue, .ref h_t_sky, .ref h_t_diary, .ref h_t_calendar, .ref h_t_awakeIn, .ref h_t_worths, .ref h_t_plants, .ref h_t_sheets, .ref h_t_bestFrom, .int v_latestFinding])), (h_t_awakeIn, .inl (cI, 6, .inl v_awakeIn))]
abbrev rm_X7_lightsOfAll : Room := { frames := 0, cells := 0, slots := 0, locals := 0 }
def L_X7_lightsOfAll_5 (v_awakeIn : Nat → Int32) (x1 : Int32) (kx5 : Int32 → Option (Int32)) : Nat → Int32 → Int32 → Option (Int32)
  | 0, _, _ => none
  | k5 + 1, y5_2, y5_3 => if (6 : Int32) ≤ y5_3 then kx5 y5_2 else jn1_ (fun (y29_2 : Int32) => L_X7_lightsOfAll_5 v_awakeIn x1 kx5 k5 y29_2 (y5_3 + 1)) (fun k29 => if ((x1 >>> (y5_3 &&& 31)) &&& 1) = 1 then ix_ y5_3 6 (k29 (y5_2 &&& (v_awakeIn y5_3.toNatClampNeg))) else k29 y5_2)
theorem L_X7_lightsOfAll_5_s (v_awakeIn : Nat → Int32) (x1 : Int32) (kx5 : Int32 → Option (Int32)) (k5 : Nat) (y5_2 : Int32) (y5_3 : Int32) : L_X7_lightsOfAll_5 v_awakeIn x1 kx5 (k5 + 1) y5_2 y5_3 = if (6 : Int32) ≤ y5_3 then kx5 y5_2 else jn1_ (fun (y29_2 : Int32) => L_X7_lightsOfAll_5 v_awakeIn x1 kx5 k5 y29_2 (y5_3 + 1)) (fun k29 => if ((x1 >>> (y5_3 &&& 31)) &&& 1) = 1 then ix_ y5_3 6 (k29 (y5_2 &&& (v_awakeIn y5_3.toNatClampNeg))) else k29 y5_2) := rfl
def f_X7_lightsOfAll (n : Nat) (v_awakeIn : Nat → Int32) (x1 : Int32) : Option (Int32) := jn1_ (fun (z5_2 : Int32) => some z5_2) (fun kx5 => L_X7_lightsOfAll_5 v_awakeIn x1 kx5 n 15 0)
set_option maxHeartbeats 4000000 in
set_option maxRecDepth 100000 in
theorem c_X7_lightsOfAll (l : Launch) (dC : Nat → ClassId) (dI : Nat → Nat → Nat) (cI cZ cP cS : ClassId) (h_t h_t_red h_t_blue h_t_sky h_t_diary h_t_calendar h_t_awakeIn h_t_worths h_t_plants h_t_sheets h_t_bestFrom : Nat) (v_latestFinding : Int32) (v_awakeIn : Nat → Int32) (x1 : Int32) (n : Nat) (r : Int32) (hf : f_X7_lightsOfAll n v_awakeIn x1 = some r) : Met l yX7_lightsOfAll wsX7_lightsOfAll rm_X7_lightsOfAll (RO (dC, dI) (TY cI cZ cP cS) [.ref h_t, .int x1] (wd_X7_lightsOfAll cI cZ cP cS h_t h_t_red h_t_blue h_t_sky h_t_diary h_t_calendar h_t_awakeIn h_t_worths h_t_plants h_t_sheets h_t_bestFrom v_latestFinding v_awakeIn)) (vp_Si (fun x => x = r)) 0 0 NF := by
  refine Met.ofW (cc := cX7_lightsOfAll) (maxL := 4) (ret := (some .int)) (by decide) rfl ?_
  intro p e s m args below meth c s₁ B hml hv
  obtain ⟨rfl, hP, hK⟩ := hv
  have hx := B.exec
  have hb := B.bytes
  have hr := B.returns
  have hts := atoms_spec (ws := wsX7_lightsOfAll) B.pre
  have hown : s.vm.findClass RX7 = some m.cls := findClass_of_methodNamed B.named
  have hlocks := B.notSynchronized
  have hinX7 : ∀ w ∈ wsX70, w ∈ wsX7_lightsOfAll := by decide +kernel
  have hl := lv_entry ([.ref h_t, .int x1]) (n := 4) (Nat.le_of_ble_eq_true rfl)
  rw [lg_entry_eq]
  generalize (lg_sl ([.ref h_t, .int x1]) ++ List.replicate (4 - (lg_sl ([.ref h_t, .int x1])).length) Slot.unset).toArray = ls at hl ⊢
  have hl : lv_has ls 4 [(0, .ref h_t), (1, .int x1)] := hl
  unfold f_X7_lightsOfAll at hf
  refine lv_bipush (v := 15) hx hb dX7_lightsOfAll_0 (by decide) ?_
  refine lv_istore_n (lv' := [(2, .int 15), (0, .ref h_t), (1, .int x1)]) hx hb dX7_lightsOfAll_2 rfl hl (by decide) rfl (fun ls hl => ?_)
  refine lv_iconst (v := 0) hx hb dX7_lightsOfAll_3 (by decide) ?_
  refine lv_istore_n (lv' := [(3, .int 0), (2, .int 15), (0, .ref h_t), (1, .int x1)]) hx hb dX7_lightsOfAll_4 rfl hl (by decide) rfl (fun ls hl => ?_)
  obtain ⟨kx5, ekx5, hf⟩ := jn1_e hf
  have hx5 : ∀ (z5_2 : Int32) (ls : Array Slot), lv_has ls 4 [(2, .int z5_2)] → kx5 z5_2 = some r → W p l e (headSpec wsX7_lightsOfAll rm_X7_lightsOfAll).room s m ([.ref h_t, .int x1] : List Value).toArray below meth c s.heap [] 0 0 (MQ below (vp_Si (fun x => x = r)) ([.ref h_t, .int x1] : List Value).toArray s 0 0 NF) (F0 m 35 ls []) := by
    intro z5_2 ls hl hf
    rw [ekx5] at hf
    refine lv_iload_n hx hb dX7_lightsOfAll_35 rfl (lv_at hl 0 rfl) ?_
    exact W.iret hx hb hr (fun t ht hW => ⟨_, rfl, Option.some.inj hf, ht⟩) (fun _ h => nomatch h) dX7_lightsOfAll_36
  have hL5 : ∀ (k5 : Nat) (y5_2 : Int32) (y5_3 : Int32) (ls : Array Slot), lv_has ls 4 [(0, .ref h_t), (1, .int x1), (2, .int y5_2), (3, .int y5_3)] → L_X7_lightsOfAll_5 v_awakeIn x1 kx5 k5 y5_2 y5_3 = some r → W p l e (headSpec wsX7_lightsOfAll rm_X7_lightsOfAll).room s m ([.ref h_t, .int x1] : List Value).toArray below meth c s.heap [] 0 0 (MQ below (vp_Si (fun x => x = r)) ([.ref h_t, .int x1] : List Value).toArray s 0 0 NF) (F0 m 5 ls []) := by
    intro k5
    induction k5 with
    | zero =>
      intro y5_2 y5_3 ls hl hf
      exact absurd hf (fun h => Option.some_ne_none _ h.symm)
    | succ k5 ih =>
      intro y5_2 y5_3 ls hl hf
      rw [L_X7_lightsOfAll_5_s] at hf
      refine lv_iload_n hx hb dX7_lightsOfAll_5 rfl (lv_at hl 3 rfl) ?_
      refine lv_bipush (v := 6) hx hb dX7_lightsOfAll_6 (by decide) ?_
      refine lv_icmp_ge (tgt := 35) hx hb dX7_lightsOfAll_8 (by decide) (fun c8 => ?_) (fun c8 => ?_)
      · rw [if_pos c8] at hf
        exact hx5 y5_2 ls (lv_sub hl [2] rfl) hf
      · rw [if_neg c8] at hf
        refine lv_iload_n hx hb dX7_lightsOfAll_11 rfl (lv_at hl 1 rfl) ?_
        refine lv_iload_n hx hb dX7_lightsOfAll_12 rfl (lv_at hl 3 rfl) ?_
        refine lv_ishr hx hb dX7_lightsOfAll_13 ?_
        refine lv_iconst (v := 1) hx hb dX7_lightsOfAll_14 (by decide) ?_
        refine lv_iand hx hb dX7_lightsOfAll_15 ?_
        refine lv_iconst (v := 1) hx hb dX7_lightsOfAll_16 (by decide) ?_
        obtain ⟨k29, ek29, hf⟩ := jn1_e hf
        have hj29 : ∀ (y29_2 : Int32) (ls : Array Slot), lv_has ls 4 [(0, .ref h_t), (1, .int x1), (2, .int y29_2), (3, .int y5_3)] → k29 y29_2 = some r → W p l e (headSpec wsX7_lightsOfAll rm_X7_lightsOfAll).room s m ([.ref h_t, .int x1] : List Value).toArray below meth c s.heap [] 0 0 (MQ below (vp_Si (fun x => x = r)) ([.ref h_t, .int x1] : List Value).toArray s 0 0 NF) (F0 m 29 ls []) := by
          intro y29_2 ls hl hf
          rw [ek29] at hf
          refine lv_iinc (v := (y5_3 + 1)) (lv' := [(3, .int (y5_3 + 1)), (0, .ref h_t), (1, .int x1), (2, .int y29_2)]) hx hb dX7_lightsOfAll_29 hl (k := 3) rfl rfl (by decide) rfl (fun ls hl => ?_)
          refine lv_goto (tgt := 5) hx hb dX7_lightsOfAll_32 (by decide) ?_
          exact ih y29_2 (y5_3 + 1) ls (lv_sub hl [1, 2, 3, 0] rfl) hf
        refine lv_icmp_ne (tgt := 29) hx hb dX7_lightsOfAll_17 (by decide) (fun c17 => ?_) (fun c17 => ?_)
        · rw [if_neg c17] at hf
          exact hj29 y5_2 ls (lv_sub hl [0, 1, 2, 3] rfl) hf
        · rw [if_pos c17] at hf
          refine lv_iload_n hx hb dX7_lightsOfAll_20 rfl (lv_at hl 2 rfl) ?_
          refine lv_aload_n hx hb dX7_lightsOfAll_21 rfl (lv_at hl 0 rfl) ?_
          refine va_get (D := (dC, dI)) (ci := 6) (v := .ref h_t_awakeIn) (C := RX7) (T := TX7) (N := 11) hx hb hts hinX7 hown hK hP 0 rfl rfl 5 (by decide) (hts (.fieldLink RX7 44 "SecondSunrise" "awakeIn" "[I") (by decide +kernel)) (fun _ h9 => h9) rfl dX7_lightsOfAll_22 ?_
          refine lv_iload_n hx hb dX7_lightsOfAll_25 rfl (lv_at hl 3 rfl) ?_
          obtain ⟨hi_1, hf⟩ := ix_e hf
          refine va_iald hx hb hK hP 1 0 rfl rfl hi_1 dX7_lightsOfAll_26 ?_
          refine lv_iand hx hb dX7_lightsOfAll_27 ?_
          refine lv_istore_n (lv' := [(2, .int (y5_2 &&& (v_awakeIn y5_3.toNatClampNeg))), (0, .ref h_t), (1, .int x1), (3, .int y5_3)]) hx hb dX7_lightsOfAll_28 rfl hl (by decide) rfl (fun ls hl => ?_)
          exact hj29 (y5_2 &&& (v_awakeIn y5_3.toNatClampNeg)) ls (lv_sub hl [1, 2, 0, 3] rfl) hf
  exact hL5 n 15 0 ls (lv_sub hl [2, 3, 1, 0] rfl) hf
