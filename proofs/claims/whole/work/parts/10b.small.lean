abbrev wd_X4_bestStart (cI cZ cP cS : ClassId) (h_t h_t_red h_t_blue h_t_red_fitting h_t_red_worstLeft h_t_blue_fitting h_t_blue_worstLeft : Nat) (v_turn : Nat → Int32) (v_phase : Nat → Int32) (v_up : Nat → Int32) : va_W := [(h_t, .inr (4, [.ref h_t_red, .ref h_t_blue])), (h_t_red, .inr (5, [.int (v_turn 0), .int (v_phase 0), .int (v_up 0), .ref h_t_red_fitting, .ref h_t_red_worstLeft])), (h_t_blue, .inr (5, [.int (v_turn 1), .int (v_phase 1), .int (v_up 1), .ref h_t_blue_fitting, .ref h_t_blue_worstLeft]))]
abbrev rm_X4_bestStart : Room := { frames := 4, cells := 0, slots := 0, locals := 89 }
def L_X4_bestStart_27 (n : Nat) (v_turn : Nat → Int32) (v_phase : Nat → Int32) (v_up : Nat → Int32) (x1 : Int32) (x2 : Int32) (x3 : Int32) (r1_1 : Int32) (kx27 : Int32 → Option (Int32)) : Nat → Int32 → Int32 → Int32 → Int32 → Option (Int32)
  | 0, _, _, _, _ => none
  | k27 + 1, y27_5, y27_6, y27_7, y27_8 => if (x2 + r1_1) ≤ y27_8 then kx27 y27_7 else bd1_ (f_X4_hasOneOf n v_turn v_phase v_up x1 ((y27_8 + x3) - 1)) (fun (r46_7 : Int32) => bd1_ (f_X4_hasOneOf n v_turn v_phase v_up x1 (y27_8 - 1)) (fun (r55_10 : Int32) => lt_ ((if (y27_5 + (r46_7 - r55_10)) ≤ y27_6 then y27_6 else (y27_5 + (r46_7 - r55_10))) : Int32) (fun v77_13 => lt_ ((if (y27_5 + (r46_7 - r55_10)) ≤ y27_6 then y27_7 else y27_8) : Int32) (fun v77_14 => L_X4_bestStart_27 n v_turn v_phase v_up x1 x2 x3 r1_1 kx27 k27 (y27_5 + (r46_7 - r55_10)) v77_13 v77_14 (y27_8 + 1)))))
theorem L_X4_bestStart_27_s (n : Nat) (v_turn : Nat → Int32) (v_phase : Nat → Int32) (v_up : Nat → Int32) (x1 : Int32) (x2 : Int32) (x3 : Int32) (r1_1 : Int32) (kx27 : Int32 → Option (Int32)) (k27 : Nat) (y27_5 : Int32) (y27_6 : Int32) (y27_7 : Int32) (y27_8 : Int32) : L_X4_bestStart_27 n v_turn v_phase v_up x1 x2 x3 r1_1 kx27 (k27 + 1) y27_5 y27_6 y27_7 y27_8 = if (x2 + r1_1) ≤ y27_8 then kx27 y27_7 else bd1_ (f_X4_hasOneOf n v_turn v_phase v_up x1 ((y27_8 + x3) - 1)) (fun (r46_7 : Int32) => bd1_ (f_X4_hasOneOf n v_turn v_phase v_up x1 (y27_8 - 1)) (fun (r55_10 : Int32) => lt_ ((if (y27_5 + (r46_7 - r55_10)) ≤ y27_6 then y27_6 else (y27_5 + (r46_7 - r55_10))) : Int32) (fun v77_13 => lt_ ((if (y27_5 + (r46_7 - r55_10)) ≤ y27_6 then y27_7 else y27_8) : Int32) (fun v77_14 => L_X4_bestStart_27 n v_turn v_phase v_up x1 x2 x3 r1_1 kx27 k27 (y27_5 + (r46_7 - r55_10)) v77_13 v77_14 (y27_8 + 1))))) := rfl
def f_X4_bestStart (n : Nat) (v_turn : Nat → Int32) (v_phase : Nat → Int32) (v_up : Nat → Int32) (x1 : Int32) (x2 : Int32) (x3 : Int32) : Option (Int32) := bd1_ (f_X4_hoursOfRound n v_turn) (fun (r1_1 : Int32) => bd1_ (f_X4_hoursWithin n v_turn v_phase v_up x1 x2 x3) (fun (r10_4 : Int32) => jn1_ (fun (z27_7 : Int32) => some z27_7) (fun kx27 => L_X4_bestStart_27 n v_turn v_phase v_up x1 x2 x3 r1_1 kx27 n r10_4 r10_4 x2 (x2 + 1))))
set_option maxHeartbeats 4000000 in
set_option maxRecDepth 100000 in
theorem c_X4_bestStart (l : Launch) (dC : Nat → ClassId) (dI : Nat → Nat → Nat) (cI cZ cP cS : ClassId) (h_t h_t_red h_t_blue h_t_red_fitting h_t_red_worstLeft h_t_blue_fitting h_t_blue_worstLeft : Nat) (v_turn : Nat → Int32) (v_phase : Nat → Int32) (v_up : Nat → Int32) (x1 : Int32) (x2 : Int32) (x3 : Int32) (n : Nat) (r : Int32) (hf : f_X4_bestStart n v_turn v_phase v_up x1 x2 x3 = some r) : Met l yX4_bestStart wsX4_bestStart rm_X4_bestStart (RO (dC, dI) (TY cI cZ cP cS) [.ref h_t, .int x1, .int x2, .int x3] (wd_X4_bestStart cI cZ cP cS h_t h_t_red h_t_blue h_t_red_fitting h_t_red_worstLeft h_t_blue_fitting h_t_blue_worstLeft v_turn v_phase v_up)) (vp_Si (fun x => x = r)) 0 0 NF := by
  refine Met.ofW (cc := cX4_bestStart) (maxL := 9) (ret := (some .int)) (by decide) rfl ?_
  intro p e s m args below meth c s₁ B hml hv
  obtain ⟨rfl, hP, hK⟩ := hv
  have hx := B.exec
  have hb := B.bytes
  have hr := B.returns
  have hts := atoms_spec (ws := wsX4_bestStart) B.pre
  have hown : s.vm.findClass RX4 = some m.cls := findClass_of_methodNamed B.named
  have hlocks := B.notSynchronized
  have hl := lv_entry ([.ref h_t, .int x1, .int x2, .int x3]) (n := 9) (Nat.le_of_ble_eq_true rfl)
  rw [lg_entry_eq]
  generalize (lg_sl ([.ref h_t, .int x1, .int x2, .int x3]) ++ List.replicate (9 - (lg_sl ([.ref h_t, .int x1, .int x2, .int x3])).length) Slot.unset).toArray = ls at hl ⊢
  have hl : lv_has ls 9 [(0, .ref h_t), (1, .int x1), (2, .int x2), (3, .int x3)] := hl
  unfold f_X4_bestStart at hf
  refine lv_aload_n hx hb dX4_bestStart_0 rfl (lv_at hl 0 rfl) ?_
  obtain ⟨r1_1, hc_2, hf⟩ := bd1_e hf
  refine vp_callSi (va_runV (As := []) (rest := []) ⟨hx, hb, hml, hown, hts⟩ (c_X4_hoursOfRound l dC dI cI cZ cP cS h_t h_t_red h_t_blue h_t_red_fitting h_t_red_worstLeft h_t_blue_fitting h_t_blue_worstLeft v_turn v_phase v_up  n r1_1 hc_2) (cwV 0 hts gX4_bestStart_X4_hoursOfRound rfl rfl rfl (by decide +kernel) ⟨Nat.le_of_ble_eq_true rfl, Nat.le_of_ble_eq_true rfl⟩) (pv_ro (ci := 4) (q0 := 0) hK (hP.sub (ws' := (wd_X4_hoursOfRound cI cZ cP cS h_t h_t_red h_t_blue h_t_red_fitting h_t_red_worstLeft h_t_blue_fitting h_t_blue_worstLeft v_turn v_phase v_up)) [0, 1, 2] rfl) rfl rfl) rfl rfl hl.1 rfl (lv_room (Nat.le_of_ble_eq_true rfl)) dX4_bestStart_1 ⟨Nat.zero_le _, Nat.zero_le _⟩).run (fun x e_3 => ?_)
  rw [e_3]
  refine lv_istore (lv' := [(4, .int r1_1), (0, .ref h_t), (1, .int x1), (2, .int x2), (3, .int x3)]) hx hb dX4_bestStart_4 hl (by decide) rfl (fun ls hl => ?_)
  refine lv_aload_n hx hb dX4_bestStart_6 rfl (lv_at hl 1 rfl) ?_
  refine lv_iload_n hx hb dX4_bestStart_7 rfl (lv_at hl 2 rfl) ?_
  refine lv_iload_n hx hb dX4_bestStart_8 rfl (lv_at hl 3 rfl) ?_
  refine lv_iload_n hx hb dX4_bestStart_9 rfl (lv_at hl 4 rfl) ?_
  obtain ⟨r10_4, hc_5, hf⟩ := bd1_e hf
  refine vp_callSi (va_runV (As := [.int x1, .int x2, .int x3]) (rest := []) ⟨hx, hb, hml, hown, hts⟩ (c_X4_hoursWithin l dC dI cI cZ cP cS h_t h_t_red h_t_blue h_t_red_fitting h_t_red_worstLeft h_t_blue_fitting h_t_blue_worstLeft v_turn v_phase v_up x1 x2 x3 n r10_4 hc_5) (cwV 3 hts gX4_bestStart_X4_hoursWithin rfl rfl rfl (by decide +kernel) ⟨Nat.le_of_ble_eq_true rfl, Nat.le_of_ble_eq_true rfl⟩) (pv_ro (ci := 4) (q0 := 0) hK (hP.sub (ws' := (wd_X4_hoursWithin cI cZ cP cS h_t h_t_red h_t_blue h_t_red_fitting h_t_red_worstLeft h_t_blue_fitting h_t_blue_worstLeft v_turn v_phase v_up)) [0, 1, 2] rfl) rfl rfl) rfl rfl hl.1 rfl (lv_room (Nat.le_of_ble_eq_true rfl)) dX4_bestStart_10 ⟨Nat.zero_le _, Nat.zero_le _⟩).run (fun x e_6 => ?_)
  rw [e_6]
  refine lv_istore (lv' := [(5, .int r10_4), (4, .int r1_1), (0, .ref h_t), (1, .int x1), (2, .int x2), (3, .int x3)]) hx hb dX4_bestStart_13 hl (by decide) rfl (fun ls hl => ?_)
  refine lv_iload hx hb dX4_bestStart_15 (lv_at hl 0 rfl) ?_
  refine lv_istore (lv' := [(6, .int r10_4), (5, .int r10_4), (4, .int r1_1), (0, .ref h_t), (1, .int x1), (2, .int x2), (3, .int x3)]) hx hb dX4_bestStart_17 hl (by decide) rfl (fun ls hl => ?_)
  refine lv_iload_n hx hb dX4_bestStart_19 rfl (lv_at hl 5 rfl) ?_
  refine lv_istore (lv' := [(7, .int x2), (6, .int r10_4), (5, .int r10_4), (4, .int r1_1), (0, .ref h_t), (1, .int x1), (2, .int x2), (3, .int x3)]) hx hb dX4_bestStart_20 hl (by decide) rfl (fun ls hl => ?_)
  refine lv_iload_n hx hb dX4_bestStart_22 rfl (lv_at hl 6 rfl) ?_
  refine lv_iconst (v := 1) hx hb dX4_bestStart_23 (by decide) ?_
  refine lv_iadd hx hb dX4_bestStart_24 ?_
  refine lv_istore (lv' := [(8, .int (x2 + 1)), (7, .int x2), (6, .int r10_4), (5, .int r10_4), (4, .int r1_1), (0, .ref h_t), (1, .int x1), (2, .int x2), (3, .int x3)]) hx hb dX4_bestStart_25 hl (by decide) rfl (fun ls hl => ?_)
  obtain ⟨kx27, ekx27, hf⟩ := jn1_e hf
  have hx27 : ∀ (z27_7 : Int32) (ls : Array Slot), lv_has ls 9 [(7, .int z27_7)] → kx27 z27_7 = some r → W p l e (headSpec wsX4_bestStart rm_X4_bestStart).room s m ([.ref h_t, .int x1, .int x2, .int x3] : List Value).toArray below meth c s.heap [] 0 0 (MQ below (vp_Si (fun x => x = r)) ([.ref h_t, .int x1, .int x2, .int x3] : List Value).toArray s 0 0 NF) (F0 m 83 ls []) := by
    intro z27_7 ls hl hf
    rw [ekx27] at hf
    refine lv_iload hx hb dX4_bestStart_83 (lv_at hl 0 rfl) ?_
    exact W.iret hx hb hr (fun t ht hW => ⟨_, rfl, Option.some.inj hf, ht⟩) (fun _ h => nomatch h) dX4_bestStart_85
  have hL27 : ∀ (k27 : Nat) (y27_5 : Int32) (y27_6 : Int32) (y27_7 : Int32) (y27_8 : Int32) (ls : Array Slot), lv_has ls 9 [(0, .ref h_t), (1, .int x1), (2, .int x2), (3, .int x3), (4, .int r1_1), (5, .int y27_5), (6, .int y27_6), (7, .int y27_7), (8, .int y27_8)] → L_X4_bestStart_27 n v_turn v_phase v_up x1 x2 x3 r1_1 kx27 k27 y27_5 y27_6 y27_7 y27_8 = some r → W p l e (headSpec wsX4_bestStart rm_X4_bestStart).room s m ([.ref h_t, .int x1, .int x2, .int x3] : List Value).toArray below meth c s.heap [] 0 0 (MQ below (vp_Si (fun x => x = r)) ([.ref h_t, .int x1, .int x2, .int x3] : List Value).toArray s 0 0 NF) (F0 m 27 ls []) := by
    intro k27
    induction k27 with
    | zero =>
      intro y27_5 y27_6 y27_7 y27_8 ls hl hf
      exact absurd hf (fun h => Option.some_ne_none _ h.symm)
    | succ k27 ih =>
      intro y27_5 y27_6 y27_7 y27_8 ls hl hf
      rw [L_X4_bestStart_27_s] at hf
      refine lv_iload hx hb dX4_bestStart_27 (lv_at hl 8 rfl) ?_
      refine lv_iload_n hx hb dX4_bestStart_29 rfl (lv_at hl 2 rfl) ?_
      refine lv_iload hx hb dX4_bestStart_30 (lv_at hl 4 rfl) ?_
      refine lv_iadd hx hb dX4_bestStart_32 ?_
      refine lv_icmp_ge (tgt := 83) hx hb dX4_bestStart_33 (by decide) (fun c33 => ?_) (fun c33 => ?_)
      · rw [if_pos c33] at hf
        exact hx27 y27_7 ls (lv_sub hl [7] rfl) hf
      · rw [if_neg c33] at hf
        refine lv_iload hx hb dX4_bestStart_36 (lv_at hl 5 rfl) ?_
        refine lv_aload_n hx hb dX4_bestStart_38 rfl (lv_at hl 0 rfl) ?_
        refine lv_iload_n hx hb dX4_bestStart_39 rfl (lv_at hl 1 rfl) ?_
        refine lv_iload hx hb dX4_bestStart_40 (lv_at hl 8 rfl) ?_
        refine lv_iload_n hx hb dX4_bestStart_42 rfl (lv_at hl 3 rfl) ?_
        refine lv_iadd hx hb dX4_bestStart_43 ?_
        refine lv_iconst (v := 1) hx hb dX4_bestStart_44 (by decide) ?_
        refine lv_isub hx hb dX4_bestStart_45 ?_
        obtain ⟨r46_7, hc_8, hf⟩ := bd1_e hf
        refine vp_callSi (va_runV (As := [.int x1, .int ((y27_8 + x3) - 1)]) (rest := [.int y27_5]) ⟨hx, hb, hml, hown, hts⟩ (c_X4_hasOneOf l dC dI cI cZ cP cS h_t h_t_red h_t_blue h_t_red_fitting h_t_red_worstLeft h_t_blue_fitting h_t_blue_worstLeft v_turn v_phase v_up x1 ((y27_8 + x3) - 1) n r46_7 hc_8) (cwV 2 hts gX4_bestStart_X4_hasOneOf rfl rfl rfl (by decide +kernel) ⟨Nat.le_of_ble_eq_true rfl, Nat.le_of_ble_eq_true rfl⟩) (pv_ro (ci := 4) (q0 := 0) hK (hP.sub (ws' := (wd_X4_hasOneOf cI cZ cP cS h_t h_t_red h_t_blue h_t_red_fitting h_t_red_worstLeft h_t_blue_fitting h_t_blue_worstLeft v_turn v_phase v_up)) [0, 1, 2] rfl) rfl rfl) rfl rfl hl.1 rfl (lv_room (Nat.le_of_ble_eq_true rfl)) dX4_bestStart_46 ⟨Nat.zero_le _, Nat.zero_le _⟩).run (fun x e_9 => ?_)
        rw [e_9]
        refine lv_aload_n hx hb dX4_bestStart_49 rfl (lv_at hl 0 rfl) ?_
        refine lv_iload_n hx hb dX4_bestStart_50 rfl (lv_at hl 1 rfl) ?_
        refine lv_iload hx hb dX4_bestStart_51 (lv_at hl 8 rfl) ?_
        refine lv_iconst (v := 1) hx hb dX4_bestStart_53 (by decide) ?_
        refine lv_isub hx hb dX4_bestStart_54 ?_
        obtain ⟨r55_10, hc_11, hf⟩ := bd1_e hf
        refine vp_callSi (va_runV (As := [.int x1, .int (y27_8 - 1)]) (rest := [.int r46_7, .int y27_5]) ⟨hx, hb, hml, hown, hts⟩ (c_X4_hasOneOf l dC dI cI cZ cP cS h_t h_t_red h_t_blue h_t_red_fitting h_t_red_worstLeft h_t_blue_fitting h_t_blue_worstLeft v_turn v_phase v_up x1 (y27_8 - 1) n r55_10 hc_11) (cwV 2 hts gX4_bestStart_X4_hasOneOf rfl rfl rfl (by decide +kernel) ⟨Nat.le_of_ble_eq_true rfl, Nat.le_of_ble_eq_true rfl⟩) (pv_ro (ci := 4) (q0 := 0) hK (hP.sub (ws' := (wd_X4_hasOneOf cI cZ cP cS h_t h_t_red h_t_blue h_t_red_fitting h_t_red_worstLeft h_t_blue_fitting h_t_blue_worstLeft v_turn v_phase v_up)) [0, 1, 2] rfl) rfl rfl) rfl rfl hl.1 rfl (lv_room (Nat.le_of_ble_eq_true rfl)) dX4_bestStart_55 ⟨Nat.zero_le _, Nat.zero_le _⟩).run (fun x e_12 => ?_)
        rw [e_12]
        refine lv_isub hx hb dX4_bestStart_58 ?_
        refine lv_iadd hx hb dX4_bestStart_59 ?_
        refine lv_istore (lv' := [(5, .int (y27_5 + (r46_7 - r55_10))), (0, .ref h_t), (1, .int x1), (2, .int x2), (3, .int x3), (4, .int r1_1), (6, .int y27_6), (7, .int y27_7), (8, .int y27_8)]) hx hb dX4_bestStart_60 hl (by decide) rfl (fun ls hl => ?_)
        refine lv_iload hx hb dX4_bestStart_62 (lv_at hl 0 rfl) ?_
        refine lv_iload hx hb dX4_bestStart_64 (lv_at hl 6 rfl) ?_
        obtain ⟨v77_13, ev77_13, hf⟩ := lt_e hf
        obtain ⟨v77_14, ev77_14, hf⟩ := lt_e hf
        have hj77_15 : ∀ (ls : Array Slot), lv_has ls 9 [(0, .ref h_t), (1, .int x1), (2, .int x2), (3, .int x3), (4, .int r1_1), (5, .int (y27_5 + (r46_7 - r55_10))), (6, .int v77_13), (7, .int v77_14), (8, .int y27_8)] → W p l e (headSpec wsX4_bestStart rm_X4_bestStart).room s m ([.ref h_t, .int x1, .int x2, .int x3] : List Value).toArray below meth c s.heap [] 0 0 (MQ below (vp_Si (fun x => x = r)) ([.ref h_t, .int x1, .int x2, .int x3] : List Value).toArray s 0 0 NF) (F0 m 77 ls []) := by
          intro ls hl
          refine lv_iinc (v := (y27_8 + 1)) (lv' := [(8, .int (y27_8 + 1)), (0, .ref h_t), (1, .int x1), (2, .int x2), (3, .int x3), (4, .int r1_1), (5, .int (y27_5 + (r46_7 - r55_10))), (6, .int v77_13), (7, .int v77_14)]) hx hb dX4_bestStart_77 hl (k := 8) rfl rfl (by decide) rfl (fun ls hl => ?_)
          refine lv_goto (tgt := 27) hx hb dX4_bestStart_80 (by decide) ?_
          exact ih (y27_5 + (r46_7 - r55_10)) v77_13 v77_14 (y27_8 + 1) ls (lv_sub hl [1, 2, 3, 4, 5, 6, 7, 8, 0] rfl) hf
        clear hf
        refine lv_icmp_le (tgt := 77) hx hb dX4_bestStart_66 (by decide) (fun c66 => ?_) (fun c66 => ?_)
        ·
          rw [if_pos c66] at ev77_13
          subst ev77_13
          rw [if_pos c66] at ev77_14
          subst ev77_14
          exact hj77_15 ls (lv_sub hl [1, 2, 3, 4, 5, 0, 6, 7, 8] rfl)
        ·
          refine lv_iload hx hb dX4_bestStart_69 (lv_at hl 0 rfl) ?_
          refine lv_istore (lv' := [(6, .int (y27_5 + (r46_7 - r55_10))), (5, .int (y27_5 + (r46_7 - r55_10))), (0, .ref h_t), (1, .int x1), (2, .int x2), (3, .int x3), (4, .int r1_1), (7, .int y27_7), (8, .int y27_8)]) hx hb dX4_bestStart_71 hl (by decide) rfl (fun ls hl => ?_)
          refine lv_iload hx hb dX4_bestStart_73 (lv_at hl 8 rfl) ?_
          refine lv_istore (lv' := [(7, .int y27_8), (6, .int (y27_5 + (r46_7 - r55_10))), (5, .int (y27_5 + (r46_7 - r55_10))), (0, .ref h_t), (1, .int x1), (2, .int x2), (3, .int x3), (4, .int r1_1), (8, .int y27_8)]) hx hb dX4_bestStart_75 hl (by decide) rfl (fun ls hl => ?_)
          rw [if_neg c66] at ev77_13
          subst ev77_13
          rw [if_neg c66] at ev77_14
          subst ev77_14
          exact hj77_15 ls (lv_sub hl [3, 4, 5, 6, 7, 2, 1, 0, 8] rfl)
  exact hL27 n r10_4 r10_4 x2 (x2 + 1) ls (lv_sub hl [5, 6, 7, 8, 4, 3, 2, 1, 0] rfl) hf

abbrev wd_X5_shownIn (cI cZ cP cS : ClassId) (h_t h_t_fitting h_t_worstLeft : Nat) (v_turn : Int32) (v_phase : Int32) (v_up : Int32) : va_W := [(h_t, .inr (5, [.int v_turn, .int v_phase, .int v_up, .ref h_t_fitting, .ref h_t_worstLeft]))]
abbrev rm_X5_shownIn : Room := { frames := 1, cells := 0, slots := 0, locals := 21 }
def f_X5_shownIn (n : Nat) (v_turn : Int32) (v_phase : Int32) (v_up : Int32) (x1 : Int32) : Option (Int32) := bd1_ (f_X5_placeIn n v_turn v_phase x1) (fun (r2_1 : Int32) => if v_up ≤ r2_1 then some (-1) else some r2_1)
set_option maxHeartbeats 4000000 in
set_option maxRecDepth 100000 in
theorem c_X5_shownIn (l : Launch) (dC : Nat → ClassId) (dI : Nat → Nat → Nat) (cI cZ cP cS : ClassId) (h_t h_t_fitting h_t_worstLeft : Nat) (v_turn : Int32) (v_phase : Int32) (v_up : Int32) (x1 : Int32) (n : Nat) (r : Int32) (hf : f_X5_shownIn n v_turn v_phase v_up x1 = some r) : Met l yX5_shownIn wsX5_shownIn rm_X5_shownIn (RO (dC, dI) (TY cI cZ cP cS) [.ref h_t, .int x1] (wd_X5_shownIn cI cZ cP cS h_t h_t_fitting h_t_worstLeft v_turn v_phase v_up)) (vp_Si (fun x => x = r)) 0 0 NF := by
  refine Met.ofW (cc := cX5_shownIn) (maxL := 3) (ret := (some .int)) (by decide) rfl ?_
  intro p e s m args below meth c s₁ B hml hv
  obtain ⟨rfl, hP, hK⟩ := hv
  have hx := B.exec
  have hb := B.bytes
  have hr := B.returns
  have hts := atoms_spec (ws := wsX5_shownIn) B.pre
  have hown : s.vm.findClass RX5 = some m.cls := findClass_of_methodNamed B.named
  have hlocks := B.notSynchronized
  have hinX5 : ∀ w ∈ wsX50, w ∈ wsX5_shownIn := by decide +kernel
  have hl := lv_entry ([.ref h_t, .int x1]) (n := 3) (Nat.le_of_ble_eq_true rfl)
  rw [lg_entry_eq]
  generalize (lg_sl ([.ref h_t, .int x1]) ++ List.replicate (3 - (lg_sl ([.ref h_t, .int x1])).length) Slot.unset).toArray = ls at hl ⊢
  have hl : lv_has ls 3 [(0, .ref h_t), (1, .int x1)] := hl
  unfold f_X5_shownIn at hf
  refine lv_aload_n hx hb dX5_shownIn_0 rfl (lv_at hl 0 rfl) ?_
  refine lv_iload_n hx hb dX5_shownIn_1 rfl (lv_at hl 1 rfl) ?_
  obtain ⟨r2_1, hc_2, hf⟩ := bd1_e hf
  refine vp_callSi (va_runV (As := [.int x1]) (rest := []) ⟨hx, hb, hml, hown, hts⟩ (c_X5_placeIn l dC dI cI cZ cP cS h_t h_t_fitting h_t_worstLeft v_turn v_phase v_up x1 n r2_1 hc_2) (cwV 1 hts gX5_shownIn_X5_placeIn rfl rfl rfl (by decide +kernel) ⟨Nat.le_of_ble_eq_true rfl, Nat.le_of_ble_eq_true rfl⟩) (pv_ro (ci := 5) (q0 := 0) hK (hP.sub (ws' := (wd_X5_placeIn cI cZ cP cS h_t h_t_fitting h_t_worstLeft v_turn v_phase v_up)) [0] rfl) rfl rfl) rfl rfl hl.1 rfl (lv_room (Nat.le_of_ble_eq_true rfl)) dX5_shownIn_2 ⟨Nat.zero_le _, Nat.zero_le _⟩).run (fun x e_3 => ?_)
  rw [e_3]
  refine lv_istore_n (lv' := [(2, .int r2_1), (0, .ref h_t), (1, .int x1)]) hx hb dX5_shownIn_5 rfl hl (by decide) rfl (fun ls hl => ?_)
  refine lv_iload_n hx hb dX5_shownIn_6 rfl (lv_at hl 0 rfl) ?_
  refine lv_aload_n hx hb dX5_shownIn_7 rfl (lv_at hl 1 rfl) ?_
  refine va_get (D := (dC, dI)) (ci := 5) (v := .int v_up) (C := RX5) (T := TX5) (N := 5) hx hb hts hinX5 hown hK hP 0 rfl rfl 2 (by decide) (hts (.fieldLink RX5 26 "SecondSunrise$Sun" "up" "I") (by decide +kernel)) (fun _ h9 => h9) rfl dX5_shownIn_8 ?_
  refine lv_icmp_ge (tgt := 18) hx hb dX5_shownIn_11 (by decide) (fun c11 => ?_) (fun c11 => ?_)
  · rw [if_pos c11] at hf
    refine lv_iconst (v := (-1)) hx hb dX5_shownIn_18 (by decide) ?_
    exact W.iret hx hb hr (fun t ht hW => ⟨_, rfl, Option.some.inj hf, ht⟩) (fun _ h => nomatch h) dX5_shownIn_19
  · rw [if_neg c11] at hf
    refine lv_iload_n hx hb dX5_shownIn_14 rfl (lv_at hl 0 rfl) ?_
    refine lv_goto (tgt := 19) hx hb dX5_shownIn_15 (by decide) ?_
    exact W.iret hx hb hr (fun t ht hW => ⟨_, rfl, Option.some.inj hf, ht⟩) (fun _ h => nomatch h) dX5_shownIn_19

abbrev wd_X4_dialsShow (cI cZ cP cS : ClassId) (h_t h_t_red h_t_blue h_t_red_fitting h_t_red_worstLeft h_t_blue_fitting h_t_blue_worstLeft : Nat) (v_turn : Nat → Int32) (v_phase : Nat → Int32) (v_up : Nat → Int32) : va_W := [(h_t, .inr (4, [.ref h_t_red, .ref h_t_blue])), (h_t_red, .inr (5, [.int (v_turn 0), .int (v_phase 0), .int (v_up 0), .ref h_t_red_fitting, .ref h_t_red_worstLeft])), (h_t_blue, .inr (5, [.int (v_turn 1), .int (v_phase 1), .int (v_up 1), .ref h_t_blue_fitting, .ref h_t_blue_worstLeft]))]
abbrev rm_X4_dialsShow : Room := { frames := 2, cells := 0, slots := 0, locals := 43 }
def f_X4_dialsShow (n : Nat) (v_turn : Nat → Int32) (v_phase : Nat → Int32) (v_up : Nat → Int32) (x1 : Int32) (x2 : Int32) (x3 : Int32) : Option (Int32) := bd1_ (f_X5_shownIn n (v_turn 0) (v_phase 0) (v_up 0) x3) (fun (r5_1 : Int32) => jn0_ (some 0) (fun k28 => if r5_1 = x1 then bd1_ (f_X5_shownIn n (v_turn 1) (v_phase 1) (v_up 1) x3) (fun (r17_4 : Int32) => if r17_4 = x2 then some 1 else k28) else k28))
set_option maxHeartbeats 4000000 in
set_option maxRecDepth 100000 in
theorem c_X4_dialsShow (l : Launch) (dC : Nat → ClassId) (dI : Nat → Nat → Nat) (cI cZ cP cS : ClassId) (h_t h_t_red h_t_blue h_t_red_fitting h_t_red_worstLeft h_t_blue_fitting h_t_blue_worstLeft : Nat) (v_turn : Nat → Int32) (v_phase : Nat → Int32) (v_up : Nat → Int32) (x1 : Int32) (x2 : Int32) (x3 : Int32) (n : Nat) (r : Int32) (hf : f_X4_dialsShow n v_turn v_phase v_up x1 x2 x3 = some r) : Met l yX4_dialsShow wsX4_dialsShow rm_X4_dialsShow (RO (dC, dI) (TY cI cZ cP cS) [.ref h_t, .int x1, .int x2, .int x3] (wd_X4_dialsShow cI cZ cP cS h_t h_t_red h_t_blue h_t_red_fitting h_t_red_worstLeft h_t_blue_fitting h_t_blue_worstLeft v_turn v_phase v_up)) (vp_Si (fun x => x = r ∧ narrow .boolean (.int x) = .int x)) 0 0 NF := by
  refine Met.ofW (cc := cX4_dialsShow) (maxL := 4) (ret := (some .boolean)) (by decide) rfl ?_
  intro p e s m args below meth c s₁ B hml hv
  obtain ⟨rfl, hP, hK⟩ := hv
  have hx := B.exec
  have hb := B.bytes
  have hr := B.returns
  have hts := atoms_spec (ws := wsX4_dialsShow) B.pre
  have hown : s.vm.findClass RX4 = some m.cls := findClass_of_methodNamed B.named
  have hlocks := B.notSynchronized
  have hinX4 : ∀ w ∈ wsX40, w ∈ wsX4_dialsShow := by decide +kernel
  have hl := lv_entry ([.ref h_t, .int x1, .int x2, .int x3]) (n := 4) (Nat.le_of_ble_eq_true rfl)
  rw [lg_entry_eq]
  generalize (lg_sl ([.ref h_t, .int x1, .int x2, .int x3]) ++ List.replicate (4 - (lg_sl ([.ref h_t, .int x1, .int x2, .int x3])).length) Slot.unset).toArray = ls at hl ⊢
  have hl : lv_has ls 4 [(0, .ref h_t), (1, .int x1), (2, .int x2), (3, .int x3)] := hl
  unfold f_X4_dialsShow at hf
  refine lv_aload_n hx hb dX4_dialsShow_0 rfl (lv_at hl 0 rfl) ?_
  refine va_get (D := (dC, dI)) (ci := 4) (v := .ref h_t_red) (C := RX4) (T := TX4) (N := 2) hx hb hts hinX4 hown hK hP 0 rfl rfl 0 (by decide) (hts (.fieldLink RX4 9 "SecondSunrise$Sky" "red" "LSecondSunrise$Sun;") (by decide +kernel)) (fun _ h9 => h9) rfl dX4_dialsShow_1 ?_
  refine lv_iload_n hx hb dX4_dialsShow_4 rfl (lv_at hl 3 rfl) ?_
  obtain ⟨r5_1, hc_2, hf⟩ := bd1_e hf
  refine vp_callSi (va_runV (As := [.int x3]) (rest := []) ⟨hx, hb, hml, hown, hts⟩ (c_X5_shownIn l dC dI cI cZ cP cS h_t_red h_t_red_fitting h_t_red_worstLeft (v_turn 0) (v_phase 0) (v_up 0) x3 n r5_1 hc_2) (cwV 1 hts gX4_dialsShow_X5_shownIn rfl rfl rfl (by decide +kernel) ⟨Nat.le_of_ble_eq_true rfl, Nat.le_of_ble_eq_true rfl⟩) (pv_ro (ci := 5) (q0 := 0) hK (hP.sub (ws' := (wd_X5_shownIn cI cZ cP cS h_t_red h_t_red_fitting h_t_red_worstLeft (v_turn 0) (v_phase 0) (v_up 0))) [1] rfl) rfl rfl) rfl rfl hl.1 rfl (lv_room (Nat.le_of_ble_eq_true rfl)) dX4_dialsShow_5 ⟨Nat.zero_le _, Nat.zero_le _⟩).run (fun x e_3 => ?_)
  rw [e_3]
  refine lv_iload_n hx hb dX4_dialsShow_8 rfl (lv_at hl 1 rfl) ?_
  obtain ⟨k28, ek28, hf⟩ := jn0_e hf
  have hj28 : ∀ (ls : Array Slot), lv_has ls 4 [] → k28 = some r → W p l e (headSpec wsX4_dialsShow rm_X4_dialsShow).room s m ([.ref h_t, .int x1, .int x2, .int x3] : List Value).toArray below meth c s.heap [] 0 0 (MQ below (vp_Si (fun x => x = r ∧ narrow .boolean (.int x) = .int x)) ([.ref h_t, .int x1, .int x2, .int x3] : List Value).toArray s 0 0 NF) (F0 m 28 ls []) := by
    intro ls hl hf
    rw [ek28] at hf
    refine lv_iconst (v := 0) hx hb dX4_dialsShow_28 (by decide) ?_
    exact W.zret hx hb hr (by decide) (fun t ht hW => ⟨_, rfl, ⟨Option.some.inj hf, (by decide)⟩, ht⟩) (fun _ h => nomatch h) dX4_dialsShow_29
  refine lv_icmp_ne (tgt := 28) hx hb dX4_dialsShow_9 (by decide) (fun c9 => ?_) (fun c9 => ?_)
  · rw [if_neg c9] at hf
    exact hj28 ls (lv_sub hl [] rfl) hf
  · rw [if_pos c9] at hf
    refine lv_aload_n hx hb dX4_dialsShow_12 rfl (lv_at hl 0 rfl) ?_
    refine va_get (D := (dC, dI)) (ci := 4) (v := .ref h_t_blue) (C := RX4) (T := TX4) (N := 2) hx hb hts hinX4 hown hK hP 0 rfl rfl 1 (by decide) (hts (.fieldLink RX4 15 "SecondSunrise$Sky" "blue" "LSecondSunrise$Sun;") (by decide +kernel)) (fun _ h9 => h9) rfl dX4_dialsShow_13 ?_
    refine lv_iload_n hx hb dX4_dialsShow_16 rfl (lv_at hl 3 rfl) ?_
    obtain ⟨r17_4, hc_5, hf⟩ := bd1_e hf
    refine vp_callSi (va_runV (As := [.int x3]) (rest := []) ⟨hx, hb, hml, hown, hts⟩ (c_X5_shownIn l dC dI cI cZ cP cS h_t_blue h_t_blue_fitting h_t_blue_worstLeft (v_turn 1) (v_phase 1) (v_up 1) x3 n r17_4 hc_5) (cwV 1 hts gX4_dialsShow_X5_shownIn rfl rfl rfl (by decide +kernel) ⟨Nat.le_of_ble_eq_true rfl, Nat.le_of_ble_eq_true rfl⟩) (pv_ro (ci := 5) (q0 := 0) hK (hP.sub (ws' := (wd_X5_shownIn cI cZ cP cS h_t_blue h_t_blue_fitting h_t_blue_worstLeft (v_turn 1) (v_phase 1) (v_up 1))) [2] rfl) rfl rfl) rfl rfl hl.1 rfl (lv_room (Nat.le_of_ble_eq_true rfl)) dX4_dialsShow_17 ⟨Nat.zero_le _, Nat.zero_le _⟩).run (fun x e_6 => ?_)
    rw [e_6]
    refine lv_iload_n hx hb dX4_dialsShow_20 rfl (lv_at hl 2 rfl) ?_
    refine lv_icmp_ne (tgt := 28) hx hb dX4_dialsShow_21 (by decide) (fun c21 => ?_) (fun c21 => ?_)
    · rw [if_neg c21] at hf
      exact hj28 ls (lv_sub hl [] rfl) hf
    · rw [if_pos c21] at hf
      refine lv_iconst (v := 1) hx hb dX4_dialsShow_24 (by decide) ?_
      refine lv_goto (tgt := 29) hx hb dX4_dialsShow_25 (by decide) ?_
      exact W.zret hx hb hr (by decide) (fun t ht hW => ⟨_, rfl, ⟨Option.some.inj hf, (by decide)⟩, ht⟩) (fun _ h => nomatch h) dX4_dialsShow_29

abbrev wd_X4_firstByDials (cI cZ cP cS : ClassId) (h_t h_t_red h_t_blue h_t_red_fitting h_t_red_worstLeft h_t_blue_fitting h_t_blue_worstLeft : Nat) (v_turn : Nat → Int32) (v_phase : Nat → Int32) (v_up : Nat → Int32) : va_W := [(h_t, .inr (4, [.ref h_t_red, .ref h_t_blue])), (h_t_red, .inr (5, [.int (v_turn 0), .int (v_phase 0), .int (v_up 0), .ref h_t_red_fitting, .ref h_t_red_worstLeft])), (h_t_blue, .inr (5, [.int (v_turn 1), .int (v_phase 1), .int (v_up 1), .ref h_t_blue_fitting, .ref h_t_blue_worstLeft]))]
abbrev rm_X4_firstByDials : Room := { frames := 3, cells := 0, slots := 0, locals := 66 }
def L_X4_firstByDials_8 (n : Nat) (v_turn : Nat → Int32) (v_phase : Nat → Int32) (v_up : Nat → Int32) (x1 : Int32) (x2 : Int32) (r1_1 : Int32) (kx8 : Option (Int32)) : Nat → Int32 → Option (Int32)
  | 0, _ => none
  | k8 + 1, y8_4 => if r1_1 ≤ y8_4 then kx8 else bd1_ (f_X4_dialsShow n v_turn v_phase v_up x1 x2 y8_4) (fun (r19_4 : Int32) => if r19_4 = 0 then L_X4_firstByDials_8 n v_turn v_phase v_up x1 x2 r1_1 kx8 k8 (y8_4 + 1) else some y8_4)
theorem L_X4_firstByDials_8_s (n : Nat) (v_turn : Nat → Int32) (v_phase : Nat → Int32) (v_up : Nat → Int32) (x1 : Int32) (x2 : Int32) (r1_1 : Int32) (kx8 : Option (Int32)) (k8 : Nat) (y8_4 : Int32) : L_X4_firstByDials_8 n v_turn v_phase v_up x1 x2 r1_1 kx8 (k8 + 1) y8_4 = if r1_1 ≤ y8_4 then kx8 else bd1_ (f_X4_dialsShow n v_turn v_phase v_up x1 x2 y8_4) (fun (r19_4 : Int32) => if r19_4 = 0 then L_X4_firstByDials_8 n v_turn v_phase v_up x1 x2 r1_1 kx8 k8 (y8_4 + 1) else some y8_4) := rfl
def f_X4_firstByDials (n : Nat) (v_turn : Nat → Int32) (v_phase : Nat → Int32) (v_up : Nat → Int32) (x1 : Int32) (x2 : Int32) : Option (Int32) := bd1_ (f_X4_hoursOfRound n v_turn) (fun (r1_1 : Int32) => jn0_ (some (-1)) (fun kx8 => L_X4_firstByDials_8 n v_turn v_phase v_up x1 x2 r1_1 kx8 n 0))
set_option maxHeartbeats 4000000 in
set_option maxRecDepth 100000 in
theorem c_X4_firstByDials (l : Launch) (dC : Nat → ClassId) (dI : Nat → Nat → Nat) (cI cZ cP cS : ClassId) (h_t h_t_red h_t_blue h_t_red_fitting h_t_red_worstLeft h_t_blue_fitting h_t_blue_worstLeft : Nat) (v_turn : Nat → Int32) (v_phase : Nat → Int32) (v_up : Nat → Int32) (x1 : Int32) (x2 : Int32) (n : Nat) (r : Int32) (hf : f_X4_firstByDials n v_turn v_phase v_up x1 x2 = some r) : Met l yX4_firstByDials wsX4_firstByDials rm_X4_firstByDials (RO (dC, dI) (TY cI cZ cP cS) [.ref h_t, .int x1, .int x2] (wd_X4_firstByDials cI cZ cP cS h_t h_t_red h_t_blue h_t_red_fitting h_t_red_worstLeft h_t_blue_fitting h_t_blue_worstLeft v_turn v_phase v_up)) (vp_Si (fun x => x = r)) 0 0 NF := by
  refine Met.ofW (cc := cX4_firstByDials) (maxL := 5) (ret := (some .int)) (by decide) rfl ?_
  intro p e s m args below meth c s₁ B hml hv
  obtain ⟨rfl, hP, hK⟩ := hv
  have hx := B.exec
  have hb := B.bytes
  have hr := B.returns
  have hts := atoms_spec (ws := wsX4_firstByDials) B.pre
  have hown : s.vm.findClass RX4 = some m.cls := findClass_of_methodNamed B.named
  have hlocks := B.notSynchronized
  have hl := lv_entry ([.ref h_t, .int x1, .int x2]) (n := 5) (Nat.le_of_ble_eq_true rfl)
  rw [lg_entry_eq]
  generalize (lg_sl ([.ref h_t, .int x1, .int x2]) ++ List.replicate (5 - (lg_sl ([.ref h_t, .int x1, .int x2])).length) Slot.unset).toArray = ls at hl ⊢
  have hl : lv_has ls 5 [(0, .ref h_t), (1, .int x1), (2, .int x2)] := hl
  unfold f_X4_firstByDials at hf
  refine lv_aload_n hx hb dX4_firstByDials_0 rfl (lv_at hl 0 rfl) ?_
  obtain ⟨r1_1, hc_2, hf⟩ := bd1_e hf
  refine vp_callSi (va_runV (As := []) (rest := []) ⟨hx, hb, hml, hown, hts⟩ (c_X4_hoursOfRound l dC dI cI cZ cP cS h_t h_t_red h_t_blue h_t_red_fitting h_t_red_worstLeft h_t_blue_fitting h_t_blue_worstLeft v_turn v_phase v_up  n r1_1 hc_2) (cwV 0 hts gX4_firstByDials_X4_hoursOfRound rfl rfl rfl (by decide +kernel) ⟨Nat.le_of_ble_eq_true rfl, Nat.le_of_ble_eq_true rfl⟩) (pv_ro (ci := 4) (q0 := 0) hK (hP.sub (ws' := (wd_X4_hoursOfRound cI cZ cP cS h_t h_t_red h_t_blue h_t_red_fitting h_t_red_worstLeft h_t_blue_fitting h_t_blue_worstLeft v_turn v_phase v_up)) [0, 1, 2] rfl) rfl rfl) rfl rfl hl.1 rfl (lv_room (Nat.le_of_ble_eq_true rfl)) dX4_firstByDials_1 ⟨Nat.zero_le _, Nat.zero_le _⟩).run (fun x e_3 => ?_)
  rw [e_3]
  refine lv_istore_n (lv' := [(3, .int r1_1), (0, .ref h_t), (1, .int x1), (2, .int x2)]) hx hb dX4_firstByDials_4 rfl hl (by decide) rfl (fun ls hl => ?_)
  refine lv_iconst (v := 0) hx hb dX4_firstByDials_5 (by decide) ?_
  refine lv_istore (lv' := [(4, .int 0), (3, .int r1_1), (0, .ref h_t), (1, .int x1), (2, .int x2)]) hx hb dX4_firstByDials_6 hl (by decide) rfl (fun ls hl => ?_)
  obtain ⟨kx8, ekx8, hf⟩ := jn0_e hf
  have hx8 : ∀ (ls : Array Slot), lv_has ls 5 [] → kx8 = some r → W p l e (headSpec wsX4_firstByDials rm_X4_firstByDials).room s m ([.ref h_t, .int x1, .int x2] : List Value).toArray below meth c s.heap [] 0 0 (MQ below (vp_Si (fun x => x = r)) ([.ref h_t, .int x1, .int x2] : List Value).toArray s 0 0 NF) (F0 m 34 ls []) := by
    intro ls hl hf
    rw [ekx8] at hf
    refine lv_iconst (v := (-1)) hx hb dX4_firstByDials_34 (by decide) ?_
    exact W.iret hx hb hr (fun t ht hW => ⟨_, rfl, Option.some.inj hf, ht⟩) (fun _ h => nomatch h) dX4_firstByDials_35
  have hL8 : ∀ (k8 : Nat) (y8_4 : Int32) (ls : Array Slot), lv_has ls 5 [(0, .ref h_t), (1, .int x1), (2, .int x2), (3, .int r1_1), (4, .int y8_4)] → L_X4_firstByDials_8 n v_turn v_phase v_up x1 x2 r1_1 kx8 k8 y8_4 = some r → W p l e (headSpec wsX4_firstByDials rm_X4_firstByDials).room s m ([.ref h_t, .int x1, .int x2] : List Value).toArray below meth c s.heap [] 0 0 (MQ below (vp_Si (fun x => x = r)) ([.ref h_t, .int x1, .int x2] : List Value).toArray s 0 0 NF) (F0 m 8 ls []) := by
    intro k8
    induction k8 with
    | zero =>
      intro y8_4 ls hl hf
      exact absurd hf (fun h => Option.some_ne_none _ h.symm)
    | succ k8 ih =>
      intro y8_4 ls hl hf
      rw [L_X4_firstByDials_8_s] at hf
      refine lv_iload hx hb dX4_firstByDials_8 (lv_at hl 4 rfl) ?_
      refine lv_iload_n hx hb dX4_firstByDials_10 rfl (lv_at hl 3 rfl) ?_
      refine lv_icmp_ge (tgt := 34) hx hb dX4_firstByDials_11 (by decide) (fun c11 => ?_) (fun c11 => ?_)
      · rw [if_pos c11] at hf
        exact hx8 ls (lv_sub hl [] rfl) hf
      · rw [if_neg c11] at hf
        refine lv_aload_n hx hb dX4_firstByDials_14 rfl (lv_at hl 0 rfl) ?_
        refine lv_iload_n hx hb dX4_firstByDials_15 rfl (lv_at hl 1 rfl) ?_
        refine lv_iload_n hx hb dX4_firstByDials_16 rfl (lv_at hl 2 rfl) ?_
        refine lv_iload hx hb dX4_firstByDials_17 (lv_at hl 4 rfl) ?_
        obtain ⟨r19_4, hc_5, hf⟩ := bd1_e hf
        refine vp_callSi (va_runV (As := [.int x1, .int x2, .int y8_4]) (rest := []) ⟨hx, hb, hml, hown, hts⟩ (c_X4_dialsShow l dC dI cI cZ cP cS h_t h_t_red h_t_blue h_t_red_fitting h_t_red_worstLeft h_t_blue_fitting h_t_blue_worstLeft v_turn v_phase v_up x1 x2 y8_4 n r19_4 hc_5) (cwV 3 hts gX4_firstByDials_X4_dialsShow rfl rfl rfl (by decide +kernel) ⟨Nat.le_of_ble_eq_true rfl, Nat.le_of_ble_eq_true rfl⟩) (pv_ro (ci := 4) (q0 := 0) hK (hP.sub (ws' := (wd_X4_dialsShow cI cZ cP cS h_t h_t_red h_t_blue h_t_red_fitting h_t_red_worstLeft h_t_blue_fitting h_t_blue_worstLeft v_turn v_phase v_up)) [0, 1, 2] rfl) rfl rfl) rfl rfl hl.1 rfl (lv_room (Nat.le_of_ble_eq_true rfl)) dX4_firstByDials_19 ⟨Nat.zero_le _, Nat.zero_le _⟩).run (fun x e_6 => ?_)
        obtain ⟨e_6, hb_7⟩ := e_6
        rw [e_6] at hb_7 ⊢
        refine lv_if_eq (tgt := 28) hx hb dX4_firstByDials_22 (by decide) (fun c22 => ?_) (fun c22 => ?_)
        · rw [if_pos c22] at hf
          refine lv_iinc (v := (y8_4 + 1)) (lv' := [(4, .int (y8_4 + 1)), (0, .ref h_t), (1, .int x1), (2, .int x2), (3, .int r1_1)]) hx hb dX4_firstByDials_28 hl (k := 4) rfl rfl (by decide) rfl (fun ls hl => ?_)
          refine lv_goto (tgt := 8) hx hb dX4_firstByDials_31 (by decide) ?_
          exact ih (y8_4 + 1) ls (lv_sub hl [1, 2, 3, 4, 0] rfl) hf
        · rw [if_neg c22] at hf
          refine lv_iload hx hb dX4_firstByDials_25 (lv_at hl 4 rfl) ?_
          exact W.iret hx hb hr (fun t ht hW => ⟨_, rfl, Option.some.inj hf, ht⟩) (fun _ h => nomatch h) dX4_firstByDials_27
  exact hL8 n 0 ls (lv_sub hl [2, 3, 4, 1, 0] rfl) hf

abbrev wd_X4_firstWith (cI cZ cP cS : ClassId) (h_t h_t_red h_t_blue h_t_red_fitting h_t_red_worstLeft h_t_blue_fitting h_t_blue_worstLeft : Nat) (v_turn : Nat → Int32) (v_phase : Nat → Int32) (v_up : Nat → Int32) : va_W := [(h_t, .inr (4, [.ref h_t_red, .ref h_t_blue])), (h_t_red, .inr (5, [.int (v_turn 0), .int (v_phase 0), .int (v_up 0), .ref h_t_red_fitting, .ref h_t_red_worstLeft])), (h_t_blue, .inr (5, [.int (v_turn 1), .int (v_phase 1), .int (v_up 1), .ref h_t_blue_fitting, .ref h_t_blue_worstLeft]))]
abbrev rm_X4_firstWith : Room := { frames := 2, cells := 0, slots := 0, locals := 42 }
def L_X4_firstWith_8 (n : Nat) (v_turn : Nat → Int32) (v_phase : Nat → Int32) (v_up : Nat → Int32) (x1 : Int32) (x2 : Int32) (r1_1 : Int32) (kx8 : Option (Int32)) : Nat → Int32 → Option (Int32)
  | 0, _ => none
  | k8 + 1, y8_4 => if r1_1 ≤ y8_4 then kx8 else bd1_ (f_X4_lightIn n v_turn v_phase v_up (x1 + y8_4)) (fun (r19_4 : Int32) => if r19_4 = x2 then some (x1 + y8_4) else L_X4_firstWith_8 n v_turn v_phase v_up x1 x2 r1_1 kx8 k8 (y8_4 + 1))
theorem L_X4_firstWith_8_s (n : Nat) (v_turn : Nat → Int32) (v_phase : Nat → Int32) (v_up : Nat → Int32) (x1 : Int32) (x2 : Int32) (r1_1 : Int32) (kx8 : Option (Int32)) (k8 : Nat) (y8_4 : Int32) : L_X4_firstWith_8 n v_turn v_phase v_up x1 x2 r1_1 kx8 (k8 + 1) y8_4 = if r1_1 ≤ y8_4 then kx8 else bd1_ (f_X4_lightIn n v_turn v_phase v_up (x1 + y8_4)) (fun (r19_4 : Int32) => if r19_4 = x2 then some (x1 + y8_4) else L_X4_firstWith_8 n v_turn v_phase v_up x1 x2 r1_1 kx8 k8 (y8_4 + 1)) := rfl
def f_X4_firstWith (n : Nat) (v_turn : Nat → Int32) (v_phase : Nat → Int32) (v_up : Nat → Int32) (x1 : Int32) (x2 : Int32) : Option (Int32) := bd1_ (f_X4_hoursOfRound n v_turn) (fun (r1_1 : Int32) => jn0_ (some (-1)) (fun kx8 => L_X4_firstWith_8 n v_turn v_phase v_up x1 x2 r1_1 kx8 n 0))
set_option maxHeartbeats 4000000 in
set_option maxRecDepth 100000 in
theorem c_X4_firstWith (l : Launch) (dC : Nat → ClassId) (dI : Nat → Nat → Nat) (cI cZ cP cS : ClassId) (h_t h_t_red h_t_blue h_t_red_fitting h_t_red_worstLeft h_t_blue_fitting h_t_blue_worstLeft : Nat) (v_turn : Nat → Int32) (v_phase : Nat → Int32) (v_up : Nat → Int32) (x1 : Int32) (x2 : Int32) (n : Nat) (r : Int32) (hf : f_X4_firstWith n v_turn v_phase v_up x1 x2 = some r) : Met l yX4_firstWith wsX4_firstWith rm_X4_firstWith (RO (dC, dI) (TY cI cZ cP cS) [.ref h_t, .int x1, .int x2] (wd_X4_firstWith cI cZ cP cS h_t h_t_red h_t_blue h_t_red_fitting h_t_red_worstLeft h_t_blue_fitting h_t_blue_worstLeft v_turn v_phase v_up)) (vp_Si (fun x => x = r)) 0 0 NF := by
  refine Met.ofW (cc := cX4_firstWith) (maxL := 5) (ret := (some .int)) (by decide) rfl ?_
  intro p e s m args below meth c s₁ B hml hv
  obtain ⟨rfl, hP, hK⟩ := hv
  have hx := B.exec
  have hb := B.bytes
  have hr := B.returns
  have hts := atoms_spec (ws := wsX4_firstWith) B.pre
  have hown : s.vm.findClass RX4 = some m.cls := findClass_of_methodNamed B.named
  have hlocks := B.notSynchronized
  have hl := lv_entry ([.ref h_t, .int x1, .int x2]) (n := 5) (Nat.le_of_ble_eq_true rfl)
  rw [lg_entry_eq]
  generalize (lg_sl ([.ref h_t, .int x1, .int x2]) ++ List.replicate (5 - (lg_sl ([.ref h_t, .int x1, .int x2])).length) Slot.unset).toArray = ls at hl ⊢
  have hl : lv_has ls 5 [(0, .ref h_t), (1, .int x1), (2, .int x2)] := hl
  unfold f_X4_firstWith at hf
  refine lv_aload_n hx hb dX4_firstWith_0 rfl (lv_at hl 0 rfl) ?_
  obtain ⟨r1_1, hc_2, hf⟩ := bd1_e hf
  refine vp_callSi (va_runV (As := []) (rest := []) ⟨hx, hb, hml, hown, hts⟩ (c_X4_hoursOfRound l dC dI cI cZ cP cS h_t h_t_red h_t_blue h_t_red_fitting h_t_red_worstLeft h_t_blue_fitting h_t_blue_worstLeft v_turn v_phase v_up  n r1_1 hc_2) (cwV 0 hts gX4_firstWith_X4_hoursOfRound rfl rfl rfl (by decide +kernel) ⟨Nat.le_of_ble_eq_true rfl, Nat.le_of_ble_eq_true rfl⟩) (pv_ro (ci := 4) (q0 := 0) hK (hP.sub (ws' := (wd_X4_hoursOfRound cI cZ cP cS h_t h_t_red h_t_blue h_t_red_fitting h_t_red_worstLeft h_t_blue_fitting h_t_blue_worstLeft v_turn v_phase v_up)) [0, 1, 2] rfl) rfl rfl) rfl rfl hl.1 rfl (lv_room (Nat.le_of_ble_eq_true rfl)) dX4_firstWith_1 ⟨Nat.zero_le _, Nat.zero_le _⟩).run (fun x e_3 => ?_)
  rw [e_3]
  refine lv_istore_n (lv' := [(3, .int r1_1), (0, .ref h_t), (1, .int x1), (2, .int x2)]) hx hb dX4_firstWith_4 rfl hl (by decide) rfl (fun ls hl => ?_)
  refine lv_iconst (v := 0) hx hb dX4_firstWith_5 (by decide) ?_
  refine lv_istore (lv' := [(4, .int 0), (3, .int r1_1), (0, .ref h_t), (1, .int x1), (2, .int x2)]) hx hb dX4_firstWith_6 hl (by decide) rfl (fun ls hl => ?_)
  obtain ⟨kx8, ekx8, hf⟩ := jn0_e hf
  have hx8 : ∀ (ls : Array Slot), lv_has ls 5 [] → kx8 = some r → W p l e (headSpec wsX4_firstWith rm_X4_firstWith).room s m ([.ref h_t, .int x1, .int x2] : List Value).toArray below meth c s.heap [] 0 0 (MQ below (vp_Si (fun x => x = r)) ([.ref h_t, .int x1, .int x2] : List Value).toArray s 0 0 NF) (F0 m 37 ls []) := by
    intro ls hl hf
    rw [ekx8] at hf
    refine lv_iconst (v := (-1)) hx hb dX4_firstWith_37 (by decide) ?_
    exact W.iret hx hb hr (fun t ht hW => ⟨_, rfl, Option.some.inj hf, ht⟩) (fun _ h => nomatch h) dX4_firstWith_38
  have hL8 : ∀ (k8 : Nat) (y8_4 : Int32) (ls : Array Slot), lv_has ls 5 [(0, .ref h_t), (1, .int x1), (2, .int x2), (3, .int r1_1), (4, .int y8_4)] → L_X4_firstWith_8 n v_turn v_phase v_up x1 x2 r1_1 kx8 k8 y8_4 = some r → W p l e (headSpec wsX4_firstWith rm_X4_firstWith).room s m ([.ref h_t, .int x1, .int x2] : List Value).toArray below meth c s.heap [] 0 0 (MQ below (vp_Si (fun x => x = r)) ([.ref h_t, .int x1, .int x2] : List Value).toArray s 0 0 NF) (F0 m 8 ls []) := by
    intro k8
    induction k8 with
    | zero =>
      intro y8_4 ls hl hf
      exact absurd hf (fun h => Option.some_ne_none _ h.symm)
    | succ k8 ih =>
      intro y8_4 ls hl hf
      rw [L_X4_firstWith_8_s] at hf
      refine lv_iload hx hb dX4_firstWith_8 (lv_at hl 4 rfl) ?_
      refine lv_iload_n hx hb dX4_firstWith_10 rfl (lv_at hl 3 rfl) ?_
      refine lv_icmp_ge (tgt := 37) hx hb dX4_firstWith_11 (by decide) (fun c11 => ?_) (fun c11 => ?_)
      · rw [if_pos c11] at hf
        exact hx8 ls (lv_sub hl [] rfl) hf
      · rw [if_neg c11] at hf
        refine lv_aload_n hx hb dX4_firstWith_14 rfl (lv_at hl 0 rfl) ?_
        refine lv_iload_n hx hb dX4_firstWith_15 rfl (lv_at hl 1 rfl) ?_
        refine lv_iload hx hb dX4_firstWith_16 (lv_at hl 4 rfl) ?_
        refine lv_iadd hx hb dX4_firstWith_18 ?_
        obtain ⟨r19_4, hc_5, hf⟩ := bd1_e hf
        refine vp_callSi (va_runV (As := [.int (x1 + y8_4)]) (rest := []) ⟨hx, hb, hml, hown, hts⟩ (c_X4_lightIn l dC dI cI cZ cP cS h_t h_t_red h_t_blue h_t_red_fitting h_t_red_worstLeft h_t_blue_fitting h_t_blue_worstLeft v_turn v_phase v_up (x1 + y8_4) n r19_4 hc_5) (cwV 1 hts gX4_firstWith_X4_lightIn rfl rfl rfl (by decide +kernel) ⟨Nat.le_of_ble_eq_true rfl, Nat.le_of_ble_eq_true rfl⟩) (pv_ro (ci := 4) (q0 := 0) hK (hP.sub (ws' := (wd_X4_lightIn cI cZ cP cS h_t h_t_red h_t_blue h_t_red_fitting h_t_red_worstLeft h_t_blue_fitting h_t_blue_worstLeft v_turn v_phase v_up)) [0, 1, 2] rfl) rfl rfl) rfl rfl hl.1 rfl (lv_room (Nat.le_of_ble_eq_true rfl)) dX4_firstWith_19 ⟨Nat.zero_le _, Nat.zero_le _⟩).run (fun x e_6 => ?_)
        rw [e_6]
        refine lv_iload_n hx hb dX4_firstWith_22 rfl (lv_at hl 2 rfl) ?_
        refine lv_icmp_ne (tgt := 31) hx hb dX4_firstWith_23 (by decide) (fun c23 => ?_) (fun c23 => ?_)
        · rw [if_neg c23] at hf
          refine lv_iinc (v := (y8_4 + 1)) (lv' := [(4, .int (y8_4 + 1)), (0, .ref h_t), (1, .int x1), (2, .int x2), (3, .int r1_1)]) hx hb dX4_firstWith_31 hl (k := 4) rfl rfl (by decide) rfl (fun ls hl => ?_)
          refine lv_goto (tgt := 8) hx hb dX4_firstWith_34 (by decide) ?_
          exact ih (y8_4 + 1) ls (lv_sub hl [1, 2, 3, 4, 0] rfl) hf
        · rw [if_pos c23] at hf
          refine lv_iload_n hx hb dX4_firstWith_26 rfl (lv_at hl 1 rfl) ?_
          refine lv_iload hx hb dX4_firstWith_27 (lv_at hl 4 rfl) ?_
          refine lv_iadd hx hb dX4_firstWith_29 ?_
          exact W.iret hx hb hr (fun t ht hW => ⟨_, rfl, Option.some.inj hf, ht⟩) (fun _ h => nomatch h) dX4_firstWith_30
  exact hL8 n 0 ls (lv_sub hl [2, 3, 4, 1, 0] rfl) hf

abbrev wd_X5_placeBy (cI cZ cP cS : ClassId) (h_t h_t_fitting h_t_worstLeft : Nat) (v_turn : Int32) (v_phase : Int32) (v_up : Int32) : va_W := [(h_t, .inr (5, [.int v_turn, .int v_phase, .int v_up, .ref h_t_fitting, .ref h_t_worstLeft]))]
abbrev rm_X5_placeBy : Room := { frames := 0, cells := 0, slots := 0, locals := 0 }
def f_X5_placeBy (n : Nat) (v_turn : Int32) (x1 : Int32) (x2 : Int32) : Option (Int32) := if (2 : Int32) ≤ v_turn then nz_ v_turn (some ((x2 + x1) - (x2 + x1) / v_turn * v_turn)) else some 0
set_option maxHeartbeats 4000000 in
set_option maxRecDepth 100000 in
theorem c_X5_placeBy (l : Launch) (dC : Nat → ClassId) (dI : Nat → Nat → Nat) (cI cZ cP cS : ClassId) (h_t h_t_fitting h_t_worstLeft : Nat) (v_turn : Int32) (v_phase : Int32) (v_up : Int32) (x1 : Int32) (x2 : Int32) (n : Nat) (r : Int32) (hf : f_X5_placeBy n v_turn x1 x2 = some r) : Met l yX5_placeBy wsX5_placeBy rm_X5_placeBy (RO (dC, dI) (TY cI cZ cP cS) [.ref h_t, .int x1, .int x2] (wd_X5_placeBy cI cZ cP cS h_t h_t_fitting h_t_worstLeft v_turn v_phase v_up)) (vp_Si (fun x => x = r)) 0 0 NF := by
  refine Met.ofW (cc := cX5_placeBy) (maxL := 3) (ret := (some .int)) (by decide) rfl ?_
  intro p e s m args below meth c s₁ B hml hv
  obtain ⟨rfl, hP, hK⟩ := hv
  have hx := B.exec
  have hb := B.bytes
  have hr := B.returns
  have hts := atoms_spec (ws := wsX5_placeBy) B.pre
  have hown : s.vm.findClass RX5 = some m.cls := findClass_of_methodNamed B.named
  have hlocks := B.notSynchronized
  have hinX5 : ∀ w ∈ wsX50, w ∈ wsX5_placeBy := by decide +kernel
  have hl := lv_entry ([.ref h_t, .int x1, .int x2]) (n := 3) (Nat.le_of_ble_eq_true rfl)
  rw [lg_entry_eq]
  generalize (lg_sl ([.ref h_t, .int x1, .int x2]) ++ List.replicate (3 - (lg_sl ([.ref h_t, .int x1, .int x2])).length) Slot.unset).toArray = ls at hl ⊢
  have hl : lv_has ls 3 [(0, .ref h_t), (1, .int x1), (2, .int x2)] := hl
  unfold f_X5_placeBy at hf
  refine lv_aload_n hx hb dX5_placeBy_0 rfl (lv_at hl 0 rfl) ?_
  refine va_get (D := (dC, dI)) (ci := 5) (v := .int v_turn) (C := RX5) (T := TX5) (N := 5) hx hb hts hinX5 hown hK hP 0 rfl rfl 0 (by decide) (hts (.fieldLink RX5 23 "SecondSunrise$Sun" "turn" "I") (by decide +kernel)) (fun _ h9 => h9) rfl dX5_placeBy_1 ?_
  refine lv_iconst (v := 2) hx hb dX5_placeBy_4 (by decide) ?_
  refine lv_icmp_ge (tgt := 12) hx hb dX5_placeBy_5 (by decide) (fun c5 => ?_) (fun c5 => ?_)
  · rw [if_pos c5] at hf
    refine lv_iload_n hx hb dX5_placeBy_12 rfl (lv_at hl 2 rfl) ?_
    refine lv_iload_n hx hb dX5_placeBy_13 rfl (lv_at hl 1 rfl) ?_
    refine lv_iadd hx hb dX5_placeBy_14 ?_
    refine lv_aload_n hx hb dX5_placeBy_15 rfl (lv_at hl 0 rfl) ?_
    refine va_get (D := (dC, dI)) (ci := 5) (v := .int v_turn) (C := RX5) (T := TX5) (N := 5) hx hb hts hinX5 hown hK hP 0 rfl rfl 0 (by decide) (hts (.fieldLink RX5 23 "SecondSunrise$Sun" "turn" "I") (by decide +kernel)) (fun _ h9 => h9) rfl dX5_placeBy_16 ?_
    obtain ⟨hz_1, hf⟩ := nz_e hf
    refine lv_irem hx hb dX5_placeBy_19 hz_1 ?_
    exact W.iret hx hb hr (fun t ht hW => ⟨_, rfl, Option.some.inj hf, ht⟩) (fun _ h => nomatch h) dX5_placeBy_20
  · rw [if_neg c5] at hf
    refine lv_iconst (v := 0) hx hb dX5_placeBy_8 (by decide) ?_
    refine lv_goto (tgt := 20) hx hb dX5_placeBy_9 (by decide) ?_
    exact W.iret hx hb hr (fun t ht hW => ⟨_, rfl, Option.some.inj hf, ht⟩) (fun _ h => nomatch h) dX5_placeBy_20

abbrev wd_X5_leftAtWorst (cI cZ cP cS : ClassId) (h_t h_t_fitting h_t_worstLeft : Nat) (v_turn : Int32) (v_phase : Int32) (v_up : Int32) (v_worstLeft : Nat → Int32) : va_W := [(h_t, .inr (5, [.int v_turn, .int v_phase, .int v_up, .ref h_t_fitting, .ref h_t_worstLeft])), (h_t_worstLeft, .inl (cI, 40, .inl v_worstLeft))]
abbrev rm_X5_leftAtWorst : Room := { frames := 1, cells := 0, slots := 0, locals := 22 }
def f_X5_leftAtWorst (n : Nat) (v_turn : Int32) (v_worstLeft : Nat → Int32) (x1 : Int32) : Option (Int32) := bd1_ (f_X5_placeBy n v_turn 0 x1) (fun (r3_1 : Int32) => jn0_ (some 0) (fun k17 => if r3_1 < 0 then k17 else if r3_1 < 40 then ix_ r3_1 40 (some (v_worstLeft r3_1.toNatClampNeg)) else k17))
set_option maxHeartbeats 4000000 in
set_option maxRecDepth 100000 in
theorem c_X5_leftAtWorst (l : Launch) (dC : Nat → ClassId) (dI : Nat → Nat → Nat) (cI cZ cP cS : ClassId) (h_t h_t_fitting h_t_worstLeft : Nat) (v_turn : Int32) (v_phase : Int32) (v_up : Int32) (v_worstLeft : Nat → Int32) (x1 : Int32) (n : Nat) (r : Int32) (hf : f_X5_leftAtWorst n v_turn v_worstLeft x1 = some r) : Met l yX5_leftAtWorst wsX5_leftAtWorst rm_X5_leftAtWorst (RO (dC, dI) (TY cI cZ cP cS) [.ref h_t, .int x1] (wd_X5_leftAtWorst cI cZ cP cS h_t h_t_fitting h_t_worstLeft v_turn v_phase v_up v_worstLeft)) (vp_Si (fun x => x = r)) 0 0 NF := by
  refine Met.ofW (cc := cX5_leftAtWorst) (maxL := 3) (ret := (some .int)) (by decide) rfl ?_
  intro p e s m args below meth c s₁ B hml hv
  obtain ⟨rfl, hP, hK⟩ := hv
  have hx := B.exec
  have hb := B.bytes
  have hr := B.returns
  have hts := atoms_spec (ws := wsX5_leftAtWorst) B.pre
  have hown : s.vm.findClass RX5 = some m.cls := findClass_of_methodNamed B.named
  have hlocks := B.notSynchronized
  have hinX5 : ∀ w ∈ wsX50, w ∈ wsX5_leftAtWorst := by decide +kernel
  have hl := lv_entry ([.ref h_t, .int x1]) (n := 3) (Nat.le_of_ble_eq_true rfl)
  rw [lg_entry_eq]
  generalize (lg_sl ([.ref h_t, .int x1]) ++ List.replicate (3 - (lg_sl ([.ref h_t, .int x1])).length) Slot.unset).toArray = ls at hl ⊢
  have hl : lv_has ls 3 [(0, .ref h_t), (1, .int x1)] := hl
  unfold f_X5_leftAtWorst at hf
  refine lv_aload_n hx hb dX5_leftAtWorst_0 rfl (lv_at hl 0 rfl) ?_
  refine lv_iconst (v := 0) hx hb dX5_leftAtWorst_1 (by decide) ?_
  refine lv_iload_n hx hb dX5_leftAtWorst_2 rfl (lv_at hl 1 rfl) ?_
  obtain ⟨r3_1, hc_2, hf⟩ := bd1_e hf
  refine vp_callSi (va_runV (As := [.int 0, .int x1]) (rest := []) ⟨hx, hb, hml, hown, hts⟩ (c_X5_placeBy l dC dI cI cZ cP cS h_t h_t_fitting h_t_worstLeft v_turn v_phase v_up 0 x1 n r3_1 hc_2) (cwV 2 hts gX5_leftAtWorst_X5_placeBy rfl rfl rfl (by decide +kernel) ⟨Nat.le_of_ble_eq_true rfl, Nat.le_of_ble_eq_true rfl⟩) (pv_ro (ci := 5) (q0 := 0) hK (hP.sub (ws' := (wd_X5_placeBy cI cZ cP cS h_t h_t_fitting h_t_worstLeft v_turn v_phase v_up)) [0] rfl) rfl rfl) rfl rfl hl.1 rfl (lv_room (Nat.le_of_ble_eq_true rfl)) dX5_leftAtWorst_3 ⟨Nat.zero_le _, Nat.zero_le _⟩).run (fun x e_3 => ?_)
  rw [e_3]
  refine lv_istore_n (lv' := [(2, .int r3_1), (0, .ref h_t), (1, .int x1)]) hx hb dX5_leftAtWorst_6 rfl hl (by decide) rfl (fun ls hl => ?_)
  refine lv_iload_n hx hb dX5_leftAtWorst_7 rfl (lv_at hl 0 rfl) ?_
  obtain ⟨k17, ek17, hf⟩ := jn0_e hf
  have hj17 : ∀ (ls : Array Slot), lv_has ls 3 [] → k17 = some r → W p l e (headSpec wsX5_leftAtWorst rm_X5_leftAtWorst).room s m ([.ref h_t, .int x1] : List Value).toArray below meth c s.heap [] 0 0 (MQ below (vp_Si (fun x => x = r)) ([.ref h_t, .int x1] : List Value).toArray s 0 0 NF) (F0 m 17 ls []) := by
    intro ls hl hf
    rw [ek17] at hf
    refine lv_iconst (v := 0) hx hb dX5_leftAtWorst_17 (by decide) ?_
    refine lv_goto (tgt := 27) hx hb dX5_leftAtWorst_18 (by decide) ?_
    exact W.iret hx hb hr (fun t ht hW => ⟨_, rfl, Option.some.inj hf, ht⟩) (fun _ h => nomatch h) dX5_leftAtWorst_27
  refine lv_if_lt (tgt := 17) hx hb dX5_leftAtWorst_8 (by decide) (fun c8 => ?_) (fun c8 => ?_)
  · rw [if_pos c8] at hf
    exact hj17 ls (lv_sub hl [] rfl) hf
  · rw [if_neg c8] at hf
    refine lv_iload_n hx hb dX5_leftAtWorst_11 rfl (lv_at hl 0 rfl) ?_
    refine lv_bipush (v := 40) hx hb dX5_leftAtWorst_12 (by decide) ?_
    refine lv_icmp_lt (tgt := 21) hx hb dX5_leftAtWorst_14 (by decide) (fun c14 => ?_) (fun c14 => ?_)
    · rw [if_pos c14] at hf
      refine lv_aload_n hx hb dX5_leftAtWorst_21 rfl (lv_at hl 1 rfl) ?_
      refine va_get (D := (dC, dI)) (ci := 5) (v := .ref h_t_worstLeft) (C := RX5) (T := TX5) (N := 5) hx hb hts hinX5 hown hK hP 0 rfl rfl 4 (by decide) (hts (.fieldLink RX5 19 "SecondSunrise$Sun" "worstLeft" "[I") (by decide +kernel)) (fun _ h9 => h9) rfl dX5_leftAtWorst_22 ?_
      refine lv_iload_n hx hb dX5_leftAtWorst_25 rfl (lv_at hl 0 rfl) ?_
      obtain ⟨hi_4, hf⟩ := ix_e hf
      refine va_iald hx hb hK hP 1 0 rfl rfl hi_4 dX5_leftAtWorst_26 ?_
      exact W.iret hx hb hr (fun t ht hW => ⟨_, rfl, Option.some.inj hf, ht⟩) (fun _ h => nomatch h) dX5_leftAtWorst_27
    · rw [if_neg c14] at hf
      exact hj17 ls (lv_sub hl [] rfl) hf

abbrev wd_X4_leftAtWorst (cI cZ cP cS : ClassId) (h_t h_t_red h_t_blue h_t_red_fitting h_t_red_worstLeft h_t_blue_fitting h_t_blue_worstLeft : Nat) (v_turn : Nat → Int32) (v_phase : Nat → Int32) (v_up : Nat → Int32) (v_worstLeft : Nat → Nat → Int32) : va_W := [(h_t, .inr (4, [.ref h_t_red, .ref h_t_blue])), (h_t_red, .inr (5, [.int (v_turn 0), .int (v_phase 0), .int (v_up 0), .ref h_t_red_fitting, .ref h_t_red_worstLeft])), (h_t_red_worstLeft, .inl (cI, 40, .inl (v_worstLeft 0))), (h_t_blue, .inr (5, [.int (v_turn 1), .int (v_phase 1), .int (v_up 1), .ref h_t_blue_fitting, .ref h_t_blue_worstLeft])), (h_t_blue_worstLeft, .inl (cI, 40, .inl (v_worstLeft 1)))]
abbrev rm_X4_leftAtWorst : Room := { frames := 2, cells := 0, slots := 0, locals := 44 }
def f_X4_leftAtWorst (n : Nat) (v_turn : Nat → Int32) (v_worstLeft : Nat → Nat → Int32) (x1 : Int32) : Option (Int32) := bd1_ (f_X5_leftAtWorst n (v_turn 0) (v_worstLeft 0) x1) (fun (r5_1 : Int32) => bd1_ (f_X5_leftAtWorst n (v_turn 1) (v_worstLeft 1) x1) (fun (r13_4 : Int32) => some (r5_1 * r13_4)))
set_option maxHeartbeats 4000000 in
set_option maxRecDepth 100000 in
theorem c_X4_leftAtWorst (l : Launch) (dC : Nat → ClassId) (dI : Nat → Nat → Nat) (cI cZ cP cS : ClassId) (h_t h_t_red h_t_blue h_t_red_fitting h_t_red_worstLeft h_t_blue_fitting h_t_blue_worstLeft : Nat) (v_turn : Nat → Int32) (v_phase : Nat → Int32) (v_up : Nat → Int32) (v_worstLeft : Nat → Nat → Int32) (x1 : Int32) (n : Nat) (r : Int32) (hf : f_X4_leftAtWorst n v_turn v_worstLeft x1 = some r) : Met l yX4_leftAtWorst wsX4_leftAtWorst rm_X4_leftAtWorst (RO (dC, dI) (TY cI cZ cP cS) [.ref h_t, .int x1] (wd_X4_leftAtWorst cI cZ cP cS h_t h_t_red h_t_blue h_t_red_fitting h_t_red_worstLeft h_t_blue_fitting h_t_blue_worstLeft v_turn v_phase v_up v_worstLeft)) (vp_Si (fun x => x = r)) 0 0 NF := by
  refine Met.ofW (cc := cX4_leftAtWorst) (maxL := 2) (ret := (some .int)) (by decide) rfl ?_
  intro p e s m args below meth c s₁ B hml hv
  obtain ⟨rfl, hP, hK⟩ := hv
  have hx := B.exec
  have hb := B.bytes
  have hr := B.returns
  have hts := atoms_spec (ws := wsX4_leftAtWorst) B.pre
  have hown : s.vm.findClass RX4 = some m.cls := findClass_of_methodNamed B.named
  have hlocks := B.notSynchronized
  have hinX4 : ∀ w ∈ wsX40, w ∈ wsX4_leftAtWorst := by decide +kernel
  have hl := lv_entry ([.ref h_t, .int x1]) (n := 2) (Nat.le_of_ble_eq_true rfl)
  rw [lg_entry_eq]
  generalize (lg_sl ([.ref h_t, .int x1]) ++ List.replicate (2 - (lg_sl ([.ref h_t, .int x1])).length) Slot.unset).toArray = ls at hl ⊢
  have hl : lv_has ls 2 [(0, .ref h_t), (1, .int x1)] := hl
  unfold f_X4_leftAtWorst at hf
  refine lv_aload_n hx hb dX4_leftAtWorst_0 rfl (lv_at hl 0 rfl) ?_
  refine va_get (D := (dC, dI)) (ci := 4) (v := .ref h_t_red) (C := RX4) (T := TX4) (N := 2) hx hb hts hinX4 hown hK hP 0 rfl rfl 0 (by decide) (hts (.fieldLink RX4 9 "SecondSunrise$Sky" "red" "LSecondSunrise$Sun;") (by decide +kernel)) (fun _ h9 => h9) rfl dX4_leftAtWorst_1 ?_
  refine lv_iload_n hx hb dX4_leftAtWorst_4 rfl (lv_at hl 1 rfl) ?_
  obtain ⟨r5_1, hc_2, hf⟩ := bd1_e hf
  refine vp_callSi (va_runV (As := [.int x1]) (rest := []) ⟨hx, hb, hml, hown, hts⟩ (c_X5_leftAtWorst l dC dI cI cZ cP cS h_t_red h_t_red_fitting h_t_red_worstLeft (v_turn 0) (v_phase 0) (v_up 0) (v_worstLeft 0) x1 n r5_1 hc_2) (cwV 1 hts gX4_leftAtWorst_X5_leftAtWorst rfl rfl rfl (by decide +kernel) ⟨Nat.le_of_ble_eq_true rfl, Nat.le_of_ble_eq_true rfl⟩) (pv_ro (ci := 5) (q0 := 0) hK (hP.sub (ws' := (wd_X5_leftAtWorst cI cZ cP cS h_t_red h_t_red_fitting h_t_red_worstLeft (v_turn 0) (v_phase 0) (v_up 0) (v_worstLeft 0))) [1, 2] rfl) rfl rfl) rfl rfl hl.1 rfl (lv_room (Nat.le_of_ble_eq_true rfl)) dX4_leftAtWorst_5 ⟨Nat.zero_le _, Nat.zero_le _⟩).run (fun x e_3 => ?_)
  rw [e_3]
  refine lv_aload_n hx hb dX4_leftAtWorst_8 rfl (lv_at hl 0 rfl) ?_
  refine va_get (D := (dC, dI)) (ci := 4) (v := .ref h_t_blue) (C := RX4) (T := TX4) (N := 2) hx hb hts hinX4 hown hK hP 0 rfl rfl 1 (by decide) (hts (.fieldLink RX4 15 "SecondSunrise$Sky" "blue" "LSecondSunrise$Sun;") (by decide +kernel)) (fun _ h9 => h9) rfl dX4_leftAtWorst_9 ?_
  refine lv_iload_n hx hb dX4_leftAtWorst_12 rfl (lv_at hl 1 rfl) ?_
  obtain ⟨r13_4, hc_5, hf⟩ := bd1_e hf
  refine vp_callSi (va_runV (As := [.int x1]) (rest := [.int r5_1]) ⟨hx, hb, hml, hown, hts⟩ (c_X5_leftAtWorst l dC dI cI cZ cP cS h_t_blue h_t_blue_fitting h_t_blue_worstLeft (v_turn 1) (v_phase 1) (v_up 1) (v_worstLeft 1) x1 n r13_4 hc_5) (cwV 1 hts gX4_leftAtWorst_X5_leftAtWorst rfl rfl rfl (by decide +kernel) ⟨Nat.le_of_ble_eq_true rfl, Nat.le_of_ble_eq_true rfl⟩) (pv_ro (ci := 5) (q0 := 0) hK (hP.sub (ws' := (wd_X5_leftAtWorst cI cZ cP cS h_t_blue h_t_blue_fitting h_t_blue_worstLeft (v_turn 1) (v_phase 1) (v_up 1) (v_worstLeft 1))) [3, 4] rfl) rfl rfl) rfl rfl hl.1 rfl (lv_room (Nat.le_of_ble_eq_true rfl)) dX4_leftAtWorst_13 ⟨Nat.zero_le _, Nat.zero_le _⟩).run (fun x e_6 => ?_)
  rw [e_6]
  refine lv_imul hx hb dX4_leftAtWorst_16 ?_
  exact W.iret hx hb hr (fun t ht hW => ⟨_, rfl, Option.some.inj hf, ht⟩) (fun _ h => nomatch h) dX4_leftAtWorst_17

abbrev wd_X4_hourToWatch (cI cZ cP cS : ClassId) (h_t h_t_red h_t_blue h_t_red_fitting h_t_red_worstLeft h_t_blue_fitting h_t_blue_worstLeft : Nat) (v_turn : Nat → Int32) (v_phase : Nat → Int32) (v_up : Nat → Int32) (v_worstLeft : Nat → Nat → Int32) : va_W := [(h_t, .inr (4, [.ref h_t_red, .ref h_t_blue])), (h_t_red, .inr (5, [.int (v_turn 0), .int (v_phase 0), .int (v_up 0), .ref h_t_red_fitting, .ref h_t_red_worstLeft])), (h_t_red_worstLeft, .inl (cI, 40, .inl (v_worstLeft 0))), (h_t_blue, .inr (5, [.int (v_turn 1), .int (v_phase 1), .int (v_up 1), .ref h_t_blue_fitting, .ref h_t_blue_worstLeft])), (h_t_blue_worstLeft, .inl (cI, 40, .inl (v_worstLeft 1)))]
abbrev rm_X4_hourToWatch : Room := { frames := 3, cells := 0, slots := 0, locals := 65 }
def L_X4_hourToWatch_19 (n : Nat) (v_turn : Nat → Int32) (v_worstLeft : Nat → Nat → Int32) (x1 : Int32) (r1_1 : Int32) (kx19 : Int32 → Option (Int32)) : Nat → Int32 → Int32 → Int32 → Option (Int32)
  | 0, _, _, _ => none
  | k19 + 1, y19_3, y19_4, y19_5 => if (x1 + r1_1) ≤ y19_5 then kx19 y19_3 else bd1_ (f_X4_leftAtWorst n v_turn v_worstLeft y19_5) (fun (r30_7 : Int32) => lt_ ((if y19_4 ≤ r30_7 then y19_3 else y19_5) : Int32) (fun v49_10 => lt_ ((if y19_4 ≤ r30_7 then y19_4 else r30_7) : Int32) (fun v49_11 => L_X4_hourToWatch_19 n v_turn v_worstLeft x1 r1_1 kx19 k19 v49_10 v49_11 (y19_5 + 1))))
theorem L_X4_hourToWatch_19_s (n : Nat) (v_turn : Nat → Int32) (v_worstLeft : Nat → Nat → Int32) (x1 : Int32) (r1_1 : Int32) (kx19 : Int32 → Option (Int32)) (k19 : Nat) (y19_3 : Int32) (y19_4 : Int32) (y19_5 : Int32) : L_X4_hourToWatch_19 n v_turn v_worstLeft x1 r1_1 kx19 (k19 + 1) y19_3 y19_4 y19_5 = if (x1 + r1_1) ≤ y19_5 then kx19 y19_3 else bd1_ (f_X4_leftAtWorst n v_turn v_worstLeft y19_5) (fun (r30_7 : Int32) => lt_ ((if y19_4 ≤ r30_7 then y19_3 else y19_5) : Int32) (fun v49_10 => lt_ ((if y19_4 ≤ r30_7 then y19_4 else r30_7) : Int32) (fun v49_11 => L_X4_hourToWatch_19 n v_turn v_worstLeft x1 r1_1 kx19 k19 v49_10 v49_11 (y19_5 + 1)))) := rfl
def f_X4_hourToWatch (n : Nat) (v_turn : Nat → Int32) (v_worstLeft : Nat → Nat → Int32) (x1 : Int32) : Option (Int32) := bd1_ (f_X4_hoursOfRound n v_turn) (fun (r1_1 : Int32) => bd1_ (f_X4_leftAtWorst n v_turn v_worstLeft x1) (fun (r9_4 : Int32) => jn1_ (fun (z19_3 : Int32) => some z19_3) (fun kx19 => L_X4_hourToWatch_19 n v_turn v_worstLeft x1 r1_1 kx19 n x1 r9_4 (x1 + 1))))
set_option maxHeartbeats 4000000 in
set_option maxRecDepth 100000 in
theorem c_X4_hourToWatch (l : Launch) (dC : Nat → ClassId) (dI : Nat → Nat → Nat) (cI cZ cP cS : ClassId) (h_t h_t_red h_t_blue h_t_red_fitting h_t_red_worstLeft h_t_blue_fitting h_t_blue_worstLeft : Nat) (v_turn : Nat → Int32) (v_phase : Nat → Int32) (v_up : Nat → Int32) (v_worstLeft : Nat → Nat → Int32) (x1 : Int32) (n : Nat) (r : Int32) (hf : f_X4_hourToWatch n v_turn v_worstLeft x1 = some r) : Met l yX4_hourToWatch wsX4_hourToWatch rm_X4_hourToWatch (RO (dC, dI) (TY cI cZ cP cS) [.ref h_t, .int x1] (wd_X4_hourToWatch cI cZ cP cS h_t h_t_red h_t_blue h_t_red_fitting h_t_red_worstLeft h_t_blue_fitting h_t_blue_worstLeft v_turn v_phase v_up v_worstLeft)) (vp_Si (fun x => x = r)) 0 0 NF := by
  refine Met.ofW (cc := cX4_hourToWatch) (maxL := 7) (ret := (some .int)) (by decide) rfl ?_
  intro p e s m args below meth c s₁ B hml hv
  obtain ⟨rfl, hP, hK⟩ := hv
  have hx := B.exec
  have hb := B.bytes
  have hr := B.returns
  have hts := atoms_spec (ws := wsX4_hourToWatch) B.pre
  have hown : s.vm.findClass RX4 = some m.cls := findClass_of_methodNamed B.named
  have hlocks := B.notSynchronized
  have hl := lv_entry ([.ref h_t, .int x1]) (n := 7) (Nat.le_of_ble_eq_true rfl)
  rw [lg_entry_eq]
  generalize (lg_sl ([.ref h_t, .int x1]) ++ List.replicate (7 - (lg_sl ([.ref h_t, .int x1])).length) Slot.unset).toArray = ls at hl ⊢
  have hl : lv_has ls 7 [(0, .ref h_t), (1, .int x1)] := hl
  unfold f_X4_hourToWatch at hf
  refine lv_aload_n hx hb dX4_hourToWatch_0 rfl (lv_at hl 0 rfl) ?_
  obtain ⟨r1_1, hc_2, hf⟩ := bd1_e hf
  refine vp_callSi (va_runV (As := []) (rest := []) ⟨hx, hb, hml, hown, hts⟩ (c_X4_hoursOfRound l dC dI cI cZ cP cS h_t h_t_red h_t_blue h_t_red_fitting h_t_red_worstLeft h_t_blue_fitting h_t_blue_worstLeft v_turn v_phase v_up  n r1_1 hc_2) (cwV 0 hts gX4_hourToWatch_X4_hoursOfRound rfl rfl rfl (by decide +kernel) ⟨Nat.le_of_ble_eq_true rfl, Nat.le_of_ble_eq_true rfl⟩) (pv_ro (ci := 4) (q0 := 0) hK (hP.sub (ws' := (wd_X4_hoursOfRound cI cZ cP cS h_t h_t_red h_t_blue h_t_red_fitting h_t_red_worstLeft h_t_blue_fitting h_t_blue_worstLeft v_turn v_phase v_up)) [0, 1, 3] rfl) rfl rfl) rfl rfl hl.1 rfl (lv_room (Nat.le_of_ble_eq_true rfl)) dX4_hourToWatch_1 ⟨Nat.zero_le _, Nat.zero_le _⟩).run (fun x e_3 => ?_)
  rw [e_3]
  refine lv_istore_n (lv' := [(2, .int r1_1), (0, .ref h_t), (1, .int x1)]) hx hb dX4_hourToWatch_4 rfl hl (by decide) rfl (fun ls hl => ?_)
  refine lv_iload_n hx hb dX4_hourToWatch_5 rfl (lv_at hl 2 rfl) ?_
  refine lv_istore_n (lv' := [(3, .int x1), (2, .int r1_1), (0, .ref h_t), (1, .int x1)]) hx hb dX4_hourToWatch_6 rfl hl (by decide) rfl (fun ls hl => ?_)
  refine lv_aload_n hx hb dX4_hourToWatch_7 rfl (lv_at hl 2 rfl) ?_
  refine lv_iload_n hx hb dX4_hourToWatch_8 rfl (lv_at hl 3 rfl) ?_
  obtain ⟨r9_4, hc_5, hf⟩ := bd1_e hf
  refine vp_callSi (va_runV (As := [.int x1]) (rest := []) ⟨hx, hb, hml, hown, hts⟩ (c_X4_leftAtWorst l dC dI cI cZ cP cS h_t h_t_red h_t_blue h_t_red_fitting h_t_red_worstLeft h_t_blue_fitting h_t_blue_worstLeft v_turn v_phase v_up v_worstLeft x1 n r9_4 hc_5) (cwV 1 hts gX4_hourToWatch_X4_leftAtWorst rfl rfl rfl (by decide +kernel) ⟨Nat.le_of_ble_eq_true rfl, Nat.le_of_ble_eq_true rfl⟩) (pv_ro (ci := 4) (q0 := 0) hK (hP.sub (ws' := (wd_X4_leftAtWorst cI cZ cP cS h_t h_t_red h_t_blue h_t_red_fitting h_t_red_worstLeft h_t_blue_fitting h_t_blue_worstLeft v_turn v_phase v_up v_worstLeft)) [0, 1, 2, 3, 4] rfl) rfl rfl) rfl rfl hl.1 rfl (lv_room (Nat.le_of_ble_eq_true rfl)) dX4_hourToWatch_9 ⟨Nat.zero_le _, Nat.zero_le _⟩).run (fun x e_6 => ?_)
  rw [e_6]
  refine lv_istore (lv' := [(4, .int r9_4), (3, .int x1), (2, .int r1_1), (0, .ref h_t), (1, .int x1)]) hx hb dX4_hourToWatch_12 hl (by decide) rfl (fun ls hl => ?_)
  refine lv_iload_n hx hb dX4_hourToWatch_14 rfl (lv_at hl 4 rfl) ?_
  refine lv_iconst (v := 1) hx hb dX4_hourToWatch_15 (by decide) ?_
  refine lv_iadd hx hb dX4_hourToWatch_16 ?_
  refine lv_istore (lv' := [(5, .int (x1 + 1)), (4, .int r9_4), (3, .int x1), (2, .int r1_1), (0, .ref h_t), (1, .int x1)]) hx hb dX4_hourToWatch_17 hl (by decide) rfl (fun ls hl => ?_)
  obtain ⟨kx19, ekx19, hf⟩ := jn1_e hf
  have hx19 : ∀ (z19_3 : Int32) (ls : Array Slot), lv_has ls 7 [(3, .int z19_3)] → kx19 z19_3 = some r → W p l e (headSpec wsX4_hourToWatch rm_X4_hourToWatch).room s m ([.ref h_t, .int x1] : List Value).toArray below meth c s.heap [] 0 0 (MQ below (vp_Si (fun x => x = r)) ([.ref h_t, .int x1] : List Value).toArray s 0 0 NF) (F0 m 55 ls []) := by
    intro z19_3 ls hl hf
    rw [ekx19] at hf
    refine lv_iload_n hx hb dX4_hourToWatch_55 rfl (lv_at hl 0 rfl) ?_
    exact W.iret hx hb hr (fun t ht hW => ⟨_, rfl, Option.some.inj hf, ht⟩) (fun _ h => nomatch h) dX4_hourToWatch_56
  have hL19 : ∀ (k19 : Nat) (y19_3 : Int32) (y19_4 : Int32) (y19_5 : Int32) (ls : Array Slot), lv_has ls 7 [(0, .ref h_t), (1, .int x1), (2, .int r1_1), (3, .int y19_3), (4, .int y19_4), (5, .int y19_5)] → L_X4_hourToWatch_19 n v_turn v_worstLeft x1 r1_1 kx19 k19 y19_3 y19_4 y19_5 = some r → W p l e (headSpec wsX4_hourToWatch rm_X4_hourToWatch).room s m ([.ref h_t, .int x1] : List Value).toArray below meth c s.heap [] 0 0 (MQ below (vp_Si (fun x => x = r)) ([.ref h_t, .int x1] : List Value).toArray s 0 0 NF) (F0 m 19 ls []) := by
    intro k19
    induction k19 with
    | zero =>
      intro y19_3 y19_4 y19_5 ls hl hf
      exact absurd hf (fun h => Option.some_ne_none _ h.symm)
    | succ k19 ih =>
      intro y19_3 y19_4 y19_5 ls hl hf
      rw [L_X4_hourToWatch_19_s] at hf
      refine lv_iload hx hb dX4_hourToWatch_19 (lv_at hl 5 rfl) ?_
      refine lv_iload_n hx hb dX4_hourToWatch_21 rfl (lv_at hl 1 rfl) ?_
      refine lv_iload_n hx hb dX4_hourToWatch_22 rfl (lv_at hl 2 rfl) ?_
      refine lv_iadd hx hb dX4_hourToWatch_23 ?_
      refine lv_icmp_ge (tgt := 55) hx hb dX4_hourToWatch_24 (by decide) (fun c24 => ?_) (fun c24 => ?_)
      · rw [if_pos c24] at hf
        exact hx19 y19_3 ls (lv_sub hl [3] rfl) hf
      · rw [if_neg c24] at hf
        refine lv_aload_n hx hb dX4_hourToWatch_27 rfl (lv_at hl 0 rfl) ?_
        refine lv_iload hx hb dX4_hourToWatch_28 (lv_at hl 5 rfl) ?_
        obtain ⟨r30_7, hc_8, hf⟩ := bd1_e hf
        refine vp_callSi (va_runV (As := [.int y19_5]) (rest := []) ⟨hx, hb, hml, hown, hts⟩ (c_X4_leftAtWorst l dC dI cI cZ cP cS h_t h_t_red h_t_blue h_t_red_fitting h_t_red_worstLeft h_t_blue_fitting h_t_blue_worstLeft v_turn v_phase v_up v_worstLeft y19_5 n r30_7 hc_8) (cwV 1 hts gX4_hourToWatch_X4_leftAtWorst rfl rfl rfl (by decide +kernel) ⟨Nat.le_of_ble_eq_true rfl, Nat.le_of_ble_eq_true rfl⟩) (pv_ro (ci := 4) (q0 := 0) hK (hP.sub (ws' := (wd_X4_leftAtWorst cI cZ cP cS h_t h_t_red h_t_blue h_t_red_fitting h_t_red_worstLeft h_t_blue_fitting h_t_blue_worstLeft v_turn v_phase v_up v_worstLeft)) [0, 1, 2, 3, 4] rfl) rfl rfl) rfl rfl hl.1 rfl (lv_room (Nat.le_of_ble_eq_true rfl)) dX4_hourToWatch_30 ⟨Nat.zero_le _, Nat.zero_le _⟩).run (fun x e_9 => ?_)
        rw [e_9]
        refine lv_istore (lv' := [(6, .int r30_7), (0, .ref h_t), (1, .int x1), (2, .int r1_1), (3, .int y19_3), (4, .int y19_4), (5, .int y19_5)]) hx hb dX4_hourToWatch_33 hl (by decide) rfl (fun ls hl => ?_)
        refine lv_iload hx hb dX4_hourToWatch_35 (lv_at hl 0 rfl) ?_
        refine lv_iload hx hb dX4_hourToWatch_37 (lv_at hl 5 rfl) ?_
        obtain ⟨v49_10, ev49_10, hf⟩ := lt_e hf
        obtain ⟨v49_11, ev49_11, hf⟩ := lt_e hf
        have hj49_12 : ∀ (ls : Array Slot), lv_has ls 7 [(0, .ref h_t), (1, .int x1), (2, .int r1_1), (3, .int v49_10), (4, .int v49_11), (5, .int y19_5)] → W p l e (headSpec wsX4_hourToWatch rm_X4_hourToWatch).room s m ([.ref h_t, .int x1] : List Value).toArray below meth c s.heap [] 0 0 (MQ below (vp_Si (fun x => x = r)) ([.ref h_t, .int x1] : List Value).toArray s 0 0 NF) (F0 m 49 ls []) := by
          intro ls hl
          refine lv_iinc (v := (y19_5 + 1)) (lv' := [(5, .int (y19_5 + 1)), (0, .ref h_t), (1, .int x1), (2, .int r1_1), (3, .int v49_10), (4, .int v49_11)]) hx hb dX4_hourToWatch_49 hl (k := 5) rfl rfl (by decide) rfl (fun ls hl => ?_)
          refine lv_goto (tgt := 19) hx hb dX4_hourToWatch_52 (by decide) ?_
          exact ih v49_10 v49_11 (y19_5 + 1) ls (lv_sub hl [1, 2, 3, 4, 5, 0] rfl) hf
        clear hf
        refine lv_icmp_ge (tgt := 49) hx hb dX4_hourToWatch_39 (by decide) (fun c39 => ?_) (fun c39 => ?_)
        ·
          rw [if_pos c39] at ev49_10
          subst ev49_10
          rw [if_pos c39] at ev49_11
          subst ev49_11
          exact hj49_12 ls (lv_sub hl [1, 2, 3, 4, 5, 6] rfl)
        ·
          refine lv_iload hx hb dX4_hourToWatch_42 (lv_at hl 0 rfl) ?_
          refine lv_istore (lv' := [(4, .int r30_7), (6, .int r30_7), (0, .ref h_t), (1, .int x1), (2, .int r1_1), (3, .int y19_3), (5, .int y19_5)]) hx hb dX4_hourToWatch_44 hl (by decide) rfl (fun ls hl => ?_)
          refine lv_iload hx hb dX4_hourToWatch_46 (lv_at hl 6 rfl) ?_
          refine lv_istore_n (lv' := [(3, .int y19_5), (4, .int r30_7), (6, .int r30_7), (0, .ref h_t), (1, .int x1), (2, .int r1_1), (5, .int y19_5)]) hx hb dX4_hourToWatch_48 rfl hl (by decide) rfl (fun ls hl => ?_)
          rw [if_neg c39] at ev49_10
          subst ev49_10
          rw [if_neg c39] at ev49_11
          subst ev49_11
          exact hj49_12 ls (lv_sub hl [3, 4, 5, 0, 1, 6] rfl)
  exact hL19 n x1 r9_4 (x1 + 1) ls (lv_sub hl [4, 5, 3, 2, 1, 0] rfl) hf

abbrev wd_X4_hoursByDials (cI cZ cP cS : ClassId) (h_t h_t_red h_t_blue h_t_red_fitting h_t_red_worstLeft h_t_blue_fitting h_t_blue_worstLeft : Nat) (v_turn : Nat → Int32) (v_phase : Nat → Int32) (v_up : Nat → Int32) : va_W := [(h_t, .inr (4, [.ref h_t_red, .ref h_t_blue])), (h_t_red, .inr (5, [.int (v_turn 0), .int (v_phase 0), .int (v_up 0), .ref h_t_red_fitting, .ref h_t_red_worstLeft])), (h_t_blue, .inr (5, [.int (v_turn 1), .int (v_phase 1), .int (v_up 1), .ref h_t_blue_fitting, .ref h_t_blue_worstLeft]))]
abbrev rm_X4_hoursByDials : Room := { frames := 3, cells := 0, slots := 0, locals := 66 }
def L_X4_hoursByDials_11 (n : Nat) (v_turn : Nat → Int32) (v_phase : Nat → Int32) (v_up : Nat → Int32) (x1 : Int32) (x2 : Int32) (r1_1 : Int32) (kx11 : Int32 → Option (Int32)) : Nat → Int32 → Int32 → Option (Int32)
  | 0, _, _ => none
  | k11 + 1, y11_4, y11_5 => if r1_1 ≤ y11_5 then kx11 y11_4 else bd1_ (f_X4_dialsShow n v_turn v_phase v_up x1 x2 y11_5) (fun (r22_4 : Int32) => lt_ ((if r22_4 = 0 then y11_4 else (y11_4 + 1)) : Int32) (fun v31_8 => L_X4_hoursByDials_11 n v_turn v_phase v_up x1 x2 r1_1 kx11 k11 v31_8 (y11_5 + 1)))
theorem L_X4_hoursByDials_11_s (n : Nat) (v_turn : Nat → Int32) (v_phase : Nat → Int32) (v_up : Nat → Int32) (x1 : Int32) (x2 : Int32) (r1_1 : Int32) (kx11 : Int32 → Option (Int32)) (k11 : Nat) (y11_4 : Int32) (y11_5 : Int32) : L_X4_hoursByDials_11 n v_turn v_phase v_up x1 x2 r1_1 kx11 (k11 + 1) y11_4 y11_5 = if r1_1 ≤ y11_5 then kx11 y11_4 else bd1_ (f_X4_dialsShow n v_turn v_phase v_up x1 x2 y11_5) (fun (r22_4 : Int32) => lt_ ((if r22_4 = 0 then y11_4 else (y11_4 + 1)) : Int32) (fun v31_8 => L_X4_hoursByDials_11 n v_turn v_phase v_up x1 x2 r1_1 kx11 k11 v31_8 (y11_5 + 1))) := rfl
def f_X4_hoursByDials (n : Nat) (v_turn : Nat → Int32) (v_phase : Nat → Int32) (v_up : Nat → Int32) (x1 : Int32) (x2 : Int32) : Option (Int32) := bd1_ (f_X4_hoursOfRound n v_turn) (fun (r1_1 : Int32) => jn1_ (fun (z11_4 : Int32) => some z11_4) (fun kx11 => L_X4_hoursByDials_11 n v_turn v_phase v_up x1 x2 r1_1 kx11 n 0 0))
set_option maxHeartbeats 4000000 in
set_option maxRecDepth 100000 in
theorem c_X4_hoursByDials (l : Launch) (dC : Nat → ClassId) (dI : Nat → Nat → Nat) (cI cZ cP cS : ClassId) (h_t h_t_red h_t_blue h_t_red_fitting h_t_red_worstLeft h_t_blue_fitting h_t_blue_worstLeft : Nat) (v_turn : Nat → Int32) (v_phase : Nat → Int32) (v_up : Nat → Int32) (x1 : Int32) (x2 : Int32) (n : Nat) (r : Int32) (hf : f_X4_hoursByDials n v_turn v_phase v_up x1 x2 = some r) : Met l yX4_hoursByDials wsX4_hoursByDials rm_X4_hoursByDials (RO (dC, dI) (TY cI cZ cP cS) [.ref h_t, .int x1, .int x2] (wd_X4_hoursByDials cI cZ cP cS h_t h_t_red h_t_blue h_t_red_fitting h_t_red_worstLeft h_t_blue_fitting h_t_blue_worstLeft v_turn v_phase v_up)) (vp_Si (fun x => x = r)) 0 0 NF := by
  refine Met.ofW (cc := cX4_hoursByDials) (maxL := 6) (ret := (some .int)) (by decide) rfl ?_
  intro p e s m args below meth c s₁ B hml hv
  obtain ⟨rfl, hP, hK⟩ := hv
  have hx := B.exec
  have hb := B.bytes
  have hr := B.returns
  have hts := atoms_spec (ws := wsX4_hoursByDials) B.pre
  have hown : s.vm.findClass RX4 = some m.cls := findClass_of_methodNamed B.named
  have hlocks := B.notSynchronized
  have hl := lv_entry ([.ref h_t, .int x1, .int x2]) (n := 6) (Nat.le_of_ble_eq_true rfl)
  rw [lg_entry_eq]
  generalize (lg_sl ([.ref h_t, .int x1, .int x2]) ++ List.replicate (6 - (lg_sl ([.ref h_t, .int x1, .int x2])).length) Slot.unset).toArray = ls at hl ⊢
  have hl : lv_has ls 6 [(0, .ref h_t), (1, .int x1), (2, .int x2)] := hl
  unfold f_X4_hoursByDials at hf
  refine lv_aload_n hx hb dX4_hoursByDials_0 rfl (lv_at hl 0 rfl) ?_
  obtain ⟨r1_1, hc_2, hf⟩ := bd1_e hf
  refine vp_callSi (va_runV (As := []) (rest := []) ⟨hx, hb, hml, hown, hts⟩ (c_X4_hoursOfRound l dC dI cI cZ cP cS h_t h_t_red h_t_blue h_t_red_fitting h_t_red_worstLeft h_t_blue_fitting h_t_blue_worstLeft v_turn v_phase v_up  n r1_1 hc_2) (cwV 0 hts gX4_hoursByDials_X4_hoursOfRound rfl rfl rfl (by decide +kernel) ⟨Nat.le_of_ble_eq_true rfl, Nat.le_of_ble_eq_true rfl⟩) (pv_ro (ci := 4) (q0 := 0) hK (hP.sub (ws' := (wd_X4_hoursOfRound cI cZ cP cS h_t h_t_red h_t_blue h_t_red_fitting h_t_red_worstLeft h_t_blue_fitting h_t_blue_worstLeft v_turn v_phase v_up)) [0, 1, 2] rfl) rfl rfl) rfl rfl hl.1 rfl (lv_room (Nat.le_of_ble_eq_true rfl)) dX4_hoursByDials_1 ⟨Nat.zero_le _, Nat.zero_le _⟩).run (fun x e_3 => ?_)
  rw [e_3]
  refine lv_istore_n (lv' := [(3, .int r1_1), (0, .ref h_t), (1, .int x1), (2, .int x2)]) hx hb dX4_hoursByDials_4 rfl hl (by decide) rfl (fun ls hl => ?_)
  refine lv_iconst (v := 0) hx hb dX4_hoursByDials_5 (by decide) ?_
  refine lv_istore (lv' := [(4, .int 0), (3, .int r1_1), (0, .ref h_t), (1, .int x1), (2, .int x2)]) hx hb dX4_hoursByDials_6 hl (by decide) rfl (fun ls hl => ?_)
  refine lv_iconst (v := 0) hx hb dX4_hoursByDials_8 (by decide) ?_
  refine lv_istore (lv' := [(5, .int 0), (4, .int 0), (3, .int r1_1), (0, .ref h_t), (1, .int x1), (2, .int x2)]) hx hb dX4_hoursByDials_9 hl (by decide) rfl (fun ls hl => ?_)
  obtain ⟨kx11, ekx11, hf⟩ := jn1_e hf
  have hx11 : ∀ (z11_4 : Int32) (ls : Array Slot), lv_has ls 6 [(4, .int z11_4)] → kx11 z11_4 = some r → W p l e (headSpec wsX4_hoursByDials rm_X4_hoursByDials).room s m ([.ref h_t, .int x1, .int x2] : List Value).toArray below meth c s.heap [] 0 0 (MQ below (vp_Si (fun x => x = r)) ([.ref h_t, .int x1, .int x2] : List Value).toArray s 0 0 NF) (F0 m 37 ls []) := by
    intro z11_4 ls hl hf
    rw [ekx11] at hf
    refine lv_iload hx hb dX4_hoursByDials_37 (lv_at hl 0 rfl) ?_
    exact W.iret hx hb hr (fun t ht hW => ⟨_, rfl, Option.some.inj hf, ht⟩) (fun _ h => nomatch h) dX4_hoursByDials_39
  have hL11 : ∀ (k11 : Nat) (y11_4 : Int32) (y11_5 : Int32) (ls : Array Slot), lv_has ls 6 [(0, .ref h_t), (1, .int x1), (2, .int x2), (3, .int r1_1), (4, .int y11_4), (5, .int y11_5)] → L_X4_hoursByDials_11 n v_turn v_phase v_up x1 x2 r1_1 kx11 k11 y11_4 y11_5 = some r → W p l e (headSpec wsX4_hoursByDials rm_X4_hoursByDials).room s m ([.ref h_t, .int x1, .int x2] : List Value).toArray below meth c s.heap [] 0 0 (MQ below (vp_Si (fun x => x = r)) ([.ref h_t, .int x1, .int x2] : List Value).toArray s 0 0 NF) (F0 m 11 ls []) := by
    intro k11
    induction k11 with
    | zero =>
      intro y11_4 y11_5 ls hl hf
      exact absurd hf (fun h => Option.some_ne_none _ h.symm)
    | succ k11 ih =>
      intro y11_4 y11_5 ls hl hf
      rw [L_X4_hoursByDials_11_s] at hf
      refine lv_iload hx hb dX4_hoursByDials_11 (lv_at hl 5 rfl) ?_
      refine lv_iload_n hx hb dX4_hoursByDials_13 rfl (lv_at hl 3 rfl) ?_
      refine lv_icmp_ge (tgt := 37) hx hb dX4_hoursByDials_14 (by decide) (fun c14 => ?_) (fun c14 => ?_)
      · rw [if_pos c14] at hf
        exact hx11 y11_4 ls (lv_sub hl [4] rfl) hf
      · rw [if_neg c14] at hf
        refine lv_aload_n hx hb dX4_hoursByDials_17 rfl (lv_at hl 0 rfl) ?_
        refine lv_iload_n hx hb dX4_hoursByDials_18 rfl (lv_at hl 1 rfl) ?_
        refine lv_iload_n hx hb dX4_hoursByDials_19 rfl (lv_at hl 2 rfl) ?_
        refine lv_iload hx hb dX4_hoursByDials_20 (lv_at hl 5 rfl) ?_
        obtain ⟨r22_4, hc_5, hf⟩ := bd1_e hf
        refine vp_callSi (va_runV (As := [.int x1, .int x2, .int y11_5]) (rest := []) ⟨hx, hb, hml, hown, hts⟩ (c_X4_dialsShow l dC dI cI cZ cP cS h_t h_t_red h_t_blue h_t_red_fitting h_t_red_worstLeft h_t_blue_fitting h_t_blue_worstLeft v_turn v_phase v_up x1 x2 y11_5 n r22_4 hc_5) (cwV 3 hts gX4_hoursByDials_X4_dialsShow rfl rfl rfl (by decide +kernel) ⟨Nat.le_of_ble_eq_true rfl, Nat.le_of_ble_eq_true rfl⟩) (pv_ro (ci := 4) (q0 := 0) hK (hP.sub (ws' := (wd_X4_dialsShow cI cZ cP cS h_t h_t_red h_t_blue h_t_red_fitting h_t_red_worstLeft h_t_blue_fitting h_t_blue_worstLeft v_turn v_phase v_up)) [0, 1, 2] rfl) rfl rfl) rfl rfl hl.1 rfl (lv_room (Nat.le_of_ble_eq_true rfl)) dX4_hoursByDials_22 ⟨Nat.zero_le _, Nat.zero_le _⟩).run (fun x e_6 => ?_)
        obtain ⟨e_6, hb_7⟩ := e_6
        rw [e_6] at hb_7 ⊢
        obtain ⟨v31_8, ev31_8, hf⟩ := lt_e hf
        have hj31_9 : ∀ (ls : Array Slot), lv_has ls 6 [(0, .ref h_t), (1, .int x1), (2, .int x2), (3, .int r1_1), (4, .int v31_8), (5, .int y11_5)] → W p l e (headSpec wsX4_hoursByDials rm_X4_hoursByDials).room s m ([.ref h_t, .int x1, .int x2] : List Value).toArray below meth c s.heap [] 0 0 (MQ below (vp_Si (fun x => x = r)) ([.ref h_t, .int x1, .int x2] : List Value).toArray s 0 0 NF) (F0 m 31 ls []) := by
          intro ls hl
          refine lv_iinc (v := (y11_5 + 1)) (lv' := [(5, .int (y11_5 + 1)), (0, .ref h_t), (1, .int x1), (2, .int x2), (3, .int r1_1), (4, .int v31_8)]) hx hb dX4_hoursByDials_31 hl (k := 5) rfl rfl (by decide) rfl (fun ls hl => ?_)
          refine lv_goto (tgt := 11) hx hb dX4_hoursByDials_34 (by decide) ?_
          exact ih v31_8 (y11_5 + 1) ls (lv_sub hl [1, 2, 3, 4, 5, 0] rfl) hf
        clear hf
        refine lv_if_eq (tgt := 31) hx hb dX4_hoursByDials_25 (by decide) (fun c25 => ?_) (fun c25 => ?_)
        ·
          rw [if_pos c25] at ev31_8
          subst ev31_8
          exact hj31_9 ls (lv_sub hl [0, 1, 2, 3, 4, 5] rfl)
        ·
          refine lv_iinc (v := (y11_4 + 1)) (lv' := [(4, .int (y11_4 + 1)), (0, .ref h_t), (1, .int x1), (2, .int x2), (3, .int r1_1), (5, .int y11_5)]) hx hb dX4_hoursByDials_28 hl (k := 4) rfl rfl (by decide) rfl (fun ls hl => ?_)
          rw [if_neg c25] at ev31_8
          subst ev31_8
          exact hj31_9 ls (lv_sub hl [1, 2, 3, 4, 0, 5] rfl)
  exact hL11 n 0 0 ls (lv_sub hl [3, 4, 5, 2, 1, 0] rfl) hf

abbrev wd_X4_hoursWith (cI cZ cP cS : ClassId) (h_t h_t_red h_t_blue h_t_red_fitting h_t_red_worstLeft h_t_blue_fitting h_t_blue_worstLeft : Nat) (v_turn : Nat → Int32) (v_phase : Nat → Int32) (v_up : Nat → Int32) : va_W := [(h_t, .inr (4, [.ref h_t_red, .ref h_t_blue])), (h_t_red, .inr (5, [.int (v_turn 0), .int (v_phase 0), .int (v_up 0), .ref h_t_red_fitting, .ref h_t_red_worstLeft])), (h_t_blue, .inr (5, [.int (v_turn 1), .int (v_phase 1), .int (v_up 1), .ref h_t_blue_fitting, .ref h_t_blue_worstLeft]))]
abbrev rm_X4_hoursWith : Room := { frames := 2, cells := 0, slots := 0, locals := 42 }
def L_X4_hoursWith_10 (n : Nat) (v_turn : Nat → Int32) (v_phase : Nat → Int32) (v_up : Nat → Int32) (x1 : Int32) (r1_1 : Int32) (kx10 : Int32 → Option (Int32)) : Nat → Int32 → Int32 → Option (Int32)
  | 0, _, _ => none
  | k10 + 1, y10_3, y10_4 => if r1_1 ≤ y10_4 then kx10 y10_3 else bd1_ (f_X4_lightIn n v_turn v_phase v_up y10_4) (fun (r19_4 : Int32) => lt_ ((if r19_4 = x1 then (y10_3 + 1) else y10_3) : Int32) (fun v29_7 => L_X4_hoursWith_10 n v_turn v_phase v_up x1 r1_1 kx10 k10 v29_7 (y10_4 + 1)))
theorem L_X4_hoursWith_10_s (n : Nat) (v_turn : Nat → Int32) (v_phase : Nat → Int32) (v_up : Nat → Int32) (x1 : Int32) (r1_1 : Int32) (kx10 : Int32 → Option (Int32)) (k10 : Nat) (y10_3 : Int32) (y10_4 : Int32) : L_X4_hoursWith_10 n v_turn v_phase v_up x1 r1_1 kx10 (k10 + 1) y10_3 y10_4 = if r1_1 ≤ y10_4 then kx10 y10_3 else bd1_ (f_X4_lightIn n v_turn v_phase v_up y10_4) (fun (r19_4 : Int32) => lt_ ((if r19_4 = x1 then (y10_3 + 1) else y10_3) : Int32) (fun v29_7 => L_X4_hoursWith_10 n v_turn v_phase v_up x1 r1_1 kx10 k10 v29_7 (y10_4 + 1))) := rfl
def f_X4_hoursWith (n : Nat) (v_turn : Nat → Int32) (v_phase : Nat → Int32) (v_up : Nat → Int32) (x1 : Int32) : Option (Int32) := bd1_ (f_X4_hoursOfRound n v_turn) (fun (r1_1 : Int32) => jn1_ (fun (z10_3 : Int32) => some z10_3) (fun kx10 => L_X4_hoursWith_10 n v_turn v_phase v_up x1 r1_1 kx10 n 0 0))
set_option maxHeartbeats 4000000 in
set_option maxRecDepth 100000 in
theorem c_X4_hoursWith (l : Launch) (dC : Nat → ClassId) (dI : Nat → Nat → Nat) (cI cZ cP cS : ClassId) (h_t h_t_red h_t_blue h_t_red_fitting h_t_red_worstLeft h_t_blue_fitting h_t_blue_worstLeft : Nat) (v_turn : Nat → Int32) (v_phase : Nat → Int32) (v_up : Nat → Int32) (x1 : Int32) (n : Nat) (r : Int32) (hf : f_X4_hoursWith n v_turn v_phase v_up x1 = some r) : Met l yX4_hoursWith wsX4_hoursWith rm_X4_hoursWith (RO (dC, dI) (TY cI cZ cP cS) [.ref h_t, .int x1] (wd_X4_hoursWith cI cZ cP cS h_t h_t_red h_t_blue h_t_red_fitting h_t_red_worstLeft h_t_blue_fitting h_t_blue_worstLeft v_turn v_phase v_up)) (vp_Si (fun x => x = r)) 0 0 NF := by
  refine Met.ofW (cc := cX4_hoursWith) (maxL := 5) (ret := (some .int)) (by decide) rfl ?_
  intro p e s m args below meth c s₁ B hml hv
  obtain ⟨rfl, hP, hK⟩ := hv
  have hx := B.exec
  have hb := B.bytes
  have hr := B.returns
  have hts := atoms_spec (ws := wsX4_hoursWith) B.pre
  have hown : s.vm.findClass RX4 = some m.cls := findClass_of_methodNamed B.named
  have hlocks := B.notSynchronized
  have hl := lv_entry ([.ref h_t, .int x1]) (n := 5) (Nat.le_of_ble_eq_true rfl)
  rw [lg_entry_eq]
  generalize (lg_sl ([.ref h_t, .int x1]) ++ List.replicate (5 - (lg_sl ([.ref h_t, .int x1])).length) Slot.unset).toArray = ls at hl ⊢
  have hl : lv_has ls 5 [(0, .ref h_t), (1, .int x1)] := hl
  unfold f_X4_hoursWith at hf
  refine lv_aload_n hx hb dX4_hoursWith_0 rfl (lv_at hl 0 rfl) ?_
  obtain ⟨r1_1, hc_2, hf⟩ := bd1_e hf
  refine vp_callSi (va_runV (As := []) (rest := []) ⟨hx, hb, hml, hown, hts⟩ (c_X4_hoursOfRound l dC dI cI cZ cP cS h_t h_t_red h_t_blue h_t_red_fitting h_t_red_worstLeft h_t_blue_fitting h_t_blue_worstLeft v_turn v_phase v_up  n r1_1 hc_2) (cwV 0 hts gX4_hoursWith_X4_hoursOfRound rfl rfl rfl (by decide +kernel) ⟨Nat.le_of_ble_eq_true rfl, Nat.le_of_ble_eq_true rfl⟩) (pv_ro (ci := 4) (q0 := 0) hK (hP.sub (ws' := (wd_X4_hoursOfRound cI cZ cP cS h_t h_t_red h_t_blue h_t_red_fitting h_t_red_worstLeft h_t_blue_fitting h_t_blue_worstLeft v_turn v_phase v_up)) [0, 1, 2] rfl) rfl rfl) rfl rfl hl.1 rfl (lv_room (Nat.le_of_ble_eq_true rfl)) dX4_hoursWith_1 ⟨Nat.zero_le _, Nat.zero_le _⟩).run (fun x e_3 => ?_)
  rw [e_3]
  refine lv_istore_n (lv' := [(2, .int r1_1), (0, .ref h_t), (1, .int x1)]) hx hb dX4_hoursWith_4 rfl hl (by decide) rfl (fun ls hl => ?_)
  refine lv_iconst (v := 0) hx hb dX4_hoursWith_5 (by decide) ?_
  refine lv_istore_n (lv' := [(3, .int 0), (2, .int r1_1), (0, .ref h_t), (1, .int x1)]) hx hb dX4_hoursWith_6 rfl hl (by decide) rfl (fun ls hl => ?_)
  refine lv_iconst (v := 0) hx hb dX4_hoursWith_7 (by decide) ?_
  refine lv_istore (lv' := [(4, .int 0), (3, .int 0), (2, .int r1_1), (0, .ref h_t), (1, .int x1)]) hx hb dX4_hoursWith_8 hl (by decide) rfl (fun ls hl => ?_)
  obtain ⟨kx10, ekx10, hf⟩ := jn1_e hf
  have hx10 : ∀ (z10_3 : Int32) (ls : Array Slot), lv_has ls 5 [(3, .int z10_3)] → kx10 z10_3 = some r → W p l e (headSpec wsX4_hoursWith rm_X4_hoursWith).room s m ([.ref h_t, .int x1] : List Value).toArray below meth c s.heap [] 0 0 (MQ below (vp_Si (fun x => x = r)) ([.ref h_t, .int x1] : List Value).toArray s 0 0 NF) (F0 m 35 ls []) := by
    intro z10_3 ls hl hf
    rw [ekx10] at hf
    refine lv_iload_n hx hb dX4_hoursWith_35 rfl (lv_at hl 0 rfl) ?_
    exact W.iret hx hb hr (fun t ht hW => ⟨_, rfl, Option.some.inj hf, ht⟩) (fun _ h => nomatch h) dX4_hoursWith_36
  have hL10 : ∀ (k10 : Nat) (y10_3 : Int32) (y10_4 : Int32) (ls : Array Slot), lv_has ls 5 [(0, .ref h_t), (1, .int x1), (2, .int r1_1), (3, .int y10_3), (4, .int y10_4)] → L_X4_hoursWith_10 n v_turn v_phase v_up x1 r1_1 kx10 k10 y10_3 y10_4 = some r → W p l e (headSpec wsX4_hoursWith rm_X4_hoursWith).room s m ([.ref h_t, .int x1] : List Value).toArray below meth c s.heap [] 0 0 (MQ below (vp_Si (fun x => x = r)) ([.ref h_t, .int x1] : List Value).toArray s 0 0 NF) (F0 m 10 ls []) := by
    intro k10
    induction k10 with
    | zero =>
      intro y10_3 y10_4 ls hl hf
      exact absurd hf (fun h => Option.some_ne_none _ h.symm)
    | succ k10 ih =>
      intro y10_3 y10_4 ls hl hf
      rw [L_X4_hoursWith_10_s] at hf
      refine lv_iload hx hb dX4_hoursWith_10 (lv_at hl 4 rfl) ?_
      refine lv_iload_n hx hb dX4_hoursWith_12 rfl (lv_at hl 2 rfl) ?_
      refine lv_icmp_ge (tgt := 35) hx hb dX4_hoursWith_13 (by decide) (fun c13 => ?_) (fun c13 => ?_)
      · rw [if_pos c13] at hf
        exact hx10 y10_3 ls (lv_sub hl [3] rfl) hf
      · rw [if_neg c13] at hf
        refine lv_aload_n hx hb dX4_hoursWith_16 rfl (lv_at hl 0 rfl) ?_
        refine lv_iload hx hb dX4_hoursWith_17 (lv_at hl 4 rfl) ?_
        obtain ⟨r19_4, hc_5, hf⟩ := bd1_e hf
        refine vp_callSi (va_runV (As := [.int y10_4]) (rest := []) ⟨hx, hb, hml, hown, hts⟩ (c_X4_lightIn l dC dI cI cZ cP cS h_t h_t_red h_t_blue h_t_red_fitting h_t_red_worstLeft h_t_blue_fitting h_t_blue_worstLeft v_turn v_phase v_up y10_4 n r19_4 hc_5) (cwV 1 hts gX4_hoursWith_X4_lightIn rfl rfl rfl (by decide +kernel) ⟨Nat.le_of_ble_eq_true rfl, Nat.le_of_ble_eq_true rfl⟩) (pv_ro (ci := 4) (q0 := 0) hK (hP.sub (ws' := (wd_X4_lightIn cI cZ cP cS h_t h_t_red h_t_blue h_t_red_fitting h_t_red_worstLeft h_t_blue_fitting h_t_blue_worstLeft v_turn v_phase v_up)) [0, 1, 2] rfl) rfl rfl) rfl rfl hl.1 rfl (lv_room (Nat.le_of_ble_eq_true rfl)) dX4_hoursWith_19 ⟨Nat.zero_le _, Nat.zero_le _⟩).run (fun x e_6 => ?_)
        rw [e_6]
        refine lv_iload_n hx hb dX4_hoursWith_22 rfl (lv_at hl 1 rfl) ?_
        obtain ⟨v29_7, ev29_7, hf⟩ := lt_e hf
        have hj29_8 : ∀ (ls : Array Slot), lv_has ls 5 [(0, .ref h_t), (1, .int x1), (2, .int r1_1), (3, .int v29_7), (4, .int y10_4)] → W p l e (headSpec wsX4_hoursWith rm_X4_hoursWith).room s m ([.ref h_t, .int x1] : List Value).toArray below meth c s.heap [] 0 0 (MQ below (vp_Si (fun x => x = r)) ([.ref h_t, .int x1] : List Value).toArray s 0 0 NF) (F0 m 29 ls []) := by
          intro ls hl
          refine lv_iinc (v := (y10_4 + 1)) (lv' := [(4, .int (y10_4 + 1)), (0, .ref h_t), (1, .int x1), (2, .int r1_1), (3, .int v29_7)]) hx hb dX4_hoursWith_29 hl (k := 4) rfl rfl (by decide) rfl (fun ls hl => ?_)
          refine lv_goto (tgt := 10) hx hb dX4_hoursWith_32 (by decide) ?_
          exact ih v29_7 (y10_4 + 1) ls (lv_sub hl [1, 2, 3, 4, 0] rfl) hf
        clear hf
        refine lv_icmp_ne (tgt := 29) hx hb dX4_hoursWith_23 (by decide) (fun c23 => ?_) (fun c23 => ?_)
        ·
          rw [if_neg c23] at ev29_7
          subst ev29_7
          exact hj29_8 ls (lv_sub hl [0, 1, 2, 3, 4] rfl)
        ·
          refine lv_iinc (v := (y10_3 + 1)) (lv' := [(3, .int (y10_3 + 1)), (0, .ref h_t), (1, .int x1), (2, .int r1_1), (4, .int y10_4)]) hx hb dX4_hoursWith_26 hl (k := 3) rfl rfl (by decide) rfl (fun ls hl => ?_)
          rw [if_pos c23] at ev29_7
          subst ev29_7
          exact hj29_8 ls (lv_sub hl [1, 2, 3, 0, 4] rfl)
  exact hL10 n 0 0 ls (lv_sub hl [3, 4, 2, 1, 0] rfl) hf

abbrev wd_X4_longestRowOf (cI cZ cP cS : ClassId) (h_t h_t_red h_t_blue h_t_red_fitting h_t_red_worstLeft h_t_blue_fitting h_t_blue_worstLeft : Nat) (v_turn : Nat → Int32) (v_phase : Nat → Int32) (v_up : Nat → Int32) : va_W := [(h_t, .inr (4, [.ref h_t_red, .ref h_t_blue])), (h_t_red, .inr (5, [.int (v_turn 0), .int (v_phase 0), .int (v_up 0), .ref h_t_red_fitting, .ref h_t_red_worstLeft])), (h_t_blue, .inr (5, [.int (v_turn 1), .int (v_phase 1), .int (v_up 1), .ref h_t_blue_fitting, .ref h_t_blue_worstLeft]))]
abbrev rm_X4_longestRowOf : Room := { frames := 2, cells := 0, slots := 0, locals := 42 }
def L_X4_longestRowOf_13 (n : Nat) (v_turn : Nat → Int32) (v_phase : Nat → Int32) (v_up : Nat → Int32) (x1 : Int32) (r1_1 : Int32) (kx13 : Int32 → Option (Int32)) : Nat → Int32 → Int32 → Int32 → Option (Int32)
  | 0, _, _, _ => none
  | k13 + 1, y13_3, y13_4, y13_5 => if (2 * r1_1) ≤ y13_5 then kx13 y13_3 else bd1_ (f_X4_lightIn n v_turn v_phase v_up y13_5) (fun (r24_4 : Int32) => lt_ ((if r24_4 = x1 then (y13_4 + 1) else 0) : Int32) (fun v39_7 => L_X4_longestRowOf_13 n v_turn v_phase v_up x1 r1_1 kx13 k13 (if y13_3 < v39_7 then v39_7 else y13_3) v39_7 (y13_5 + 1)))
theorem L_X4_longestRowOf_13_s (n : Nat) (v_turn : Nat → Int32) (v_phase : Nat → Int32) (v_up : Nat → Int32) (x1 : Int32) (r1_1 : Int32) (kx13 : Int32 → Option (Int32)) (k13 : Nat) (y13_3 : Int32) (y13_4 : Int32) (y13_5 : Int32) : L_X4_longestRowOf_13 n v_turn v_phase v_up x1 r1_1 kx13 (k13 + 1) y13_3 y13_4 y13_5 = if (2 * r1_1) ≤ y13_5 then kx13 y13_3 else bd1_ (f_X4_lightIn n v_turn v_phase v_up y13_5) (fun (r24_4 : Int32) => lt_ ((if r24_4 = x1 then (y13_4 + 1) else 0) : Int32) (fun v39_7 => L_X4_longestRowOf_13 n v_turn v_phase v_up x1 r1_1 kx13 k13 (if y13_3 < v39_7 then v39_7 else y13_3) v39_7 (y13_5 + 1))) := rfl
def f_X4_longestRowOf (n : Nat) (v_turn : Nat → Int32) (v_phase : Nat → Int32) (v_up : Nat → Int32) (x1 : Int32) : Option (Int32) := bd1_ (f_X4_hoursOfRound n v_turn) (fun (r1_1 : Int32) => jn1_ (fun (z13_3 : Int32) => some (if r1_1 < z13_3 then r1_1 else z13_3)) (fun kx13 => L_X4_longestRowOf_13 n v_turn v_phase v_up x1 r1_1 kx13 n 0 0 0))
set_option maxHeartbeats 4000000 in
set_option maxRecDepth 100000 in
theorem c_X4_longestRowOf (l : Launch) (dC : Nat → ClassId) (dI : Nat → Nat → Nat) (cI cZ cP cS : ClassId) (h_t h_t_red h_t_blue h_t_red_fitting h_t_red_worstLeft h_t_blue_fitting h_t_blue_worstLeft : Nat) (v_turn : Nat → Int32) (v_phase : Nat → Int32) (v_up : Nat → Int32) (x1 : Int32) (n : Nat) (r : Int32) (hf : f_X4_longestRowOf n v_turn v_phase v_up x1 = some r) : Met l yX4_longestRowOf wsX4_longestRowOf rm_X4_longestRowOf (RO (dC, dI) (TY cI cZ cP cS) [.ref h_t, .int x1] (wd_X4_longestRowOf cI cZ cP cS h_t h_t_red h_t_blue h_t_red_fitting h_t_red_worstLeft h_t_blue_fitting h_t_blue_worstLeft v_turn v_phase v_up)) (vp_Si (fun x => x = r)) 0 0 NF := by
  refine Met.ofW (cc := cX4_longestRowOf) (maxL := 6) (ret := (some .int)) (by decide) rfl ?_
  intro p e s m args below meth c s₁ B hml hv
  obtain ⟨rfl, hP, hK⟩ := hv
  have hx := B.exec
  have hb := B.bytes
  have hr := B.returns
  have hts := atoms_spec (ws := wsX4_longestRowOf) B.pre
  have hown : s.vm.findClass RX4 = some m.cls := findClass_of_methodNamed B.named
  have hlocks := B.notSynchronized
  have hl := lv_entry ([.ref h_t, .int x1]) (n := 6) (Nat.le_of_ble_eq_true rfl)
  rw [lg_entry_eq]
  generalize (lg_sl ([.ref h_t, .int x1]) ++ List.replicate (6 - (lg_sl ([.ref h_t, .int x1])).length) Slot.unset).toArray = ls at hl ⊢
  have hl : lv_has ls 6 [(0, .ref h_t), (1, .int x1)] := hl
  unfold f_X4_longestRowOf at hf
  refine lv_aload_n hx hb dX4_longestRowOf_0 rfl (lv_at hl 0 rfl) ?_
  obtain ⟨r1_1, hc_2, hf⟩ := bd1_e hf
  refine vp_callSi (va_runV (As := []) (rest := []) ⟨hx, hb, hml, hown, hts⟩ (c_X4_hoursOfRound l dC dI cI cZ cP cS h_t h_t_red h_t_blue h_t_red_fitting h_t_red_worstLeft h_t_blue_fitting h_t_blue_worstLeft v_turn v_phase v_up  n r1_1 hc_2) (cwV 0 hts gX4_longestRowOf_X4_hoursOfRound rfl rfl rfl (by decide +kernel) ⟨Nat.le_of_ble_eq_true rfl, Nat.le_of_ble_eq_true rfl⟩) (pv_ro (ci := 4) (q0 := 0) hK (hP.sub (ws' := (wd_X4_hoursOfRound cI cZ cP cS h_t h_t_red h_t_blue h_t_red_fitting h_t_red_worstLeft h_t_blue_fitting h_t_blue_worstLeft v_turn v_phase v_up)) [0, 1, 2] rfl) rfl rfl) rfl rfl hl.1 rfl (lv_room (Nat.le_of_ble_eq_true rfl)) dX4_longestRowOf_1 ⟨Nat.zero_le _, Nat.zero_le _⟩).run (fun x e_3 => ?_)
  rw [e_3]
  refine lv_istore_n (lv' := [(2, .int r1_1), (0, .ref h_t), (1, .int x1)]) hx hb dX4_longestRowOf_4 rfl hl (by decide) rfl (fun ls hl => ?_)
  refine lv_iconst (v := 0) hx hb dX4_longestRowOf_5 (by decide) ?_
  refine lv_istore_n (lv' := [(3, .int 0), (2, .int r1_1), (0, .ref h_t), (1, .int x1)]) hx hb dX4_longestRowOf_6 rfl hl (by decide) rfl (fun ls hl => ?_)
  refine lv_iconst (v := 0) hx hb dX4_longestRowOf_7 (by decide) ?_
  refine lv_istore (lv' := [(4, .int 0), (3, .int 0), (2, .int r1_1), (0, .ref h_t), (1, .int x1)]) hx hb dX4_longestRowOf_8 hl (by decide) rfl (fun ls hl => ?_)
  refine lv_iconst (v := 0) hx hb dX4_longestRowOf_10 (by decide) ?_
  refine lv_istore (lv' := [(5, .int 0), (4, .int 0), (3, .int 0), (2, .int r1_1), (0, .ref h_t), (1, .int x1)]) hx hb dX4_longestRowOf_11 hl (by decide) rfl (fun ls hl => ?_)
  obtain ⟨kx13, ekx13, hf⟩ := jn1_e hf
  have hx13 : ∀ (z13_3 : Int32) (ls : Array Slot), lv_has ls 6 [(2, .int r1_1), (3, .int z13_3)] → kx13 z13_3 = some r → W p l e (headSpec wsX4_longestRowOf rm_X4_longestRowOf).room s m ([.ref h_t, .int x1] : List Value).toArray below meth c s.heap [] 0 0 (MQ below (vp_Si (fun x => x = r)) ([.ref h_t, .int x1] : List Value).toArray s 0 0 NF) (F0 m 54 ls []) := by
    intro z13_3 ls hl hf
    rw [ekx13] at hf
    refine lv_iload_n hx hb dX4_longestRowOf_54 rfl (lv_at hl 1 rfl) ?_
    refine lv_iload_n hx hb dX4_longestRowOf_55 rfl (lv_at hl 0 rfl) ?_
    refine va_mmin hx hb (hml.trans hl.1.symm) hown (hts (.methodLink RX4 44 Lib.Math.min.name) (by decide +kernel)) (hts (.static Lib.Math.min.name) (by decide +kernel)) (hts (.initialized "java/lang/Math") (by decide +kernel)) (hts (.code Lib.Math.min.name Lib.Math.min.code 2 (some .int)) (by decide +kernel)) (Nat.le_of_ble_eq_true rfl) (Nat.le_of_ble_eq_true rfl) (Nat.zero_le _) (Nat.zero_le _) dX4_longestRowOf_56 ?_
    exact W.iret hx hb hr (fun t ht hW => ⟨_, rfl, Option.some.inj hf, ht⟩) (fun _ h => nomatch h) dX4_longestRowOf_59
  have hL13 : ∀ (k13 : Nat) (y13_3 : Int32) (y13_4 : Int32) (y13_5 : Int32) (ls : Array Slot), lv_has ls 6 [(0, .ref h_t), (1, .int x1), (2, .int r1_1), (3, .int y13_3), (4, .int y13_4), (5, .int y13_5)] → L_X4_longestRowOf_13 n v_turn v_phase v_up x1 r1_1 kx13 k13 y13_3 y13_4 y13_5 = some r → W p l e (headSpec wsX4_longestRowOf rm_X4_longestRowOf).room s m ([.ref h_t, .int x1] : List Value).toArray below meth c s.heap [] 0 0 (MQ below (vp_Si (fun x => x = r)) ([.ref h_t, .int x1] : List Value).toArray s 0 0 NF) (F0 m 13 ls []) := by
    intro k13
    induction k13 with
    | zero =>
      intro y13_3 y13_4 y13_5 ls hl hf
      exact absurd hf (fun h => Option.some_ne_none _ h.symm)
    | succ k13 ih =>
      intro y13_3 y13_4 y13_5 ls hl hf
      rw [L_X4_longestRowOf_13_s] at hf
      refine lv_iload hx hb dX4_longestRowOf_13 (lv_at hl 5 rfl) ?_
      refine lv_iconst (v := 2) hx hb dX4_longestRowOf_15 (by decide) ?_
      refine lv_iload_n hx hb dX4_longestRowOf_16 rfl (lv_at hl 2 rfl) ?_
      refine lv_imul hx hb dX4_longestRowOf_17 ?_
      refine lv_icmp_ge (tgt := 54) hx hb dX4_longestRowOf_18 (by decide) (fun c18 => ?_) (fun c18 => ?_)
      · rw [if_pos c18] at hf
        exact hx13 y13_3 ls (lv_sub hl [2, 3] rfl) hf
      · rw [if_neg c18] at hf
        refine lv_aload_n hx hb dX4_longestRowOf_21 rfl (lv_at hl 0 rfl) ?_
        refine lv_iload hx hb dX4_longestRowOf_22 (lv_at hl 5 rfl) ?_
        obtain ⟨r24_4, hc_5, hf⟩ := bd1_e hf
        refine vp_callSi (va_runV (As := [.int y13_5]) (rest := []) ⟨hx, hb, hml, hown, hts⟩ (c_X4_lightIn l dC dI cI cZ cP cS h_t h_t_red h_t_blue h_t_red_fitting h_t_red_worstLeft h_t_blue_fitting h_t_blue_worstLeft v_turn v_phase v_up y13_5 n r24_4 hc_5) (cwV 1 hts gX4_longestRowOf_X4_lightIn rfl rfl rfl (by decide +kernel) ⟨Nat.le_of_ble_eq_true rfl, Nat.le_of_ble_eq_true rfl⟩) (pv_ro (ci := 4) (q0 := 0) hK (hP.sub (ws' := (wd_X4_lightIn cI cZ cP cS h_t h_t_red h_t_blue h_t_red_fitting h_t_red_worstLeft h_t_blue_fitting h_t_blue_worstLeft v_turn v_phase v_up)) [0, 1, 2] rfl) rfl rfl) rfl rfl hl.1 rfl (lv_room (Nat.le_of_ble_eq_true rfl)) dX4_longestRowOf_24 ⟨Nat.zero_le _, Nat.zero_le _⟩).run (fun x e_6 => ?_)
        rw [e_6]
        refine lv_iload_n hx hb dX4_longestRowOf_27 rfl (lv_at hl 1 rfl) ?_
        obtain ⟨v39_7, ev39_7, hf⟩ := lt_e hf
        have hj39_8 : ∀ (ls : Array Slot), lv_has ls 6 [(0, .ref h_t), (1, .int x1), (2, .int r1_1), (3, .int y13_3), (5, .int y13_5)] → W p l e (headSpec wsX4_longestRowOf rm_X4_longestRowOf).room s m ([.ref h_t, .int x1] : List Value).toArray below meth c s.heap [] 0 0 (MQ below (vp_Si (fun x => x = r)) ([.ref h_t, .int x1] : List Value).toArray s 0 0 NF) (F0 m 39 ls [.int v39_7]) := by
          intro ls hl
          refine lv_istore (lv' := [(4, .int v39_7), (0, .ref h_t), (1, .int x1), (2, .int r1_1), (3, .int y13_3), (5, .int y13_5)]) hx hb dX4_longestRowOf_39 hl (by decide) rfl (fun ls hl => ?_)
          refine lv_iload_n hx hb dX4_longestRowOf_41 rfl (lv_at hl 4 rfl) ?_
          refine lv_iload hx hb dX4_longestRowOf_42 (lv_at hl 0 rfl) ?_
          refine va_mmax hx hb (hml.trans hl.1.symm) hown (hts (.methodLink RX4 38 Lib.Math.max.name) (by decide +kernel)) (hts (.static Lib.Math.max.name) (by decide +kernel)) (hts (.initialized "java/lang/Math") (by decide +kernel)) (hts (.code Lib.Math.max.name Lib.Math.max.code 2 (some .int)) (by decide +kernel)) (Nat.le_of_ble_eq_true rfl) (Nat.le_of_ble_eq_true rfl) (Nat.zero_le _) (Nat.zero_le _) dX4_longestRowOf_44 ?_
          refine lv_istore_n (lv' := [(3, .int (if y13_3 < v39_7 then v39_7 else y13_3)), (4, .int v39_7), (0, .ref h_t), (1, .int x1), (2, .int r1_1), (5, .int y13_5)]) hx hb dX4_longestRowOf_47 rfl hl (by decide) rfl (fun ls hl => ?_)
          refine lv_iinc (v := (y13_5 + 1)) (lv' := [(5, .int (y13_5 + 1)), (3, .int (if y13_3 < v39_7 then v39_7 else y13_3)), (4, .int v39_7), (0, .ref h_t), (1, .int x1), (2, .int r1_1)]) hx hb dX4_longestRowOf_48 hl (k := 5) rfl rfl (by decide) rfl (fun ls hl => ?_)
          refine lv_goto (tgt := 13) hx hb dX4_longestRowOf_51 (by decide) ?_
          exact ih (if y13_3 < v39_7 then v39_7 else y13_3) v39_7 (y13_5 + 1) ls (lv_sub hl [3, 4, 5, 1, 2, 0] rfl) hf
        clear hf
        refine lv_icmp_ne (tgt := 38) hx hb dX4_longestRowOf_28 (by decide) (fun c28 => ?_) (fun c28 => ?_)
        ·
          refine lv_iconst (v := 0) hx hb dX4_longestRowOf_38 (by decide) ?_
          rw [if_neg c28] at ev39_7
          subst ev39_7
          exact hj39_8 ls (lv_sub hl [0, 1, 2, 3, 5] rfl)
        ·
          refine lv_iload hx hb dX4_longestRowOf_31 (lv_at hl 4 rfl) ?_
          refine lv_iconst (v := 1) hx hb dX4_longestRowOf_33 (by decide) ?_
          refine lv_iadd hx hb dX4_longestRowOf_34 ?_
          refine lv_goto (tgt := 39) hx hb dX4_longestRowOf_35 (by decide) ?_
          rw [if_pos c28] at ev39_7
          subst ev39_7
          exact hj39_8 ls (lv_sub hl [0, 1, 2, 3, 5] rfl)
  exact hL13 n 0 0 0 ls (lv_sub hl [4, 5, 3, 2, 1, 0] rfl) hf

abbrev wd_X4_rowsOf (cI cZ cP cS : ClassId) (h_t h_t_red h_t_blue h_t_red_fitting h_t_red_worstLeft h_t_blue_fitting h_t_blue_worstLeft : Nat) (v_turn : Nat → Int32) (v_phase : Nat → Int32) (v_up : Nat → Int32) : va_W := [(h_t, .inr (4, [.ref h_t_red, .ref h_t_blue])), (h_t_red, .inr (5, [.int (v_turn 0), .int (v_phase 0), .int (v_up 0), .ref h_t_red_fitting, .ref h_t_red_worstLeft])), (h_t_blue, .inr (5, [.int (v_turn 1), .int (v_phase 1), .int (v_up 1), .ref h_t_blue_fitting, .ref h_t_blue_worstLeft]))]
abbrev rm_X4_rowsOf : Room := { frames := 2, cells := 0, slots := 0, locals := 42 }
def L_X4_rowsOf_10 (n : Nat) (v_turn : Nat → Int32) (v_phase : Nat → Int32) (v_up : Nat → Int32) (x1 : Int32) (r1_1 : Int32) (kx10 : Int32 → Option (Int32)) : Nat → Int32 → Int32 → Option (Int32)
  | 0, _, _ => none
  | k10 + 1, y10_3, y10_4 => if r1_1 ≤ y10_4 then kx10 y10_3 else bd1_ (f_X4_lightIn n v_turn v_phase v_up y10_4) (fun (r19_7 : Int32) => jn1_ (fun (y41_3 : Int32) => L_X4_rowsOf_10 n v_turn v_phase v_up x1 r1_1 kx10 k10 y41_3 (y10_4 + 1)) (fun k41 => if r19_7 = x1 then bd1_ (f_X4_lightIn n v_turn v_phase v_up (y10_4 + 1)) (fun (r31_10 : Int32) => if r31_10 = x1 then k41 y10_3 else k41 (y10_3 + 1)) else k41 y10_3))
theorem L_X4_rowsOf_10_s (n : Nat) (v_turn : Nat → Int32) (v_phase : Nat → Int32) (v_up : Nat → Int32) (x1 : Int32) (r1_1 : Int32) (kx10 : Int32 → Option (Int32)) (k10 : Nat) (y10_3 : Int32) (y10_4 : Int32) : L_X4_rowsOf_10 n v_turn v_phase v_up x1 r1_1 kx10 (k10 + 1) y10_3 y10_4 = if r1_1 ≤ y10_4 then kx10 y10_3 else bd1_ (f_X4_lightIn n v_turn v_phase v_up y10_4) (fun (r19_7 : Int32) => jn1_ (fun (y41_3 : Int32) => L_X4_rowsOf_10 n v_turn v_phase v_up x1 r1_1 kx10 k10 y41_3 (y10_4 + 1)) (fun k41 => if r19_7 = x1 then bd1_ (f_X4_lightIn n v_turn v_phase v_up (y10_4 + 1)) (fun (r31_10 : Int32) => if r31_10 = x1 then k41 y10_3 else k41 (y10_3 + 1)) else k41 y10_3)) := rfl
def f_X4_rowsOf (n : Nat) (v_turn : Nat → Int32) (v_phase : Nat → Int32) (v_up : Nat → Int32) (x1 : Int32) : Option (Int32) := bd1_ (f_X4_hoursOfRound n v_turn) (fun (r1_1 : Int32) => jn1_ (fun (z10_3 : Int32) => jn0_ (some z10_3) (fun k64 => if z10_3 = 0 then bd1_ (f_X4_lightIn n v_turn v_phase v_up 0) (fun (r53_4 : Int32) => if r53_4 = x1 then some 1 else k64) else k64)) (fun kx10 => L_X4_rowsOf_10 n v_turn v_phase v_up x1 r1_1 kx10 n 0 0))
set_option maxHeartbeats 4000000 in
set_option maxRecDepth 100000 in
theorem c_X4_rowsOf (l : Launch) (dC : Nat → ClassId) (dI : Nat → Nat → Nat) (cI cZ cP cS : ClassId) (h_t h_t_red h_t_blue h_t_red_fitting h_t_red_worstLeft h_t_blue_fitting h_t_blue_worstLeft : Nat) (v_turn : Nat → Int32) (v_phase : Nat → Int32) (v_up : Nat → Int32) (x1 : Int32) (n : Nat) (r : Int32) (hf : f_X4_rowsOf n v_turn v_phase v_up x1 = some r) : Met l yX4_rowsOf wsX4_rowsOf rm_X4_rowsOf (RO (dC, dI) (TY cI cZ cP cS) [.ref h_t, .int x1] (wd_X4_rowsOf cI cZ cP cS h_t h_t_red h_t_blue h_t_red_fitting h_t_red_worstLeft h_t_blue_fitting h_t_blue_worstLeft v_turn v_phase v_up)) (vp_Si (fun x => x = r)) 0 0 NF := by
  refine Met.ofW (cc := cX4_rowsOf) (maxL := 5) (ret := (some .int)) (by decide) rfl ?_
  intro p e s m args below meth c s₁ B hml hv
  obtain ⟨rfl, hP, hK⟩ := hv
  have hx := B.exec
  have hb := B.bytes
  have hr := B.returns
  have hts := atoms_spec (ws := wsX4_rowsOf) B.pre
  have hown : s.vm.findClass RX4 = some m.cls := findClass_of_methodNamed B.named
  have hlocks := B.notSynchronized
  have hl := lv_entry ([.ref h_t, .int x1]) (n := 5) (Nat.le_of_ble_eq_true rfl)
  rw [lg_entry_eq]
  generalize (lg_sl ([.ref h_t, .int x1]) ++ List.replicate (5 - (lg_sl ([.ref h_t, .int x1])).length) Slot.unset).toArray = ls at hl ⊢
  have hl : lv_has ls 5 [(0, .ref h_t), (1, .int x1)] := hl
  unfold f_X4_rowsOf at hf
  refine lv_aload_n hx hb dX4_rowsOf_0 rfl (lv_at hl 0 rfl) ?_
  obtain ⟨r1_1, hc_2, hf⟩ := bd1_e hf
  refine vp_callSi (va_runV (As := []) (rest := []) ⟨hx, hb, hml, hown, hts⟩ (c_X4_hoursOfRound l dC dI cI cZ cP cS h_t h_t_red h_t_blue h_t_red_fitting h_t_red_worstLeft h_t_blue_fitting h_t_blue_worstLeft v_turn v_phase v_up  n r1_1 hc_2) (cwV 0 hts gX4_rowsOf_X4_hoursOfRound rfl rfl rfl (by decide +kernel) ⟨Nat.le_of_ble_eq_true rfl, Nat.le_of_ble_eq_true rfl⟩) (pv_ro (ci := 4) (q0 := 0) hK (hP.sub (ws' := (wd_X4_hoursOfRound cI cZ cP cS h_t h_t_red h_t_blue h_t_red_fitting h_t_red_worstLeft h_t_blue_fitting h_t_blue_worstLeft v_turn v_phase v_up)) [0, 1, 2] rfl) rfl rfl) rfl rfl hl.1 rfl (lv_room (Nat.le_of_ble_eq_true rfl)) dX4_rowsOf_1 ⟨Nat.zero_le _, Nat.zero_le _⟩).run (fun x e_3 => ?_)
  rw [e_3]
  refine lv_istore_n (lv' := [(2, .int r1_1), (0, .ref h_t), (1, .int x1)]) hx hb dX4_rowsOf_4 rfl hl (by decide) rfl (fun ls hl => ?_)
  refine lv_iconst (v := 0) hx hb dX4_rowsOf_5 (by decide) ?_
  refine lv_istore_n (lv' := [(3, .int 0), (2, .int r1_1), (0, .ref h_t), (1, .int x1)]) hx hb dX4_rowsOf_6 rfl hl (by decide) rfl (fun ls hl => ?_)
  refine lv_iconst (v := 0) hx hb dX4_rowsOf_7 (by decide) ?_
  refine lv_istore (lv' := [(4, .int 0), (3, .int 0), (2, .int r1_1), (0, .ref h_t), (1, .int x1)]) hx hb dX4_rowsOf_8 hl (by decide) rfl (fun ls hl => ?_)
  obtain ⟨kx10, ekx10, hf⟩ := jn1_e hf
  have hx10 : ∀ (z10_3 : Int32) (ls : Array Slot), lv_has ls 5 [(0, .ref h_t), (1, .int x1), (3, .int z10_3)] → kx10 z10_3 = some r → W p l e (headSpec wsX4_rowsOf rm_X4_rowsOf).room s m ([.ref h_t, .int x1] : List Value).toArray below meth c s.heap [] 0 0 (MQ below (vp_Si (fun x => x = r)) ([.ref h_t, .int x1] : List Value).toArray s 0 0 NF) (F0 m 47 ls []) := by
    intro z10_3 ls hl hf
    rw [ekx10] at hf
    refine lv_iload_n hx hb dX4_rowsOf_47 rfl (lv_at hl 2 rfl) ?_
    obtain ⟨k64, ek64, hf⟩ := jn0_e hf
    have hj64 : ∀ (ls : Array Slot), lv_has ls 5 [(3, .int z10_3)] → k64 = some r → W p l e (headSpec wsX4_rowsOf rm_X4_rowsOf).room s m ([.ref h_t, .int x1] : List Value).toArray below meth c s.heap [] 0 0 (MQ below (vp_Si (fun x => x = r)) ([.ref h_t, .int x1] : List Value).toArray s 0 0 NF) (F0 m 64 ls []) := by
      intro ls hl hf
      rw [ek64] at hf
      refine lv_iload_n hx hb dX4_rowsOf_64 rfl (lv_at hl 0 rfl) ?_
      exact W.iret hx hb hr (fun t ht hW => ⟨_, rfl, Option.some.inj hf, ht⟩) (fun _ h => nomatch h) dX4_rowsOf_65
    refine lv_if_ne (tgt := 64) hx hb dX4_rowsOf_48 (by decide) (fun c48 => ?_) (fun c48 => ?_)
    · rw [if_neg c48] at hf
      exact hj64 ls (lv_sub hl [2] rfl) hf
    · rw [if_pos c48] at hf
      refine lv_aload_n hx hb dX4_rowsOf_51 rfl (lv_at hl 0 rfl) ?_
      refine lv_iconst (v := 0) hx hb dX4_rowsOf_52 (by decide) ?_
      obtain ⟨r53_4, hc_5, hf⟩ := bd1_e hf
      refine vp_callSi (va_runV (As := [.int 0]) (rest := []) ⟨hx, hb, hml, hown, hts⟩ (c_X4_lightIn l dC dI cI cZ cP cS h_t h_t_red h_t_blue h_t_red_fitting h_t_red_worstLeft h_t_blue_fitting h_t_blue_worstLeft v_turn v_phase v_up 0 n r53_4 hc_5) (cwV 1 hts gX4_rowsOf_X4_lightIn rfl rfl rfl (by decide +kernel) ⟨Nat.le_of_ble_eq_true rfl, Nat.le_of_ble_eq_true rfl⟩) (pv_ro (ci := 4) (q0 := 0) hK (hP.sub (ws' := (wd_X4_lightIn cI cZ cP cS h_t h_t_red h_t_blue h_t_red_fitting h_t_red_worstLeft h_t_blue_fitting h_t_blue_worstLeft v_turn v_phase v_up)) [0, 1, 2] rfl) rfl rfl) rfl rfl hl.1 rfl (lv_room (Nat.le_of_ble_eq_true rfl)) dX4_rowsOf_53 ⟨Nat.zero_le _, Nat.zero_le _⟩).run (fun x e_6 => ?_)
      rw [e_6]
      refine lv_iload_n hx hb dX4_rowsOf_56 rfl (lv_at hl 1 rfl) ?_
      refine lv_icmp_ne (tgt := 64) hx hb dX4_rowsOf_57 (by decide) (fun c57 => ?_) (fun c57 => ?_)
      · rw [if_neg c57] at hf
        exact hj64 ls (lv_sub hl [2] rfl) hf
      · rw [if_pos c57] at hf
        refine lv_iconst (v := 1) hx hb dX4_rowsOf_60 (by decide) ?_
        refine lv_goto (tgt := 65) hx hb dX4_rowsOf_61 (by decide) ?_
        exact W.iret hx hb hr (fun t ht hW => ⟨_, rfl, Option.some.inj hf, ht⟩) (fun _ h => nomatch h) dX4_rowsOf_65
  have hL10 : ∀ (k10 : Nat) (y10_3 : Int32) (y10_4 : Int32) (ls : Array Slot), lv_has ls 5 [(0, .ref h_t), (1, .int x1), (2, .int r1_1), (3, .int y10_3), (4, .int y10_4)] → L_X4_rowsOf_10 n v_turn v_phase v_up x1 r1_1 kx10 k10 y10_3 y10_4 = some r → W p l e (headSpec wsX4_rowsOf rm_X4_rowsOf).room s m ([.ref h_t, .int x1] : List Value).toArray below meth c s.heap [] 0 0 (MQ below (vp_Si (fun x => x = r)) ([.ref h_t, .int x1] : List Value).toArray s 0 0 NF) (F0 m 10 ls []) := by
    intro k10
    induction k10 with
    | zero =>
      intro y10_3 y10_4 ls hl hf
      exact absurd hf (fun h => Option.some_ne_none _ h.symm)
    | succ k10 ih =>
      intro y10_3 y10_4 ls hl hf
      rw [L_X4_rowsOf_10_s] at hf
      refine lv_iload hx hb dX4_rowsOf_10 (lv_at hl 4 rfl) ?_
      refine lv_iload_n hx hb dX4_rowsOf_12 rfl (lv_at hl 2 rfl) ?_
      refine lv_icmp_ge (tgt := 47) hx hb dX4_rowsOf_13 (by decide) (fun c13 => ?_) (fun c13 => ?_)
      · rw [if_pos c13] at hf
        exact hx10 y10_3 ls (lv_sub hl [0, 1, 3] rfl) hf
      · rw [if_neg c13] at hf
        refine lv_aload_n hx hb dX4_rowsOf_16 rfl (lv_at hl 0 rfl) ?_
        refine lv_iload hx hb dX4_rowsOf_17 (lv_at hl 4 rfl) ?_
        obtain ⟨r19_7, hc_8, hf⟩ := bd1_e hf
        refine vp_callSi (va_runV (As := [.int y10_4]) (rest := []) ⟨hx, hb, hml, hown, hts⟩ (c_X4_lightIn l dC dI cI cZ cP cS h_t h_t_red h_t_blue h_t_red_fitting h_t_red_worstLeft h_t_blue_fitting h_t_blue_worstLeft v_turn v_phase v_up y10_4 n r19_7 hc_8) (cwV 1 hts gX4_rowsOf_X4_lightIn rfl rfl rfl (by decide +kernel) ⟨Nat.le_of_ble_eq_true rfl, Nat.le_of_ble_eq_true rfl⟩) (pv_ro (ci := 4) (q0 := 0) hK (hP.sub (ws' := (wd_X4_lightIn cI cZ cP cS h_t h_t_red h_t_blue h_t_red_fitting h_t_red_worstLeft h_t_blue_fitting h_t_blue_worstLeft v_turn v_phase v_up)) [0, 1, 2] rfl) rfl rfl) rfl rfl hl.1 rfl (lv_room (Nat.le_of_ble_eq_true rfl)) dX4_rowsOf_19 ⟨Nat.zero_le _, Nat.zero_le _⟩).run (fun x e_9 => ?_)
        rw [e_9]
        refine lv_iload_n hx hb dX4_rowsOf_22 rfl (lv_at hl 1 rfl) ?_
        obtain ⟨k41, ek41, hf⟩ := jn1_e hf
        have hj41 : ∀ (y41_3 : Int32) (ls : Array Slot), lv_has ls 5 [(0, .ref h_t), (1, .int x1), (2, .int r1_1), (3, .int y41_3), (4, .int y10_4)] → k41 y41_3 = some r → W p l e (headSpec wsX4_rowsOf rm_X4_rowsOf).room s m ([.ref h_t, .int x1] : List Value).toArray below meth c s.heap [] 0 0 (MQ below (vp_Si (fun x => x = r)) ([.ref h_t, .int x1] : List Value).toArray s 0 0 NF) (F0 m 41 ls []) := by
          intro y41_3 ls hl hf
          rw [ek41] at hf
          refine lv_iinc (v := (y10_4 + 1)) (lv' := [(4, .int (y10_4 + 1)), (0, .ref h_t), (1, .int x1), (2, .int r1_1), (3, .int y41_3)]) hx hb dX4_rowsOf_41 hl (k := 4) rfl rfl (by decide) rfl (fun ls hl => ?_)
          refine lv_goto (tgt := 10) hx hb dX4_rowsOf_44 (by decide) ?_
          exact ih y41_3 (y10_4 + 1) ls (lv_sub hl [1, 2, 3, 4, 0] rfl) hf
        refine lv_icmp_ne (tgt := 41) hx hb dX4_rowsOf_23 (by decide) (fun c23 => ?_) (fun c23 => ?_)
        · rw [if_neg c23] at hf
          exact hj41 y10_3 ls (lv_sub hl [0, 1, 2, 3, 4] rfl) hf
        · rw [if_pos c23] at hf
          refine lv_aload_n hx hb dX4_rowsOf_26 rfl (lv_at hl 0 rfl) ?_
          refine lv_iload hx hb dX4_rowsOf_27 (lv_at hl 4 rfl) ?_
          refine lv_iconst (v := 1) hx hb dX4_rowsOf_29 (by decide) ?_
          refine lv_iadd hx hb dX4_rowsOf_30 ?_
          obtain ⟨r31_10, hc_11, hf⟩ := bd1_e hf
          refine vp_callSi (va_runV (As := [.int (y10_4 + 1)]) (rest := []) ⟨hx, hb, hml, hown, hts⟩ (c_X4_lightIn l dC dI cI cZ cP cS h_t h_t_red h_t_blue h_t_red_fitting h_t_red_worstLeft h_t_blue_fitting h_t_blue_worstLeft v_turn v_phase v_up (y10_4 + 1) n r31_10 hc_11) (cwV 1 hts gX4_rowsOf_X4_lightIn rfl rfl rfl (by decide +kernel) ⟨Nat.le_of_ble_eq_true rfl, Nat.le_of_ble_eq_true rfl⟩) (pv_ro (ci := 4) (q0 := 0) hK (hP.sub (ws' := (wd_X4_lightIn cI cZ cP cS h_t h_t_red h_t_blue h_t_red_fitting h_t_red_worstLeft h_t_blue_fitting h_t_blue_worstLeft v_turn v_phase v_up)) [0, 1, 2] rfl) rfl rfl) rfl rfl hl.1 rfl (lv_room (Nat.le_of_ble_eq_true rfl)) dX4_rowsOf_31 ⟨Nat.zero_le _, Nat.zero_le _⟩).run (fun x e_12 => ?_)
          rw [e_12]
          refine lv_iload_n hx hb dX4_rowsOf_34 rfl (lv_at hl 1 rfl) ?_
          refine lv_icmp_eq (tgt := 41) hx hb dX4_rowsOf_35 (by decide) (fun c35 => ?_) (fun c35 => ?_)
          · rw [if_pos c35] at hf
            exact hj41 y10_3 ls (lv_sub hl [0, 1, 2, 3, 4] rfl) hf
          · rw [if_neg c35] at hf
            refine lv_iinc (v := (y10_3 + 1)) (lv' := [(3, .int (y10_3 + 1)), (0, .ref h_t), (1, .int x1), (2, .int r1_1), (4, .int y10_4)]) hx hb dX4_rowsOf_38 hl (k := 3) rfl rfl (by decide) rfl (fun ls hl => ?_)
            exact hj41 (y10_3 + 1) ls (lv_sub hl [1, 2, 3, 0, 4] rfl) hf
  exact hL10 n 0 0 ls (lv_sub hl [3, 4, 2, 1, 0] rfl) hf

abbrev wd_X4_unchangedFrom (cI cZ cP cS : ClassId) (h_t h_t_red h_t_blue h_t_red_fitting h_t_red_worstLeft h_t_blue_fitting h_t_blue_worstLeft : Nat) (v_turn : Nat → Int32) (v_phase : Nat → Int32) (v_up : Nat → Int32) : va_W := [(h_t, .inr (4, [.ref h_t_red, .ref h_t_blue])), (h_t_red, .inr (5, [.int (v_turn 0), .int (v_phase 0), .int (v_up 0), .ref h_t_red_fitting, .ref h_t_red_worstLeft])), (h_t_blue, .inr (5, [.int (v_turn 1), .int (v_phase 1), .int (v_up 1), .ref h_t_blue_fitting, .ref h_t_blue_worstLeft]))]
abbrev rm_X4_unchangedFrom : Room := { frames := 2, cells := 0, slots := 0, locals := 42 }
def L_X4_unchangedFrom_14 (n : Nat) (v_turn : Nat → Int32) (v_phase : Nat → Int32) (v_up : Nat → Int32) (x1 : Int32) (r1_1 : Int32) (r7_4 : Int32) (kx14 : Int32 → Option (Int32)) : Nat → Int32 → Option (Int32)
  | 0, _ => none
  | k14 + 1, y14_4 => if r1_1 ≤ y14_4 then kx14 y14_4 else bd1_ (f_X4_lightIn n v_turn v_phase v_up (x1 + y14_4)) (fun (r25_7 : Int32) => if r25_7 = r7_4 then L_X4_unchangedFrom_14 n v_turn v_phase v_up x1 r1_1 r7_4 kx14 k14 (y14_4 + 1) else kx14 y14_4)
theorem L_X4_unchangedFrom_14_s (n : Nat) (v_turn : Nat → Int32) (v_phase : Nat → Int32) (v_up : Nat → Int32) (x1 : Int32) (r1_1 : Int32) (r7_4 : Int32) (kx14 : Int32 → Option (Int32)) (k14 : Nat) (y14_4 : Int32) : L_X4_unchangedFrom_14 n v_turn v_phase v_up x1 r1_1 r7_4 kx14 (k14 + 1) y14_4 = if r1_1 ≤ y14_4 then kx14 y14_4 else bd1_ (f_X4_lightIn n v_turn v_phase v_up (x1 + y14_4)) (fun (r25_7 : Int32) => if r25_7 = r7_4 then L_X4_unchangedFrom_14 n v_turn v_phase v_up x1 r1_1 r7_4 kx14 k14 (y14_4 + 1) else kx14 y14_4) := rfl
def f_X4_unchangedFrom (n : Nat) (v_turn : Nat → Int32) (v_phase : Nat → Int32) (v_up : Nat → Int32) (x1 : Int32) : Option (Int32) := bd1_ (f_X4_hoursOfRound n v_turn) (fun (r1_1 : Int32) => bd1_ (f_X4_lightIn n v_turn v_phase v_up x1) (fun (r7_4 : Int32) => jn1_ (fun (z14_4 : Int32) => some z14_4) (fun kx14 => L_X4_unchangedFrom_14 n v_turn v_phase v_up x1 r1_1 r7_4 kx14 n 0)))
set_option maxHeartbeats 4000000 in
set_option maxRecDepth 100000 in
theorem c_X4_unchangedFrom (l : Launch) (dC : Nat → ClassId) (dI : Nat → Nat → Nat) (cI cZ cP cS : ClassId) (h_t h_t_red h_t_blue h_t_red_fitting h_t_red_worstLeft h_t_blue_fitting h_t_blue_worstLeft : Nat) (v_turn : Nat → Int32) (v_phase : Nat → Int32) (v_up : Nat → Int32) (x1 : Int32) (n : Nat) (r : Int32) (hf : f_X4_unchangedFrom n v_turn v_phase v_up x1 = some r) : Met l yX4_unchangedFrom wsX4_unchangedFrom rm_X4_unchangedFrom (RO (dC, dI) (TY cI cZ cP cS) [.ref h_t, .int x1] (wd_X4_unchangedFrom cI cZ cP cS h_t h_t_red h_t_blue h_t_red_fitting h_t_red_worstLeft h_t_blue_fitting h_t_blue_worstLeft v_turn v_phase v_up)) (vp_Si (fun x => x = r)) 0 0 NF := by
  refine Met.ofW (cc := cX4_unchangedFrom) (maxL := 5) (ret := (some .int)) (by decide) rfl ?_
  intro p e s m args below meth c s₁ B hml hv
  obtain ⟨rfl, hP, hK⟩ := hv
  have hx := B.exec
  have hb := B.bytes
  have hr := B.returns
  have hts := atoms_spec (ws := wsX4_unchangedFrom) B.pre
  have hown : s.vm.findClass RX4 = some m.cls := findClass_of_methodNamed B.named
  have hlocks := B.notSynchronized
  have hl := lv_entry ([.ref h_t, .int x1]) (n := 5) (Nat.le_of_ble_eq_true rfl)
  rw [lg_entry_eq]
  generalize (lg_sl ([.ref h_t, .int x1]) ++ List.replicate (5 - (lg_sl ([.ref h_t, .int x1])).length) Slot.unset).toArray = ls at hl ⊢
  have hl : lv_has ls 5 [(0, .ref h_t), (1, .int x1)] := hl
  unfold f_X4_unchangedFrom at hf
  refine lv_aload_n hx hb dX4_unchangedFrom_0 rfl (lv_at hl 0 rfl) ?_
  obtain ⟨r1_1, hc_2, hf⟩ := bd1_e hf
  refine vp_callSi (va_runV (As := []) (rest := []) ⟨hx, hb, hml, hown, hts⟩ (c_X4_hoursOfRound l dC dI cI cZ cP cS h_t h_t_red h_t_blue h_t_red_fitting h_t_red_worstLeft h_t_blue_fitting h_t_blue_worstLeft v_turn v_phase v_up  n r1_1 hc_2) (cwV 0 hts gX4_unchangedFrom_X4_hoursOfRound rfl rfl rfl (by decide +kernel) ⟨Nat.le_of_ble_eq_true rfl, Nat.le_of_ble_eq_true rfl⟩) (pv_ro (ci := 4) (q0 := 0) hK (hP.sub (ws' := (wd_X4_hoursOfRound cI cZ cP cS h_t h_t_red h_t_blue h_t_red_fitting h_t_red_worstLeft h_t_blue_fitting h_t_blue_worstLeft v_turn v_phase v_up)) [0, 1, 2] rfl) rfl rfl) rfl rfl hl.1 rfl (lv_room (Nat.le_of_ble_eq_true rfl)) dX4_unchangedFrom_1 ⟨Nat.zero_le _, Nat.zero_le _⟩).run (fun x e_3 => ?_)
  rw [e_3]
  refine lv_istore_n (lv' := [(2, .int r1_1), (0, .ref h_t), (1, .int x1)]) hx hb dX4_unchangedFrom_4 rfl hl (by decide) rfl (fun ls hl => ?_)
  refine lv_aload_n hx hb dX4_unchangedFrom_5 rfl (lv_at hl 1 rfl) ?_
  refine lv_iload_n hx hb dX4_unchangedFrom_6 rfl (lv_at hl 2 rfl) ?_
  obtain ⟨r7_4, hc_5, hf⟩ := bd1_e hf
  refine vp_callSi (va_runV (As := [.int x1]) (rest := []) ⟨hx, hb, hml, hown, hts⟩ (c_X4_lightIn l dC dI cI cZ cP cS h_t h_t_red h_t_blue h_t_red_fitting h_t_red_worstLeft h_t_blue_fitting h_t_blue_worstLeft v_turn v_phase v_up x1 n r7_4 hc_5) (cwV 1 hts gX4_unchangedFrom_X4_lightIn rfl rfl rfl (by decide +kernel) ⟨Nat.le_of_ble_eq_true rfl, Nat.le_of_ble_eq_true rfl⟩) (pv_ro (ci := 4) (q0 := 0) hK (hP.sub (ws' := (wd_X4_lightIn cI cZ cP cS h_t h_t_red h_t_blue h_t_red_fitting h_t_red_worstLeft h_t_blue_fitting h_t_blue_worstLeft v_turn v_phase v_up)) [0, 1, 2] rfl) rfl rfl) rfl rfl hl.1 rfl (lv_room (Nat.le_of_ble_eq_true rfl)) dX4_unchangedFrom_7 ⟨Nat.zero_le _, Nat.zero_le _⟩).run (fun x e_6 => ?_)
  rw [e_6]
  refine lv_istore_n (lv' := [(3, .int r7_4), (2, .int r1_1), (0, .ref h_t), (1, .int x1)]) hx hb dX4_unchangedFrom_10 rfl hl (by decide) rfl (fun ls hl => ?_)
  refine lv_iconst (v := 0) hx hb dX4_unchangedFrom_11 (by decide) ?_
  refine lv_istore (lv' := [(4, .int 0), (3, .int r7_4), (2, .int r1_1), (0, .ref h_t), (1, .int x1)]) hx hb dX4_unchangedFrom_12 hl (by decide) rfl (fun ls hl => ?_)
  obtain ⟨kx14, ekx14, hf⟩ := jn1_e hf
  have hx14 : ∀ (z14_4 : Int32) (ls : Array Slot), lv_has ls 5 [(4, .int z14_4)] → kx14 z14_4 = some r → W p l e (headSpec wsX4_unchangedFrom rm_X4_unchangedFrom).room s m ([.ref h_t, .int x1] : List Value).toArray below meth c s.heap [] 0 0 (MQ below (vp_Si (fun x => x = r)) ([.ref h_t, .int x1] : List Value).toArray s 0 0 NF) (F0 m 38 ls []) := by
    intro z14_4 ls hl hf
    rw [ekx14] at hf
    refine lv_iload hx hb dX4_unchangedFrom_38 (lv_at hl 0 rfl) ?_
    exact W.iret hx hb hr (fun t ht hW => ⟨_, rfl, Option.some.inj hf, ht⟩) (fun _ h => nomatch h) dX4_unchangedFrom_40
  have hL14 : ∀ (k14 : Nat) (y14_4 : Int32) (ls : Array Slot), lv_has ls 5 [(0, .ref h_t), (1, .int x1), (2, .int r1_1), (3, .int r7_4), (4, .int y14_4)] → L_X4_unchangedFrom_14 n v_turn v_phase v_up x1 r1_1 r7_4 kx14 k14 y14_4 = some r → W p l e (headSpec wsX4_unchangedFrom rm_X4_unchangedFrom).room s m ([.ref h_t, .int x1] : List Value).toArray below meth c s.heap [] 0 0 (MQ below (vp_Si (fun x => x = r)) ([.ref h_t, .int x1] : List Value).toArray s 0 0 NF) (F0 m 14 ls []) := by
    intro k14
    induction k14 with
    | zero =>
      intro y14_4 ls hl hf
      exact absurd hf (fun h => Option.some_ne_none _ h.symm)
    | succ k14 ih =>
      intro y14_4 ls hl hf
      rw [L_X4_unchangedFrom_14_s] at hf
      refine lv_iload hx hb dX4_unchangedFrom_14 (lv_at hl 4 rfl) ?_
      refine lv_iload_n hx hb dX4_unchangedFrom_16 rfl (lv_at hl 2 rfl) ?_
      refine lv_icmp_ge (tgt := 38) hx hb dX4_unchangedFrom_17 (by decide) (fun c17 => ?_) (fun c17 => ?_)
      · rw [if_pos c17] at hf
        exact hx14 y14_4 ls (lv_sub hl [4] rfl) hf
      · rw [if_neg c17] at hf
        refine lv_aload_n hx hb dX4_unchangedFrom_20 rfl (lv_at hl 0 rfl) ?_
        refine lv_iload_n hx hb dX4_unchangedFrom_21 rfl (lv_at hl 1 rfl) ?_
        refine lv_iload hx hb dX4_unchangedFrom_22 (lv_at hl 4 rfl) ?_
        refine lv_iadd hx hb dX4_unchangedFrom_24 ?_
        obtain ⟨r25_7, hc_8, hf⟩ := bd1_e hf
        refine vp_callSi (va_runV (As := [.int (x1 + y14_4)]) (rest := []) ⟨hx, hb, hml, hown, hts⟩ (c_X4_lightIn l dC dI cI cZ cP cS h_t h_t_red h_t_blue h_t_red_fitting h_t_red_worstLeft h_t_blue_fitting h_t_blue_worstLeft v_turn v_phase v_up (x1 + y14_4) n r25_7 hc_8) (cwV 1 hts gX4_unchangedFrom_X4_lightIn rfl rfl rfl (by decide +kernel) ⟨Nat.le_of_ble_eq_true rfl, Nat.le_of_ble_eq_true rfl⟩) (pv_ro (ci := 4) (q0 := 0) hK (hP.sub (ws' := (wd_X4_lightIn cI cZ cP cS h_t h_t_red h_t_blue h_t_red_fitting h_t_red_worstLeft h_t_blue_fitting h_t_blue_worstLeft v_turn v_phase v_up)) [0, 1, 2] rfl) rfl rfl) rfl rfl hl.1 rfl (lv_room (Nat.le_of_ble_eq_true rfl)) dX4_unchangedFrom_25 ⟨Nat.zero_le _, Nat.zero_le _⟩).run (fun x e_9 => ?_)
        rw [e_9]
        refine lv_iload_n hx hb dX4_unchangedFrom_28 rfl (lv_at hl 3 rfl) ?_
        refine lv_icmp_ne (tgt := 38) hx hb dX4_unchangedFrom_29 (by decide) (fun c29 => ?_) (fun c29 => ?_)
        · rw [if_neg c29] at hf
          exact hx14 y14_4 ls (lv_sub hl [4] rfl) hf
        · rw [if_pos c29] at hf
          refine lv_iinc (v := (y14_4 + 1)) (lv' := [(4, .int (y14_4 + 1)), (0, .ref h_t), (1, .int x1), (2, .int r1_1), (3, .int r7_4)]) hx hb dX4_unchangedFrom_32 hl (k := 4) rfl rfl (by decide) rfl (fun ls hl => ?_)
          refine lv_goto (tgt := 14) hx hb dX4_unchangedFrom_35 (by decide) ?_
          exact ih (y14_4 + 1) ls (lv_sub hl [1, 2, 3, 4, 0] rfl) hf
  exact hL14 n 0 ls (lv_sub hl [3, 4, 2, 1, 0] rfl) hf

abbrev wd_X5_awayFromRise (cI cZ cP cS : ClassId) (h_t h_t_fitting h_t_worstLeft : Nat) (v_turn : Int32) (v_phase : Int32) (v_up : Int32) : va_W := [(h_t, .inr (5, [.int v_turn, .int v_phase, .int v_up, .ref h_t_fitting, .ref h_t_worstLeft]))]
abbrev rm_X5_awayFromRise : Room := { frames := 1, cells := 0, slots := 0, locals := 21 }
def f_X5_awayFromRise (n : Nat) (v_turn : Int32) (v_phase : Int32) (x1 : Int32) : Option (Int32) := bd1_ (f_X5_placeIn n v_turn v_phase x1) (fun (r2_1 : Int32) => some (if (v_turn - r2_1) < r2_1 then (v_turn - r2_1) else r2_1))
set_option maxHeartbeats 4000000 in
set_option maxRecDepth 100000 in
theorem c_X5_awayFromRise (l : Launch) (dC : Nat → ClassId) (dI : Nat → Nat → Nat) (cI cZ cP cS : ClassId) (h_t h_t_fitting h_t_worstLeft : Nat) (v_turn : Int32) (v_phase : Int32) (v_up : Int32) (x1 : Int32) (n : Nat) (r : Int32) (hf : f_X5_awayFromRise n v_turn v_phase x1 = some r) : Met l yX5_awayFromRise wsX5_awayFromRise rm_X5_awayFromRise (RO (dC, dI) (TY cI cZ cP cS) [.ref h_t, .int x1] (wd_X5_awayFromRise cI cZ cP cS h_t h_t_fitting h_t_worstLeft v_turn v_phase v_up)) (vp_Si (fun x => x = r)) 0 0 NF := by
  refine Met.ofW (cc := cX5_awayFromRise) (maxL := 3) (ret := (some .int)) (by decide) rfl ?_
  intro p e s m args below meth c s₁ B hml hv
  obtain ⟨rfl, hP, hK⟩ := hv
  have hx := B.exec
  have hb := B.bytes
  have hr := B.returns
  have hts := atoms_spec (ws := wsX5_awayFromRise) B.pre
  have hown : s.vm.findClass RX5 = some m.cls := findClass_of_methodNamed B.named
  have hlocks := B.notSynchronized
  have hinX5 : ∀ w ∈ wsX50, w ∈ wsX5_awayFromRise := by decide +kernel
  have hl := lv_entry ([.ref h_t, .int x1]) (n := 3) (Nat.le_of_ble_eq_true rfl)
  rw [lg_entry_eq]
  generalize (lg_sl ([.ref h_t, .int x1]) ++ List.replicate (3 - (lg_sl ([.ref h_t, .int x1])).length) Slot.unset).toArray = ls at hl ⊢
  have hl : lv_has ls 3 [(0, .ref h_t), (1, .int x1)] := hl
  unfold f_X5_awayFromRise at hf
  refine lv_aload_n hx hb dX5_awayFromRise_0 rfl (lv_at hl 0 rfl) ?_
  refine lv_iload_n hx hb dX5_awayFromRise_1 rfl (lv_at hl 1 rfl) ?_
  obtain ⟨r2_1, hc_2, hf⟩ := bd1_e hf
  refine vp_callSi (va_runV (As := [.int x1]) (rest := []) ⟨hx, hb, hml, hown, hts⟩ (c_X5_placeIn l dC dI cI cZ cP cS h_t h_t_fitting h_t_worstLeft v_turn v_phase v_up x1 n r2_1 hc_2) (cwV 1 hts gX5_awayFromRise_X5_placeIn rfl rfl rfl (by decide +kernel) ⟨Nat.le_of_ble_eq_true rfl, Nat.le_of_ble_eq_true rfl⟩) (pv_ro (ci := 5) (q0 := 0) hK (hP.sub (ws' := (wd_X5_placeIn cI cZ cP cS h_t h_t_fitting h_t_worstLeft v_turn v_phase v_up)) [0] rfl) rfl rfl) rfl rfl hl.1 rfl (lv_room (Nat.le_of_ble_eq_true rfl)) dX5_awayFromRise_2 ⟨Nat.zero_le _, Nat.zero_le _⟩).run (fun x e_3 => ?_)
  rw [e_3]
  refine lv_istore_n (lv' := [(2, .int r2_1), (0, .ref h_t), (1, .int x1)]) hx hb dX5_awayFromRise_5 rfl hl (by decide) rfl (fun ls hl => ?_)
  refine lv_iload_n hx hb dX5_awayFromRise_6 rfl (lv_at hl 0 rfl) ?_
  refine lv_aload_n hx hb dX5_awayFromRise_7 rfl (lv_at hl 1 rfl) ?_
  refine va_get (D := (dC, dI)) (ci := 5) (v := .int v_turn) (C := RX5) (T := TX5) (N := 5) hx hb hts hinX5 hown hK hP 0 rfl rfl 0 (by decide) (hts (.fieldLink RX5 23 "SecondSunrise$Sun" "turn" "I") (by decide +kernel)) (fun _ h9 => h9) rfl dX5_awayFromRise_8 ?_
  refine lv_iload_n hx hb dX5_awayFromRise_11 rfl (lv_at hl 0 rfl) ?_
  refine lv_isub hx hb dX5_awayFromRise_12 ?_
  refine va_mmin hx hb (hml.trans hl.1.symm) hown (hts (.methodLink RX5 33 Lib.Math.min.name) (by decide +kernel)) (hts (.static Lib.Math.min.name) (by decide +kernel)) (hts (.initialized "java/lang/Math") (by decide +kernel)) (hts (.code Lib.Math.min.name Lib.Math.min.code 2 (some .int)) (by decide +kernel)) (Nat.le_of_ble_eq_true rfl) (Nat.le_of_ble_eq_true rfl) (Nat.zero_le _) (Nat.zero_le _) dX5_awayFromRise_13 ?_
  exact W.iret hx hb hr (fun t ht hW => ⟨_, rfl, Option.some.inj hf, ht⟩) (fun _ h => nomatch h) dX5_awayFromRise_16

abbrev wd_X5_changePhase (cI cZ cP cS : ClassId) (h_t h_t_fitting h_t_worstLeft : Nat) (v_turn : Int32) (v_phase : Int32) (v_up : Int32) : va_W := [(h_t, .inr (5, [.int v_turn, .int v_phase, .int v_up, .ref h_t_fitting, .ref h_t_worstLeft]))]
abbrev rm_X5_changePhase : Room := { frames := 0, cells := 0, slots := 0, locals := 0 }
def f_X5_changePhase (n : Nat) (v_phase : Int32) (x1 : Int32) : Option (Int32 × Int32) := some (v_phase, x1)
set_option maxHeartbeats 4000000 in
set_option maxRecDepth 100000 in
theorem c_X5_changePhase (l : Launch) (dC : Nat → ClassId) (dI : Nat → Nat → Nat) (cI cZ cP cS : ClassId) (sz : Nat) (h_t h_t_fitting h_t_worstLeft : Nat) (v_turn : Int32) (v_phase : Int32) (v_up : Int32) (x1 : Int32) (n : Nat) (r : Int32) (o_phase : Int32) (hf : f_X5_changePhase n v_phase x1 = some (r, o_phase)) : Met l yX5_changePhase wsX5_changePhase rm_X5_changePhase (RW (dC, dI) (TY cI cZ cP cS) [.ref h_t, .int x1] sz (wd_X5_changePhase cI cZ cP cS h_t h_t_fitting h_t_worstLeft v_turn v_phase v_up)) (RWi (dC, dI) (TY cI cZ cP cS) r sz (wd_X5_changePhase cI cZ cP cS h_t h_t_fitting h_t_worstLeft v_turn v_phase v_up) (wd_X5_changePhase cI cZ cP cS h_t h_t_fitting h_t_worstLeft v_turn o_phase v_up)) 0 0 (va_A (wd_X5_changePhase cI cZ cP cS h_t h_t_fitting h_t_worstLeft v_turn v_phase v_up) sz) := by
  refine Met.ofW (cc := cX5_changePhase) (maxL := 3) (ret := (some .int)) (by decide) rfl ?_
  intro p e s m args below meth c s₁ B hml hv
  obtain ⟨rfl, hsz, hP, hK, hD0⟩ := hv
  have hx := B.exec
  have hb := B.bytes
  have hr := B.returns
  have hts := atoms_spec (ws := wsX5_changePhase) B.pre
  have hown : s.vm.findClass RX5 = some m.cls := findClass_of_methodNamed B.named
  have hlocks := B.notSynchronized
  subst hsz
  have hD := hD0.self (sz := s.heap.size)
  have hA : ∀ q : Nat, s.heap.size ≤ q → (va_A (wd_X5_changePhase cI cZ cP cS h_t h_t_fitting h_t_worstLeft v_turn v_phase v_up) s.heap.size) q := fun q h => Or.inr h
  have hS : va_S (va_A (wd_X5_changePhase cI cZ cP cS h_t h_t_fitting h_t_worstLeft v_turn v_phase v_up) s.heap.size) s.heap s.heap [] := va_S.rf
  have hinX5 : ∀ w ∈ wsX50, w ∈ wsX5_changePhase := by decide +kernel
  have hl := lv_entry ([.ref h_t, .int x1]) (n := 3) (Nat.le_of_ble_eq_true rfl)
  rw [lg_entry_eq]
  generalize (lg_sl ([.ref h_t, .int x1]) ++ List.replicate (3 - (lg_sl ([.ref h_t, .int x1])).length) Slot.unset).toArray = ls at hl ⊢
  have hl : lv_has ls 3 [(0, .ref h_t), (1, .int x1)] := hl
  obtain ⟨H, hH⟩ : ∃ H : Heap, H = s.heap := ⟨_, rfl⟩
  have hP : va_P (dC, dI) vwCl (wd_X5_changePhase cI cZ cP cS h_t h_t_fitting h_t_worstLeft v_turn v_phase v_up) H := by rw [hH]; exact hP
  have hS : va_S (va_A (wd_X5_changePhase cI cZ cP cS h_t h_t_fitting h_t_worstLeft v_turn v_phase v_up) s.heap.size) s.heap H [] := by rw [hH]; exact hS
  obtain ⟨locs, hlo⟩ : ∃ L : List Loc, L = [] := ⟨_, rfl⟩
  rw [← hlo] at hS
  suffices hgo : W p l e (headSpec wsX5_changePhase rm_X5_changePhase).room s m ([.ref h_t, .int x1] : List Value).toArray below meth c H locs 0 0 (MQ below (RWi (dC, dI) (TY cI cZ cP cS) r s.heap.size (wd_X5_changePhase cI cZ cP cS h_t h_t_fitting h_t_worstLeft v_turn v_phase v_up) (wd_X5_changePhase cI cZ cP cS h_t h_t_fitting h_t_worstLeft v_turn o_phase v_up)) ([.ref h_t, .int x1] : List Value).toArray s 0 0 (va_A (wd_X5_changePhase cI cZ cP cS h_t h_t_fitting h_t_worstLeft v_turn v_phase v_up) s.heap.size)) (F0 m 0 ls []) by rw [hH, hlo] at hgo; exact hgo
  clear hH hlo
  unfold f_X5_changePhase at hf
  refine lv_aload_n hx hb dX5_changePhase_0 rfl (lv_at hl 0 rfl) ?_
  refine va_get (D := (dC, dI)) (ci := 5) (v := .int v_phase) (C := RX5) (T := TX5) (N := 5) hx hb hts hinX5 hown hK hP 0 rfl rfl 1 (by decide) (hts (.fieldLink RX5 9 "SecondSunrise$Sun" "phase" "I") (by decide +kernel)) (fun _ h9 => h9) rfl dX5_changePhase_1 ?_
  refine lv_istore_n (lv' := [(2, .int v_phase), (0, .ref h_t), (1, .int x1)]) hx hb dX5_changePhase_4 rfl hl (by decide) rfl (fun ls hl => ?_)
  refine lv_aload_n hx hb dX5_changePhase_5 rfl (lv_at hl 1 rfl) ?_
  refine lv_iload_n hx hb dX5_changePhase_6 rfl (lv_at hl 2 rfl) ?_
  refine va_put (D := (dC, dI)) (ci := 5) (v := .int x1) (ty := .int) (C := RX5) (T := TX5) (N := 5) hx hb hts hinX5 tyX5 tyX5_ok nmX5 hown hK hP hD hS 0 rfl rfl 1 (by decide) (hts (.fieldLink RX5 9 "SecondSunrise$Sun" "phase" "I") (by decide +kernel)) (fun _ h9 => h9) rfl (by decide +kernel) rfl rfl (Nat.le_of_ble_eq_true rfl) dX5_changePhase_7 (fun H locs hP hD hS => ?_)
  have hP : va_P (dC, dI) vwCl (wd_X5_changePhase cI cZ cP cS h_t h_t_fitting h_t_worstLeft v_turn x1 v_up) H := hP
  have hD : va_D (va_A (wd_X5_changePhase cI cZ cP cS h_t h_t_fitting h_t_worstLeft v_turn v_phase v_up) s.heap.size) (wd_X5_changePhase cI cZ cP cS h_t h_t_fitting h_t_worstLeft v_turn x1 v_up) := hD
  refine lv_iload_n hx hb dX5_changePhase_10 rfl (lv_at hl 0 rfl) ?_
  have hq0 := Option.some.inj hf
  obtain ⟨eq0, hq1⟩ := Prod.mk.inj hq0
  clear hf hq0
  subst eq0
  subst hq1
  exact W.iret hx hb hr (fun t ht hW => ⟨⟨_, (), rfl, rfl, by rw [ht]; exact hP, va_K.moved hW.alike hK, hD⟩, hS.F ht⟩) hS.2.2 dX5_changePhase_11

abbrev wd_X5_changeTurn (cI cZ cP cS : ClassId) (h_t h_t_fitting h_t_worstLeft : Nat) (v_turn : Int32) (v_phase : Int32) (v_up : Int32) : va_W := [(h_t, .inr (5, [.int v_turn, .int v_phase, .int v_up, .ref h_t_fitting, .ref h_t_worstLeft]))]
abbrev rm_X5_changeTurn : Room := { frames := 1, cells := 0, slots := 0, locals := 22 }
def f_X5_changeTurn (n : Nat) (v_turn : Int32) (v_phase : Int32) (v_up : Int32) (x1 : Int32) : Option (Int32 × Int32 × Int32 × Int32) := bd1_ (f_X5_placeBy n x1 0 v_phase) (fun (r17_1 : Int32) => some (v_turn, x1, r17_1, (if x1 < v_up then x1 else v_up)))
set_option maxHeartbeats 4000000 in
set_option maxRecDepth 100000 in
theorem c_X5_changeTurn (l : Launch) (dC : Nat → ClassId) (dI : Nat → Nat → Nat) (cI cZ cP cS : ClassId) (sz : Nat) (h_t h_t_fitting h_t_worstLeft : Nat) (v_turn : Int32) (v_phase : Int32) (v_up : Int32) (x1 : Int32) (n : Nat) (r : Int32) (o_turn : Int32) (o_phase : Int32) (o_up : Int32) (hf : f_X5_changeTurn n v_turn v_phase v_up x1 = some (r, o_turn, o_phase, o_up)) : Met l yX5_changeTurn wsX5_changeTurn rm_X5_changeTurn (RW (dC, dI) (TY cI cZ cP cS) [.ref h_t, .int x1] sz (wd_X5_changeTurn cI cZ cP cS h_t h_t_fitting h_t_worstLeft v_turn v_phase v_up)) (RWi (dC, dI) (TY cI cZ cP cS) r sz (wd_X5_changeTurn cI cZ cP cS h_t h_t_fitting h_t_worstLeft v_turn v_phase v_up) (wd_X5_changeTurn cI cZ cP cS h_t h_t_fitting h_t_worstLeft o_turn o_phase o_up)) 0 0 (va_A (wd_X5_changeTurn cI cZ cP cS h_t h_t_fitting h_t_worstLeft v_turn v_phase v_up) sz) := by
  refine Met.ofW (cc := cX5_changeTurn) (maxL := 3) (ret := (some .int)) (by decide) rfl ?_
  intro p e s m args below meth c s₁ B hml hv
  obtain ⟨rfl, hsz, hP, hK, hD0⟩ := hv
  have hx := B.exec
  have hb := B.bytes
  have hr := B.returns
  have hts := atoms_spec (ws := wsX5_changeTurn) B.pre
  have hown : s.vm.findClass RX5 = some m.cls := findClass_of_methodNamed B.named
  have hlocks := B.notSynchronized
  subst hsz
  have hD := hD0.self (sz := s.heap.size)
  have hA : ∀ q : Nat, s.heap.size ≤ q → (va_A (wd_X5_changeTurn cI cZ cP cS h_t h_t_fitting h_t_worstLeft v_turn v_phase v_up) s.heap.size) q := fun q h => Or.inr h
  have hS : va_S (va_A (wd_X5_changeTurn cI cZ cP cS h_t h_t_fitting h_t_worstLeft v_turn v_phase v_up) s.heap.size) s.heap s.heap [] := va_S.rf
  have hinX5 : ∀ w ∈ wsX50, w ∈ wsX5_changeTurn := by decide +kernel
  have hl := lv_entry ([.ref h_t, .int x1]) (n := 3) (Nat.le_of_ble_eq_true rfl)
  rw [lg_entry_eq]
  generalize (lg_sl ([.ref h_t, .int x1]) ++ List.replicate (3 - (lg_sl ([.ref h_t, .int x1])).length) Slot.unset).toArray = ls at hl ⊢
  have hl : lv_has ls 3 [(0, .ref h_t), (1, .int x1)] := hl
  obtain ⟨H, hH⟩ : ∃ H : Heap, H = s.heap := ⟨_, rfl⟩
  have hP : va_P (dC, dI) vwCl (wd_X5_changeTurn cI cZ cP cS h_t h_t_fitting h_t_worstLeft v_turn v_phase v_up) H := by rw [hH]; exact hP
  have hS : va_S (va_A (wd_X5_changeTurn cI cZ cP cS h_t h_t_fitting h_t_worstLeft v_turn v_phase v_up) s.heap.size) s.heap H [] := by rw [hH]; exact hS
  obtain ⟨locs, hlo⟩ : ∃ L : List Loc, L = [] := ⟨_, rfl⟩
  rw [← hlo] at hS
  suffices hgo : W p l e (headSpec wsX5_changeTurn rm_X5_changeTurn).room s m ([.ref h_t, .int x1] : List Value).toArray below meth c H locs 0 0 (MQ below (RWi (dC, dI) (TY cI cZ cP cS) r s.heap.size (wd_X5_changeTurn cI cZ cP cS h_t h_t_fitting h_t_worstLeft v_turn v_phase v_up) (wd_X5_changeTurn cI cZ cP cS h_t h_t_fitting h_t_worstLeft o_turn o_phase o_up)) ([.ref h_t, .int x1] : List Value).toArray s 0 0 (va_A (wd_X5_changeTurn cI cZ cP cS h_t h_t_fitting h_t_worstLeft v_turn v_phase v_up) s.heap.size)) (F0 m 0 ls []) by rw [hH, hlo] at hgo; exact hgo
  clear hH hlo
  unfold f_X5_changeTurn at hf
  refine lv_aload_n hx hb dX5_changeTurn_0 rfl (lv_at hl 0 rfl) ?_
  refine va_get (D := (dC, dI)) (ci := 5) (v := .int v_turn) (C := RX5) (T := TX5) (N := 5) hx hb hts hinX5 hown hK hP 0 rfl rfl 0 (by decide) (hts (.fieldLink RX5 23 "SecondSunrise$Sun" "turn" "I") (by decide +kernel)) (fun _ h9 => h9) rfl dX5_changeTurn_1 ?_
  refine lv_istore_n (lv' := [(2, .int v_turn), (0, .ref h_t), (1, .int x1)]) hx hb dX5_changeTurn_4 rfl hl (by decide) rfl (fun ls hl => ?_)
  refine lv_aload_n hx hb dX5_changeTurn_5 rfl (lv_at hl 1 rfl) ?_
  refine lv_iload_n hx hb dX5_changeTurn_6 rfl (lv_at hl 2 rfl) ?_
  refine va_put (D := (dC, dI)) (ci := 5) (v := .int x1) (ty := .int) (C := RX5) (T := TX5) (N := 5) hx hb hts hinX5 tyX5 tyX5_ok nmX5 hown hK hP hD hS 0 rfl rfl 0 (by decide) (hts (.fieldLink RX5 23 "SecondSunrise$Sun" "turn" "I") (by decide +kernel)) (fun _ h9 => h9) rfl (by decide +kernel) rfl rfl (Nat.le_of_ble_eq_true rfl) dX5_changeTurn_7 (fun H locs hP hD hS => ?_)
  have hP : va_P (dC, dI) vwCl (wd_X5_changeTurn cI cZ cP cS h_t h_t_fitting h_t_worstLeft x1 v_phase v_up) H := hP
  have hD : va_D (va_A (wd_X5_changeTurn cI cZ cP cS h_t h_t_fitting h_t_worstLeft v_turn v_phase v_up) s.heap.size) (wd_X5_changeTurn cI cZ cP cS h_t h_t_fitting h_t_worstLeft x1 v_phase v_up) := hD
  refine lv_aload_n hx hb dX5_changeTurn_10 rfl (lv_at hl 1 rfl) ?_
  refine lv_aload_n hx hb dX5_changeTurn_11 rfl (lv_at hl 1 rfl) ?_
  refine lv_iconst (v := 0) hx hb dX5_changeTurn_12 (by decide) ?_
  refine lv_aload_n hx hb dX5_changeTurn_13 rfl (lv_at hl 1 rfl) ?_
  refine va_get (D := (dC, dI)) (ci := 5) (v := .int v_phase) (C := RX5) (T := TX5) (N := 5) hx hb hts hinX5 hown hK hP 0 rfl rfl 1 (by decide) (hts (.fieldLink RX5 9 "SecondSunrise$Sun" "phase" "I") (by decide +kernel)) (fun _ h9 => h9) rfl dX5_changeTurn_14 ?_
  obtain ⟨r17_1, hc_2, hf⟩ := bd1_e hf
  refine vp_callSi (va_runV (As := [.int 0, .int v_phase]) (rest := [.ref h_t]) ⟨hx, hb, hml, hown, hts⟩ (c_X5_placeBy l dC dI cI cZ cP cS h_t h_t_fitting h_t_worstLeft x1 v_phase v_up 0 v_phase n r17_1 hc_2) (cwV 2 hts gX5_changeTurn_X5_placeBy rfl rfl rfl (by decide +kernel) ⟨Nat.le_of_ble_eq_true rfl, Nat.le_of_ble_eq_true rfl⟩) (pv_ro (ci := 5) (q0 := 0) hK (hP.sub (ws' := (wd_X5_placeBy cI cZ cP cS h_t h_t_fitting h_t_worstLeft x1 v_phase v_up)) [0] rfl) rfl rfl) rfl rfl hl.1 rfl (lv_room (Nat.le_of_ble_eq_true rfl)) dX5_changeTurn_17 ⟨Nat.zero_le _, Nat.zero_le _⟩).run (fun x e_3 => ?_)
  rw [e_3]
  refine va_put (D := (dC, dI)) (ci := 5) (v := .int r17_1) (ty := .int) (C := RX5) (T := TX5) (N := 5) hx hb hts hinX5 tyX5 tyX5_ok nmX5 hown hK hP hD hS 0 rfl rfl 1 (by decide) (hts (.fieldLink RX5 9 "SecondSunrise$Sun" "phase" "I") (by decide +kernel)) (fun _ h9 => h9) rfl (by decide +kernel) rfl rfl (Nat.le_of_ble_eq_true rfl) dX5_changeTurn_20 (fun H locs hP hD hS => ?_)
  have hP : va_P (dC, dI) vwCl (wd_X5_changeTurn cI cZ cP cS h_t h_t_fitting h_t_worstLeft x1 r17_1 v_up) H := hP
  have hD : va_D (va_A (wd_X5_changeTurn cI cZ cP cS h_t h_t_fitting h_t_worstLeft v_turn v_phase v_up) s.heap.size) (wd_X5_changeTurn cI cZ cP cS h_t h_t_fitting h_t_worstLeft x1 r17_1 v_up) := hD
  refine lv_aload_n hx hb dX5_changeTurn_23 rfl (lv_at hl 1 rfl) ?_
  refine lv_aload_n hx hb dX5_changeTurn_24 rfl (lv_at hl 1 rfl) ?_
  refine va_get (D := (dC, dI)) (ci := 5) (v := .int v_up) (C := RX5) (T := TX5) (N := 5) hx hb hts hinX5 hown hK hP 0 rfl rfl 2 (by decide) (hts (.fieldLink RX5 26 "SecondSunrise$Sun" "up" "I") (by decide +kernel)) (fun _ h9 => h9) rfl dX5_changeTurn_25 ?_
  refine lv_iload_n hx hb dX5_changeTurn_28 rfl (lv_at hl 2 rfl) ?_
  refine va_mmin hx hb (hml.trans hl.1.symm) hown (hts (.methodLink RX5 33 Lib.Math.min.name) (by decide +kernel)) (hts (.static Lib.Math.min.name) (by decide +kernel)) (hts (.initialized "java/lang/Math") (by decide +kernel)) (hts (.code Lib.Math.min.name Lib.Math.min.code 2 (some .int)) (by decide +kernel)) (Nat.le_of_ble_eq_true rfl) (Nat.le_of_ble_eq_true rfl) (Nat.zero_le _) (Nat.zero_le _) dX5_changeTurn_29 ?_
  refine va_put (D := (dC, dI)) (ci := 5) (v := .int (if x1 < v_up then x1 else v_up)) (ty := .int) (C := RX5) (T := TX5) (N := 5) hx hb hts hinX5 tyX5 tyX5_ok nmX5 hown hK hP hD hS 0 rfl rfl 2 (by decide) (hts (.fieldLink RX5 26 "SecondSunrise$Sun" "up" "I") (by decide +kernel)) (fun _ h9 => h9) rfl (by decide +kernel) rfl rfl (Nat.le_of_ble_eq_true rfl) dX5_changeTurn_32 (fun H locs hP hD hS => ?_)
  have hP : va_P (dC, dI) vwCl (wd_X5_changeTurn cI cZ cP cS h_t h_t_fitting h_t_worstLeft x1 r17_1 (if x1 < v_up then x1 else v_up)) H := hP
  have hD : va_D (va_A (wd_X5_changeTurn cI cZ cP cS h_t h_t_fitting h_t_worstLeft v_turn v_phase v_up) s.heap.size) (wd_X5_changeTurn cI cZ cP cS h_t h_t_fitting h_t_worstLeft x1 r17_1 (if x1 < v_up then x1 else v_up)) := hD
  refine lv_iload_n hx hb dX5_changeTurn_35 rfl (lv_at hl 0 rfl) ?_
  have hq0 := Option.some.inj hf
  obtain ⟨eq0, hq1⟩ := Prod.mk.inj hq0
  obtain ⟨eq1, hq2⟩ := Prod.mk.inj hq1
  obtain ⟨eq2, hq3⟩ := Prod.mk.inj hq2
  clear hf hq0 hq1 hq2
  subst eq0
  subst eq1
  subst eq2
  subst hq3
  exact W.iret hx hb hr (fun t ht hW => ⟨⟨_, (), rfl, rfl, by rw [ht]; exact hP, va_K.moved hW.alike hK, hD⟩, hS.F ht⟩) hS.2.2 dX5_changeTurn_36

abbrev wd_X5_changeUp (cI cZ cP cS : ClassId) (h_t h_t_fitting h_t_worstLeft : Nat) (v_turn : Int32) (v_phase : Int32) (v_up : Int32) : va_W := [(h_t, .inr (5, [.int v_turn, .int v_phase, .int v_up, .ref h_t_fitting, .ref h_t_worstLeft]))]
abbrev rm_X5_changeUp : Room := { frames := 0, cells := 0, slots := 0, locals := 0 }
def f_X5_changeUp (n : Nat) (v_up : Int32) (x1 : Int32) : Option (Int32 × Int32) := some (v_up, x1)
set_option maxHeartbeats 4000000 in
set_option maxRecDepth 100000 in
theorem c_X5_changeUp (l : Launch) (dC : Nat → ClassId) (dI : Nat → Nat → Nat) (cI cZ cP cS : ClassId) (sz : Nat) (h_t h_t_fitting h_t_worstLeft : Nat) (v_turn : Int32) (v_phase : Int32) (v_up : Int32) (x1 : Int32) (n : Nat) (r : Int32) (o_up : Int32) (hf : f_X5_changeUp n v_up x1 = some (r, o_up)) : Met l yX5_changeUp wsX5_changeUp rm_X5_changeUp (RW (dC, dI) (TY cI cZ cP cS) [.ref h_t, .int x1] sz (wd_X5_changeUp cI cZ cP cS h_t h_t_fitting h_t_worstLeft v_turn v_phase v_up)) (RWi (dC, dI) (TY cI cZ cP cS) r sz (wd_X5_changeUp cI cZ cP cS h_t h_t_fitting h_t_worstLeft v_turn v_phase v_up) (wd_X5_changeUp cI cZ cP cS h_t h_t_fitting h_t_worstLeft v_turn v_phase o_up)) 0 0 (va_A (wd_X5_changeUp cI cZ cP cS h_t h_t_fitting h_t_worstLeft v_turn v_phase v_up) sz) := by
  refine Met.ofW (cc := cX5_changeUp) (maxL := 3) (ret := (some .int)) (by decide) rfl ?_
  intro p e s m args below meth c s₁ B hml hv
  obtain ⟨rfl, hsz, hP, hK, hD0⟩ := hv
  have hx := B.exec
  have hb := B.bytes
  have hr := B.returns
  have hts := atoms_spec (ws := wsX5_changeUp) B.pre
  have hown : s.vm.findClass RX5 = some m.cls := findClass_of_methodNamed B.named
  have hlocks := B.notSynchronized
  subst hsz
  have hD := hD0.self (sz := s.heap.size)
  have hA : ∀ q : Nat, s.heap.size ≤ q → (va_A (wd_X5_changeUp cI cZ cP cS h_t h_t_fitting h_t_worstLeft v_turn v_phase v_up) s.heap.size) q := fun q h => Or.inr h
  have hS : va_S (va_A (wd_X5_changeUp cI cZ cP cS h_t h_t_fitting h_t_worstLeft v_turn v_phase v_up) s.heap.size) s.heap s.heap [] := va_S.rf
  have hinX5 : ∀ w ∈ wsX50, w ∈ wsX5_changeUp := by decide +kernel
  have hl := lv_entry ([.ref h_t, .int x1]) (n := 3) (Nat.le_of_ble_eq_true rfl)
  rw [lg_entry_eq]
  generalize (lg_sl ([.ref h_t, .int x1]) ++ List.replicate (3 - (lg_sl ([.ref h_t, .int x1])).length) Slot.unset).toArray = ls at hl ⊢
  have hl : lv_has ls 3 [(0, .ref h_t), (1, .int x1)] := hl
  obtain ⟨H, hH⟩ : ∃ H : Heap, H = s.heap := ⟨_, rfl⟩
  have hP : va_P (dC, dI) vwCl (wd_X5_changeUp cI cZ cP cS h_t h_t_fitting h_t_worstLeft v_turn v_phase v_up) H := by rw [hH]; exact hP
  have hS : va_S (va_A (wd_X5_changeUp cI cZ cP cS h_t h_t_fitting h_t_worstLeft v_turn v_phase v_up) s.heap.size) s.heap H [] := by rw [hH]; exact hS
  obtain ⟨locs, hlo⟩ : ∃ L : List Loc, L = [] := ⟨_, rfl⟩
  rw [← hlo] at hS
  suffices hgo : W p l e (headSpec wsX5_changeUp rm_X5_changeUp).room s m ([.ref h_t, .int x1] : List Value).toArray below meth c H locs 0 0 (MQ below (RWi (dC, dI) (TY cI cZ cP cS) r s.heap.size (wd_X5_changeUp cI cZ cP cS h_t h_t_fitting h_t_worstLeft v_turn v_phase v_up) (wd_X5_changeUp cI cZ cP cS h_t h_t_fitting h_t_worstLeft v_turn v_phase o_up)) ([.ref h_t, .int x1] : List Value).toArray s 0 0 (va_A (wd_X5_changeUp cI cZ cP cS h_t h_t_fitting h_t_worstLeft v_turn v_phase v_up) s.heap.size)) (F0 m 0 ls []) by rw [hH, hlo] at hgo; exact hgo
  clear hH hlo
  unfold f_X5_changeUp at hf
  refine lv_aload_n hx hb dX5_changeUp_0 rfl (lv_at hl 0 rfl) ?_
  refine va_get (D := (dC, dI)) (ci := 5) (v := .int v_up) (C := RX5) (T := TX5) (N := 5) hx hb hts hinX5 hown hK hP 0 rfl rfl 2 (by decide) (hts (.fieldLink RX5 26 "SecondSunrise$Sun" "up" "I") (by decide +kernel)) (fun _ h9 => h9) rfl dX5_changeUp_1 ?_
  refine lv_istore_n (lv' := [(2, .int v_up), (0, .ref h_t), (1, .int x1)]) hx hb dX5_changeUp_4 rfl hl (by decide) rfl (fun ls hl => ?_)
  refine lv_aload_n hx hb dX5_changeUp_5 rfl (lv_at hl 1 rfl) ?_
  refine lv_iload_n hx hb dX5_changeUp_6 rfl (lv_at hl 2 rfl) ?_
  refine va_put (D := (dC, dI)) (ci := 5) (v := .int x1) (ty := .int) (C := RX5) (T := TX5) (N := 5) hx hb hts hinX5 tyX5 tyX5_ok nmX5 hown hK hP hD hS 0 rfl rfl 2 (by decide) (hts (.fieldLink RX5 26 "SecondSunrise$Sun" "up" "I") (by decide +kernel)) (fun _ h9 => h9) rfl (by decide +kernel) rfl rfl (Nat.le_of_ble_eq_true rfl) dX5_changeUp_7 (fun H locs hP hD hS => ?_)
  have hP : va_P (dC, dI) vwCl (wd_X5_changeUp cI cZ cP cS h_t h_t_fitting h_t_worstLeft v_turn v_phase x1) H := hP
  have hD : va_D (va_A (wd_X5_changeUp cI cZ cP cS h_t h_t_fitting h_t_worstLeft v_turn v_phase v_up) s.heap.size) (wd_X5_changeUp cI cZ cP cS h_t h_t_fitting h_t_worstLeft v_turn v_phase x1) := hD
  refine lv_iload_n hx hb dX5_changeUp_10 rfl (lv_at hl 0 rfl) ?_
  have hq0 := Option.some.inj hf
  obtain ⟨eq0, hq1⟩ := Prod.mk.inj hq0
  clear hf hq0
  subst eq0
  subst hq1
  exact W.iret hx hb hr (fun t ht hW => ⟨⟨_, (), rfl, rfl, by rw [ht]; exact hP, va_K.moved hW.alike hK, hD⟩, hS.F ht⟩) hS.2.2 dX5_changeUp_11
