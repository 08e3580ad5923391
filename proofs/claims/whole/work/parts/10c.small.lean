abbrev wd_X5_fitsWith (cI cZ cP cS : ClassId) (h_t h_t_fitting h_t_worstLeft h_a2 h_a2_bytes : Nat) (v_turn : Int32) (v_phase : Int32) (v_up : Int32) (v_dsize : Int32) (v_dbytes : Nat → Int32) : va_W := [(h_t, .inr (5, [.int v_turn, .int v_phase, .int v_up, .ref h_t_fitting, .ref h_t_worstLeft])), (h_a2, .inr (1, [.ref h_a2_bytes, .int v_dsize])), (h_a2_bytes, .inl (cI, 60, .inl v_dbytes))]
abbrev rm_X5_fitsWith : Room := { frames := 2, cells := 0, slots := 0, locals := 42 }
def L_X5_fitsWith_3 (n : Nat) (v_turn : Int32) (v_up : Int32) (v_dsize : Int32) (v_dbytes : Nat → Int32) (x1 : Int32) (x3 : Int32) (x4 : Int32) (kx3 : Option (Int32)) : Nat → Int32 → Option (Int32)
  | 0, _ => none
  | k3 + 1, y3_5 => if x3 ≤ y3_5 then kx3 else bd1_ (f_X1_seenIn n v_dsize v_dbytes y3_5) (fun (r12_1 : Int32) => lt_ ((if ((r12_1 >>> (x4 &&& 31)) &&& 1) = 1 then 1 else 0) : Int32) (fun v33_4 => jn0_ (L_X5_fitsWith_3 n v_turn v_up v_dsize v_dbytes x1 x3 x4 kx3 k3 (y3_5 + 1)) (fun k67 => if r12_1 = (-1) then k67 else bd1_ (f_X5_placeBy n v_turn x1 y3_5) (fun (r47_6 : Int32) => lt_ ((if v_up ≤ r47_6 then 0 else 1) : Int32) (fun v62_9 => if v33_4 = v62_9 then k67 else some 0)))))
theorem L_X5_fitsWith_3_s (n : Nat) (v_turn : Int32) (v_up : Int32) (v_dsize : Int32) (v_dbytes : Nat → Int32) (x1 : Int32) (x3 : Int32) (x4 : Int32) (kx3 : Option (Int32)) (k3 : Nat) (y3_5 : Int32) : L_X5_fitsWith_3 n v_turn v_up v_dsize v_dbytes x1 x3 x4 kx3 (k3 + 1) y3_5 = if x3 ≤ y3_5 then kx3 else bd1_ (f_X1_seenIn n v_dsize v_dbytes y3_5) (fun (r12_1 : Int32) => lt_ ((if ((r12_1 >>> (x4 &&& 31)) &&& 1) = 1 then 1 else 0) : Int32) (fun v33_4 => jn0_ (L_X5_fitsWith_3 n v_turn v_up v_dsize v_dbytes x1 x3 x4 kx3 k3 (y3_5 + 1)) (fun k67 => if r12_1 = (-1) then k67 else bd1_ (f_X5_placeBy n v_turn x1 y3_5) (fun (r47_6 : Int32) => lt_ ((if v_up ≤ r47_6 then 0 else 1) : Int32) (fun v62_9 => if v33_4 = v62_9 then k67 else some 0))))) := rfl
def f_X5_fitsWith (n : Nat) (v_turn : Int32) (v_up : Int32) (v_dsize : Int32) (v_dbytes : Nat → Int32) (x1 : Int32) (x3 : Int32) (x4 : Int32) : Option (Int32) := jn0_ (some 1) (fun kx3 => L_X5_fitsWith_3 n v_turn v_up v_dsize v_dbytes x1 x3 x4 kx3 n 0)
set_option maxHeartbeats 4000000 in
set_option maxRecDepth 100000 in
theorem c_X5_fitsWith (l : Launch) (dC : Nat → ClassId) (dI : Nat → Nat → Nat) (cI cZ cP cS : ClassId) (h_t h_t_fitting h_t_worstLeft h_a2 h_a2_bytes : Nat) (v_turn : Int32) (v_phase : Int32) (v_up : Int32) (v_dsize : Int32) (v_dbytes : Nat → Int32) (x1 : Int32) (x3 : Int32) (x4 : Int32) (n : Nat) (r : Int32) (hf : f_X5_fitsWith n v_turn v_up v_dsize v_dbytes x1 x3 x4 = some r) : Met l yX5_fitsWith wsX5_fitsWith rm_X5_fitsWith (RO (dC, dI) (TY cI cZ cP cS) [.ref h_t, .int x1, .ref h_a2, .int x3, .int x4] (wd_X5_fitsWith cI cZ cP cS h_t h_t_fitting h_t_worstLeft h_a2 h_a2_bytes v_turn v_phase v_up v_dsize v_dbytes)) (vp_Si (fun x => x = r ∧ narrow .boolean (.int x) = .int x)) 0 0 NF := by
  refine Met.ofW (cc := cX5_fitsWith) (maxL := 8) (ret := (some .boolean)) (by decide) rfl ?_
  intro p e s m args below meth c s₁ B hml hv
  obtain ⟨rfl, hP, hK⟩ := hv
  have hx := B.exec
  have hb := B.bytes
  have hr := B.returns
  have hts := atoms_spec (ws := wsX5_fitsWith) B.pre
  have hown : s.vm.findClass RX5 = some m.cls := findClass_of_methodNamed B.named
  have hlocks := B.notSynchronized
  have hinX5 : ∀ w ∈ wsX50, w ∈ wsX5_fitsWith := by decide +kernel
  have hl := lv_entry ([.ref h_t, .int x1, .ref h_a2, .int x3, .int x4]) (n := 8) (Nat.le_of_ble_eq_true rfl)
  rw [lg_entry_eq]
  generalize (lg_sl ([.ref h_t, .int x1, .ref h_a2, .int x3, .int x4]) ++ List.replicate (8 - (lg_sl ([.ref h_t, .int x1, .ref h_a2, .int x3, .int x4])).length) Slot.unset).toArray = ls at hl ⊢
  have hl : lv_has ls 8 [(0, .ref h_t), (1, .int x1), (2, .ref h_a2), (3, .int x3), (4, .int x4)] := hl
  unfold f_X5_fitsWith at hf
  refine lv_iconst (v := 0) hx hb dX5_fitsWith_0 (by decide) ?_
  refine lv_istore (lv' := [(5, .int 0), (0, .ref h_t), (1, .int x1), (2, .ref h_a2), (3, .int x3), (4, .int x4)]) hx hb dX5_fitsWith_1 hl (by decide) rfl (fun ls hl => ?_)
  obtain ⟨kx3, ekx3, hf⟩ := jn0_e hf
  have hx3 : ∀ (ls : Array Slot), lv_has ls 8 [] → kx3 = some r → W p l e (headSpec wsX5_fitsWith rm_X5_fitsWith).room s m ([.ref h_t, .int x1, .ref h_a2, .int x3, .int x4] : List Value).toArray below meth c s.heap [] 0 0 (MQ below (vp_Si (fun x => x = r ∧ narrow .boolean (.int x) = .int x)) ([.ref h_t, .int x1, .ref h_a2, .int x3, .int x4] : List Value).toArray s 0 0 NF) (F0 m 73 ls []) := by
    intro ls hl hf
    rw [ekx3] at hf
    refine lv_iconst (v := 1) hx hb dX5_fitsWith_73 (by decide) ?_
    exact W.zret hx hb hr (by decide) (fun t ht hW => ⟨_, rfl, ⟨Option.some.inj hf, (by decide)⟩, ht⟩) (fun _ h => nomatch h) dX5_fitsWith_74
  have hL3 : ∀ (k3 : Nat) (y3_5 : Int32) (ls : Array Slot), lv_has ls 8 [(0, .ref h_t), (1, .int x1), (2, .ref h_a2), (3, .int x3), (4, .int x4), (5, .int y3_5)] → L_X5_fitsWith_3 n v_turn v_up v_dsize v_dbytes x1 x3 x4 kx3 k3 y3_5 = some r → W p l e (headSpec wsX5_fitsWith rm_X5_fitsWith).room s m ([.ref h_t, .int x1, .ref h_a2, .int x3, .int x4] : List Value).toArray below meth c s.heap [] 0 0 (MQ below (vp_Si (fun x => x = r ∧ narrow .boolean (.int x) = .int x)) ([.ref h_t, .int x1, .ref h_a2, .int x3, .int x4] : List Value).toArray s 0 0 NF) (F0 m 3 ls []) := by
    intro k3
    induction k3 with
    | zero =>
      intro y3_5 ls hl hf
      exact absurd hf (fun h => Option.some_ne_none _ h.symm)
    | succ k3 ih =>
      intro y3_5 ls hl hf
      rw [L_X5_fitsWith_3_s] at hf
      refine lv_iload hx hb dX5_fitsWith_3 (lv_at hl 5 rfl) ?_
      refine lv_iload_n hx hb dX5_fitsWith_5 rfl (lv_at hl 3 rfl) ?_
      refine lv_icmp_ge (tgt := 73) hx hb dX5_fitsWith_6 (by decide) (fun c6 => ?_) (fun c6 => ?_)
      · rw [if_pos c6] at hf
        exact hx3 ls (lv_sub hl [] rfl) hf
      · rw [if_neg c6] at hf
        refine lv_aload_n hx hb dX5_fitsWith_9 rfl (lv_at hl 2 rfl) ?_
        refine lv_iload hx hb dX5_fitsWith_10 (lv_at hl 5 rfl) ?_
        obtain ⟨r12_1, hc_2, hf⟩ := bd1_e hf
        refine vp_callSi (va_runV (As := [.int y3_5]) (rest := []) ⟨hx, hb, hml, hown, hts⟩ (c_X1_seenIn l dC dI cI cZ cP cS h_a2 h_a2_bytes v_dsize v_dbytes y3_5 n r12_1 hc_2) (cwV 1 hts gX5_fitsWith_X1_seenIn rfl rfl rfl (by decide +kernel) ⟨Nat.le_of_ble_eq_true rfl, Nat.le_of_ble_eq_true rfl⟩) (pv_ro (ci := 1) (q0 := 0) hK (hP.sub (ws' := (wd_X1_seenIn cI cZ cP cS h_a2 h_a2_bytes v_dsize v_dbytes)) [1, 2] rfl) rfl rfl) rfl rfl hl.1 rfl (lv_room (Nat.le_of_ble_eq_true rfl)) dX5_fitsWith_12 ⟨Nat.zero_le _, Nat.zero_le _⟩).run (fun x e_3 => ?_)
        rw [e_3]
        refine lv_istore (lv' := [(6, .int r12_1), (0, .ref h_t), (1, .int x1), (2, .ref h_a2), (3, .int x3), (4, .int x4), (5, .int y3_5)]) hx hb dX5_fitsWith_15 hl (by decide) rfl (fun ls hl => ?_)
        refine lv_iload hx hb dX5_fitsWith_17 (lv_at hl 0 rfl) ?_
        refine lv_iload hx hb dX5_fitsWith_19 (lv_at hl 5 rfl) ?_
        refine lv_ishr hx hb dX5_fitsWith_21 ?_
        refine lv_iconst (v := 1) hx hb dX5_fitsWith_22 (by decide) ?_
        refine lv_iand hx hb dX5_fitsWith_23 ?_
        refine lv_iconst (v := 1) hx hb dX5_fitsWith_24 (by decide) ?_
        obtain ⟨v33_4, ev33_4, hf⟩ := lt_e hf
        have hj33_5 : ∀ (ls : Array Slot), lv_has ls 8 [(0, .ref h_t), (1, .int x1), (2, .ref h_a2), (3, .int x3), (4, .int x4), (5, .int y3_5), (6, .int r12_1)] → W p l e (headSpec wsX5_fitsWith rm_X5_fitsWith).room s m ([.ref h_t, .int x1, .ref h_a2, .int x3, .int x4] : List Value).toArray below meth c s.heap [] 0 0 (MQ below (vp_Si (fun x => x = r ∧ narrow .boolean (.int x) = .int x)) ([.ref h_t, .int x1, .ref h_a2, .int x3, .int x4] : List Value).toArray s 0 0 NF) (F0 m 33 ls [.int v33_4]) := by
          intro ls hl
          refine lv_istore (lv' := [(7, .int v33_4), (0, .ref h_t), (1, .int x1), (2, .ref h_a2), (3, .int x3), (4, .int x4), (5, .int y3_5), (6, .int r12_1)]) hx hb dX5_fitsWith_33 hl (by decide) rfl (fun ls hl => ?_)
          refine lv_iload hx hb dX5_fitsWith_35 (lv_at hl 7 rfl) ?_
          refine lv_iconst (v := (-1)) hx hb dX5_fitsWith_37 (by decide) ?_
          obtain ⟨k67, ek67, hf⟩ := jn0_e hf
          have hj67 : ∀ (ls : Array Slot), lv_has ls 8 [(0, .ref h_t), (1, .int x1), (2, .ref h_a2), (3, .int x3), (4, .int x4), (5, .int y3_5)] → k67 = some r → W p l e (headSpec wsX5_fitsWith rm_X5_fitsWith).room s m ([.ref h_t, .int x1, .ref h_a2, .int x3, .int x4] : List Value).toArray below meth c s.heap [] 0 0 (MQ below (vp_Si (fun x => x = r ∧ narrow .boolean (.int x) = .int x)) ([.ref h_t, .int x1, .ref h_a2, .int x3, .int x4] : List Value).toArray s 0 0 NF) (F0 m 67 ls []) := by
            intro ls hl hf
            rw [ek67] at hf
            refine lv_iinc (v := (y3_5 + 1)) (lv' := [(5, .int (y3_5 + 1)), (0, .ref h_t), (1, .int x1), (2, .ref h_a2), (3, .int x3), (4, .int x4)]) hx hb dX5_fitsWith_67 hl (k := 5) rfl rfl (by decide) rfl (fun ls hl => ?_)
            refine lv_goto (tgt := 3) hx hb dX5_fitsWith_70 (by decide) ?_
            exact ih (y3_5 + 1) ls (lv_sub hl [1, 2, 3, 4, 5, 0] rfl) hf
          refine lv_icmp_eq (tgt := 67) hx hb dX5_fitsWith_38 (by decide) (fun c38 => ?_) (fun c38 => ?_)
          · rw [if_pos c38] at hf
            exact hj67 ls (lv_sub hl [1, 2, 3, 4, 5, 6] rfl) hf
          · rw [if_neg c38] at hf
            refine lv_iload hx hb dX5_fitsWith_41 (lv_at hl 0 rfl) ?_
            refine lv_aload_n hx hb dX5_fitsWith_43 rfl (lv_at hl 1 rfl) ?_
            refine lv_iload_n hx hb dX5_fitsWith_44 rfl (lv_at hl 2 rfl) ?_
            refine lv_iload hx hb dX5_fitsWith_45 (lv_at hl 6 rfl) ?_
            obtain ⟨r47_6, hc_7, hf⟩ := bd1_e hf
            refine vp_callSi (va_runV (As := [.int x1, .int y3_5]) (rest := [.int v33_4]) ⟨hx, hb, hml, hown, hts⟩ (c_X5_placeBy l dC dI cI cZ cP cS h_t h_t_fitting h_t_worstLeft v_turn v_phase v_up x1 y3_5 n r47_6 hc_7) (cwV 2 hts gX5_fitsWith_X5_placeBy rfl rfl rfl (by decide +kernel) ⟨Nat.le_of_ble_eq_true rfl, Nat.le_of_ble_eq_true rfl⟩) (pv_ro (ci := 5) (q0 := 0) hK (hP.sub (ws' := (wd_X5_placeBy cI cZ cP cS h_t h_t_fitting h_t_worstLeft v_turn v_phase v_up)) [0] rfl) rfl rfl) rfl rfl hl.1 rfl (lv_room (Nat.le_of_ble_eq_true rfl)) dX5_fitsWith_47 ⟨Nat.zero_le _, Nat.zero_le _⟩).run (fun x e_8 => ?_)
            rw [e_8]
            refine lv_aload_n hx hb dX5_fitsWith_50 rfl (lv_at hl 1 rfl) ?_
            refine va_get (D := (dC, dI)) (ci := 5) (v := .int v_up) (C := RX5) (T := TX5) (N := 5) hx hb hts hinX5 hown hK hP 0 rfl rfl 2 (by decide) (hts (.fieldLink RX5 26 "SecondSunrise$Sun" "up" "I") (by decide +kernel)) (fun _ h9 => h9) rfl dX5_fitsWith_51 ?_
            obtain ⟨v62_9, ev62_9, hf⟩ := lt_e hf
            have hj62_10 : ∀ (ls : Array Slot), lv_has ls 8 [(0, .ref h_t), (1, .int x1), (2, .ref h_a2), (3, .int x3), (4, .int x4), (5, .int y3_5)] → W p l e (headSpec wsX5_fitsWith rm_X5_fitsWith).room s m ([.ref h_t, .int x1, .ref h_a2, .int x3, .int x4] : List Value).toArray below meth c s.heap [] 0 0 (MQ below (vp_Si (fun x => x = r ∧ narrow .boolean (.int x) = .int x)) ([.ref h_t, .int x1, .ref h_a2, .int x3, .int x4] : List Value).toArray s 0 0 NF) (F0 m 62 ls [.int v62_9, .int v33_4]) := by
              intro ls hl
              refine lv_icmp_eq (tgt := 67) hx hb dX5_fitsWith_62 (by decide) (fun c62 => ?_) (fun c62 => ?_)
              · rw [if_pos c62] at hf
                exact hj67 ls (lv_sub hl [0, 1, 2, 3, 4, 5] rfl) hf
              · rw [if_neg c62] at hf
                refine lv_iconst (v := 0) hx hb dX5_fitsWith_65 (by decide) ?_
                exact W.zret hx hb hr (by decide) (fun t ht hW => ⟨_, rfl, ⟨Option.some.inj hf, (by decide)⟩, ht⟩) (fun _ h => nomatch h) dX5_fitsWith_66
            clear hf
            refine lv_icmp_ge (tgt := 61) hx hb dX5_fitsWith_54 (by decide) (fun c54 => ?_) (fun c54 => ?_)
            ·
              refine lv_iconst (v := 0) hx hb dX5_fitsWith_61 (by decide) ?_
              rw [if_pos c54] at ev62_9
              subst ev62_9
              exact hj62_10 ls (lv_sub hl [1, 2, 3, 4, 5, 6] rfl)
            ·
              refine lv_iconst (v := 1) hx hb dX5_fitsWith_57 (by decide) ?_
              refine lv_goto (tgt := 62) hx hb dX5_fitsWith_58 (by decide) ?_
              rw [if_neg c54] at ev62_9
              subst ev62_9
              exact hj62_10 ls (lv_sub hl [1, 2, 3, 4, 5, 6] rfl)
        clear hf
        refine lv_icmp_ne (tgt := 32) hx hb dX5_fitsWith_25 (by decide) (fun c25 => ?_) (fun c25 => ?_)
        ·
          refine lv_iconst (v := 0) hx hb dX5_fitsWith_32 (by decide) ?_
          rw [if_neg c25] at ev33_4
          subst ev33_4
          exact hj33_5 ls (lv_sub hl [1, 2, 3, 4, 5, 6, 0] rfl)
        ·
          refine lv_iconst (v := 1) hx hb dX5_fitsWith_28 (by decide) ?_
          refine lv_goto (tgt := 33) hx hb dX5_fitsWith_29 (by decide) ?_
          rw [if_pos c25] at ev33_4
          subst ev33_4
          exact hj33_5 ls (lv_sub hl [1, 2, 3, 4, 5, 6, 0] rfl)
  exact hL3 n 0 ls (lv_sub hl [1, 2, 3, 4, 5, 0] rfl) hf

abbrev wd_X5_findFitting (cI cZ cP cS : ClassId) (h_t h_t_fitting h_t_worstLeft h_a1 h_a1_bytes : Nat) (v_turn : Int32) (v_phase : Int32) (v_up : Int32) (v_fitting : Nat → Int32) (v_dsize : Int32) (v_dbytes : Nat → Int32) : va_W := [(h_t, .inr (5, [.int v_turn, .int v_phase, .int v_up, .ref h_t_fitting, .ref h_t_worstLeft])), (h_t_fitting, .inl (cZ, 40, .inl v_fitting)), (h_a1, .inr (1, [.ref h_a1_bytes, .int v_dsize])), (h_a1_bytes, .inl (cI, 60, .inl v_dbytes))]
abbrev rm_X5_findFitting : Room := { frames := 3, cells := 0, slots := 0, locals := 69 }
def L_X5_findFitting_3 (n : Nat) (v_turn : Int32) (v_up : Int32) (v_dsize : Int32) (v_dbytes : Nat → Int32) (x2 : Int32) (x3 : Int32) (kx3 : (Nat → Int32) → Option ((Nat → Int32))) : Nat → Int32 → (Nat → Int32) → Option ((Nat → Int32))
  | 0, _, _ => none
  | k3 + 1, y3_4, w3_fitting => if v_turn ≤ y3_4 then kx3 w3_fitting else if (40 : Int32) ≤ y3_4 then kx3 w3_fitting else bd1_ (f_X5_fitsWith n v_turn v_up v_dsize v_dbytes y3_4 x2 x3) (fun (r31_1 : Int32) => ix_ y3_4 40 (L_X5_findFitting_3 n v_turn v_up v_dsize v_dbytes x2 x3 kx3 k3 (y3_4 + 1) (upd w3_fitting y3_4.toNatClampNeg (vp_nar .boolean r31_1))))
theorem L_X5_findFitting_3_s (n : Nat) (v_turn : Int32) (v_up : Int32) (v_dsize : Int32) (v_dbytes : Nat → Int32) (x2 : Int32) (x3 : Int32) (kx3 : (Nat → Int32) → Option ((Nat → Int32))) (k3 : Nat) (y3_4 : Int32) (w3_fitting : Nat → Int32) : L_X5_findFitting_3 n v_turn v_up v_dsize v_dbytes x2 x3 kx3 (k3 + 1) y3_4 w3_fitting = if v_turn ≤ y3_4 then kx3 w3_fitting else if (40 : Int32) ≤ y3_4 then kx3 w3_fitting else bd1_ (f_X5_fitsWith n v_turn v_up v_dsize v_dbytes y3_4 x2 x3) (fun (r31_1 : Int32) => ix_ y3_4 40 (L_X5_findFitting_3 n v_turn v_up v_dsize v_dbytes x2 x3 kx3 k3 (y3_4 + 1) (upd w3_fitting y3_4.toNatClampNeg (vp_nar .boolean r31_1)))) := rfl
def f_X5_findFitting (n : Nat) (v_turn : Int32) (v_up : Int32) (v_fitting : Nat → Int32) (v_dsize : Int32) (v_dbytes : Nat → Int32) (x2 : Int32) (x3 : Int32) : Option ((Nat → Int32)) := jn1_ (fun (u3_fitting : Nat → Int32) => some u3_fitting) (fun kx3 => L_X5_findFitting_3 n v_turn v_up v_dsize v_dbytes x2 x3 kx3 n 0 v_fitting)
set_option maxHeartbeats 4000000 in
set_option maxRecDepth 100000 in
theorem c_X5_findFitting (l : Launch) (dC : Nat → ClassId) (dI : Nat → Nat → Nat) (cI cZ cP cS : ClassId) (sz : Nat) (h_t h_t_fitting h_t_worstLeft h_a1 h_a1_bytes : Nat) (v_turn : Int32) (v_phase : Int32) (v_up : Int32) (v_fitting : Nat → Int32) (v_dsize : Int32) (v_dbytes : Nat → Int32) (x2 : Int32) (x3 : Int32) (n : Nat) (o_fitting : Nat → Int32) (hf : f_X5_findFitting n v_turn v_up v_fitting v_dsize v_dbytes x2 x3 = some o_fitting) : Met l yX5_findFitting wsX5_findFitting rm_X5_findFitting (RW (dC, dI) (TY cI cZ cP cS) [.ref h_t, .ref h_a1, .int x2, .int x3] sz (wd_X5_findFitting cI cZ cP cS h_t h_t_fitting h_t_worstLeft h_a1 h_a1_bytes v_turn v_phase v_up v_fitting v_dsize v_dbytes)) (RWv (dC, dI) (TY cI cZ cP cS) sz (wd_X5_findFitting cI cZ cP cS h_t h_t_fitting h_t_worstLeft h_a1 h_a1_bytes v_turn v_phase v_up v_fitting v_dsize v_dbytes) (wd_X5_findFitting cI cZ cP cS h_t h_t_fitting h_t_worstLeft h_a1 h_a1_bytes v_turn v_phase v_up o_fitting v_dsize v_dbytes)) 0 0 (va_A (wd_X5_findFitting cI cZ cP cS h_t h_t_fitting h_t_worstLeft h_a1 h_a1_bytes v_turn v_phase v_up v_fitting v_dsize v_dbytes) sz) := by
  refine Met.ofW (cc := cX5_findFitting) (maxL := 5) (ret := none) (by decide) rfl ?_
  intro p e s m args below meth c s₁ B hml hv
  obtain ⟨rfl, hsz, hP, hK, hD0⟩ := hv
  have hx := B.exec
  have hb := B.bytes
  have hr := B.returns
  have hts := atoms_spec (ws := wsX5_findFitting) B.pre
  have hown : s.vm.findClass RX5 = some m.cls := findClass_of_methodNamed B.named
  have hlocks := B.notSynchronized
  subst hsz
  have hD := hD0.self (sz := s.heap.size)
  have hA : ∀ q : Nat, s.heap.size ≤ q → (va_A (wd_X5_findFitting cI cZ cP cS h_t h_t_fitting h_t_worstLeft h_a1 h_a1_bytes v_turn v_phase v_up v_fitting v_dsize v_dbytes) s.heap.size) q := fun q h => Or.inr h
  have hS : va_S (va_A (wd_X5_findFitting cI cZ cP cS h_t h_t_fitting h_t_worstLeft h_a1 h_a1_bytes v_turn v_phase v_up v_fitting v_dsize v_dbytes) s.heap.size) s.heap s.heap [] := va_S.rf
  have hinX5 : ∀ w ∈ wsX50, w ∈ wsX5_findFitting := by decide +kernel
  have hl := lv_entry ([.ref h_t, .ref h_a1, .int x2, .int x3]) (n := 5) (Nat.le_of_ble_eq_true rfl)
  rw [lg_entry_eq]
  generalize (lg_sl ([.ref h_t, .ref h_a1, .int x2, .int x3]) ++ List.replicate (5 - (lg_sl ([.ref h_t, .ref h_a1, .int x2, .int x3])).length) Slot.unset).toArray = ls at hl ⊢
  have hl : lv_has ls 5 [(0, .ref h_t), (1, .ref h_a1), (2, .int x2), (3, .int x3)] := hl
  obtain ⟨H, hH⟩ : ∃ H : Heap, H = s.heap := ⟨_, rfl⟩
  have hP : va_P (dC, dI) vwCl (wd_X5_findFitting cI cZ cP cS h_t h_t_fitting h_t_worstLeft h_a1 h_a1_bytes v_turn v_phase v_up v_fitting v_dsize v_dbytes) H := by rw [hH]; exact hP
  have hS : va_S (va_A (wd_X5_findFitting cI cZ cP cS h_t h_t_fitting h_t_worstLeft h_a1 h_a1_bytes v_turn v_phase v_up v_fitting v_dsize v_dbytes) s.heap.size) s.heap H [] := by rw [hH]; exact hS
  obtain ⟨locs, hlo⟩ : ∃ L : List Loc, L = [] := ⟨_, rfl⟩
  rw [← hlo] at hS
  suffices hgo : W p l e (headSpec wsX5_findFitting rm_X5_findFitting).room s m ([.ref h_t, .ref h_a1, .int x2, .int x3] : List Value).toArray below meth c H locs 0 0 (MQ below (RWv (dC, dI) (TY cI cZ cP cS) s.heap.size (wd_X5_findFitting cI cZ cP cS h_t h_t_fitting h_t_worstLeft h_a1 h_a1_bytes v_turn v_phase v_up v_fitting v_dsize v_dbytes) (wd_X5_findFitting cI cZ cP cS h_t h_t_fitting h_t_worstLeft h_a1 h_a1_bytes v_turn v_phase v_up o_fitting v_dsize v_dbytes)) ([.ref h_t, .ref h_a1, .int x2, .int x3] : List Value).toArray s 0 0 (va_A (wd_X5_findFitting cI cZ cP cS h_t h_t_fitting h_t_worstLeft h_a1 h_a1_bytes v_turn v_phase v_up v_fitting v_dsize v_dbytes) s.heap.size)) (F0 m 0 ls []) by rw [hH, hlo] at hgo; exact hgo
  clear hH hlo
  unfold f_X5_findFitting at hf
  refine lv_iconst (v := 0) hx hb dX5_findFitting_0 (by decide) ?_
  refine lv_istore (lv' := [(4, .int 0), (0, .ref h_t), (1, .ref h_a1), (2, .int x2), (3, .int x3)]) hx hb dX5_findFitting_1 hl (by decide) rfl (fun ls hl => ?_)
  obtain ⟨kx3, ekx3, hf⟩ := jn1_e hf
  have hx3 : ∀ (u3_fitting : Nat → Int32) (H : Heap) (locs : List Loc) (ls : Array Slot), lv_has ls 5 [] → va_P (dC, dI) vwCl (wd_X5_findFitting cI cZ cP cS h_t h_t_fitting h_t_worstLeft h_a1 h_a1_bytes v_turn v_phase v_up u3_fitting v_dsize v_dbytes) H → va_D (va_A (wd_X5_findFitting cI cZ cP cS h_t h_t_fitting h_t_worstLeft h_a1 h_a1_bytes v_turn v_phase v_up v_fitting v_dsize v_dbytes) s.heap.size) (wd_X5_findFitting cI cZ cP cS h_t h_t_fitting h_t_worstLeft h_a1 h_a1_bytes v_turn v_phase v_up u3_fitting v_dsize v_dbytes) → va_S (va_A (wd_X5_findFitting cI cZ cP cS h_t h_t_fitting h_t_worstLeft h_a1 h_a1_bytes v_turn v_phase v_up v_fitting v_dsize v_dbytes) s.heap.size) s.heap H locs → kx3 u3_fitting = some o_fitting → W p l e (headSpec wsX5_findFitting rm_X5_findFitting).room s m ([.ref h_t, .ref h_a1, .int x2, .int x3] : List Value).toArray below meth c H locs 0 0 (MQ below (RWv (dC, dI) (TY cI cZ cP cS) s.heap.size (wd_X5_findFitting cI cZ cP cS h_t h_t_fitting h_t_worstLeft h_a1 h_a1_bytes v_turn v_phase v_up v_fitting v_dsize v_dbytes) (wd_X5_findFitting cI cZ cP cS h_t h_t_fitting h_t_worstLeft h_a1 h_a1_bytes v_turn v_phase v_up o_fitting v_dsize v_dbytes)) ([.ref h_t, .ref h_a1, .int x2, .int x3] : List Value).toArray s 0 0 (va_A (wd_X5_findFitting cI cZ cP cS h_t h_t_fitting h_t_worstLeft h_a1 h_a1_bytes v_turn v_phase v_up v_fitting v_dsize v_dbytes) s.heap.size)) (F0 m 41 ls []) := by
    intro u3_fitting H locs ls hl hP hD hS hf
    rw [ekx3] at hf
    have hq := Option.some.inj hf
    subst hq
    exact W.vret hx hb hr (fun t ht hW => ⟨⟨(), rfl, trivial, by rw [ht]; exact hP, va_K.moved hW.alike hK, hD⟩, hS.F ht⟩) hS.2.2 dX5_findFitting_41
  have hL3 : ∀ (k3 : Nat) (y3_4 : Int32) (w3_fitting : Nat → Int32) (H : Heap) (locs : List Loc) (ls : Array Slot), lv_has ls 5 [(0, .ref h_t), (1, .ref h_a1), (2, .int x2), (3, .int x3), (4, .int y3_4)] → va_P (dC, dI) vwCl (wd_X5_findFitting cI cZ cP cS h_t h_t_fitting h_t_worstLeft h_a1 h_a1_bytes v_turn v_phase v_up w3_fitting v_dsize v_dbytes) H → va_D (va_A (wd_X5_findFitting cI cZ cP cS h_t h_t_fitting h_t_worstLeft h_a1 h_a1_bytes v_turn v_phase v_up v_fitting v_dsize v_dbytes) s.heap.size) (wd_X5_findFitting cI cZ cP cS h_t h_t_fitting h_t_worstLeft h_a1 h_a1_bytes v_turn v_phase v_up w3_fitting v_dsize v_dbytes) → va_S (va_A (wd_X5_findFitting cI cZ cP cS h_t h_t_fitting h_t_worstLeft h_a1 h_a1_bytes v_turn v_phase v_up v_fitting v_dsize v_dbytes) s.heap.size) s.heap H locs → L_X5_findFitting_3 n v_turn v_up v_dsize v_dbytes x2 x3 kx3 k3 y3_4 w3_fitting = some o_fitting → W p l e (headSpec wsX5_findFitting rm_X5_findFitting).room s m ([.ref h_t, .ref h_a1, .int x2, .int x3] : List Value).toArray below meth c H locs 0 0 (MQ below (RWv (dC, dI) (TY cI cZ cP cS) s.heap.size (wd_X5_findFitting cI cZ cP cS h_t h_t_fitting h_t_worstLeft h_a1 h_a1_bytes v_turn v_phase v_up v_fitting v_dsize v_dbytes) (wd_X5_findFitting cI cZ cP cS h_t h_t_fitting h_t_worstLeft h_a1 h_a1_bytes v_turn v_phase v_up o_fitting v_dsize v_dbytes)) ([.ref h_t, .ref h_a1, .int x2, .int x3] : List Value).toArray s 0 0 (va_A (wd_X5_findFitting cI cZ cP cS h_t h_t_fitting h_t_worstLeft h_a1 h_a1_bytes v_turn v_phase v_up v_fitting v_dsize v_dbytes) s.heap.size)) (F0 m 3 ls []) := by
    intro k3
    induction k3 with
    | zero =>
      intro y3_4 w3_fitting H locs ls hl hP hD hS hf
      exact absurd hf (fun h => Option.some_ne_none _ h.symm)
    | succ k3 ih =>
      intro y3_4 w3_fitting H locs ls hl hP hD hS hf
      rw [L_X5_findFitting_3_s] at hf
      refine lv_iload hx hb dX5_findFitting_3 (lv_at hl 4 rfl) ?_
      refine lv_aload_n hx hb dX5_findFitting_5 rfl (lv_at hl 0 rfl) ?_
      refine va_get (D := (dC, dI)) (ci := 5) (v := .int v_turn) (C := RX5) (T := TX5) (N := 5) hx hb hts hinX5 hown hK hP 0 rfl rfl 0 (by decide) (hts (.fieldLink RX5 23 "SecondSunrise$Sun" "turn" "I") (by decide +kernel)) (fun _ h9 => h9) rfl dX5_findFitting_6 ?_
      refine lv_icmp_ge (tgt := 41) hx hb dX5_findFitting_9 (by decide) (fun c9 => ?_) (fun c9 => ?_)
      · rw [if_pos c9] at hf
        exact hx3 w3_fitting H locs ls (lv_sub hl [] rfl) hP hD hS hf
      · rw [if_neg c9] at hf
        refine lv_iload hx hb dX5_findFitting_12 (lv_at hl 4 rfl) ?_
        refine lv_bipush (v := 40) hx hb dX5_findFitting_14 (by decide) ?_
        refine lv_icmp_ge (tgt := 41) hx hb dX5_findFitting_16 (by decide) (fun c16 => ?_) (fun c16 => ?_)
        · rw [if_pos c16] at hf
          exact hx3 w3_fitting H locs ls (lv_sub hl [] rfl) hP hD hS hf
        · rw [if_neg c16] at hf
          refine lv_aload_n hx hb dX5_findFitting_19 rfl (lv_at hl 0 rfl) ?_
          refine va_get (D := (dC, dI)) (ci := 5) (v := .ref h_t_fitting) (C := RX5) (T := TX5) (N := 5) hx hb hts hinX5 hown hK hP 0 rfl rfl 3 (by decide) (hts (.fieldLink RX5 15 "SecondSunrise$Sun" "fitting" "[Z") (by decide +kernel)) (fun _ h9 => h9) rfl dX5_findFitting_20 ?_
          refine lv_iload hx hb dX5_findFitting_23 (lv_at hl 4 rfl) ?_
          refine lv_aload_n hx hb dX5_findFitting_25 rfl (lv_at hl 0 rfl) ?_
          refine lv_iload hx hb dX5_findFitting_26 (lv_at hl 4 rfl) ?_
          refine lv_aload_n hx hb dX5_findFitting_28 rfl (lv_at hl 1 rfl) ?_
          refine lv_iload_n hx hb dX5_findFitting_29 rfl (lv_at hl 2 rfl) ?_
          refine lv_iload_n hx hb dX5_findFitting_30 rfl (lv_at hl 3 rfl) ?_
          obtain ⟨r31_1, hc_2, hf⟩ := bd1_e hf
          refine vp_callSi (va_runV (As := [.int y3_4, .ref h_a1, .int x2, .int x3]) (rest := [.int y3_4, .ref h_t_fitting]) ⟨hx, hb, hml, hown, hts⟩ (c_X5_fitsWith l dC dI cI cZ cP cS h_t h_t_fitting h_t_worstLeft h_a1 h_a1_bytes v_turn v_phase v_up v_dsize v_dbytes y3_4 x2 x3 n r31_1 hc_2) (cwV 4 hts gX5_findFitting_X5_fitsWith rfl rfl rfl (by decide +kernel) ⟨Nat.le_of_ble_eq_true rfl, Nat.le_of_ble_eq_true rfl⟩) (pv_ro (ci := 5) (q0 := 0) hK (hP.sub (ws' := (wd_X5_fitsWith cI cZ cP cS h_t h_t_fitting h_t_worstLeft h_a1 h_a1_bytes v_turn v_phase v_up v_dsize v_dbytes)) [0, 2, 3] rfl) rfl rfl) rfl rfl hl.1 rfl (lv_room (Nat.le_of_ble_eq_true rfl)) dX5_findFitting_31 ⟨Nat.zero_le _, Nat.zero_le _⟩).run (fun x e_3 => ?_)
          obtain ⟨e_3, hb_4⟩ := e_3
          rw [e_3] at hb_4 ⊢
          obtain ⟨hi_5, hf⟩ := ix_e hf
          refine va_zast hx hb hK hP hD hS 1 1 rfl rfl hi_5 dX5_findFitting_34 (fun H locs hP hD hS => ?_)
          have hP : va_P (dC, dI) vwCl (wd_X5_findFitting cI cZ cP cS h_t h_t_fitting h_t_worstLeft h_a1 h_a1_bytes v_turn v_phase v_up (upd w3_fitting y3_4.toNatClampNeg (vp_nar .boolean r31_1)) v_dsize v_dbytes) H := hP
          have hD : va_D (va_A (wd_X5_findFitting cI cZ cP cS h_t h_t_fitting h_t_worstLeft h_a1 h_a1_bytes v_turn v_phase v_up v_fitting v_dsize v_dbytes) s.heap.size) (wd_X5_findFitting cI cZ cP cS h_t h_t_fitting h_t_worstLeft h_a1 h_a1_bytes v_turn v_phase v_up (upd w3_fitting y3_4.toNatClampNeg (vp_nar .boolean r31_1)) v_dsize v_dbytes) := hD
          refine lv_iinc (v := (y3_4 + 1)) (lv' := [(4, .int (y3_4 + 1)), (0, .ref h_t), (1, .ref h_a1), (2, .int x2), (3, .int x3)]) hx hb dX5_findFitting_35 hl (k := 4) rfl rfl (by decide) rfl (fun ls hl => ?_)
          refine lv_goto (tgt := 3) hx hb dX5_findFitting_38 (by decide) ?_
          exact ih (y3_4 + 1) (upd w3_fitting y3_4.toNatClampNeg (vp_nar .boolean r31_1)) H locs ls (lv_sub hl [1, 2, 3, 4, 0] rfl) hP hD hS hf
  exact hL3 n 0 v_fitting H locs ls (lv_sub hl [1, 2, 3, 4, 0] rfl) hP hD hS hf

abbrev wd_X5_fittingPhases (cI cZ cP cS : ClassId) (h_t h_t_fitting h_t_worstLeft : Nat) (v_turn : Int32) (v_phase : Int32) (v_up : Int32) (v_fitting : Nat → Int32) : va_W := [(h_t, .inr (5, [.int v_turn, .int v_phase, .int v_up, .ref h_t_fitting, .ref h_t_worstLeft])), (h_t_fitting, .inl (cZ, 40, .inl v_fitting))]
abbrev rm_X5_fittingPhases : Room := { frames := 0, cells := 0, slots := 0, locals := 0 }
def L_X5_fittingPhases_4 (v_turn : Int32) (v_fitting : Nat → Int32) (kx4 : Int32 → Option (Int32)) : Nat → Int32 → Int32 → Option (Int32)
  | 0, _, _ => none
  | k4 + 1, y4_1, y4_2 => if v_turn ≤ y4_2 then kx4 y4_1 else if (40 : Int32) ≤ y4_2 then kx4 y4_1 else ix_ y4_2 40 (lt_ ((if (v_fitting y4_2.toNatClampNeg) = 0 then y4_1 else (y4_1 + 1)) : Int32) (fun v30_2 => L_X5_fittingPhases_4 v_turn v_fitting kx4 k4 v30_2 (y4_2 + 1)))
theorem L_X5_fittingPhases_4_s (v_turn : Int32) (v_fitting : Nat → Int32) (kx4 : Int32 → Option (Int32)) (k4 : Nat) (y4_1 : Int32) (y4_2 : Int32) : L_X5_fittingPhases_4 v_turn v_fitting kx4 (k4 + 1) y4_1 y4_2 = if v_turn ≤ y4_2 then kx4 y4_1 else if (40 : Int32) ≤ y4_2 then kx4 y4_1 else ix_ y4_2 40 (lt_ ((if (v_fitting y4_2.toNatClampNeg) = 0 then y4_1 else (y4_1 + 1)) : Int32) (fun v30_2 => L_X5_fittingPhases_4 v_turn v_fitting kx4 k4 v30_2 (y4_2 + 1))) := rfl
def f_X5_fittingPhases (n : Nat) (v_turn : Int32) (v_fitting : Nat → Int32) : Option (Int32) := jn1_ (fun (z4_1 : Int32) => some z4_1) (fun kx4 => L_X5_fittingPhases_4 v_turn v_fitting kx4 n 0 0)
set_option maxHeartbeats 4000000 in
set_option maxRecDepth 100000 in
theorem c_X5_fittingPhases (l : Launch) (dC : Nat → ClassId) (dI : Nat → Nat → Nat) (cI cZ cP cS : ClassId) (h_t h_t_fitting h_t_worstLeft : Nat) (v_turn : Int32) (v_phase : Int32) (v_up : Int32) (v_fitting : Nat → Int32) (n : Nat) (r : Int32) (hf : f_X5_fittingPhases n v_turn v_fitting = some r) : Met l yX5_fittingPhases wsX5_fittingPhases rm_X5_fittingPhases (RO (dC, dI) (TY cI cZ cP cS) [.ref h_t] (wd_X5_fittingPhases cI cZ cP cS h_t h_t_fitting h_t_worstLeft v_turn v_phase v_up v_fitting)) (vp_Si (fun x => x = r)) 0 0 NF := by
  refine Met.ofW (cc := cX5_fittingPhases) (maxL := 3) (ret := (some .int)) (by decide) rfl ?_
  intro p e s m args below meth c s₁ B hml hv
  obtain ⟨rfl, hP, hK⟩ := hv
  have hx := B.exec
  have hb := B.bytes
  have hr := B.returns
  have hts := atoms_spec (ws := wsX5_fittingPhases) B.pre
  have hown : s.vm.findClass RX5 = some m.cls := findClass_of_methodNamed B.named
  have hlocks := B.notSynchronized
  have hinX5 : ∀ w ∈ wsX50, w ∈ wsX5_fittingPhases := by decide +kernel
  have hl := lv_entry ([.ref h_t]) (n := 3) (Nat.le_of_ble_eq_true rfl)
  rw [lg_entry_eq]
  generalize (lg_sl ([.ref h_t]) ++ List.replicate (3 - (lg_sl ([.ref h_t])).length) Slot.unset).toArray = ls at hl ⊢
  have hl : lv_has ls 3 [(0, .ref h_t)] := hl
  unfold f_X5_fittingPhases at hf
  refine lv_iconst (v := 0) hx hb dX5_fittingPhases_0 (by decide) ?_
  refine lv_istore_n (lv' := [(1, .int 0), (0, .ref h_t)]) hx hb dX5_fittingPhases_1 rfl hl (by decide) rfl (fun ls hl => ?_)
  refine lv_iconst (v := 0) hx hb dX5_fittingPhases_2 (by decide) ?_
  refine lv_istore_n (lv' := [(2, .int 0), (1, .int 0), (0, .ref h_t)]) hx hb dX5_fittingPhases_3 rfl hl (by decide) rfl (fun ls hl => ?_)
  obtain ⟨kx4, ekx4, hf⟩ := jn1_e hf
  have hx4 : ∀ (z4_1 : Int32) (ls : Array Slot), lv_has ls 3 [(1, .int z4_1)] → kx4 z4_1 = some r → W p l e (headSpec wsX5_fittingPhases rm_X5_fittingPhases).room s m ([.ref h_t] : List Value).toArray below meth c s.heap [] 0 0 (MQ below (vp_Si (fun x => x = r)) ([.ref h_t] : List Value).toArray s 0 0 NF) (F0 m 36 ls []) := by
    intro z4_1 ls hl hf
    rw [ekx4] at hf
    refine lv_iload_n hx hb dX5_fittingPhases_36 rfl (lv_at hl 0 rfl) ?_
    exact W.iret hx hb hr (fun t ht hW => ⟨_, rfl, Option.some.inj hf, ht⟩) (fun _ h => nomatch h) dX5_fittingPhases_37
  have hL4 : ∀ (k4 : Nat) (y4_1 : Int32) (y4_2 : Int32) (ls : Array Slot), lv_has ls 3 [(0, .ref h_t), (1, .int y4_1), (2, .int y4_2)] → L_X5_fittingPhases_4 v_turn v_fitting kx4 k4 y4_1 y4_2 = some r → W p l e (headSpec wsX5_fittingPhases rm_X5_fittingPhases).room s m ([.ref h_t] : List Value).toArray below meth c s.heap [] 0 0 (MQ below (vp_Si (fun x => x = r)) ([.ref h_t] : List Value).toArray s 0 0 NF) (F0 m 4 ls []) := by
    intro k4
    induction k4 with
    | zero =>
      intro y4_1 y4_2 ls hl hf
      exact absurd hf (fun h => Option.some_ne_none _ h.symm)
    | succ k4 ih =>
      intro y4_1 y4_2 ls hl hf
      rw [L_X5_fittingPhases_4_s] at hf
      refine lv_iload_n hx hb dX5_fittingPhases_4 rfl (lv_at hl 2 rfl) ?_
      refine lv_aload_n hx hb dX5_fittingPhases_5 rfl (lv_at hl 0 rfl) ?_
      refine va_get (D := (dC, dI)) (ci := 5) (v := .int v_turn) (C := RX5) (T := TX5) (N := 5) hx hb hts hinX5 hown hK hP 0 rfl rfl 0 (by decide) (hts (.fieldLink RX5 23 "SecondSunrise$Sun" "turn" "I") (by decide +kernel)) (fun _ h9 => h9) rfl dX5_fittingPhases_6 ?_
      refine lv_icmp_ge (tgt := 36) hx hb dX5_fittingPhases_9 (by decide) (fun c9 => ?_) (fun c9 => ?_)
      · rw [if_pos c9] at hf
        exact hx4 y4_1 ls (lv_sub hl [1] rfl) hf
      · rw [if_neg c9] at hf
        refine lv_iload_n hx hb dX5_fittingPhases_12 rfl (lv_at hl 2 rfl) ?_
        refine lv_bipush (v := 40) hx hb dX5_fittingPhases_13 (by decide) ?_
        refine lv_icmp_ge (tgt := 36) hx hb dX5_fittingPhases_15 (by decide) (fun c15 => ?_) (fun c15 => ?_)
        · rw [if_pos c15] at hf
          exact hx4 y4_1 ls (lv_sub hl [1] rfl) hf
        · rw [if_neg c15] at hf
          refine lv_aload_n hx hb dX5_fittingPhases_18 rfl (lv_at hl 0 rfl) ?_
          refine va_get (D := (dC, dI)) (ci := 5) (v := .ref h_t_fitting) (C := RX5) (T := TX5) (N := 5) hx hb hts hinX5 hown hK hP 0 rfl rfl 3 (by decide) (hts (.fieldLink RX5 15 "SecondSunrise$Sun" "fitting" "[Z") (by decide +kernel)) (fun _ h9 => h9) rfl dX5_fittingPhases_19 ?_
          refine lv_iload_n hx hb dX5_fittingPhases_22 rfl (lv_at hl 2 rfl) ?_
          obtain ⟨hi_1, hf⟩ := ix_e hf
          refine va_zald hx hb hK hP 1 1 rfl rfl hi_1 dX5_fittingPhases_23 ?_
          obtain ⟨v30_2, ev30_2, hf⟩ := lt_e hf
          have hj30_3 : ∀ (ls : Array Slot), lv_has ls 3 [(0, .ref h_t), (1, .int v30_2), (2, .int y4_2)] → W p l e (headSpec wsX5_fittingPhases rm_X5_fittingPhases).room s m ([.ref h_t] : List Value).toArray below meth c s.heap [] 0 0 (MQ below (vp_Si (fun x => x = r)) ([.ref h_t] : List Value).toArray s 0 0 NF) (F0 m 30 ls []) := by
            intro ls hl
            refine lv_iinc (v := (y4_2 + 1)) (lv' := [(2, .int (y4_2 + 1)), (0, .ref h_t), (1, .int v30_2)]) hx hb dX5_fittingPhases_30 hl (k := 2) rfl rfl (by decide) rfl (fun ls hl => ?_)
            refine lv_goto (tgt := 4) hx hb dX5_fittingPhases_33 (by decide) ?_
            exact ih v30_2 (y4_2 + 1) ls (lv_sub hl [1, 2, 0] rfl) hf
          clear hf
          refine lv_if_eq (tgt := 30) hx hb dX5_fittingPhases_24 (by decide) (fun c24 => ?_) (fun c24 => ?_)
          ·
            rw [if_pos c24] at ev30_2
            subst ev30_2
            exact hj30_3 ls (lv_sub hl [0, 1, 2] rfl)
          ·
            refine lv_iinc (v := (y4_1 + 1)) (lv' := [(1, .int (y4_1 + 1)), (0, .ref h_t), (2, .int y4_2)]) hx hb dX5_fittingPhases_27 hl (k := 1) rfl rfl (by decide) rfl (fun ls hl => ?_)
            rw [if_neg c24] at ev30_2
            subst ev30_2
            exact hj30_3 ls (lv_sub hl [1, 0, 2] rfl)
  exact hL4 n 0 0 ls (lv_sub hl [2, 1, 0] rfl) hf

abbrev wd_X5_findLeftAtWorst (cI cZ cP cS : ClassId) (h_t h_t_fitting h_t_worstLeft : Nat) (v_turn : Int32) (v_phase : Int32) (v_up : Int32) (v_fitting : Nat → Int32) (v_worstLeft : Nat → Int32) : va_W := [(h_t, .inr (5, [.int v_turn, .int v_phase, .int v_up, .ref h_t_fitting, .ref h_t_worstLeft])), (h_t_fitting, .inl (cZ, 40, .inl v_fitting)), (h_t_worstLeft, .inl (cI, 40, .inl v_worstLeft))]
abbrev rm_X5_findLeftAtWorst : Room := { frames := 1, cells := 0, slots := 0, locals := 22 }
def L_X5_findLeftAtWorst_26 (n : Nat) (v_turn : Int32) (v_up : Int32) (v_fitting : Nat → Int32) (y7_2 : Int32) (kx26 : Int32 → Option ((Nat → Int32))) : Nat → Int32 → Int32 → Option ((Nat → Int32))
  | 0, _, _ => none
  | k26 + 1, y26_3, y26_4 => if v_turn ≤ y26_4 then kx26 y26_3 else if (40 : Int32) ≤ y26_4 then kx26 y26_3 else ix_ y26_4 40 (jn1_ (fun (y69_3 : Int32) => L_X5_findLeftAtWorst_26 n v_turn v_up v_fitting y7_2 kx26 k26 y69_3 (y26_4 + 1)) (fun k69 => if (v_fitting y26_4.toNatClampNeg) = 0 then k69 y26_3 else bd1_ (f_X5_placeBy n v_turn y26_4 y7_2) (fun (r56_6 : Int32) => if v_up ≤ r56_6 then k69 y26_3 else k69 (y26_3 + 1))))
theorem L_X5_findLeftAtWorst_26_s (n : Nat) (v_turn : Int32) (v_up : Int32) (v_fitting : Nat → Int32) (y7_2 : Int32) (kx26 : Int32 → Option ((Nat → Int32))) (k26 : Nat) (y26_3 : Int32) (y26_4 : Int32) : L_X5_findLeftAtWorst_26 n v_turn v_up v_fitting y7_2 kx26 (k26 + 1) y26_3 y26_4 = if v_turn ≤ y26_4 then kx26 y26_3 else if (40 : Int32) ≤ y26_4 then kx26 y26_3 else ix_ y26_4 40 (jn1_ (fun (y69_3 : Int32) => L_X5_findLeftAtWorst_26 n v_turn v_up v_fitting y7_2 kx26 k26 y69_3 (y26_4 + 1)) (fun k69 => if (v_fitting y26_4.toNatClampNeg) = 0 then k69 y26_3 else bd1_ (f_X5_placeBy n v_turn y26_4 y7_2) (fun (r56_6 : Int32) => if v_up ≤ r56_6 then k69 y26_3 else k69 (y26_3 + 1)))) := rfl
def L_X5_findLeftAtWorst_7 (n : Nat) (v_turn : Int32) (v_up : Int32) (v_fitting : Nat → Int32) (r1_1 : Int32) (kx7 : (Nat → Int32) → Option ((Nat → Int32))) : Nat → Int32 → (Nat → Int32) → Option ((Nat → Int32))
  | 0, _, _ => none
  | k7 + 1, y7_2, w7_worstLeft => if v_turn ≤ y7_2 then kx7 w7_worstLeft else if (40 : Int32) ≤ y7_2 then kx7 w7_worstLeft else jn1_ (fun (z26_3 : Int32) => ix_ y7_2 40 (L_X5_findLeftAtWorst_7 n v_turn v_up v_fitting r1_1 kx7 k7 (y7_2 + 1) (upd w7_worstLeft y7_2.toNatClampNeg (if z26_3 < (r1_1 - z26_3) then (r1_1 - z26_3) else z26_3)))) (fun kx26 => L_X5_findLeftAtWorst_26 n v_turn v_up v_fitting y7_2 kx26 n 0 0)
theorem L_X5_findLeftAtWorst_7_s (n : Nat) (v_turn : Int32) (v_up : Int32) (v_fitting : Nat → Int32) (r1_1 : Int32) (kx7 : (Nat → Int32) → Option ((Nat → Int32))) (k7 : Nat) (y7_2 : Int32) (w7_worstLeft : Nat → Int32) : L_X5_findLeftAtWorst_7 n v_turn v_up v_fitting r1_1 kx7 (k7 + 1) y7_2 w7_worstLeft = if v_turn ≤ y7_2 then kx7 w7_worstLeft else if (40 : Int32) ≤ y7_2 then kx7 w7_worstLeft else jn1_ (fun (z26_3 : Int32) => ix_ y7_2 40 (L_X5_findLeftAtWorst_7 n v_turn v_up v_fitting r1_1 kx7 k7 (y7_2 + 1) (upd w7_worstLeft y7_2.toNatClampNeg (if z26_3 < (r1_1 - z26_3) then (r1_1 - z26_3) else z26_3)))) (fun kx26 => L_X5_findLeftAtWorst_26 n v_turn v_up v_fitting y7_2 kx26 n 0 0) := rfl
def f_X5_findLeftAtWorst (n : Nat) (v_turn : Int32) (v_up : Int32) (v_fitting : Nat → Int32) (v_worstLeft : Nat → Int32) : Option ((Nat → Int32)) := bd1_ (f_X5_fittingPhases n v_turn v_fitting) (fun (r1_1 : Int32) => jn1_ (fun (u7_worstLeft : Nat → Int32) => some u7_worstLeft) (fun kx7 => L_X5_findLeftAtWorst_7 n v_turn v_up v_fitting r1_1 kx7 n 0 v_worstLeft))
set_option maxHeartbeats 4000000 in
set_option maxRecDepth 100000 in
theorem c_X5_findLeftAtWorst (l : Launch) (dC : Nat → ClassId) (dI : Nat → Nat → Nat) (cI cZ cP cS : ClassId) (sz : Nat) (h_t h_t_fitting h_t_worstLeft : Nat) (v_turn : Int32) (v_phase : Int32) (v_up : Int32) (v_fitting : Nat → Int32) (v_worstLeft : Nat → Int32) (n : Nat) (o_worstLeft : Nat → Int32) (hf : f_X5_findLeftAtWorst n v_turn v_up v_fitting v_worstLeft = some o_worstLeft) : Met l yX5_findLeftAtWorst wsX5_findLeftAtWorst rm_X5_findLeftAtWorst (RW (dC, dI) (TY cI cZ cP cS) [.ref h_t] sz (wd_X5_findLeftAtWorst cI cZ cP cS h_t h_t_fitting h_t_worstLeft v_turn v_phase v_up v_fitting v_worstLeft)) (RWv (dC, dI) (TY cI cZ cP cS) sz (wd_X5_findLeftAtWorst cI cZ cP cS h_t h_t_fitting h_t_worstLeft v_turn v_phase v_up v_fitting v_worstLeft) (wd_X5_findLeftAtWorst cI cZ cP cS h_t h_t_fitting h_t_worstLeft v_turn v_phase v_up v_fitting o_worstLeft)) 0 0 (va_A (wd_X5_findLeftAtWorst cI cZ cP cS h_t h_t_fitting h_t_worstLeft v_turn v_phase v_up v_fitting v_worstLeft) sz) := by
  refine Met.ofW (cc := cX5_findLeftAtWorst) (maxL := 5) (ret := none) (by decide) rfl ?_
  intro p e s m args below meth c s₁ B hml hv
  obtain ⟨rfl, hsz, hP, hK, hD0⟩ := hv
  have hx := B.exec
  have hb := B.bytes
  have hr := B.returns
  have hts := atoms_spec (ws := wsX5_findLeftAtWorst) B.pre
  have hown : s.vm.findClass RX5 = some m.cls := findClass_of_methodNamed B.named
  have hlocks := B.notSynchronized
  subst hsz
  have hD := hD0.self (sz := s.heap.size)
  have hA : ∀ q : Nat, s.heap.size ≤ q → (va_A (wd_X5_findLeftAtWorst cI cZ cP cS h_t h_t_fitting h_t_worstLeft v_turn v_phase v_up v_fitting v_worstLeft) s.heap.size) q := fun q h => Or.inr h
  have hS : va_S (va_A (wd_X5_findLeftAtWorst cI cZ cP cS h_t h_t_fitting h_t_worstLeft v_turn v_phase v_up v_fitting v_worstLeft) s.heap.size) s.heap s.heap [] := va_S.rf
  have hinX5 : ∀ w ∈ wsX50, w ∈ wsX5_findLeftAtWorst := by decide +kernel
  have hl := lv_entry ([.ref h_t]) (n := 5) (Nat.le_of_ble_eq_true rfl)
  rw [lg_entry_eq]
  generalize (lg_sl ([.ref h_t]) ++ List.replicate (5 - (lg_sl ([.ref h_t])).length) Slot.unset).toArray = ls at hl ⊢
  have hl : lv_has ls 5 [(0, .ref h_t)] := hl
  obtain ⟨H, hH⟩ : ∃ H : Heap, H = s.heap := ⟨_, rfl⟩
  have hP : va_P (dC, dI) vwCl (wd_X5_findLeftAtWorst cI cZ cP cS h_t h_t_fitting h_t_worstLeft v_turn v_phase v_up v_fitting v_worstLeft) H := by rw [hH]; exact hP
  have hS : va_S (va_A (wd_X5_findLeftAtWorst cI cZ cP cS h_t h_t_fitting h_t_worstLeft v_turn v_phase v_up v_fitting v_worstLeft) s.heap.size) s.heap H [] := by rw [hH]; exact hS
  obtain ⟨locs, hlo⟩ : ∃ L : List Loc, L = [] := ⟨_, rfl⟩
  rw [← hlo] at hS
  suffices hgo : W p l e (headSpec wsX5_findLeftAtWorst rm_X5_findLeftAtWorst).room s m ([.ref h_t] : List Value).toArray below meth c H locs 0 0 (MQ below (RWv (dC, dI) (TY cI cZ cP cS) s.heap.size (wd_X5_findLeftAtWorst cI cZ cP cS h_t h_t_fitting h_t_worstLeft v_turn v_phase v_up v_fitting v_worstLeft) (wd_X5_findLeftAtWorst cI cZ cP cS h_t h_t_fitting h_t_worstLeft v_turn v_phase v_up v_fitting o_worstLeft)) ([.ref h_t] : List Value).toArray s 0 0 (va_A (wd_X5_findLeftAtWorst cI cZ cP cS h_t h_t_fitting h_t_worstLeft v_turn v_phase v_up v_fitting v_worstLeft) s.heap.size)) (F0 m 0 ls []) by rw [hH, hlo] at hgo; exact hgo
  clear hH hlo
  unfold f_X5_findLeftAtWorst at hf
  refine lv_aload_n hx hb dX5_findLeftAtWorst_0 rfl (lv_at hl 0 rfl) ?_
  obtain ⟨r1_1, hc_2, hf⟩ := bd1_e hf
  refine vp_callSi (va_runV (As := []) (rest := []) ⟨hx, hb, hml, hown, hts⟩ (c_X5_fittingPhases l dC dI cI cZ cP cS h_t h_t_fitting h_t_worstLeft v_turn v_phase v_up v_fitting  n r1_1 hc_2) (cwV 0 hts gX5_findLeftAtWorst_X5_fittingPhases rfl rfl rfl (by decide +kernel) ⟨Nat.le_of_ble_eq_true rfl, Nat.le_of_ble_eq_true rfl⟩) (pv_ro (ci := 5) (q0 := 0) hK (hP.sub (ws' := (wd_X5_fittingPhases cI cZ cP cS h_t h_t_fitting h_t_worstLeft v_turn v_phase v_up v_fitting)) [0, 1] rfl) rfl rfl) rfl rfl hl.1 rfl (lv_room (Nat.le_of_ble_eq_true rfl)) dX5_findLeftAtWorst_1 ⟨Nat.zero_le _, Nat.zero_le _⟩).run (fun x e_3 => ?_)
  rw [e_3]
  refine lv_istore_n (lv' := [(1, .int r1_1), (0, .ref h_t)]) hx hb dX5_findLeftAtWorst_4 rfl hl (by decide) rfl (fun ls hl => ?_)
  refine lv_iconst (v := 0) hx hb dX5_findLeftAtWorst_5 (by decide) ?_
  refine lv_istore_n (lv' := [(2, .int 0), (1, .int r1_1), (0, .ref h_t)]) hx hb dX5_findLeftAtWorst_6 rfl hl (by decide) rfl (fun ls hl => ?_)
  obtain ⟨kx7, ekx7, hf⟩ := jn1_e hf
  have hx7 : ∀ (u7_worstLeft : Nat → Int32) (H : Heap) (locs : List Loc) (ls : Array Slot), lv_has ls 5 [] → va_P (dC, dI) vwCl (wd_X5_findLeftAtWorst cI cZ cP cS h_t h_t_fitting h_t_worstLeft v_turn v_phase v_up v_fitting u7_worstLeft) H → va_D (va_A (wd_X5_findLeftAtWorst cI cZ cP cS h_t h_t_fitting h_t_worstLeft v_turn v_phase v_up v_fitting v_worstLeft) s.heap.size) (wd_X5_findLeftAtWorst cI cZ cP cS h_t h_t_fitting h_t_worstLeft v_turn v_phase v_up v_fitting u7_worstLeft) → va_S (va_A (wd_X5_findLeftAtWorst cI cZ cP cS h_t h_t_fitting h_t_worstLeft v_turn v_phase v_up v_fitting v_worstLeft) s.heap.size) s.heap H locs → kx7 u7_worstLeft = some o_worstLeft → W p l e (headSpec wsX5_findLeftAtWorst rm_X5_findLeftAtWorst).room s m ([.ref h_t] : List Value).toArray below meth c H locs 0 0 (MQ below (RWv (dC, dI) (TY cI cZ cP cS) s.heap.size (wd_X5_findLeftAtWorst cI cZ cP cS h_t h_t_fitting h_t_worstLeft v_turn v_phase v_up v_fitting v_worstLeft) (wd_X5_findLeftAtWorst cI cZ cP cS h_t h_t_fitting h_t_worstLeft v_turn v_phase v_up v_fitting o_worstLeft)) ([.ref h_t] : List Value).toArray s 0 0 (va_A (wd_X5_findLeftAtWorst cI cZ cP cS h_t h_t_fitting h_t_worstLeft v_turn v_phase v_up v_fitting v_worstLeft) s.heap.size)) (F0 m 94 ls []) := by
    intro u7_worstLeft H locs ls hl hP hD hS hf
    rw [ekx7] at hf
    have hq := Option.some.inj hf
    subst hq
    exact W.vret hx hb hr (fun t ht hW => ⟨⟨(), rfl, trivial, by rw [ht]; exact hP, va_K.moved hW.alike hK, hD⟩, hS.F ht⟩) hS.2.2 dX5_findLeftAtWorst_94
  have hL7 : ∀ (k7 : Nat) (y7_2 : Int32) (w7_worstLeft : Nat → Int32) (H : Heap) (locs : List Loc) (ls : Array Slot), lv_has ls 5 [(0, .ref h_t), (1, .int r1_1), (2, .int y7_2)] → va_P (dC, dI) vwCl (wd_X5_findLeftAtWorst cI cZ cP cS h_t h_t_fitting h_t_worstLeft v_turn v_phase v_up v_fitting w7_worstLeft) H → va_D (va_A (wd_X5_findLeftAtWorst cI cZ cP cS h_t h_t_fitting h_t_worstLeft v_turn v_phase v_up v_fitting v_worstLeft) s.heap.size) (wd_X5_findLeftAtWorst cI cZ cP cS h_t h_t_fitting h_t_worstLeft v_turn v_phase v_up v_fitting w7_worstLeft) → va_S (va_A (wd_X5_findLeftAtWorst cI cZ cP cS h_t h_t_fitting h_t_worstLeft v_turn v_phase v_up v_fitting v_worstLeft) s.heap.size) s.heap H locs → L_X5_findLeftAtWorst_7 n v_turn v_up v_fitting r1_1 kx7 k7 y7_2 w7_worstLeft = some o_worstLeft → W p l e (headSpec wsX5_findLeftAtWorst rm_X5_findLeftAtWorst).room s m ([.ref h_t] : List Value).toArray below meth c H locs 0 0 (MQ below (RWv (dC, dI) (TY cI cZ cP cS) s.heap.size (wd_X5_findLeftAtWorst cI cZ cP cS h_t h_t_fitting h_t_worstLeft v_turn v_phase v_up v_fitting v_worstLeft) (wd_X5_findLeftAtWorst cI cZ cP cS h_t h_t_fitting h_t_worstLeft v_turn v_phase v_up v_fitting o_worstLeft)) ([.ref h_t] : List Value).toArray s 0 0 (va_A (wd_X5_findLeftAtWorst cI cZ cP cS h_t h_t_fitting h_t_worstLeft v_turn v_phase v_up v_fitting v_worstLeft) s.heap.size)) (F0 m 7 ls []) := by
    intro k7
    induction k7 with
    | zero =>
      intro y7_2 w7_worstLeft H locs ls hl hP hD hS hf
      exact absurd hf (fun h => Option.some_ne_none _ h.symm)
    | succ k7 ih =>
      intro y7_2 w7_worstLeft H locs ls hl hP hD hS hf
      rw [L_X5_findLeftAtWorst_7_s] at hf
      refine lv_iload_n hx hb dX5_findLeftAtWorst_7 rfl (lv_at hl 2 rfl) ?_
      refine lv_aload_n hx hb dX5_findLeftAtWorst_8 rfl (lv_at hl 0 rfl) ?_
      refine va_get (D := (dC, dI)) (ci := 5) (v := .int v_turn) (C := RX5) (T := TX5) (N := 5) hx hb hts hinX5 hown hK hP 0 rfl rfl 0 (by decide) (hts (.fieldLink RX5 23 "SecondSunrise$Sun" "turn" "I") (by decide +kernel)) (fun _ h9 => h9) rfl dX5_findLeftAtWorst_9 ?_
      refine lv_icmp_ge (tgt := 94) hx hb dX5_findLeftAtWorst_12 (by decide) (fun c12 => ?_) (fun c12 => ?_)
      · rw [if_pos c12] at hf
        exact hx7 w7_worstLeft H locs ls (lv_sub hl [] rfl) hP hD hS hf
      · rw [if_neg c12] at hf
        refine lv_iload_n hx hb dX5_findLeftAtWorst_15 rfl (lv_at hl 2 rfl) ?_
        refine lv_bipush (v := 40) hx hb dX5_findLeftAtWorst_16 (by decide) ?_
        refine lv_icmp_ge (tgt := 94) hx hb dX5_findLeftAtWorst_18 (by decide) (fun c18 => ?_) (fun c18 => ?_)
        · rw [if_pos c18] at hf
          exact hx7 w7_worstLeft H locs ls (lv_sub hl [] rfl) hP hD hS hf
        · rw [if_neg c18] at hf
          refine lv_iconst (v := 0) hx hb dX5_findLeftAtWorst_21 (by decide) ?_
          refine lv_istore_n (lv' := [(3, .int 0), (0, .ref h_t), (1, .int r1_1), (2, .int y7_2)]) hx hb dX5_findLeftAtWorst_22 rfl hl (by decide) rfl (fun ls hl => ?_)
          refine lv_iconst (v := 0) hx hb dX5_findLeftAtWorst_23 (by decide) ?_
          refine lv_istore (lv' := [(4, .int 0), (3, .int 0), (0, .ref h_t), (1, .int r1_1), (2, .int y7_2)]) hx hb dX5_findLeftAtWorst_24 hl (by decide) rfl (fun ls hl => ?_)
          obtain ⟨kx26, ekx26, hf⟩ := jn1_e hf
          have hx26 : ∀ (z26_3 : Int32) (ls : Array Slot), lv_has ls 5 [(0, .ref h_t), (1, .int r1_1), (2, .int y7_2), (3, .int z26_3)] → kx26 z26_3 = some o_worstLeft → W p l e (headSpec wsX5_findLeftAtWorst rm_X5_findLeftAtWorst).room s m ([.ref h_t] : List Value).toArray below meth c H locs 0 0 (MQ below (RWv (dC, dI) (TY cI cZ cP cS) s.heap.size (wd_X5_findLeftAtWorst cI cZ cP cS h_t h_t_fitting h_t_worstLeft v_turn v_phase v_up v_fitting v_worstLeft) (wd_X5_findLeftAtWorst cI cZ cP cS h_t h_t_fitting h_t_worstLeft v_turn v_phase v_up v_fitting o_worstLeft)) ([.ref h_t] : List Value).toArray s 0 0 (va_A (wd_X5_findLeftAtWorst cI cZ cP cS h_t h_t_fitting h_t_worstLeft v_turn v_phase v_up v_fitting v_worstLeft) s.heap.size)) (F0 m 75 ls []) := by
            intro z26_3 ls hl hf
            rw [ekx26] at hf
            refine lv_aload_n hx hb dX5_findLeftAtWorst_75 rfl (lv_at hl 0 rfl) ?_
            refine va_get (D := (dC, dI)) (ci := 5) (v := .ref h_t_worstLeft) (C := RX5) (T := TX5) (N := 5) hx hb hts hinX5 hown hK hP 0 rfl rfl 4 (by decide) (hts (.fieldLink RX5 19 "SecondSunrise$Sun" "worstLeft" "[I") (by decide +kernel)) (fun _ h9 => h9) rfl dX5_findLeftAtWorst_76 ?_
            refine lv_iload_n hx hb dX5_findLeftAtWorst_79 rfl (lv_at hl 2 rfl) ?_
            refine lv_iload_n hx hb dX5_findLeftAtWorst_80 rfl (lv_at hl 3 rfl) ?_
            refine lv_iload_n hx hb dX5_findLeftAtWorst_81 rfl (lv_at hl 1 rfl) ?_
            refine lv_iload_n hx hb dX5_findLeftAtWorst_82 rfl (lv_at hl 3 rfl) ?_
            refine lv_isub hx hb dX5_findLeftAtWorst_83 ?_
            refine va_mmax hx hb (hml.trans hl.1.symm) hown (hts (.methodLink RX5 55 Lib.Math.max.name) (by decide +kernel)) (hts (.static Lib.Math.max.name) (by decide +kernel)) (hts (.initialized "java/lang/Math") (by decide +kernel)) (hts (.code Lib.Math.max.name Lib.Math.max.code 2 (some .int)) (by decide +kernel)) (Nat.le_of_ble_eq_true rfl) (Nat.le_of_ble_eq_true rfl) (Nat.zero_le _) (Nat.zero_le _) dX5_findLeftAtWorst_84 ?_
            obtain ⟨hi_4, hf⟩ := ix_e hf
            refine va_iast hx hb hK hP hD hS 2 0 rfl rfl hi_4 dX5_findLeftAtWorst_87 (fun H locs hP hD hS => ?_)
            have hP : va_P (dC, dI) vwCl (wd_X5_findLeftAtWorst cI cZ cP cS h_t h_t_fitting h_t_worstLeft v_turn v_phase v_up v_fitting (upd w7_worstLeft y7_2.toNatClampNeg (if z26_3 < (r1_1 - z26_3) then (r1_1 - z26_3) else z26_3))) H := hP
            have hD : va_D (va_A (wd_X5_findLeftAtWorst cI cZ cP cS h_t h_t_fitting h_t_worstLeft v_turn v_phase v_up v_fitting v_worstLeft) s.heap.size) (wd_X5_findLeftAtWorst cI cZ cP cS h_t h_t_fitting h_t_worstLeft v_turn v_phase v_up v_fitting (upd w7_worstLeft y7_2.toNatClampNeg (if z26_3 < (r1_1 - z26_3) then (r1_1 - z26_3) else z26_3))) := hD
            refine lv_iinc (v := (y7_2 + 1)) (lv' := [(2, .int (y7_2 + 1)), (0, .ref h_t), (1, .int r1_1), (3, .int z26_3)]) hx hb dX5_findLeftAtWorst_88 hl (k := 2) rfl rfl (by decide) rfl (fun ls hl => ?_)
            refine lv_goto (tgt := 7) hx hb dX5_findLeftAtWorst_91 (by decide) ?_
            exact ih (y7_2 + 1) (upd w7_worstLeft y7_2.toNatClampNeg (if z26_3 < (r1_1 - z26_3) then (r1_1 - z26_3) else z26_3)) H locs ls (lv_sub hl [1, 2, 0] rfl) hP hD hS hf
          have hL26 : ∀ (k26 : Nat) (y26_3 : Int32) (y26_4 : Int32) (ls : Array Slot), lv_has ls 5 [(0, .ref h_t), (1, .int r1_1), (2, .int y7_2), (3, .int y26_3), (4, .int y26_4)] → L_X5_findLeftAtWorst_26 n v_turn v_up v_fitting y7_2 kx26 k26 y26_3 y26_4 = some o_worstLeft → W p l e (headSpec wsX5_findLeftAtWorst rm_X5_findLeftAtWorst).room s m ([.ref h_t] : List Value).toArray below meth c H locs 0 0 (MQ below (RWv (dC, dI) (TY cI cZ cP cS) s.heap.size (wd_X5_findLeftAtWorst cI cZ cP cS h_t h_t_fitting h_t_worstLeft v_turn v_phase v_up v_fitting v_worstLeft) (wd_X5_findLeftAtWorst cI cZ cP cS h_t h_t_fitting h_t_worstLeft v_turn v_phase v_up v_fitting o_worstLeft)) ([.ref h_t] : List Value).toArray s 0 0 (va_A (wd_X5_findLeftAtWorst cI cZ cP cS h_t h_t_fitting h_t_worstLeft v_turn v_phase v_up v_fitting v_worstLeft) s.heap.size)) (F0 m 26 ls []) := by
            intro k26
            induction k26 with
            | zero =>
              intro y26_3 y26_4 ls hl hf
              exact absurd hf (fun h => Option.some_ne_none _ h.symm)
            | succ k26 ih =>
              intro y26_3 y26_4 ls hl hf
              rw [L_X5_findLeftAtWorst_26_s] at hf
              refine lv_iload hx hb dX5_findLeftAtWorst_26 (lv_at hl 4 rfl) ?_
              refine lv_aload_n hx hb dX5_findLeftAtWorst_28 rfl (lv_at hl 0 rfl) ?_
              refine va_get (D := (dC, dI)) (ci := 5) (v := .int v_turn) (C := RX5) (T := TX5) (N := 5) hx hb hts hinX5 hown hK hP 0 rfl rfl 0 (by decide) (hts (.fieldLink RX5 23 "SecondSunrise$Sun" "turn" "I") (by decide +kernel)) (fun _ h9 => h9) rfl dX5_findLeftAtWorst_29 ?_
              refine lv_icmp_ge (tgt := 75) hx hb dX5_findLeftAtWorst_32 (by decide) (fun c32 => ?_) (fun c32 => ?_)
              · rw [if_pos c32] at hf
                exact hx26 y26_3 ls (lv_sub hl [0, 1, 2, 3] rfl) hf
              · rw [if_neg c32] at hf
                refine lv_iload hx hb dX5_findLeftAtWorst_35 (lv_at hl 4 rfl) ?_
                refine lv_bipush (v := 40) hx hb dX5_findLeftAtWorst_37 (by decide) ?_
                refine lv_icmp_ge (tgt := 75) hx hb dX5_findLeftAtWorst_39 (by decide) (fun c39 => ?_) (fun c39 => ?_)
                · rw [if_pos c39] at hf
                  exact hx26 y26_3 ls (lv_sub hl [0, 1, 2, 3] rfl) hf
                · rw [if_neg c39] at hf
                  refine lv_aload_n hx hb dX5_findLeftAtWorst_42 rfl (lv_at hl 0 rfl) ?_
                  refine va_get (D := (dC, dI)) (ci := 5) (v := .ref h_t_fitting) (C := RX5) (T := TX5) (N := 5) hx hb hts hinX5 hown hK hP 0 rfl rfl 3 (by decide) (hts (.fieldLink RX5 15 "SecondSunrise$Sun" "fitting" "[Z") (by decide +kernel)) (fun _ h9 => h9) rfl dX5_findLeftAtWorst_43 ?_
                  refine lv_iload hx hb dX5_findLeftAtWorst_46 (lv_at hl 4 rfl) ?_
                  obtain ⟨hi_5, hf⟩ := ix_e hf
                  refine va_zald hx hb hK hP 1 1 rfl rfl hi_5 dX5_findLeftAtWorst_48 ?_
                  obtain ⟨k69, ek69, hf⟩ := jn1_e hf
                  have hj69 : ∀ (y69_3 : Int32) (ls : Array Slot), lv_has ls 5 [(0, .ref h_t), (1, .int r1_1), (2, .int y7_2), (3, .int y69_3), (4, .int y26_4)] → k69 y69_3 = some o_worstLeft → W p l e (headSpec wsX5_findLeftAtWorst rm_X5_findLeftAtWorst).room s m ([.ref h_t] : List Value).toArray below meth c H locs 0 0 (MQ below (RWv (dC, dI) (TY cI cZ cP cS) s.heap.size (wd_X5_findLeftAtWorst cI cZ cP cS h_t h_t_fitting h_t_worstLeft v_turn v_phase v_up v_fitting v_worstLeft) (wd_X5_findLeftAtWorst cI cZ cP cS h_t h_t_fitting h_t_worstLeft v_turn v_phase v_up v_fitting o_worstLeft)) ([.ref h_t] : List Value).toArray s 0 0 (va_A (wd_X5_findLeftAtWorst cI cZ cP cS h_t h_t_fitting h_t_worstLeft v_turn v_phase v_up v_fitting v_worstLeft) s.heap.size)) (F0 m 69 ls []) := by
                    intro y69_3 ls hl hf
                    rw [ek69] at hf
                    refine lv_iinc (v := (y26_4 + 1)) (lv' := [(4, .int (y26_4 + 1)), (0, .ref h_t), (1, .int r1_1), (2, .int y7_2), (3, .int y69_3)]) hx hb dX5_findLeftAtWorst_69 hl (k := 4) rfl rfl (by decide) rfl (fun ls hl => ?_)
                    refine lv_goto (tgt := 26) hx hb dX5_findLeftAtWorst_72 (by decide) ?_
                    exact ih y69_3 (y26_4 + 1) ls (lv_sub hl [1, 2, 3, 4, 0] rfl) hf
                  refine lv_if_eq (tgt := 69) hx hb dX5_findLeftAtWorst_49 (by decide) (fun c49 => ?_) (fun c49 => ?_)
                  · rw [if_pos c49] at hf
                    exact hj69 y26_3 ls (lv_sub hl [0, 1, 2, 3, 4] rfl) hf
                  · rw [if_neg c49] at hf
                    refine lv_aload_n hx hb dX5_findLeftAtWorst_52 rfl (lv_at hl 0 rfl) ?_
                    refine lv_iload hx hb dX5_findLeftAtWorst_53 (lv_at hl 4 rfl) ?_
                    refine lv_iload_n hx hb dX5_findLeftAtWorst_55 rfl (lv_at hl 2 rfl) ?_
                    obtain ⟨r56_6, hc_7, hf⟩ := bd1_e hf
                    refine vp_callSi (va_runV (As := [.int y26_4, .int y7_2]) (rest := []) ⟨hx, hb, hml, hown, hts⟩ (c_X5_placeBy l dC dI cI cZ cP cS h_t h_t_fitting h_t_worstLeft v_turn v_phase v_up y26_4 y7_2 n r56_6 hc_7) (cwV 2 hts gX5_findLeftAtWorst_X5_placeBy rfl rfl rfl (by decide +kernel) ⟨Nat.le_of_ble_eq_true rfl, Nat.le_of_ble_eq_true rfl⟩) (pv_ro (ci := 5) (q0 := 0) hK (hP.sub (ws' := (wd_X5_placeBy cI cZ cP cS h_t h_t_fitting h_t_worstLeft v_turn v_phase v_up)) [0] rfl) rfl rfl) rfl rfl hl.1 rfl (lv_room (Nat.le_of_ble_eq_true rfl)) dX5_findLeftAtWorst_56 ⟨Nat.zero_le _, Nat.zero_le _⟩).run (fun x e_8 => ?_)
                    rw [e_8]
                    refine lv_aload_n hx hb dX5_findLeftAtWorst_59 rfl (lv_at hl 0 rfl) ?_
                    refine va_get (D := (dC, dI)) (ci := 5) (v := .int v_up) (C := RX5) (T := TX5) (N := 5) hx hb hts hinX5 hown hK hP 0 rfl rfl 2 (by decide) (hts (.fieldLink RX5 26 "SecondSunrise$Sun" "up" "I") (by decide +kernel)) (fun _ h9 => h9) rfl dX5_findLeftAtWorst_60 ?_
                    refine lv_icmp_ge (tgt := 69) hx hb dX5_findLeftAtWorst_63 (by decide) (fun c63 => ?_) (fun c63 => ?_)
                    · rw [if_pos c63] at hf
                      exact hj69 y26_3 ls (lv_sub hl [0, 1, 2, 3, 4] rfl) hf
                    · rw [if_neg c63] at hf
                      refine lv_iinc (v := (y26_3 + 1)) (lv' := [(3, .int (y26_3 + 1)), (0, .ref h_t), (1, .int r1_1), (2, .int y7_2), (4, .int y26_4)]) hx hb dX5_findLeftAtWorst_66 hl (k := 3) rfl rfl (by decide) rfl (fun ls hl => ?_)
                      exact hj69 (y26_3 + 1) ls (lv_sub hl [1, 2, 3, 0, 4] rfl) hf
          exact hL26 n 0 0 ls (lv_sub hl [2, 3, 4, 1, 0] rfl) hf
  exact hL7 n 0 v_worstLeft H locs ls (lv_sub hl [2, 1, 0] rfl) hP hD hS hf

abbrev wd_X5_firstFittingPhase (cI cZ cP cS : ClassId) (h_t h_t_fitting h_t_worstLeft : Nat) (v_turn : Int32) (v_phase : Int32) (v_up : Int32) (v_fitting : Nat → Int32) : va_W := [(h_t, .inr (5, [.int v_turn, .int v_phase, .int v_up, .ref h_t_fitting, .ref h_t_worstLeft])), (h_t_fitting, .inl (cZ, 40, .inl v_fitting))]
abbrev rm_X5_firstFittingPhase : Room := { frames := 0, cells := 0, slots := 0, locals := 0 }
def L_X5_firstFittingPhase_2 (v_turn : Int32) (v_fitting : Nat → Int32) (kx2 : Option (Int32)) : Nat → Int32 → Option (Int32)
  | 0, _ => none
  | k2 + 1, y2_1 => if v_turn ≤ y2_1 then kx2 else if (40 : Int32) ≤ y2_1 then kx2 else ix_ y2_1 40 (if (v_fitting y2_1.toNatClampNeg) = 0 then L_X5_firstFittingPhase_2 v_turn v_fitting kx2 k2 (y2_1 + 1) else some y2_1)
theorem L_X5_firstFittingPhase_2_s (v_turn : Int32) (v_fitting : Nat → Int32) (kx2 : Option (Int32)) (k2 : Nat) (y2_1 : Int32) : L_X5_firstFittingPhase_2 v_turn v_fitting kx2 (k2 + 1) y2_1 = if v_turn ≤ y2_1 then kx2 else if (40 : Int32) ≤ y2_1 then kx2 else ix_ y2_1 40 (if (v_fitting y2_1.toNatClampNeg) = 0 then L_X5_firstFittingPhase_2 v_turn v_fitting kx2 k2 (y2_1 + 1) else some y2_1) := rfl
def f_X5_firstFittingPhase (n : Nat) (v_turn : Int32) (v_fitting : Nat → Int32) : Option (Int32) := jn0_ (some (-1)) (fun kx2 => L_X5_firstFittingPhase_2 v_turn v_fitting kx2 n 0)
set_option maxHeartbeats 4000000 in
set_option maxRecDepth 100000 in
theorem c_X5_firstFittingPhase (l : Launch) (dC : Nat → ClassId) (dI : Nat → Nat → Nat) (cI cZ cP cS : ClassId) (h_t h_t_fitting h_t_worstLeft : Nat) (v_turn : Int32) (v_phase : Int32) (v_up : Int32) (v_fitting : Nat → Int32) (n : Nat) (r : Int32) (hf : f_X5_firstFittingPhase n v_turn v_fitting = some r) : Met l yX5_firstFittingPhase wsX5_firstFittingPhase rm_X5_firstFittingPhase (RO (dC, dI) (TY cI cZ cP cS) [.ref h_t] (wd_X5_firstFittingPhase cI cZ cP cS h_t h_t_fitting h_t_worstLeft v_turn v_phase v_up v_fitting)) (vp_Si (fun x => x = r)) 0 0 NF := by
  refine Met.ofW (cc := cX5_firstFittingPhase) (maxL := 2) (ret := (some .int)) (by decide) rfl ?_
  intro p e s m args below meth c s₁ B hml hv
  obtain ⟨rfl, hP, hK⟩ := hv
  have hx := B.exec
  have hb := B.bytes
  have hr := B.returns
  have hts := atoms_spec (ws := wsX5_firstFittingPhase) B.pre
  have hown : s.vm.findClass RX5 = some m.cls := findClass_of_methodNamed B.named
  have hlocks := B.notSynchronized
  have hinX5 : ∀ w ∈ wsX50, w ∈ wsX5_firstFittingPhase := by decide +kernel
  have hl := lv_entry ([.ref h_t]) (n := 2) (Nat.le_of_ble_eq_true rfl)
  rw [lg_entry_eq]
  generalize (lg_sl ([.ref h_t]) ++ List.replicate (2 - (lg_sl ([.ref h_t])).length) Slot.unset).toArray = ls at hl ⊢
  have hl : lv_has ls 2 [(0, .ref h_t)] := hl
  unfold f_X5_firstFittingPhase at hf
  refine lv_iconst (v := 0) hx hb dX5_firstFittingPhase_0 (by decide) ?_
  refine lv_istore_n (lv' := [(1, .int 0), (0, .ref h_t)]) hx hb dX5_firstFittingPhase_1 rfl hl (by decide) rfl (fun ls hl => ?_)
  obtain ⟨kx2, ekx2, hf⟩ := jn0_e hf
  have hx2 : ∀ (ls : Array Slot), lv_has ls 2 [] → kx2 = some r → W p l e (headSpec wsX5_firstFittingPhase rm_X5_firstFittingPhase).room s m ([.ref h_t] : List Value).toArray below meth c s.heap [] 0 0 (MQ below (vp_Si (fun x => x = r)) ([.ref h_t] : List Value).toArray s 0 0 NF) (F0 m 33 ls []) := by
    intro ls hl hf
    rw [ekx2] at hf
    refine lv_iconst (v := (-1)) hx hb dX5_firstFittingPhase_33 (by decide) ?_
    exact W.iret hx hb hr (fun t ht hW => ⟨_, rfl, Option.some.inj hf, ht⟩) (fun _ h => nomatch h) dX5_firstFittingPhase_34
  have hL2 : ∀ (k2 : Nat) (y2_1 : Int32) (ls : Array Slot), lv_has ls 2 [(0, .ref h_t), (1, .int y2_1)] → L_X5_firstFittingPhase_2 v_turn v_fitting kx2 k2 y2_1 = some r → W p l e (headSpec wsX5_firstFittingPhase rm_X5_firstFittingPhase).room s m ([.ref h_t] : List Value).toArray below meth c s.heap [] 0 0 (MQ below (vp_Si (fun x => x = r)) ([.ref h_t] : List Value).toArray s 0 0 NF) (F0 m 2 ls []) := by
    intro k2
    induction k2 with
    | zero =>
      intro y2_1 ls hl hf
      exact absurd hf (fun h => Option.some_ne_none _ h.symm)
    | succ k2 ih =>
      intro y2_1 ls hl hf
      rw [L_X5_firstFittingPhase_2_s] at hf
      refine lv_iload_n hx hb dX5_firstFittingPhase_2 rfl (lv_at hl 1 rfl) ?_
      refine lv_aload_n hx hb dX5_firstFittingPhase_3 rfl (lv_at hl 0 rfl) ?_
      refine va_get (D := (dC, dI)) (ci := 5) (v := .int v_turn) (C := RX5) (T := TX5) (N := 5) hx hb hts hinX5 hown hK hP 0 rfl rfl 0 (by decide) (hts (.fieldLink RX5 23 "SecondSunrise$Sun" "turn" "I") (by decide +kernel)) (fun _ h9 => h9) rfl dX5_firstFittingPhase_4 ?_
      refine lv_icmp_ge (tgt := 33) hx hb dX5_firstFittingPhase_7 (by decide) (fun c7 => ?_) (fun c7 => ?_)
      · rw [if_pos c7] at hf
        exact hx2 ls (lv_sub hl [] rfl) hf
      · rw [if_neg c7] at hf
        refine lv_iload_n hx hb dX5_firstFittingPhase_10 rfl (lv_at hl 1 rfl) ?_
        refine lv_bipush (v := 40) hx hb dX5_firstFittingPhase_11 (by decide) ?_
        refine lv_icmp_ge (tgt := 33) hx hb dX5_firstFittingPhase_13 (by decide) (fun c13 => ?_) (fun c13 => ?_)
        · rw [if_pos c13] at hf
          exact hx2 ls (lv_sub hl [] rfl) hf
        · rw [if_neg c13] at hf
          refine lv_aload_n hx hb dX5_firstFittingPhase_16 rfl (lv_at hl 0 rfl) ?_
          refine va_get (D := (dC, dI)) (ci := 5) (v := .ref h_t_fitting) (C := RX5) (T := TX5) (N := 5) hx hb hts hinX5 hown hK hP 0 rfl rfl 3 (by decide) (hts (.fieldLink RX5 15 "SecondSunrise$Sun" "fitting" "[Z") (by decide +kernel)) (fun _ h9 => h9) rfl dX5_firstFittingPhase_17 ?_
          refine lv_iload_n hx hb dX5_firstFittingPhase_20 rfl (lv_at hl 1 rfl) ?_
          obtain ⟨hi_1, hf⟩ := ix_e hf
          refine va_zald hx hb hK hP 1 1 rfl rfl hi_1 dX5_firstFittingPhase_21 ?_
          refine lv_if_eq (tgt := 27) hx hb dX5_firstFittingPhase_22 (by decide) (fun c22 => ?_) (fun c22 => ?_)
          · rw [if_pos c22] at hf
            refine lv_iinc (v := (y2_1 + 1)) (lv' := [(1, .int (y2_1 + 1)), (0, .ref h_t)]) hx hb dX5_firstFittingPhase_27 hl (k := 1) rfl rfl (by decide) rfl (fun ls hl => ?_)
            refine lv_goto (tgt := 2) hx hb dX5_firstFittingPhase_30 (by decide) ?_
            exact ih (y2_1 + 1) ls (lv_sub hl [1, 0] rfl) hf
          · rw [if_neg c22] at hf
            refine lv_iload_n hx hb dX5_firstFittingPhase_25 rfl (lv_at hl 1 rfl) ?_
            exact W.iret hx hb hr (fun t ht hW => ⟨_, rfl, Option.some.inj hf, ht⟩) (fun _ h => nomatch h) dX5_firstFittingPhase_26
  exact hL2 n 0 ls (lv_sub hl [1, 0] rfl) hf

abbrev wd_X5_isUpIn (cI cZ cP cS : ClassId) (h_t h_t_fitting h_t_worstLeft : Nat) (v_turn : Int32) (v_phase : Int32) (v_up : Int32) : va_W := [(h_t, .inr (5, [.int v_turn, .int v_phase, .int v_up, .ref h_t_fitting, .ref h_t_worstLeft]))]
abbrev rm_X5_isUpIn : Room := { frames := 1, cells := 0, slots := 0, locals := 21 }
def f_X5_isUpIn (n : Nat) (v_turn : Int32) (v_phase : Int32) (v_up : Int32) (x1 : Int32) : Option (Int32) := bd1_ (f_X5_placeIn n v_turn v_phase x1) (fun (r2_1 : Int32) => if v_up ≤ r2_1 then some 0 else some 1)
set_option maxHeartbeats 4000000 in
set_option maxRecDepth 100000 in
theorem c_X5_isUpIn (l : Launch) (dC : Nat → ClassId) (dI : Nat → Nat → Nat) (cI cZ cP cS : ClassId) (h_t h_t_fitting h_t_worstLeft : Nat) (v_turn : Int32) (v_phase : Int32) (v_up : Int32) (x1 : Int32) (n : Nat) (r : Int32) (hf : f_X5_isUpIn n v_turn v_phase v_up x1 = some r) : Met l yX5_isUpIn wsX5_isUpIn rm_X5_isUpIn (RO (dC, dI) (TY cI cZ cP cS) [.ref h_t, .int x1] (wd_X5_isUpIn cI cZ cP cS h_t h_t_fitting h_t_worstLeft v_turn v_phase v_up)) (vp_Si (fun x => x = r ∧ narrow .boolean (.int x) = .int x)) 0 0 NF := by
  refine Met.ofW (cc := cX5_isUpIn) (maxL := 2) (ret := (some .boolean)) (by decide) rfl ?_
  intro p e s m args below meth c s₁ B hml hv
  obtain ⟨rfl, hP, hK⟩ := hv
  have hx := B.exec
  have hb := B.bytes
  have hr := B.returns
  have hts := atoms_spec (ws := wsX5_isUpIn) B.pre
  have hown : s.vm.findClass RX5 = some m.cls := findClass_of_methodNamed B.named
  have hlocks := B.notSynchronized
  have hinX5 : ∀ w ∈ wsX50, w ∈ wsX5_isUpIn := by decide +kernel
  have hl := lv_entry ([.ref h_t, .int x1]) (n := 2) (Nat.le_of_ble_eq_true rfl)
  rw [lg_entry_eq]
  generalize (lg_sl ([.ref h_t, .int x1]) ++ List.replicate (2 - (lg_sl ([.ref h_t, .int x1])).length) Slot.unset).toArray = ls at hl ⊢
  have hl : lv_has ls 2 [(0, .ref h_t), (1, .int x1)] := hl
  unfold f_X5_isUpIn at hf
  refine lv_aload_n hx hb dX5_isUpIn_0 rfl (lv_at hl 0 rfl) ?_
  refine lv_iload_n hx hb dX5_isUpIn_1 rfl (lv_at hl 1 rfl) ?_
  obtain ⟨r2_1, hc_2, hf⟩ := bd1_e hf
  refine vp_callSi (va_runV (As := [.int x1]) (rest := []) ⟨hx, hb, hml, hown, hts⟩ (c_X5_placeIn l dC dI cI cZ cP cS h_t h_t_fitting h_t_worstLeft v_turn v_phase v_up x1 n r2_1 hc_2) (cwV 1 hts gX5_isUpIn_X5_placeIn rfl rfl rfl (by decide +kernel) ⟨Nat.le_of_ble_eq_true rfl, Nat.le_of_ble_eq_true rfl⟩) (pv_ro (ci := 5) (q0 := 0) hK (hP.sub (ws' := (wd_X5_placeIn cI cZ cP cS h_t h_t_fitting h_t_worstLeft v_turn v_phase v_up)) [0] rfl) rfl rfl) rfl rfl hl.1 rfl (lv_room (Nat.le_of_ble_eq_true rfl)) dX5_isUpIn_2 ⟨Nat.zero_le _, Nat.zero_le _⟩).run (fun x e_3 => ?_)
  rw [e_3]
  refine lv_aload_n hx hb dX5_isUpIn_5 rfl (lv_at hl 0 rfl) ?_
  refine va_get (D := (dC, dI)) (ci := 5) (v := .int v_up) (C := RX5) (T := TX5) (N := 5) hx hb hts hinX5 hown hK hP 0 rfl rfl 2 (by decide) (hts (.fieldLink RX5 26 "SecondSunrise$Sun" "up" "I") (by decide +kernel)) (fun _ h9 => h9) rfl dX5_isUpIn_6 ?_
  refine lv_icmp_ge (tgt := 16) hx hb dX5_isUpIn_9 (by decide) (fun c9 => ?_) (fun c9 => ?_)
  · rw [if_pos c9] at hf
    refine lv_iconst (v := 0) hx hb dX5_isUpIn_16 (by decide) ?_
    exact W.zret hx hb hr (by decide) (fun t ht hW => ⟨_, rfl, ⟨Option.some.inj hf, (by decide)⟩, ht⟩) (fun _ h => nomatch h) dX5_isUpIn_17
  · rw [if_neg c9] at hf
    refine lv_iconst (v := 1) hx hb dX5_isUpIn_12 (by decide) ?_
    refine lv_goto (tgt := 17) hx hb dX5_isUpIn_13 (by decide) ?_
    exact W.zret hx hb hr (by decide) (fun t ht hW => ⟨_, rfl, ⟨Option.some.inj hf, (by decide)⟩, ht⟩) (fun _ h => nomatch h) dX5_isUpIn_17

abbrev wd_X6_append_C (cI cZ cP cS : ClassId) (h_t h_t_bytes : Nat) (v_size : Int32) (v_bytes : Nat → Int32) : va_W := [(h_t, .inr (0, [.ref h_t_bytes, .int v_size])), (h_t_bytes, .inl (cI, 20, .inl v_bytes))]
abbrev rm_X6_append_C : Room := { frames := 0, cells := 0, slots := 0, locals := 0 }
def f_X6_append_C (n : Nat) (v_size : Int32) (v_bytes : Nat → Int32) (x1 : Int32) : Option (Int32 × Int32 × (Nat → Int32)) := if v_size < 0 then some (0, v_size, v_bytes) else if v_size < 20 then ix_ v_size 20 (some (1, (v_size + 1), (upd v_bytes v_size.toNatClampNeg x1))) else some (0, v_size, v_bytes)
set_option maxHeartbeats 4000000 in
set_option maxRecDepth 100000 in
theorem c_X6_append_C (l : Launch) (dC : Nat → ClassId) (dI : Nat → Nat → Nat) (cI cZ cP cS : ClassId) (sz : Nat) (h_t h_t_bytes : Nat) (v_size : Int32) (v_bytes : Nat → Int32) (x1 : Int32) (n : Nat) (r : Int32) (o_size : Int32) (o_bytes : Nat → Int32) (hf : f_X6_append_C n v_size v_bytes x1 = some (r, o_size, o_bytes)) : Met l yX6_append wsX6_append rm_X6_append_C (RW (dC, dI) (TY cI cZ cP cS) [.ref h_t, .int x1] sz (wd_X6_append_C cI cZ cP cS h_t h_t_bytes v_size v_bytes)) (RWz (dC, dI) (TY cI cZ cP cS) r sz (wd_X6_append_C cI cZ cP cS h_t h_t_bytes v_size v_bytes) (wd_X6_append_C cI cZ cP cS h_t h_t_bytes o_size o_bytes)) 0 0 (va_A (wd_X6_append_C cI cZ cP cS h_t h_t_bytes v_size v_bytes) sz) := by
  refine Met.ofW (cc := cX6_append) (maxL := 2) (ret := (some .boolean)) (by decide) rfl ?_
  intro p e s m args below meth c s₁ B hml hv
  obtain ⟨rfl, hsz, hP, hK, hD0⟩ := hv
  have hx := B.exec
  have hb := B.bytes
  have hr := B.returns
  have hts := atoms_spec (ws := wsX6_append) B.pre
  have hown : s.vm.findClass RX6 = some m.cls := findClass_of_methodNamed B.named
  have hlocks := B.notSynchronized
  subst hsz
  have hD := hD0.self (sz := s.heap.size)
  have hA : ∀ q : Nat, s.heap.size ≤ q → (va_A (wd_X6_append_C cI cZ cP cS h_t h_t_bytes v_size v_bytes) s.heap.size) q := fun q h => Or.inr h
  have hS : va_S (va_A (wd_X6_append_C cI cZ cP cS h_t h_t_bytes v_size v_bytes) s.heap.size) s.heap s.heap [] := va_S.rf
  have hinX0 : ∀ w ∈ wsX00, w ∈ wsX6_append := by decide +kernel
  have hl := lv_entry ([.ref h_t, .int x1]) (n := 2) (Nat.le_of_ble_eq_true rfl)
  rw [lg_entry_eq]
  generalize (lg_sl ([.ref h_t, .int x1]) ++ List.replicate (2 - (lg_sl ([.ref h_t, .int x1])).length) Slot.unset).toArray = ls at hl ⊢
  have hl : lv_has ls 2 [(0, .ref h_t), (1, .int x1)] := hl
  obtain ⟨H, hH⟩ : ∃ H : Heap, H = s.heap := ⟨_, rfl⟩
  have hP : va_P (dC, dI) vwCl (wd_X6_append_C cI cZ cP cS h_t h_t_bytes v_size v_bytes) H := by rw [hH]; exact hP
  have hS : va_S (va_A (wd_X6_append_C cI cZ cP cS h_t h_t_bytes v_size v_bytes) s.heap.size) s.heap H [] := by rw [hH]; exact hS
  obtain ⟨locs, hlo⟩ : ∃ L : List Loc, L = [] := ⟨_, rfl⟩
  rw [← hlo] at hS
  suffices hgo : W p l e (headSpec wsX6_append rm_X6_append_C).room s m ([.ref h_t, .int x1] : List Value).toArray below meth c H locs 0 0 (MQ below (RWz (dC, dI) (TY cI cZ cP cS) r s.heap.size (wd_X6_append_C cI cZ cP cS h_t h_t_bytes v_size v_bytes) (wd_X6_append_C cI cZ cP cS h_t h_t_bytes o_size o_bytes)) ([.ref h_t, .int x1] : List Value).toArray s 0 0 (va_A (wd_X6_append_C cI cZ cP cS h_t h_t_bytes v_size v_bytes) s.heap.size)) (F0 m 0 ls []) by rw [hH, hlo] at hgo; exact hgo
  clear hH hlo
  unfold f_X6_append_C at hf
  refine lv_aload_n hx hb dX6_append_0 rfl (lv_at hl 0 rfl) ?_
  refine va_get (D := (dC, dI)) (ci := 0) (v := .int v_size) (C := RX0) (T := TX0) (N := 2) hx hb hts hinX0 hown hK hP 0 rfl rfl 1 (by decide) (hts (.fieldLink RX6 9 "SecondSunrise$Text" "size" "I") (by decide +kernel)) (fun _ h9 => h9) rfl dX6_append_1 ?_
  refine lv_if_lt (tgt := 19) hx hb dX6_append_4 (by decide) (fun c4 => ?_) (fun c4 => ?_)
  · rw [if_pos c4] at hf
    refine lv_iconst (v := 0) hx hb dX6_append_19 (by decide) ?_
    have hq0 := Option.some.inj hf
    obtain ⟨eq0, hq1⟩ := Prod.mk.inj hq0
    obtain ⟨eq1, hq2⟩ := Prod.mk.inj hq1
    clear hf hq0 hq1
    subst eq0
    subst eq1
    subst hq2
    exact W.zret hx hb hr (by decide) (fun t ht hW => ⟨⟨_, (), rfl, ⟨rfl, (by decide)⟩, by rw [ht]; exact hP, va_K.moved hW.alike hK, hD⟩, hS.F ht⟩) hS.2.2 dX6_append_20
  · rw [if_neg c4] at hf
    refine lv_aload_n hx hb dX6_append_7 rfl (lv_at hl 0 rfl) ?_
    refine va_get (D := (dC, dI)) (ci := 0) (v := .int v_size) (C := RX0) (T := TX0) (N := 2) hx hb hts hinX0 hown hK hP 0 rfl rfl 1 (by decide) (hts (.fieldLink RX6 9 "SecondSunrise$Text" "size" "I") (by decide +kernel)) (fun _ h9 => h9) rfl dX6_append_8 ?_
    refine lv_aload_n hx hb dX6_append_11 rfl (lv_at hl 0 rfl) ?_
    refine va_get (D := (dC, dI)) (ci := 0) (v := .ref h_t_bytes) (C := RX0) (T := TX0) (N := 2) hx hb hts hinX0 hown hK hP 0 rfl rfl 0 (by decide) (hts (.fieldLink RX6 15 "SecondSunrise$Text" "bytes" "[I") (by decide +kernel)) (fun _ h9 => h9) rfl dX6_append_12 ?_
    refine va_alen (v := 20) hx hb hK hP 1 0 rfl rfl rfl dX6_append_15 ?_
    refine lv_icmp_lt (tgt := 21) hx hb dX6_append_16 (by decide) (fun c16 => ?_) (fun c16 => ?_)
    · rw [if_pos c16] at hf
      refine lv_aload_n hx hb dX6_append_21 rfl (lv_at hl 0 rfl) ?_
      refine va_get (D := (dC, dI)) (ci := 0) (v := .ref h_t_bytes) (C := RX0) (T := TX0) (N := 2) hx hb hts hinX0 hown hK hP 0 rfl rfl 0 (by decide) (hts (.fieldLink RX6 15 "SecondSunrise$Text" "bytes" "[I") (by decide +kernel)) (fun _ h9 => h9) rfl dX6_append_22 ?_
      refine lv_aload_n hx hb dX6_append_25 rfl (lv_at hl 0 rfl) ?_
      refine va_get (D := (dC, dI)) (ci := 0) (v := .int v_size) (C := RX0) (T := TX0) (N := 2) hx hb hts hinX0 hown hK hP 0 rfl rfl 1 (by decide) (hts (.fieldLink RX6 9 "SecondSunrise$Text" "size" "I") (by decide +kernel)) (fun _ h9 => h9) rfl dX6_append_26 ?_
      refine lv_iload_n hx hb dX6_append_29 rfl (lv_at hl 1 rfl) ?_
      obtain ⟨hi_1, hf⟩ := ix_e hf
      refine va_iast hx hb hK hP hD hS 1 0 rfl rfl hi_1 dX6_append_30 (fun H locs hP hD hS => ?_)
      have hP : va_P (dC, dI) vwCl (wd_X6_append_C cI cZ cP cS h_t h_t_bytes v_size (upd v_bytes v_size.toNatClampNeg x1)) H := hP
      have hD : va_D (va_A (wd_X6_append_C cI cZ cP cS h_t h_t_bytes v_size v_bytes) s.heap.size) (wd_X6_append_C cI cZ cP cS h_t h_t_bytes v_size (upd v_bytes v_size.toNatClampNeg x1)) := hD
      refine lv_aload_n hx hb dX6_append_31 rfl (lv_at hl 0 rfl) ?_
      refine lv_dup hx hb dX6_append_32 rfl ?_
      refine va_get (D := (dC, dI)) (ci := 0) (v := .int v_size) (C := RX0) (T := TX0) (N := 2) hx hb hts hinX0 hown hK hP 0 rfl rfl 1 (by decide) (hts (.fieldLink RX6 9 "SecondSunrise$Text" "size" "I") (by decide +kernel)) (fun _ h9 => h9) rfl dX6_append_33 ?_
      refine lv_iconst (v := 1) hx hb dX6_append_36 (by decide) ?_
      refine lv_iadd hx hb dX6_append_37 ?_
      refine va_put (D := (dC, dI)) (ci := 0) (v := .int (v_size + 1)) (ty := .int) (C := RX0) (T := TX0) (N := 2) hx hb hts hinX0 tyX0 tyX0_ok nmX0 hown hK hP hD hS 0 rfl rfl 1 (by decide) (hts (.fieldLink RX6 9 "SecondSunrise$Text" "size" "I") (by decide +kernel)) (fun _ h9 => h9) rfl (by decide +kernel) rfl rfl (Nat.le_of_ble_eq_true rfl) dX6_append_38 (fun H locs hP hD hS => ?_)
      have hP : va_P (dC, dI) vwCl (wd_X6_append_C cI cZ cP cS h_t h_t_bytes (v_size + 1) (upd v_bytes v_size.toNatClampNeg x1)) H := hP
      have hD : va_D (va_A (wd_X6_append_C cI cZ cP cS h_t h_t_bytes v_size v_bytes) s.heap.size) (wd_X6_append_C cI cZ cP cS h_t h_t_bytes (v_size + 1) (upd v_bytes v_size.toNatClampNeg x1)) := hD
      refine lv_iconst (v := 1) hx hb dX6_append_41 (by decide) ?_
      have hq0 := Option.some.inj hf
      obtain ⟨eq0, hq1⟩ := Prod.mk.inj hq0
      obtain ⟨eq1, hq2⟩ := Prod.mk.inj hq1
      clear hf hq0 hq1
      subst eq0
      subst eq1
      subst hq2
      exact W.zret hx hb hr (by decide) (fun t ht hW => ⟨⟨_, (), rfl, ⟨rfl, (by decide)⟩, by rw [ht]; exact hP, va_K.moved hW.alike hK, hD⟩, hS.F ht⟩) hS.2.2 dX6_append_42
    · rw [if_neg c16] at hf
      refine lv_iconst (v := 0) hx hb dX6_append_19 (by decide) ?_
      have hq0 := Option.some.inj hf
      obtain ⟨eq0, hq1⟩ := Prod.mk.inj hq0
      obtain ⟨eq1, hq2⟩ := Prod.mk.inj hq1
      clear hf hq0 hq1
      subst eq0
      subst eq1
      subst hq2
      exact W.zret hx hb hr (by decide) (fun t ht hW => ⟨⟨_, (), rfl, ⟨rfl, (by decide)⟩, by rw [ht]; exact hP, va_K.moved hW.alike hK, hD⟩, hS.F ht⟩) hS.2.2 dX6_append_20

abbrev wd_X6_append_D (cI cZ cP cS : ClassId) (h_t h_t_bytes : Nat) (v_size : Int32) (v_bytes : Nat → Int32) : va_W := [(h_t, .inr (1, [.ref h_t_bytes, .int v_size])), (h_t_bytes, .inl (cI, 60, .inl v_bytes))]
abbrev rm_X6_append_D : Room := { frames := 0, cells := 0, slots := 0, locals := 0 }
def f_X6_append_D (n : Nat) (v_size : Int32) (v_bytes : Nat → Int32) (x1 : Int32) : Option (Int32 × Int32 × (Nat → Int32)) := if v_size < 0 then some (0, v_size, v_bytes) else if v_size < 60 then ix_ v_size 60 (some (1, (v_size + 1), (upd v_bytes v_size.toNatClampNeg x1))) else some (0, v_size, v_bytes)
set_option maxHeartbeats 4000000 in
set_option maxRecDepth 100000 in
theorem c_X6_append_D (l : Launch) (dC : Nat → ClassId) (dI : Nat → Nat → Nat) (cI cZ cP cS : ClassId) (sz : Nat) (h_t h_t_bytes : Nat) (v_size : Int32) (v_bytes : Nat → Int32) (x1 : Int32) (n : Nat) (r : Int32) (o_size : Int32) (o_bytes : Nat → Int32) (hf : f_X6_append_D n v_size v_bytes x1 = some (r, o_size, o_bytes)) : Met l yX6_append wsX6_append rm_X6_append_D (RW (dC, dI) (TY cI cZ cP cS) [.ref h_t, .int x1] sz (wd_X6_append_D cI cZ cP cS h_t h_t_bytes v_size v_bytes)) (RWz (dC, dI) (TY cI cZ cP cS) r sz (wd_X6_append_D cI cZ cP cS h_t h_t_bytes v_size v_bytes) (wd_X6_append_D cI cZ cP cS h_t h_t_bytes o_size o_bytes)) 0 0 (va_A (wd_X6_append_D cI cZ cP cS h_t h_t_bytes v_size v_bytes) sz) := by
  refine Met.ofW (cc := cX6_append) (maxL := 2) (ret := (some .boolean)) (by decide) rfl ?_
  intro p e s m args below meth c s₁ B hml hv
  obtain ⟨rfl, hsz, hP, hK, hD0⟩ := hv
  have hx := B.exec
  have hb := B.bytes
  have hr := B.returns
  have hts := atoms_spec (ws := wsX6_append) B.pre
  have hown : s.vm.findClass RX6 = some m.cls := findClass_of_methodNamed B.named
  have hlocks := B.notSynchronized
  subst hsz
  have hD := hD0.self (sz := s.heap.size)
  have hA : ∀ q : Nat, s.heap.size ≤ q → (va_A (wd_X6_append_D cI cZ cP cS h_t h_t_bytes v_size v_bytes) s.heap.size) q := fun q h => Or.inr h
  have hS : va_S (va_A (wd_X6_append_D cI cZ cP cS h_t h_t_bytes v_size v_bytes) s.heap.size) s.heap s.heap [] := va_S.rf
  have hinX1 : ∀ w ∈ wsX10, w ∈ wsX6_append := by decide +kernel
  have hl := lv_entry ([.ref h_t, .int x1]) (n := 2) (Nat.le_of_ble_eq_true rfl)
  rw [lg_entry_eq]
  generalize (lg_sl ([.ref h_t, .int x1]) ++ List.replicate (2 - (lg_sl ([.ref h_t, .int x1])).length) Slot.unset).toArray = ls at hl ⊢
  have hl : lv_has ls 2 [(0, .ref h_t), (1, .int x1)] := hl
  obtain ⟨H, hH⟩ : ∃ H : Heap, H = s.heap := ⟨_, rfl⟩
  have hP : va_P (dC, dI) vwCl (wd_X6_append_D cI cZ cP cS h_t h_t_bytes v_size v_bytes) H := by rw [hH]; exact hP
  have hS : va_S (va_A (wd_X6_append_D cI cZ cP cS h_t h_t_bytes v_size v_bytes) s.heap.size) s.heap H [] := by rw [hH]; exact hS
  obtain ⟨locs, hlo⟩ : ∃ L : List Loc, L = [] := ⟨_, rfl⟩
  rw [← hlo] at hS
  suffices hgo : W p l e (headSpec wsX6_append rm_X6_append_D).room s m ([.ref h_t, .int x1] : List Value).toArray below meth c H locs 0 0 (MQ below (RWz (dC, dI) (TY cI cZ cP cS) r s.heap.size (wd_X6_append_D cI cZ cP cS h_t h_t_bytes v_size v_bytes) (wd_X6_append_D cI cZ cP cS h_t h_t_bytes o_size o_bytes)) ([.ref h_t, .int x1] : List Value).toArray s 0 0 (va_A (wd_X6_append_D cI cZ cP cS h_t h_t_bytes v_size v_bytes) s.heap.size)) (F0 m 0 ls []) by rw [hH, hlo] at hgo; exact hgo
  clear hH hlo
  unfold f_X6_append_D at hf
  refine lv_aload_n hx hb dX6_append_0 rfl (lv_at hl 0 rfl) ?_
  refine va_get (D := (dC, dI)) (ci := 1) (v := .int v_size) (C := RX1) (T := TX1) (N := 2) hx hb hts hinX1 hown hK hP 0 rfl rfl 1 (by decide) (hts (.fieldLink RX6 9 "SecondSunrise$Text" "size" "I") (by decide +kernel)) (fun _ h9 => h9) rfl dX6_append_1 ?_
  refine lv_if_lt (tgt := 19) hx hb dX6_append_4 (by decide) (fun c4 => ?_) (fun c4 => ?_)
  · rw [if_pos c4] at hf
    refine lv_iconst (v := 0) hx hb dX6_append_19 (by decide) ?_
    have hq0 := Option.some.inj hf
    obtain ⟨eq0, hq1⟩ := Prod.mk.inj hq0
    obtain ⟨eq1, hq2⟩ := Prod.mk.inj hq1
    clear hf hq0 hq1
    subst eq0
    subst eq1
    subst hq2
    exact W.zret hx hb hr (by decide) (fun t ht hW => ⟨⟨_, (), rfl, ⟨rfl, (by decide)⟩, by rw [ht]; exact hP, va_K.moved hW.alike hK, hD⟩, hS.F ht⟩) hS.2.2 dX6_append_20
  · rw [if_neg c4] at hf
    refine lv_aload_n hx hb dX6_append_7 rfl (lv_at hl 0 rfl) ?_
    refine va_get (D := (dC, dI)) (ci := 1) (v := .int v_size) (C := RX1) (T := TX1) (N := 2) hx hb hts hinX1 hown hK hP 0 rfl rfl 1 (by decide) (hts (.fieldLink RX6 9 "SecondSunrise$Text" "size" "I") (by decide +kernel)) (fun _ h9 => h9) rfl dX6_append_8 ?_
    refine lv_aload_n hx hb dX6_append_11 rfl (lv_at hl 0 rfl) ?_
    refine va_get (D := (dC, dI)) (ci := 1) (v := .ref h_t_bytes) (C := RX1) (T := TX1) (N := 2) hx hb hts hinX1 hown hK hP 0 rfl rfl 0 (by decide) (hts (.fieldLink RX6 15 "SecondSunrise$Text" "bytes" "[I") (by decide +kernel)) (fun _ h9 => h9) rfl dX6_append_12 ?_
    refine va_alen (v := 60) hx hb hK hP 1 0 rfl rfl rfl dX6_append_15 ?_
    refine lv_icmp_lt (tgt := 21) hx hb dX6_append_16 (by decide) (fun c16 => ?_) (fun c16 => ?_)
    · rw [if_pos c16] at hf
      refine lv_aload_n hx hb dX6_append_21 rfl (lv_at hl 0 rfl) ?_
      refine va_get (D := (dC, dI)) (ci := 1) (v := .ref h_t_bytes) (C := RX1) (T := TX1) (N := 2) hx hb hts hinX1 hown hK hP 0 rfl rfl 0 (by decide) (hts (.fieldLink RX6 15 "SecondSunrise$Text" "bytes" "[I") (by decide +kernel)) (fun _ h9 => h9) rfl dX6_append_22 ?_
      refine lv_aload_n hx hb dX6_append_25 rfl (lv_at hl 0 rfl) ?_
      refine va_get (D := (dC, dI)) (ci := 1) (v := .int v_size) (C := RX1) (T := TX1) (N := 2) hx hb hts hinX1 hown hK hP 0 rfl rfl 1 (by decide) (hts (.fieldLink RX6 9 "SecondSunrise$Text" "size" "I") (by decide +kernel)) (fun _ h9 => h9) rfl dX6_append_26 ?_
      refine lv_iload_n hx hb dX6_append_29 rfl (lv_at hl 1 rfl) ?_
      obtain ⟨hi_1, hf⟩ := ix_e hf
      refine va_iast hx hb hK hP hD hS 1 0 rfl rfl hi_1 dX6_append_30 (fun H locs hP hD hS => ?_)
      have hP : va_P (dC, dI) vwCl (wd_X6_append_D cI cZ cP cS h_t h_t_bytes v_size (upd v_bytes v_size.toNatClampNeg x1)) H := hP
      have hD : va_D (va_A (wd_X6_append_D cI cZ cP cS h_t h_t_bytes v_size v_bytes) s.heap.size) (wd_X6_append_D cI cZ cP cS h_t h_t_bytes v_size (upd v_bytes v_size.toNatClampNeg x1)) := hD
      refine lv_aload_n hx hb dX6_append_31 rfl (lv_at hl 0 rfl) ?_
      refine lv_dup hx hb dX6_append_32 rfl ?_
      refine va_get (D := (dC, dI)) (ci := 1) (v := .int v_size) (C := RX1) (T := TX1) (N := 2) hx hb hts hinX1 hown hK hP 0 rfl rfl 1 (by decide) (hts (.fieldLink RX6 9 "SecondSunrise$Text" "size" "I") (by decide +kernel)) (fun _ h9 => h9) rfl dX6_append_33 ?_
      refine lv_iconst (v := 1) hx hb dX6_append_36 (by decide) ?_
      refine lv_iadd hx hb dX6_append_37 ?_
      refine va_put (D := (dC, dI)) (ci := 1) (v := .int (v_size + 1)) (ty := .int) (C := RX1) (T := TX1) (N := 2) hx hb hts hinX1 tyX1 tyX1_ok nmX1 hown hK hP hD hS 0 rfl rfl 1 (by decide) (hts (.fieldLink RX6 9 "SecondSunrise$Text" "size" "I") (by decide +kernel)) (fun _ h9 => h9) rfl (by decide +kernel) rfl rfl (Nat.le_of_ble_eq_true rfl) dX6_append_38 (fun H locs hP hD hS => ?_)
      have hP : va_P (dC, dI) vwCl (wd_X6_append_D cI cZ cP cS h_t h_t_bytes (v_size + 1) (upd v_bytes v_size.toNatClampNeg x1)) H := hP
      have hD : va_D (va_A (wd_X6_append_D cI cZ cP cS h_t h_t_bytes v_size v_bytes) s.heap.size) (wd_X6_append_D cI cZ cP cS h_t h_t_bytes (v_size + 1) (upd v_bytes v_size.toNatClampNeg x1)) := hD
      refine lv_iconst (v := 1) hx hb dX6_append_41 (by decide) ?_
      have hq0 := Option.some.inj hf
      obtain ⟨eq0, hq1⟩ := Prod.mk.inj hq0
      obtain ⟨eq1, hq2⟩ := Prod.mk.inj hq1
      clear hf hq0 hq1
      subst eq0
      subst eq1
      subst hq2
      exact W.zret hx hb hr (by decide) (fun t ht hW => ⟨⟨_, (), rfl, ⟨rfl, (by decide)⟩, by rw [ht]; exact hP, va_K.moved hW.alike hK, hD⟩, hS.F ht⟩) hS.2.2 dX6_append_42
    · rw [if_neg c16] at hf
      refine lv_iconst (v := 0) hx hb dX6_append_19 (by decide) ?_
      have hq0 := Option.some.inj hf
      obtain ⟨eq0, hq1⟩ := Prod.mk.inj hq0
      obtain ⟨eq1, hq2⟩ := Prod.mk.inj hq1
      clear hf hq0 hq1
      subst eq0
      subst eq1
      subst hq2
      exact W.zret hx hb hr (by decide) (fun t ht hW => ⟨⟨_, (), rfl, ⟨rfl, (by decide)⟩, by rw [ht]; exact hP, va_K.moved hW.alike hK, hD⟩, hS.F ht⟩) hS.2.2 dX6_append_20
