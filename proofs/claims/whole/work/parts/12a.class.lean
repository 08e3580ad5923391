abbrev wd_X7_wantsDark (cI cZ cP cS : ClassId) (h_t h_t_red h_t_blue h_t_sky h_t_diary h_t_calendar h_t_awakeIn h_t_worths h_t_plants h_t_sheets h_t_bestFrom : Nat) (v_latestFinding : Int32) (v_awakeIn : Nat → Int32) : va_W := [(h_t, .inr (6, [.ref h_t_red, .ref h_t_blue, .ref h_t_sky, .ref h_t_diary, .ref h_t_calendar, .ref h_t_awakeIn, .ref h_t_worths, .ref h_t_plants, .ref h_t_sheets, .ref h_t_bestFrom, .int v_latestFinding])), (h_t_awakeIn, .inl (cI, 6, .inl v_awakeIn))]
abbrev rm_X7_wantsDark : Room := { frames := 0, cells := 0, slots := 0, locals := 0 }
def f_X7_wantsDark (n : Nat) (v_awakeIn : Nat → Int32) (x1 : Int32) : Option (Int32) := ix_ x1 6 (if (((v_awakeIn x1.toNatClampNeg) >>> (3 &&& 31)) &&& 1) = 0 then some 1 else some 0)
set_option maxHeartbeats 4000000 in
set_option maxRecDepth 100000 in
theorem c_X7_wantsDark (l : Launch) (dC : Nat → ClassId) (dI : Nat → Nat → Nat) (cI cZ cP cS : ClassId) (h_t h_t_red h_t_blue h_t_sky h_t_diary h_t_calendar h_t_awakeIn h_t_worths h_t_plants h_t_sheets h_t_bestFrom : Nat) (v_latestFinding : Int32) (v_awakeIn : Nat → Int32) (x1 : Int32) (n : Nat) (r : Int32) (hf : f_X7_wantsDark n v_awakeIn x1 = some r) : Met l yX7_wantsDark wsX7_wantsDark rm_X7_wantsDark (RO (dC, dI) (TY cI cZ cP cS) [.ref h_t, .int x1] (wd_X7_wantsDark cI cZ cP cS h_t h_t_red h_t_blue h_t_sky h_t_diary h_t_calendar h_t_awakeIn h_t_worths h_t_plants h_t_sheets h_t_bestFrom v_latestFinding v_awakeIn)) (vp_Si (fun x => x = r ∧ narrow .boolean (.int x) = .int x)) 0 0 NF := by
  refine Met.ofW (cc := cX7_wantsDark) (maxL := 2) (ret := (some .boolean)) (by decide) rfl ?_
  intro p e s m args below meth c s₁ B hml hv
  obtain ⟨rfl, hP, hK⟩ := hv
  have hx := B.exec
  have hb := B.bytes
  have hr := B.returns
  have hts := atoms_spec (ws := wsX7_wantsDark) B.pre
  have hown : s.vm.findClass RX7 = some m.cls := findClass_of_methodNamed B.named
  have hlocks := B.notSynchronized
  have hinX7 : ∀ w ∈ wsX70, w ∈ wsX7_wantsDark := by decide +kernel
  have hl := lv_entry ([.ref h_t, .int x1]) (n := 2) (Nat.le_of_ble_eq_true rfl)
  rw [lg_entry_eq]
  generalize (lg_sl ([.ref h_t, .int x1]) ++ List.replicate (2 - (lg_sl ([.ref h_t, .int x1])).length) Slot.unset).toArray = ls at hl ⊢
  have hl : lv_has ls 2 [(0, .ref h_t), (1, .int x1)] := hl
  unfold f_X7_wantsDark at hf
  refine lv_aload_n hx hb dX7_wantsDark_0 rfl (lv_at hl 0 rfl) ?_
  refine va_get (D := (dC, dI)) (ci := 6) (v := .ref h_t_awakeIn) (C := RX7) (T := TX7) (N := 11) hx hb hts hinX7 hown hK hP 0 rfl rfl 5 (by decide) (hts (.fieldLink RX7 44 "SecondSunrise" "awakeIn" "[I") (by decide +kernel)) (fun _ h9 => h9) rfl dX7_wantsDark_1 ?_
  refine lv_iload_n hx hb dX7_wantsDark_4 rfl (lv_at hl 1 rfl) ?_
  obtain ⟨hi_1, hf⟩ := ix_e hf
  refine va_iald hx hb hK hP 1 0 rfl rfl hi_1 dX7_wantsDark_5 ?_
  refine lv_iconst (v := 3) hx hb dX7_wantsDark_6 (by decide) ?_
  refine lv_ishr hx hb dX7_wantsDark_7 ?_
  refine lv_iconst (v := 1) hx hb dX7_wantsDark_8 (by decide) ?_
  refine lv_iand hx hb dX7_wantsDark_9 ?_
  refine lv_if_ne (tgt := 17) hx hb dX7_wantsDark_10 (by decide) (fun c10 => ?_) (fun c10 => ?_)
  · rw [if_neg c10] at hf
    refine lv_iconst (v := 0) hx hb dX7_wantsDark_17 (by decide) ?_
    exact W.zret hx hb hr (by decide) (fun t ht hW => ⟨_, rfl, ⟨Option.some.inj hf, (by decide)⟩, ht⟩) (fun _ h => nomatch h) dX7_wantsDark_18
  · rw [if_pos c10] at hf
    refine lv_iconst (v := 1) hx hb dX7_wantsDark_13 (by decide) ?_
    refine lv_goto (tgt := 18) hx hb dX7_wantsDark_14 (by decide) ?_
    exact W.zret hx hb hr (by decide) (fun t ht hW => ⟨_, rfl, ⟨Option.some.inj hf, (by decide)⟩, ht⟩) (fun _ h => nomatch h) dX7_wantsDark_18

abbrev wd_X7_aheadInBidding (cI cZ cP cS : ClassId) (h_t h_t_red h_t_blue h_t_sky h_t_diary h_t_calendar h_t_awakeIn h_t_worths h_t_plants h_t_sheets h_t_bestFrom : Nat) (v_latestFinding : Int32) (v_awakeIn : Nat → Int32) (v_worths : Nat → Int32) : va_W := [(h_t, .inr (6, [.ref h_t_red, .ref h_t_blue, .ref h_t_sky, .ref h_t_diary, .ref h_t_calendar, .ref h_t_awakeIn, .ref h_t_worths, .ref h_t_plants, .ref h_t_sheets, .ref h_t_bestFrom, .int v_latestFinding])), (h_t_awakeIn, .inl (cI, 6, .inl v_awakeIn)), (h_t_worths, .inl (cI, 6, .inl v_worths))]
abbrev rm_X7_aheadInBidding : Room := { frames := 1, cells := 0, slots := 0, locals := 21 }
def L_X7_aheadInBidding_4 (n : Nat) (v_awakeIn : Nat → Int32) (v_worths : Nat → Int32) (x1 : Int32) (kx4 : Int32 → Option (Int32)) : Nat → Int32 → Int32 → Option (Int32)
  | 0, _, _ => none
  | k4 + 1, y4_2, y4_3 => if (6 : Int32) ≤ y4_3 then kx4 y4_2 else ix_ y4_3 6 (ix_ x1 6 (jn1_ (fun (q50_0 : Int32) => bd1_ (f_X7_wantsDark n v_awakeIn y4_3) (fun (r54_3 : Int32) => lt_ ((if r54_3 = 0 then y4_2 else (if q50_0 = 0 then y4_2 else (y4_2 + 1))) : Int32) (fun v68_7 => L_X7_aheadInBidding_4 n v_awakeIn v_worths x1 kx4 k4 v68_7 (y4_3 + 1)))) (fun k50 => jn0_ (k50 1) (fun k45 => if (v_worths x1.toNatClampNeg) < (v_worths y4_3.toNatClampNeg) then k45 else ix_ y4_3 6 (ix_ x1 6 (jn0_ (k50 0) (fun k49 => if (v_worths y4_3.toNatClampNeg) = (v_worths x1.toNatClampNeg) then if x1 ≤ y4_3 then k49 else k45 else k49)))))))
theorem L_X7_aheadInBidding_4_s (n : Nat) (v_awakeIn : Nat → Int32) (v_worths : Nat → Int32) (x1 : Int32) (kx4 : Int32 → Option (Int32)) (k4 : Nat) (y4_2 : Int32) (y4_3 : Int32) : L_X7_aheadInBidding_4 n v_awakeIn v_worths x1 kx4 (k4 + 1) y4_2 y4_3 = if (6 : Int32) ≤ y4_3 then kx4 y4_2 else ix_ y4_3 6 (ix_ x1 6 (jn1_ (fun (q50_0 : Int32) => bd1_ (f_X7_wantsDark n v_awakeIn y4_3) (fun (r54_3 : Int32) => lt_ ((if r54_3 = 0 then y4_2 else (if q50_0 = 0 then y4_2 else (y4_2 + 1))) : Int32) (fun v68_7 => L_X7_aheadInBidding_4 n v_awakeIn v_worths x1 kx4 k4 v68_7 (y4_3 + 1)))) (fun k50 => jn0_ (k50 1) (fun k45 => if (v_worths x1.toNatClampNeg) < (v_worths y4_3.toNatClampNeg) then k45 else ix_ y4_3 6 (ix_ x1 6 (jn0_ (k50 0) (fun k49 => if (v_worths y4_3.toNatClampNeg) = (v_worths x1.toNatClampNeg) then if x1 ≤ y4_3 then k49 else k45 else k49))))))) := rfl
def f_X7_aheadInBidding (n : Nat) (v_awakeIn : Nat → Int32) (v_worths : Nat → Int32) (x1 : Int32) : Option (Int32) := jn1_ (fun (z4_2 : Int32) => some z4_2) (fun kx4 => L_X7_aheadInBidding_4 n v_awakeIn v_worths x1 kx4 n 0 0)
set_option maxHeartbeats 4000000 in
set_option maxRecDepth 100000 in
theorem c_X7_aheadInBidding (l : Launch) (dC : Nat → ClassId) (dI : Nat → Nat → Nat) (cI cZ cP cS : ClassId) (h_t h_t_red h_t_blue h_t_sky h_t_diary h_t_calendar h_t_awakeIn h_t_worths h_t_plants h_t_sheets h_t_bestFrom : Nat) (v_latestFinding : Int32) (v_awakeIn : Nat → Int32) (v_worths : Nat → Int32) (x1 : Int32) (n : Nat) (r : Int32) (hf : f_X7_aheadInBidding n v_awakeIn v_worths x1 = some r) : Met l yX7_aheadInBidding wsX7_aheadInBidding rm_X7_aheadInBidding (RO (dC, dI) (TY cI cZ cP cS) [.ref h_t, .int x1] (wd_X7_aheadInBidding cI cZ cP cS h_t h_t_red h_t_blue h_t_sky h_t_diary h_t_calendar h_t_awakeIn h_t_worths h_t_plants h_t_sheets h_t_bestFrom v_latestFinding v_awakeIn v_worths)) (vp_Si (fun x => x = r)) 0 0 NF := by
  refine Met.ofW (cc := cX7_aheadInBidding) (maxL := 5) (ret := (some .int)) (by decide) rfl ?_
  intro p e s m args below meth c s₁ B hml hv
  obtain ⟨rfl, hP, hK⟩ := hv
  have hx := B.exec
  have hb := B.bytes
  have hr := B.returns
  have hts := atoms_spec (ws := wsX7_aheadInBidding) B.pre
  have hown : s.vm.findClass RX7 = some m.cls := findClass_of_methodNamed B.named
  have hlocks := B.notSynchronized
  have hinX7 : ∀ w ∈ wsX70, w ∈ wsX7_aheadInBidding := by decide +kernel
  have hl := lv_entry ([.ref h_t, .int x1]) (n := 5) (Nat.le_of_ble_eq_true rfl)
  rw [lg_entry_eq]
  generalize (lg_sl ([.ref h_t, .int x1]) ++ List.replicate (5 - (lg_sl ([.ref h_t, .int x1])).length) Slot.unset).toArray = ls at hl ⊢
  have hl : lv_has ls 5 [(0, .ref h_t), (1, .int x1)] := hl
  unfold f_X7_aheadInBidding at hf
  refine lv_iconst (v := 0) hx hb dX7_aheadInBidding_0 (by decide) ?_
  refine lv_istore_n (lv' := [(2, .int 0), (0, .ref h_t), (1, .int x1)]) hx hb dX7_aheadInBidding_1 rfl hl (by decide) rfl (fun ls hl => ?_)
  refine lv_iconst (v := 0) hx hb dX7_aheadInBidding_2 (by decide) ?_
  refine lv_istore_n (lv' := [(3, .int 0), (2, .int 0), (0, .ref h_t), (1, .int x1)]) hx hb dX7_aheadInBidding_3 rfl hl (by decide) rfl (fun ls hl => ?_)
  obtain ⟨kx4, ekx4, hf⟩ := jn1_e hf
  have hx4 : ∀ (z4_2 : Int32) (ls : Array Slot), lv_has ls 5 [(2, .int z4_2)] → kx4 z4_2 = some r → W p l e (headSpec wsX7_aheadInBidding rm_X7_aheadInBidding).room s m ([.ref h_t, .int x1] : List Value).toArray below meth c s.heap [] 0 0 (MQ below (vp_Si (fun x => x = r)) ([.ref h_t, .int x1] : List Value).toArray s 0 0 NF) (F0 m 74 ls []) := by
    intro z4_2 ls hl hf
    rw [ekx4] at hf
    refine lv_iload_n hx hb dX7_aheadInBidding_74 rfl (lv_at hl 0 rfl) ?_
    exact W.iret hx hb hr (fun t ht hW => ⟨_, rfl, Option.some.inj hf, ht⟩) (fun _ h => nomatch h) dX7_aheadInBidding_75
  have hL4 : ∀ (k4 : Nat) (y4_2 : Int32) (y4_3 : Int32) (ls : Array Slot), lv_has ls 5 [(0, .ref h_t), (1, .int x1), (2, .int y4_2), (3, .int y4_3)] → L_X7_aheadInBidding_4 n v_awakeIn v_worths x1 kx4 k4 y4_2 y4_3 = some r → W p l e (headSpec wsX7_aheadInBidding rm_X7_aheadInBidding).room s m ([.ref h_t, .int x1] : List Value).toArray below meth c s.heap [] 0 0 (MQ below (vp_Si (fun x => x = r)) ([.ref h_t, .int x1] : List Value).toArray s 0 0 NF) (F0 m 4 ls []) := by
    intro k4
    induction k4 with
    | zero =>
      intro y4_2 y4_3 ls hl hf
      exact absurd hf (fun h => Option.some_ne_none _ h.symm)
    | succ k4 ih =>
      intro y4_2 y4_3 ls hl hf
      rw [L_X7_aheadInBidding_4_s] at hf
      refine lv_iload_n hx hb dX7_aheadInBidding_4 rfl (lv_at hl 3 rfl) ?_
      refine lv_bipush (v := 6) hx hb dX7_aheadInBidding_5 (by decide) ?_
      refine lv_icmp_ge (tgt := 74) hx hb dX7_aheadInBidding_7 (by decide) (fun c7 => ?_) (fun c7 => ?_)
      · rw [if_pos c7] at hf
        exact hx4 y4_2 ls (lv_sub hl [2] rfl) hf
      · rw [if_neg c7] at hf
        refine lv_aload_n hx hb dX7_aheadInBidding_10 rfl (lv_at hl 0 rfl) ?_
        refine va_get (D := (dC, dI)) (ci := 6) (v := .ref h_t_worths) (C := RX7) (T := TX7) (N := 11) hx hb hts hinX7 hown hK hP 0 rfl rfl 6 (by decide) (hts (.fieldLink RX7 48 "SecondSunrise" "worths" "[I") (by decide +kernel)) (fun _ h9 => h9) rfl dX7_aheadInBidding_11 ?_
        refine lv_iload_n hx hb dX7_aheadInBidding_14 rfl (lv_at hl 3 rfl) ?_
        obtain ⟨hi_1, hf⟩ := ix_e hf
        refine va_iald hx hb hK hP 2 0 rfl rfl hi_1 dX7_aheadInBidding_15 ?_
        refine lv_aload_n hx hb dX7_aheadInBidding_16 rfl (lv_at hl 0 rfl) ?_
        refine va_get (D := (dC, dI)) (ci := 6) (v := .ref h_t_worths) (C := RX7) (T := TX7) (N := 11) hx hb hts hinX7 hown hK hP 0 rfl rfl 6 (by decide) (hts (.fieldLink RX7 48 "SecondSunrise" "worths" "[I") (by decide +kernel)) (fun _ h9 => h9) rfl dX7_aheadInBidding_17 ?_
        refine lv_iload_n hx hb dX7_aheadInBidding_20 rfl (lv_at hl 1 rfl) ?_
        obtain ⟨hi_2, hf⟩ := ix_e hf
        refine va_iald hx hb hK hP 2 0 rfl rfl hi_2 dX7_aheadInBidding_21 ?_
        obtain ⟨k50, ek50, hf⟩ := jn1_e hf
        have hj50 : ∀ (q50_0 : Int32) (ls : Array Slot), lv_has ls 5 [(0, .ref h_t), (1, .int x1), (2, .int y4_2), (3, .int y4_3)] → k50 q50_0 = some r → W p l e (headSpec wsX7_aheadInBidding rm_X7_aheadInBidding).room s m ([.ref h_t, .int x1] : List Value).toArray below meth c s.heap [] 0 0 (MQ below (vp_Si (fun x => x = r)) ([.ref h_t, .int x1] : List Value).toArray s 0 0 NF) (F0 m 50 ls [.int q50_0]) := by
          intro q50_0 ls hl hf
          rw [ek50] at hf
          refine lv_istore (lv' := [(4, .int q50_0), (0, .ref h_t), (1, .int x1), (2, .int y4_2), (3, .int y4_3)]) hx hb dX7_aheadInBidding_50 hl (by decide) rfl (fun ls hl => ?_)
          refine lv_aload_n hx hb dX7_aheadInBidding_52 rfl (lv_at hl 1 rfl) ?_
          refine lv_iload_n hx hb dX7_aheadInBidding_53 rfl (lv_at hl 4 rfl) ?_
          obtain ⟨r54_3, hc_4, hf⟩ := bd1_e hf
          refine vp_callSi (va_runV (As := [.int y4_3]) (rest := []) ⟨hx, hb, hml, hown, hts⟩ (c_X7_wantsDark l dC dI cI cZ cP cS h_t h_t_red h_t_blue h_t_sky h_t_diary h_t_calendar h_t_awakeIn h_t_worths h_t_plants h_t_sheets h_t_bestFrom v_latestFinding v_awakeIn y4_3 n r54_3 hc_4) (cwV 1 hts gX7_aheadInBidding_X7_wantsDark rfl rfl rfl (by decide +kernel) ⟨Nat.le_of_ble_eq_true rfl, Nat.le_of_ble_eq_true rfl⟩) (pv_ro (ci := 6) (q0 := 0) hK (hP.sub (ws' := (wd_X7_wantsDark cI cZ cP cS h_t h_t_red h_t_blue h_t_sky h_t_diary h_t_calendar h_t_awakeIn h_t_worths h_t_plants h_t_sheets h_t_bestFrom v_latestFinding v_awakeIn)) [0, 1] rfl) rfl rfl) rfl rfl hl.1 rfl (lv_room (Nat.le_of_ble_eq_true rfl)) dX7_aheadInBidding_54 ⟨Nat.zero_le _, Nat.zero_le _⟩).run (fun x e_5 => ?_)
          obtain ⟨e_5, hb_6⟩ := e_5
          rw [e_5] at hb_6 ⊢
          obtain ⟨v68_7, ev68_7, hf⟩ := lt_e hf
          have hj68_8 : ∀ (ls : Array Slot), lv_has ls 5 [(0, .ref h_t), (1, .int x1), (2, .int v68_7), (3, .int y4_3)] → W p l e (headSpec wsX7_aheadInBidding rm_X7_aheadInBidding).room s m ([.ref h_t, .int x1] : List Value).toArray below meth c s.heap [] 0 0 (MQ below (vp_Si (fun x => x = r)) ([.ref h_t, .int x1] : List Value).toArray s 0 0 NF) (F0 m 68 ls []) := by
            intro ls hl
            refine lv_iinc (v := (y4_3 + 1)) (lv' := [(3, .int (y4_3 + 1)), (0, .ref h_t), (1, .int x1), (2, .int v68_7)]) hx hb dX7_aheadInBidding_68 hl (k := 3) rfl rfl (by decide) rfl (fun ls hl => ?_)
            refine lv_goto (tgt := 4) hx hb dX7_aheadInBidding_71 (by decide) ?_
            exact ih v68_7 (y4_3 + 1) ls (lv_sub hl [1, 2, 3, 0] rfl) hf
          clear hf
          refine lv_if_eq (tgt := 68) hx hb dX7_aheadInBidding_57 (by decide) (fun c57 => ?_) (fun c57 => ?_)
          ·
            rw [if_pos c57] at ev68_7
            subst ev68_7
            exact hj68_8 ls (lv_sub hl [1, 2, 3, 4] rfl)
          ·
            refine lv_iload hx hb dX7_aheadInBidding_60 (lv_at hl 0 rfl) ?_
            refine lv_if_eq (tgt := 68) hx hb dX7_aheadInBidding_62 (by decide) (fun c62 => ?_) (fun c62 => ?_)
            ·
              rw [if_neg c57, if_pos c62] at ev68_7
              subst ev68_7
              exact hj68_8 ls (lv_sub hl [1, 2, 3, 4] rfl)
            ·
              refine lv_iinc (v := (y4_2 + 1)) (lv' := [(2, .int (y4_2 + 1)), (4, .int q50_0), (0, .ref h_t), (1, .int x1), (3, .int y4_3)]) hx hb dX7_aheadInBidding_65 hl (k := 3) rfl rfl (by decide) rfl (fun ls hl => ?_)
              rw [if_neg c57, if_neg c62] at ev68_7
              subst ev68_7
              exact hj68_8 ls (lv_sub hl [2, 3, 0, 4] rfl)
        obtain ⟨k45, ek45, hf⟩ := jn0_e hf
        have hj45 : ∀ (ls : Array Slot), lv_has ls 5 [(0, .ref h_t), (1, .int x1), (2, .int y4_2), (3, .int y4_3)] → k45 = some r → W p l e (headSpec wsX7_aheadInBidding rm_X7_aheadInBidding).room s m ([.ref h_t, .int x1] : List Value).toArray below meth c s.heap [] 0 0 (MQ below (vp_Si (fun x => x = r)) ([.ref h_t, .int x1] : List Value).toArray s 0 0 NF) (F0 m 45 ls []) := by
          intro ls hl hf
          rw [ek45] at hf
          refine lv_iconst (v := 1) hx hb dX7_aheadInBidding_45 (by decide) ?_
          refine lv_goto (tgt := 50) hx hb dX7_aheadInBidding_46 (by decide) ?_
          exact hj50 1 ls (lv_sub hl [0, 1, 2, 3] rfl) hf
        refine lv_icmp_gt (tgt := 45) hx hb dX7_aheadInBidding_22 (by decide) (fun c22 => ?_) (fun c22 => ?_)
        · rw [if_pos c22] at hf
          exact hj45 ls (lv_sub hl [0, 1, 2, 3] rfl) hf
        · rw [if_neg c22] at hf
          refine lv_aload_n hx hb dX7_aheadInBidding_25 rfl (lv_at hl 0 rfl) ?_
          refine va_get (D := (dC, dI)) (ci := 6) (v := .ref h_t_worths) (C := RX7) (T := TX7) (N := 11) hx hb hts hinX7 hown hK hP 0 rfl rfl 6 (by decide) (hts (.fieldLink RX7 48 "SecondSunrise" "worths" "[I") (by decide +kernel)) (fun _ h9 => h9) rfl dX7_aheadInBidding_26 ?_
          refine lv_iload_n hx hb dX7_aheadInBidding_29 rfl (lv_at hl 3 rfl) ?_
          obtain ⟨hi_9, hf⟩ := ix_e hf
          refine va_iald hx hb hK hP 2 0 rfl rfl hi_9 dX7_aheadInBidding_30 ?_
          refine lv_aload_n hx hb dX7_aheadInBidding_31 rfl (lv_at hl 0 rfl) ?_
          refine va_get (D := (dC, dI)) (ci := 6) (v := .ref h_t_worths) (C := RX7) (T := TX7) (N := 11) hx hb hts hinX7 hown hK hP 0 rfl rfl 6 (by decide) (hts (.fieldLink RX7 48 "SecondSunrise" "worths" "[I") (by decide +kernel)) (fun _ h9 => h9) rfl dX7_aheadInBidding_32 ?_
          refine lv_iload_n hx hb dX7_aheadInBidding_35 rfl (lv_at hl 1 rfl) ?_
          obtain ⟨hi_10, hf⟩ := ix_e hf
          refine va_iald hx hb hK hP 2 0 rfl rfl hi_10 dX7_aheadInBidding_36 ?_
          obtain ⟨k49, ek49, hf⟩ := jn0_e hf
          have hj49 : ∀ (ls : Array Slot), lv_has ls 5 [(0, .ref h_t), (1, .int x1), (2, .int y4_2), (3, .int y4_3)] → k49 = some r → W p l e (headSpec wsX7_aheadInBidding rm_X7_aheadInBidding).room s m ([.ref h_t, .int x1] : List Value).toArray below meth c s.heap [] 0 0 (MQ below (vp_Si (fun x => x = r)) ([.ref h_t, .int x1] : List Value).toArray s 0 0 NF) (F0 m 49 ls []) := by
            intro ls hl hf
            rw [ek49] at hf
            refine lv_iconst (v := 0) hx hb dX7_aheadInBidding_49 (by decide) ?_
            exact hj50 0 ls (lv_sub hl [0, 1, 2, 3] rfl) hf
          refine lv_icmp_ne (tgt := 49) hx hb dX7_aheadInBidding_37 (by decide) (fun c37 => ?_) (fun c37 => ?_)
          · rw [if_neg c37] at hf
            exact hj49 ls (lv_sub hl [0, 1, 2, 3] rfl) hf
          · rw [if_pos c37] at hf
            refine lv_iload_n hx hb dX7_aheadInBidding_40 rfl (lv_at hl 3 rfl) ?_
            refine lv_iload_n hx hb dX7_aheadInBidding_41 rfl (lv_at hl 1 rfl) ?_
            refine lv_icmp_ge (tgt := 49) hx hb dX7_aheadInBidding_42 (by decide) (fun c42 => ?_) (fun c42 => ?_)
            · rw [if_pos c42] at hf
              exact hj49 ls (lv_sub hl [0, 1, 2, 3] rfl) hf
            · rw [if_neg c42] at hf
              exact hj45 ls (lv_sub hl [0, 1, 2, 3] rfl) hf
  exact hL4 n 0 0 ls (lv_sub hl [2, 3, 1, 0] rfl) hf

abbrev wd_X7_allWorths (cI cZ cP cS : ClassId) (h_t h_t_red h_t_blue h_t_sky h_t_diary h_t_calendar h_t_awakeIn h_t_worths h_t_plants h_t_sheets h_t_bestFrom : Nat) (v_latestFinding : Int32) (v_worths : Nat → Int32) : va_W := [(h_t, .inr (6, [.ref h_t_red, .ref h_t_blue, .ref h_t_sky, .ref h_t_diary, .ref h_t_calendar, .ref h_t_awakeIn, .ref h_t_worths, .ref h_t_plants, .ref h_t_sheets, .ref h_t_bestFrom, .int v_latestFinding])), (h_t_worths, .inl (cI, 6, .inl v_worths))]
abbrev rm_X7_allWorths : Room := { frames := 0, cells := 0, slots := 0, locals := 0 }
def L_X7_allWorths_4 (v_worths : Nat → Int32) (kx4 : Int32 → Option (Int32)) : Nat → Int32 → Int32 → Option (Int32)
  | 0, _, _ => none
  | k4 + 1, y4_1, y4_2 => if (6 : Int32) ≤ y4_2 then kx4 y4_1 else ix_ y4_2 6 (L_X7_allWorths_4 v_worths kx4 k4 (y4_1 + (v_worths y4_2.toNatClampNeg)) (y4_2 + 1))
theorem L_X7_allWorths_4_s (v_worths : Nat → Int32) (kx4 : Int32 → Option (Int32)) (k4 : Nat) (y4_1 : Int32) (y4_2 : Int32) : L_X7_allWorths_4 v_worths kx4 (k4 + 1) y4_1 y4_2 = if (6 : Int32) ≤ y4_2 then kx4 y4_1 else ix_ y4_2 6 (L_X7_allWorths_4 v_worths kx4 k4 (y4_1 + (v_worths y4_2.toNatClampNeg)) (y4_2 + 1)) := rfl
def f_X7_allWorths (n : Nat) (v_worths : Nat → Int32) : Option (Int32) := jn1_ (fun (z4_1 : Int32) => some z4_1) (fun kx4 => L_X7_allWorths_4 v_worths kx4 n 0 0)
set_option maxHeartbeats 4000000 in
set_option maxRecDepth 100000 in
theorem c_X7_allWorths (l : Launch) (dC : Nat → ClassId) (dI : Nat → Nat → Nat) (cI cZ cP cS : ClassId) (h_t h_t_red h_t_blue h_t_sky h_t_diary h_t_calendar h_t_awakeIn h_t_worths h_t_plants h_t_sheets h_t_bestFrom : Nat) (v_latestFinding : Int32) (v_worths : Nat → Int32) (n : Nat) (r : Int32) (hf : f_X7_allWorths n v_worths = some r) : Met l yX7_allWorths wsX7_allWorths rm_X7_allWorths (RO (dC, dI) (TY cI cZ cP cS) [.ref h_t] (wd_X7_allWorths cI cZ cP cS h_t h_t_red h_t_blue h_t_sky h_t_diary h_t_calendar h_t_awakeIn h_t_worths h_t_plants h_t_sheets h_t_bestFrom v_latestFinding v_worths)) (vp_Si (fun x => x = r)) 0 0 NF := by
  refine Met.ofW (cc := cX7_allWorths) (maxL := 3) (ret := (some .int)) (by decide) rfl ?_
  intro p e s m args below meth c s₁ B hml hv
  obtain ⟨rfl, hP, hK⟩ := hv
  have hx := B.exec
  have hb := B.bytes
  have hr := B.returns
  have hts := atoms_spec (ws := wsX7_allWorths) B.pre
  have hown : s.vm.findClass RX7 = some m.cls := findClass_of_methodNamed B.named
  have hlocks := B.notSynchronized
  have hinX7 : ∀ w ∈ wsX70, w ∈ wsX7_allWorths := by decide +kernel
  have hl := lv_entry ([.ref h_t]) (n := 3) (Nat.le_of_ble_eq_true rfl)
  rw [lg_entry_eq]
  generalize (lg_sl ([.ref h_t]) ++ List.replicate (3 - (lg_sl ([.ref h_t])).length) Slot.unset).toArray = ls at hl ⊢
  have hl : lv_has ls 3 [(0, .ref h_t)] := hl
  unfold f_X7_allWorths at hf
  refine lv_iconst (v := 0) hx hb dX7_allWorths_0 (by decide) ?_
  refine lv_istore_n (lv' := [(1, .int 0), (0, .ref h_t)]) hx hb dX7_allWorths_1 rfl hl (by decide) rfl (fun ls hl => ?_)
  refine lv_iconst (v := 0) hx hb dX7_allWorths_2 (by decide) ?_
  refine lv_istore_n (lv' := [(2, .int 0), (1, .int 0), (0, .ref h_t)]) hx hb dX7_allWorths_3 rfl hl (by decide) rfl (fun ls hl => ?_)
  obtain ⟨kx4, ekx4, hf⟩ := jn1_e hf
  have hx4 : ∀ (z4_1 : Int32) (ls : Array Slot), lv_has ls 3 [(1, .int z4_1)] → kx4 z4_1 = some r → W p l e (headSpec wsX7_allWorths rm_X7_allWorths).room s m ([.ref h_t] : List Value).toArray below meth c s.heap [] 0 0 (MQ below (vp_Si (fun x => x = r)) ([.ref h_t] : List Value).toArray s 0 0 NF) (F0 m 25 ls []) := by
    intro z4_1 ls hl hf
    rw [ekx4] at hf
    refine lv_iload_n hx hb dX7_allWorths_25 rfl (lv_at hl 0 rfl) ?_
    exact W.iret hx hb hr (fun t ht hW => ⟨_, rfl, Option.some.inj hf, ht⟩) (fun _ h => nomatch h) dX7_allWorths_26
  have hL4 : ∀ (k4 : Nat) (y4_1 : Int32) (y4_2 : Int32) (ls : Array Slot), lv_has ls 3 [(0, .ref h_t), (1, .int y4_1), (2, .int y4_2)] → L_X7_allWorths_4 v_worths kx4 k4 y4_1 y4_2 = some r → W p l e (headSpec wsX7_allWorths rm_X7_allWorths).room s m ([.ref h_t] : List Value).toArray below meth c s.heap [] 0 0 (MQ below (vp_Si (fun x => x = r)) ([.ref h_t] : List Value).toArray s 0 0 NF) (F0 m 4 ls []) := by
    intro k4
    induction k4 with
    | zero =>
      intro y4_1 y4_2 ls hl hf
      exact absurd hf (fun h => Option.some_ne_none _ h.symm)
    | succ k4 ih =>
      intro y4_1 y4_2 ls hl hf
      rw [L_X7_allWorths_4_s] at hf
      refine lv_iload_n hx hb dX7_allWorths_4 rfl (lv_at hl 2 rfl) ?_
      refine lv_bipush (v := 6) hx hb dX7_allWorths_5 (by decide) ?_
      refine lv_icmp_ge (tgt := 25) hx hb dX7_allWorths_7 (by decide) (fun c7 => ?_) (fun c7 => ?_)
      · rw [if_pos c7] at hf
        exact hx4 y4_1 ls (lv_sub hl [1] rfl) hf
      · rw [if_neg c7] at hf
        refine lv_iload_n hx hb dX7_allWorths_10 rfl (lv_at hl 1 rfl) ?_
        refine lv_aload_n hx hb dX7_allWorths_11 rfl (lv_at hl 0 rfl) ?_
        refine va_get (D := (dC, dI)) (ci := 6) (v := .ref h_t_worths) (C := RX7) (T := TX7) (N := 11) hx hb hts hinX7 hown hK hP 0 rfl rfl 6 (by decide) (hts (.fieldLink RX7 48 "SecondSunrise" "worths" "[I") (by decide +kernel)) (fun _ h9 => h9) rfl dX7_allWorths_12 ?_
        refine lv_iload_n hx hb dX7_allWorths_15 rfl (lv_at hl 2 rfl) ?_
        obtain ⟨hi_1, hf⟩ := ix_e hf
        refine va_iald hx hb hK hP 1 0 rfl rfl hi_1 dX7_allWorths_16 ?_
        refine lv_iadd hx hb dX7_allWorths_17 ?_
        refine lv_istore_n (lv' := [(1, .int (y4_1 + (v_worths y4_2.toNatClampNeg))), (0, .ref h_t), (2, .int y4_2)]) hx hb dX7_allWorths_18 rfl hl (by decide) rfl (fun ls hl => ?_)
        refine lv_iinc (v := (y4_2 + 1)) (lv' := [(2, .int (y4_2 + 1)), (1, .int (y4_1 + (v_worths y4_2.toNatClampNeg))), (0, .ref h_t)]) hx hb dX7_allWorths_19 hl (k := 2) rfl rfl (by decide) rfl (fun ls hl => ?_)
        refine lv_goto (tgt := 4) hx hb dX7_allWorths_22 (by decide) ?_
        exact ih (y4_1 + (v_worths y4_2.toNatClampNeg)) (y4_2 + 1) ls (lv_sub hl [2, 1, 0] rfl) hf
  exact hL4 n 0 0 ls (lv_sub hl [2, 1, 0] rfl) hf

abbrev wd_X7_awake (cI cZ cP cS : ClassId) (h_t h_t_red h_t_blue h_t_sky h_t_diary h_t_calendar h_t_awakeIn h_t_worths h_t_plants h_t_sheets h_t_bestFrom : Nat) (v_latestFinding : Int32) (v_awakeIn : Nat → Int32) : va_W := [(h_t, .inr (6, [.ref h_t_red, .ref h_t_blue, .ref h_t_sky, .ref h_t_diary, .ref h_t_calendar, .ref h_t_awakeIn, .ref h_t_worths, .ref h_t_plants, .ref h_t_sheets, .ref h_t_bestFrom, .int v_latestFinding])), (h_t_awakeIn, .inl (cI, 6, .inl v_awakeIn))]
abbrev rm_X7_awake : Room := { frames := 2, cells := 0, slots := 0, locals := 42 }
def f_X7_awake (n : Nat) (v_awakeIn : Nat → Int32) (x1 : Int32) (x2 : Int32) : Option (Int32 × (Nat → Int32)) := bd1_ (f_X7_noPerson n x1) (fun (r1_1 : Int32) => if r1_1 = 0 then bd1_ (f_X7_outside n x2 0 15) (fun (r11_5 : Int32) => if r11_5 = 0 then ix_ x1 6 (ix_ x1 6 (some ((v_awakeIn x1.toNatClampNeg), (upd v_awakeIn x1.toNatClampNeg x2)))) else some ((-2), v_awakeIn)) else some ((-2), v_awakeIn))
set_option maxHeartbeats 4000000 in
set_option maxRecDepth 100000 in
theorem c_X7_awake (l : Launch) (dC : Nat → ClassId) (dI : Nat → Nat → Nat) (cI cZ cP cS : ClassId) (sz : Nat) (h_t h_t_red h_t_blue h_t_sky h_t_diary h_t_calendar h_t_awakeIn h_t_worths h_t_plants h_t_sheets h_t_bestFrom : Nat) (v_latestFinding : Int32) (v_awakeIn : Nat → Int32) (x1 : Int32) (x2 : Int32) (n : Nat) (r : Int32) (o_awakeIn : Nat → Int32) (hf : f_X7_awake n v_awakeIn x1 x2 = some (r, o_awakeIn)) : Met l yX7_awake wsX7_awake rm_X7_awake (RW (dC, dI) (TY cI cZ cP cS) [.ref h_t, .int x1, .int x2] sz (wd_X7_awake cI cZ cP cS h_t h_t_red h_t_blue h_t_sky h_t_diary h_t_calendar h_t_awakeIn h_t_worths h_t_plants h_t_sheets h_t_bestFrom v_latestFinding v_awakeIn)) (RWi (dC, dI) (TY cI cZ cP cS) r sz (wd_X7_awake cI cZ cP cS h_t h_t_red h_t_blue h_t_sky h_t_diary h_t_calendar h_t_awakeIn h_t_worths h_t_plants h_t_sheets h_t_bestFrom v_latestFinding v_awakeIn) (wd_X7_awake cI cZ cP cS h_t h_t_red h_t_blue h_t_sky h_t_diary h_t_calendar h_t_awakeIn h_t_worths h_t_plants h_t_sheets h_t_bestFrom v_latestFinding o_awakeIn)) 0 0 (va_A (wd_X7_awake cI cZ cP cS h_t h_t_red h_t_blue h_t_sky h_t_diary h_t_calendar h_t_awakeIn h_t_worths h_t_plants h_t_sheets h_t_bestFrom v_latestFinding v_awakeIn) sz) := by
  refine Met.ofW (cc := cX7_awake) (maxL := 4) (ret := (some .int)) (by decide) rfl ?_
  intro p e s m args below meth c s₁ B hml hv
  obtain ⟨rfl, hsz, hP, hK, hD0⟩ := hv
  have hx := B.exec
  have hb := B.bytes
  have hr := B.returns
  have hts := atoms_spec (ws := wsX7_awake) B.pre
  have hown : s.vm.findClass RX7 = some m.cls := findClass_of_methodNamed B.named
  have hlocks := B.notSynchronized
  subst hsz
  have hD := hD0.self (sz := s.heap.size)
  have hA : ∀ q : Nat, s.heap.size ≤ q → (va_A (wd_X7_awake cI cZ cP cS h_t h_t_red h_t_blue h_t_sky h_t_diary h_t_calendar h_t_awakeIn h_t_worths h_t_plants h_t_sheets h_t_bestFrom v_latestFinding v_awakeIn) s.heap.size) q := fun q h => Or.inr h
  have hS : va_S (va_A (wd_X7_awake cI cZ cP cS h_t h_t_red h_t_blue h_t_sky h_t_diary h_t_calendar h_t_awakeIn h_t_worths h_t_plants h_t_sheets h_t_bestFrom v_latestFinding v_awakeIn) s.heap.size) s.heap s.heap [] := va_S.rf
  have hinX7 : ∀ w ∈ wsX70, w ∈ wsX7_awake := by decide +kernel
  have hl := lv_entry ([.ref h_t, .int x1, .int x2]) (n := 4) (Nat.le_of_ble_eq_true rfl)
  rw [lg_entry_eq]
  generalize (lg_sl ([.ref h_t, .int x1, .int x2]) ++ List.replicate (4 - (lg_sl ([.ref h_t, .int x1, .int x2])).length) Slot.unset).toArray = ls at hl ⊢
  have hl : lv_has ls 4 [(0, .ref h_t), (1, .int x1), (2, .int x2)] := hl
  obtain ⟨H, hH⟩ : ∃ H : Heap, H = s.heap := ⟨_, rfl⟩
  have hP : va_P (dC, dI) vwCl (wd_X7_awake cI cZ cP cS h_t h_t_red h_t_blue h_t_sky h_t_diary h_t_calendar h_t_awakeIn h_t_worths h_t_plants h_t_sheets h_t_bestFrom v_latestFinding v_awakeIn) H := by rw [hH]; exact hP
  have hS : va_S (va_A (wd_X7_awake cI cZ cP cS h_t h_t_red h_t_blue h_t_sky h_t_diary h_t_calendar h_t_awakeIn h_t_worths h_t_plants h_t_sheets h_t_bestFrom v_latestFinding v_awakeIn) s.heap.size) s.heap H [] := by rw [hH]; exact hS
  obtain ⟨locs, hlo⟩ : ∃ L : List Loc, L = [] := ⟨_, rfl⟩
  rw [← hlo] at hS
  suffices hgo : W p l e (headSpec wsX7_awake rm_X7_awake).room s m ([.ref h_t, .int x1, .int x2] : List Value).toArray below meth c H locs 0 0 (MQ below (RWi (dC, dI) (TY cI cZ cP cS) r s.heap.size (wd_X7_awake cI cZ cP cS h_t h_t_red h_t_blue h_t_sky h_t_diary h_t_calendar h_t_awakeIn h_t_worths h_t_plants h_t_sheets h_t_bestFrom v_latestFinding v_awakeIn) (wd_X7_awake cI cZ cP cS h_t h_t_red h_t_blue h_t_sky h_t_diary h_t_calendar h_t_awakeIn h_t_worths h_t_plants h_t_sheets h_t_bestFrom v_latestFinding o_awakeIn)) ([.ref h_t, .int x1, .int x2] : List Value).toArray s 0 0 (va_A (wd_X7_awake cI cZ cP cS h_t h_t_red h_t_blue h_t_sky h_t_diary h_t_calendar h_t_awakeIn h_t_worths h_t_plants h_t_sheets h_t_bestFrom v_latestFinding v_awakeIn) s.heap.size)) (F0 m 0 ls []) by rw [hH, hlo] at hgo; exact hgo
  clear hH hlo
  unfold f_X7_awake at hf
  refine lv_iload_n hx hb dX7_awake_0 rfl (lv_at hl 1 rfl) ?_
  obtain ⟨r1_1, hc_2, hf⟩ := bd1_e hf
  refine vp_callSi (va_runS (As := [.int x1]) (rest := []) ⟨hx, hb, hml, hown, hts⟩ (c_X7_noPerson l dC dI cI cZ cP cS   x1 n r1_1 hc_2) (va_cwS 1 hts gX7_awake_X7_noPerson rfl rfl rfl (by decide +kernel) ⟨Nat.le_of_ble_eq_true rfl, Nat.le_of_ble_eq_true rfl⟩) (ps_ro hK (hP.sub (ws' := ([] : va_W)) [] rfl)) rfl rfl hl.1 rfl (lv_room (Nat.le_of_ble_eq_true rfl)) dX7_awake_1 ⟨Nat.zero_le _, Nat.zero_le _⟩).run (fun x e_3 => ?_)
  obtain ⟨e_3, hb_4⟩ := e_3
  rw [e_3] at hb_4 ⊢
  refine lv_if_ne (tgt := 17) hx hb dX7_awake_4 (by decide) (fun c4 => ?_) (fun c4 => ?_)
  · rw [if_neg c4] at hf
    refine lv_bipush (v := (-2)) hx hb dX7_awake_17 (by decide) ?_
    have hq0 := Option.some.inj hf
    obtain ⟨eq0, hq1⟩ := Prod.mk.inj hq0
    clear hf hq0
    subst eq0
    subst hq1
    exact W.iret hx hb hr (fun t ht hW => ⟨⟨_, (), rfl, rfl, by rw [ht]; exact hP, va_K.moved hW.alike hK, hD⟩, hS.F ht⟩) hS.2.2 dX7_awake_19
  · rw [if_pos c4] at hf
    refine lv_iload_n hx hb dX7_awake_7 rfl (lv_at hl 2 rfl) ?_
    refine lv_iconst (v := 0) hx hb dX7_awake_8 (by decide) ?_
    refine lv_bipush (v := 15) hx hb dX7_awake_9 (by decide) ?_
    obtain ⟨r11_5, hc_6, hf⟩ := bd1_e hf
    refine vp_callSi (va_runS (As := [.int x2, .int 0, .int 15]) (rest := []) ⟨hx, hb, hml, hown, hts⟩ (c_X7_outside l dC dI cI cZ cP cS   x2 0 15 n r11_5 hc_6) (va_cwS 3 hts gX7_awake_X7_outside rfl rfl rfl (by decide +kernel) ⟨Nat.le_of_ble_eq_true rfl, Nat.le_of_ble_eq_true rfl⟩) (ps_ro hK (hP.sub (ws' := ([] : va_W)) [] rfl)) rfl rfl hl.1 rfl (lv_room (Nat.le_of_ble_eq_true rfl)) dX7_awake_11 ⟨Nat.zero_le _, Nat.zero_le _⟩).run (fun x e_7 => ?_)
    obtain ⟨e_7, hb_8⟩ := e_7
    rw [e_7] at hb_8 ⊢
    refine lv_if_eq (tgt := 20) hx hb dX7_awake_14 (by decide) (fun c14 => ?_) (fun c14 => ?_)
    · rw [if_pos c14] at hf
      refine lv_aload_n hx hb dX7_awake_20 rfl (lv_at hl 0 rfl) ?_
      refine va_get (D := (dC, dI)) (ci := 6) (v := .ref h_t_awakeIn) (C := RX7) (T := TX7) (N := 11) hx hb hts hinX7 hown hK hP 0 rfl rfl 5 (by decide) (hts (.fieldLink RX7 44 "SecondSunrise" "awakeIn" "[I") (by decide +kernel)) (fun _ h9 => h9) rfl dX7_awake_21 ?_
      refine lv_iload_n hx hb dX7_awake_24 rfl (lv_at hl 1 rfl) ?_
      obtain ⟨hi_9, hf⟩ := ix_e hf
      refine va_iald hx hb hK hP 1 0 rfl rfl hi_9 dX7_awake_25 ?_
      refine lv_istore_n (lv' := [(3, .int (v_awakeIn x1.toNatClampNeg)), (0, .ref h_t), (1, .int x1), (2, .int x2)]) hx hb dX7_awake_26 rfl hl (by decide) rfl (fun ls hl => ?_)
      refine lv_aload_n hx hb dX7_awake_27 rfl (lv_at hl 1 rfl) ?_
      refine va_get (D := (dC, dI)) (ci := 6) (v := .ref h_t_awakeIn) (C := RX7) (T := TX7) (N := 11) hx hb hts hinX7 hown hK hP 0 rfl rfl 5 (by decide) (hts (.fieldLink RX7 44 "SecondSunrise" "awakeIn" "[I") (by decide +kernel)) (fun _ h9 => h9) rfl dX7_awake_28 ?_
      refine lv_iload_n hx hb dX7_awake_31 rfl (lv_at hl 2 rfl) ?_
      refine lv_iload_n hx hb dX7_awake_32 rfl (lv_at hl 3 rfl) ?_
      obtain ⟨hi_10, hf⟩ := ix_e hf
      refine va_iast hx hb hK hP hD hS 1 0 rfl rfl hi_10 dX7_awake_33 (fun H locs hP hD hS => ?_)
      have hP : va_P (dC, dI) vwCl (wd_X7_awake cI cZ cP cS h_t h_t_red h_t_blue h_t_sky h_t_diary h_t_calendar h_t_awakeIn h_t_worths h_t_plants h_t_sheets h_t_bestFrom v_latestFinding (upd v_awakeIn x1.toNatClampNeg x2)) H := hP
      have hD : va_D (va_A (wd_X7_awake cI cZ cP cS h_t h_t_red h_t_blue h_t_sky h_t_diary h_t_calendar h_t_awakeIn h_t_worths h_t_plants h_t_sheets h_t_bestFrom v_latestFinding v_awakeIn) s.heap.size) (wd_X7_awake cI cZ cP cS h_t h_t_red h_t_blue h_t_sky h_t_diary h_t_calendar h_t_awakeIn h_t_worths h_t_plants h_t_sheets h_t_bestFrom v_latestFinding (upd v_awakeIn x1.toNatClampNeg x2)) := hD
      refine lv_iload_n hx hb dX7_awake_34 rfl (lv_at hl 0 rfl) ?_
      have hq0 := Option.some.inj hf
      obtain ⟨eq0, hq1⟩ := Prod.mk.inj hq0
      clear hf hq0
      subst eq0
      subst hq1
      exact W.iret hx hb hr (fun t ht hW => ⟨⟨_, (), rfl, rfl, by rw [ht]; exact hP, va_K.moved hW.alike hK, hD⟩, hS.F ht⟩) hS.2.2 dX7_awake_35
    · rw [if_neg c14] at hf
      refine lv_bipush (v := (-2)) hx hb dX7_awake_17 (by decide) ?_
      have hq0 := Option.some.inj hf
      obtain ⟨eq0, hq1⟩ := Prod.mk.inj hq0
      clear hf hq0
      subst eq0
      subst hq1
      exact W.iret hx hb hr (fun t ht hW => ⟨⟨_, (), rfl, rfl, by rw [ht]; exact hP, va_K.moved hW.alike hK, hD⟩, hS.F ht⟩) hS.2.2 dX7_awake_19

abbrev wd_X7_bestWith (cI cZ cP cS : ClassId) (h_t h_t_red h_t_blue h_t_sky h_t_diary h_t_calendar h_t_awakeIn h_t_worths h_t_plants h_t_sheets h_t_bestFrom h_t_red_fitting h_t_red_worstLeft h_t_blue_fitting h_t_blue_worstLeft h_t_p0 h_t_p1 h_t_p2 h_t_p3 h_t_p0_growth h_t_p1_growth h_t_p2_growth h_t_p3_growth : Nat) (v_latestFinding : Int32) (v_turn : Nat → Int32) (v_phase : Nat → Int32) (v_up : Nat → Int32) (v_phours : Nat → Int32) (v_pgrowth : Nat → Nat → Int32) (v_bestFrom : Nat → Int32) : va_W := [(h_t, .inr (6, [.ref h_t_red, .ref h_t_blue, .ref h_t_sky, .ref h_t_diary, .ref h_t_calendar, .ref h_t_awakeIn, .ref h_t_worths, .ref h_t_plants, .ref h_t_sheets, .ref h_t_bestFrom, .int v_latestFinding])), (h_t_red, .inr (5, [.int (v_turn 0), .int (v_phase 0), .int (v_up 0), .ref h_t_red_fitting, .ref h_t_red_worstLeft])), (h_t_blue, .inr (5, [.int (v_turn 1), .int (v_phase 1), .int (v_up 1), .ref h_t_blue_fitting, .ref h_t_blue_worstLeft])), (h_t_sky, .inr (4, [.ref h_t_red, .ref h_t_blue])), (h_t_plants, .inl (cP, 4, .inr (.inr (.inr (.inr (ar4 h_t_p0 h_t_p1 h_t_p2 h_t_p3)))))), (h_t_p0, .inr (2, [.int (v_phours 0), .ref h_t_p0_growth])), (h_t_p0_growth, .inl (cI, 4, .inl (v_pgrowth 0))), (h_t_p1, .inr (2, [.int (v_phours 1), .ref h_t_p1_growth])), (h_t_p1_growth, .inl (cI, 4, .inl (v_pgrowth 1))), (h_t_p2, .inr (2, [.int (v_phours 2), .ref h_t_p2_growth])), (h_t_p2_growth, .inl (cI, 4, .inl (v_pgrowth 2))), (h_t_p3, .inr (2, [.int (v_phours 3), .ref h_t_p3_growth])), (h_t_p3_growth, .inl (cI, 4, .inl (v_pgrowth 3))), (h_t_bestFrom, .inl (cI, 61, .inl v_bestFrom))]
abbrev rm_X7_bestWith : Room := { frames := 3, cells := 0, slots := 0, locals := 67 }
def f_X7_bestWith (n : Nat) (v_turn : Nat → Int32) (v_phase : Nat → Int32) (v_up : Nat → Int32) (v_phours : Nat → Int32) (v_pgrowth : Nat → Nat → Int32) (v_bestFrom : Nat → Int32) (x1 : Int32) (x2 : Int32) (x3 : Int32) (x4 : Int32) : Option (Int32) := if x1 = 0 then if (x3 + (v_phours 0)) ≤ x4 then bd1_ (f_X2_yieldFrom n (v_phours 0) (v_pgrowth 0) v_turn v_phase v_up (x2 + x3)) (fun (r35_2 : Int32) => ix_ (x3 + (v_phours 0)) 61 (some (r35_2 + (v_bestFrom (x3 + (v_phours 0)).toNatClampNeg)))) else some (-1) else if x1 = 1 then if (x3 + (v_phours 1)) ≤ x4 then bd1_ (f_X2_yieldFrom n (v_phours 1) (v_pgrowth 1) v_turn v_phase v_up (x2 + x3)) (fun (r35_6 : Int32) => ix_ (x3 + (v_phours 1)) 61 (some (r35_6 + (v_bestFrom (x3 + (v_phours 1)).toNatClampNeg)))) else some (-1) else if x1 = 2 then if (x3 + (v_phours 2)) ≤ x4 then bd1_ (f_X2_yieldFrom n (v_phours 2) (v_pgrowth 2) v_turn v_phase v_up (x2 + x3)) (fun (r35_10 : Int32) => ix_ (x3 + (v_phours 2)) 61 (some (r35_10 + (v_bestFrom (x3 + (v_phours 2)).toNatClampNeg)))) else some (-1) else if x1 = 3 then if (x3 + (v_phours 3)) ≤ x4 then bd1_ (f_X2_yieldFrom n (v_phours 3) (v_pgrowth 3) v_turn v_phase v_up (x2 + x3)) (fun (r35_14 : Int32) => ix_ (x3 + (v_phours 3)) 61 (some (r35_14 + (v_bestFrom (x3 + (v_phours 3)).toNatClampNeg)))) else some (-1) else some (-1)
set_option maxHeartbeats 4000000 in
set_option maxRecDepth 100000 in
theorem c_X7_bestWith (l : Launch) (dC : Nat → ClassId) (dI : Nat → Nat → Nat) (cI cZ cP cS : ClassId) (h_t h_t_red h_t_blue h_t_sky h_t_diary h_t_calendar h_t_awakeIn h_t_worths h_t_plants h_t_sheets h_t_bestFrom h_t_red_fitting h_t_red_worstLeft h_t_blue_fitting h_t_blue_worstLeft h_t_p0 h_t_p1 h_t_p2 h_t_p3 h_t_p0_growth h_t_p1_growth h_t_p2_growth h_t_p3_growth : Nat) (v_latestFinding : Int32) (v_turn : Nat → Int32) (v_phase : Nat → Int32) (v_up : Nat → Int32) (v_phours : Nat → Int32) (v_pgrowth : Nat → Nat → Int32) (v_bestFrom : Nat → Int32) (x1 : Int32) (x2 : Int32) (x3 : Int32) (x4 : Int32) (n : Nat) (r : Int32) (hf : f_X7_bestWith n v_turn v_phase v_up v_phours v_pgrowth v_bestFrom x1 x2 x3 x4 = some r) : Met l yX7_bestWith wsX7_bestWith rm_X7_bestWith (RO (dC, dI) (TY cI cZ cP cS) [.ref h_t, .int x1, .int x2, .int x3, .int x4] (wd_X7_bestWith cI cZ cP cS h_t h_t_red h_t_blue h_t_sky h_t_diary h_t_calendar h_t_awakeIn h_t_worths h_t_plants h_t_sheets h_t_bestFrom h_t_red_fitting h_t_red_worstLeft h_t_blue_fitting h_t_blue_worstLeft h_t_p0 h_t_p1 h_t_p2 h_t_p3 h_t_p0_growth h_t_p1_growth h_t_p2_growth h_t_p3_growth v_latestFinding v_turn v_phase v_up v_phours v_pgrowth v_bestFrom)) (vp_Si (fun x => x = r)) 0 0 NF := by
  refine Met.ofW (cc := cX7_bestWith) (maxL := 6) (ret := (some .int)) (by decide) rfl ?_
  intro p e s m args below meth c s₁ B hml hv
  obtain ⟨rfl, hP, hK⟩ := hv
  have hx := B.exec
  have hb := B.bytes
  have hr := B.returns
  have hts := atoms_spec (ws := wsX7_bestWith) B.pre
  have hown : s.vm.findClass RX7 = some m.cls := findClass_of_methodNamed B.named
  have hlocks := B.notSynchronized
  have hinX2 : ∀ w ∈ wsX20, w ∈ wsX7_bestWith := by decide +kernel
  have hinX7 : ∀ w ∈ wsX70, w ∈ wsX7_bestWith := by decide +kernel
  have hl := lv_entry ([.ref h_t, .int x1, .int x2, .int x3, .int x4]) (n := 6) (Nat.le_of_ble_eq_true rfl)
  rw [lg_entry_eq]
  generalize (lg_sl ([.ref h_t, .int x1, .int x2, .int x3, .int x4]) ++ List.replicate (6 - (lg_sl ([.ref h_t, .int x1, .int x2, .int x3, .int x4])).length) Slot.unset).toArray = ls at hl ⊢
  have hl : lv_has ls 6 [(0, .ref h_t), (1, .int x1), (2, .int x2), (3, .int x3), (4, .int x4)] := hl
  unfold f_X7_bestWith at hf
  refine lv_aload_n hx hb dX7_bestWith_0 rfl (lv_at hl 0 rfl) ?_
  refine lv_iload_n hx hb dX7_bestWith_1 rfl (lv_at hl 1 rfl) ?_
  refine va_csq (va_runV (As := [.int x1]) (rest := []) ⟨hx, hb, hml, hown, hts⟩ (c_X7_plantOf l dC dI cI cZ cP cS h_t h_t_red h_t_blue h_t_sky h_t_diary h_t_calendar h_t_awakeIn h_t_worths h_t_plants h_t_sheets h_t_bestFrom h_t_p0 h_t_p1 h_t_p2 h_t_p3 v_latestFinding x1) (cwV 1 hts gX7_bestWith_X7_plantOf rfl rfl rfl (by decide +kernel) ⟨Nat.le_of_ble_eq_true rfl, Nat.le_of_ble_eq_true rfl⟩) (pv_ro (ci := 6) (q0 := 0) hK (hP.sub (ws' := (wd_X7_plantOf cI cZ cP cS h_t h_t_red h_t_blue h_t_sky h_t_diary h_t_calendar h_t_awakeIn h_t_worths h_t_plants h_t_sheets h_t_bestFrom h_t_p0 h_t_p1 h_t_p2 h_t_p3 v_latestFinding)) [0, 4] rfl) rfl rfl) rfl rfl hl.1 rfl (lv_room (Nat.le_of_ble_eq_true rfl)) dX7_bestWith_2 ⟨Nat.zero_le _, Nat.zero_le _⟩).run (fun x e_1 => ?_)
  by_cases c2_0 : x1 = 0
  · rw [if_pos c2_0] at hf e_1
    subst e_1
    refine W.eq (g2 := F0 m 5 ls [.ref h_t_p0]) rfl ?_
    refine lv_astore (lv' := [(5, .ref h_t_p0), (0, .ref h_t), (1, .int x1), (2, .int x2), (3, .int x3), (4, .int x4)]) hx hb dX7_bestWith_5 hl (by decide) rfl (fun ls hl => ?_)
    refine lv_aload hx hb dX7_bestWith_7 (lv_at hl 0 rfl) ?_
    refine lv_ifnull hx hb dX7_bestWith_9 ?_
    refine lv_iload_n hx hb dX7_bestWith_12 rfl (lv_at hl 4 rfl) ?_
    refine lv_aload hx hb dX7_bestWith_13 (lv_at hl 0 rfl) ?_
    refine va_get (D := (dC, dI)) (ci := 2) (v := .int (v_phours 0)) (C := RX2) (T := TX2) (N := 2) hx hb hts hinX2 hown hK hP 5 rfl rfl 0 (by decide) (hts (.fieldLink RX7 210 "SecondSunrise$Plant" "hours" "I") (by decide +kernel)) (fun _ h9 => h9) rfl dX7_bestWith_15 ?_
    refine lv_iadd hx hb dX7_bestWith_18 ?_
    refine lv_iload hx hb dX7_bestWith_19 (lv_at hl 5 rfl) ?_
    refine lv_icmp_le (tgt := 26) hx hb dX7_bestWith_21 (by decide) (fun c21 => ?_) (fun c21 => ?_)
    · rw [if_pos c21] at hf
      refine lv_aload hx hb dX7_bestWith_26 (lv_at hl 0 rfl) ?_
      refine lv_aload_n hx hb dX7_bestWith_28 rfl (lv_at hl 1 rfl) ?_
      refine va_get (D := (dC, dI)) (ci := 6) (v := .ref h_t_sky) (C := RX7) (T := TX7) (N := 11) hx hb hts hinX7 hown hK hP 0 rfl rfl 2 (by decide) (hts (.fieldLink RX7 26 "SecondSunrise" "sky" "LSecondSunrise$Sky;") (by decide +kernel)) (fun _ h9 => h9) rfl dX7_bestWith_29 ?_
      refine lv_iload_n hx hb dX7_bestWith_32 rfl (lv_at hl 3 rfl) ?_
      refine lv_iload_n hx hb dX7_bestWith_33 rfl (lv_at hl 4 rfl) ?_
      refine lv_iadd hx hb dX7_bestWith_34 ?_
      obtain ⟨r35_2, hc_3, hf⟩ := bd1_e hf
      refine vp_callSi (va_runV (As := [.ref h_t_sky, .int (x2 + x3)]) (rest := []) ⟨hx, hb, hml, hown, hts⟩ (c_X2_yieldFrom l dC dI cI cZ cP cS h_t_p0 h_t_p0_growth h_t_sky h_t_red h_t_blue h_t_red_fitting h_t_red_worstLeft h_t_blue_fitting h_t_blue_worstLeft (v_phours 0) (v_pgrowth 0) v_turn v_phase v_up (x2 + x3) n r35_2 hc_3) (cwV 2 hts gX7_bestWith_X2_yieldFrom rfl rfl rfl (by decide +kernel) ⟨Nat.le_of_ble_eq_true rfl, Nat.le_of_ble_eq_true rfl⟩) (pv_ro (ci := 2) (q0 := 0) hK (hP.sub (ws' := (wd_X2_yieldFrom cI cZ cP cS h_t_p0 h_t_p0_growth h_t_sky h_t_red h_t_blue h_t_red_fitting h_t_red_worstLeft h_t_blue_fitting h_t_blue_worstLeft (v_phours 0) (v_pgrowth 0) v_turn v_phase v_up)) [5, 6, 3, 1, 2] rfl) rfl rfl) rfl rfl hl.1 rfl (lv_room (Nat.le_of_ble_eq_true rfl)) dX7_bestWith_35 ⟨Nat.zero_le _, Nat.zero_le _⟩).run (fun x e_4 => ?_)
      rw [e_4]
      refine lv_aload_n hx hb dX7_bestWith_38 rfl (lv_at hl 1 rfl) ?_
      refine va_get (D := (dC, dI)) (ci := 6) (v := .ref h_t_bestFrom) (C := RX7) (T := TX7) (N := 11) hx hb hts hinX7 hown hK hP 0 rfl rfl 9 (by decide) (hts (.fieldLink RX7 63 "SecondSunrise" "bestFrom" "[I") (by decide +kernel)) (fun _ h9 => h9) rfl dX7_bestWith_39 ?_
      refine lv_iload_n hx hb dX7_bestWith_42 rfl (lv_at hl 4 rfl) ?_
      refine lv_aload hx hb dX7_bestWith_43 (lv_at hl 0 rfl) ?_
      refine va_get (D := (dC, dI)) (ci := 2) (v := .int (v_phours 0)) (C := RX2) (T := TX2) (N := 2) hx hb hts hinX2 hown hK hP 5 rfl rfl 0 (by decide) (hts (.fieldLink RX7 210 "SecondSunrise$Plant" "hours" "I") (by decide +kernel)) (fun _ h9 => h9) rfl dX7_bestWith_45 ?_
      refine lv_iadd hx hb dX7_bestWith_48 ?_
      obtain ⟨hi_5, hf⟩ := ix_e hf
      refine va_iald hx hb hK hP 13 0 rfl rfl hi_5 dX7_bestWith_49 ?_
      refine lv_iadd hx hb dX7_bestWith_50 ?_
      exact W.iret hx hb hr (fun t ht hW => ⟨_, rfl, Option.some.inj hf, ht⟩) (fun _ h => nomatch h) dX7_bestWith_51
    · rw [if_neg c21] at hf
      refine lv_iconst (v := (-1)) hx hb dX7_bestWith_24 (by decide) ?_
      exact W.iret hx hb hr (fun t ht hW => ⟨_, rfl, Option.some.inj hf, ht⟩) (fun _ h => nomatch h) dX7_bestWith_25
  · rw [if_neg c2_0] at hf e_1
    by_cases c2_1 : x1 = 1
    · rw [if_pos c2_1] at hf e_1
      subst e_1
      refine W.eq (g2 := F0 m 5 ls [.ref h_t_p1]) rfl ?_
      refine lv_astore (lv' := [(5, .ref h_t_p1), (0, .ref h_t), (1, .int x1), (2, .int x2), (3, .int x3), (4, .int x4)]) hx hb dX7_bestWith_5 hl (by decide) rfl (fun ls hl => ?_)
      refine lv_aload hx hb dX7_bestWith_7 (lv_at hl 0 rfl) ?_
      refine lv_ifnull hx hb dX7_bestWith_9 ?_
      refine lv_iload_n hx hb dX7_bestWith_12 rfl (lv_at hl 4 rfl) ?_
      refine lv_aload hx hb dX7_bestWith_13 (lv_at hl 0 rfl) ?_
      refine va_get (D := (dC, dI)) (ci := 2) (v := .int (v_phours 1)) (C := RX2) (T := TX2) (N := 2) hx hb hts hinX2 hown hK hP 7 rfl rfl 0 (by decide) (hts (.fieldLink RX7 210 "SecondSunrise$Plant" "hours" "I") (by decide +kernel)) (fun _ h9 => h9) rfl dX7_bestWith_15 ?_
      refine lv_iadd hx hb dX7_bestWith_18 ?_
      refine lv_iload hx hb dX7_bestWith_19 (lv_at hl 5 rfl) ?_
      refine lv_icmp_le (tgt := 26) hx hb dX7_bestWith_21 (by decide) (fun c21 => ?_) (fun c21 => ?_)
      · rw [if_pos c21] at hf
        refine lv_aload hx hb dX7_bestWith_26 (lv_at hl 0 rfl) ?_
        refine lv_aload_n hx hb dX7_bestWith_28 rfl (lv_at hl 1 rfl) ?_
        refine va_get (D := (dC, dI)) (ci := 6) (v := .ref h_t_sky) (C := RX7) (T := TX7) (N := 11) hx hb hts hinX7 hown hK hP 0 rfl rfl 2 (by decide) (hts (.fieldLink RX7 26 "SecondSunrise" "sky" "LSecondSunrise$Sky;") (by decide +kernel)) (fun _ h9 => h9) rfl dX7_bestWith_29 ?_
        refine lv_iload_n hx hb dX7_bestWith_32 rfl (lv_at hl 3 rfl) ?_
        refine lv_iload_n hx hb dX7_bestWith_33 rfl (lv_at hl 4 rfl) ?_
        refine lv_iadd hx hb dX7_bestWith_34 ?_
        obtain ⟨r35_6, hc_7, hf⟩ := bd1_e hf
        refine vp_callSi (va_runV (As := [.ref h_t_sky, .int (x2 + x3)]) (rest := []) ⟨hx, hb, hml, hown, hts⟩ (c_X2_yieldFrom l dC dI cI cZ cP cS h_t_p1 h_t_p1_growth h_t_sky h_t_red h_t_blue h_t_red_fitting h_t_red_worstLeft h_t_blue_fitting h_t_blue_worstLeft (v_phours 1) (v_pgrowth 1) v_turn v_phase v_up (x2 + x3) n r35_6 hc_7) (cwV 2 hts gX7_bestWith_X2_yieldFrom rfl rfl rfl (by decide +kernel) ⟨Nat.le_of_ble_eq_true rfl, Nat.le_of_ble_eq_true rfl⟩) (pv_ro (ci := 2) (q0 := 0) hK (hP.sub (ws' := (wd_X2_yieldFrom cI cZ cP cS h_t_p1 h_t_p1_growth h_t_sky h_t_red h_t_blue h_t_red_fitting h_t_red_worstLeft h_t_blue_fitting h_t_blue_worstLeft (v_phours 1) (v_pgrowth 1) v_turn v_phase v_up)) [7, 8, 3, 1, 2] rfl) rfl rfl) rfl rfl hl.1 rfl (lv_room (Nat.le_of_ble_eq_true rfl)) dX7_bestWith_35 ⟨Nat.zero_le _, Nat.zero_le _⟩).run (fun x e_8 => ?_)
        rw [e_8]
        refine lv_aload_n hx hb dX7_bestWith_38 rfl (lv_at hl 1 rfl) ?_
        refine va_get (D := (dC, dI)) (ci := 6) (v := .ref h_t_bestFrom) (C := RX7) (T := TX7) (N := 11) hx hb hts hinX7 hown hK hP 0 rfl rfl 9 (by decide) (hts (.fieldLink RX7 63 "SecondSunrise" "bestFrom" "[I") (by decide +kernel)) (fun _ h9 => h9) rfl dX7_bestWith_39 ?_
        refine lv_iload_n hx hb dX7_bestWith_42 rfl (lv_at hl 4 rfl) ?_
        refine lv_aload hx hb dX7_bestWith_43 (lv_at hl 0 rfl) ?_
        refine va_get (D := (dC, dI)) (ci := 2) (v := .int (v_phours 1)) (C := RX2) (T := TX2) (N := 2) hx hb hts hinX2 hown hK hP 7 rfl rfl 0 (by decide) (hts (.fieldLink RX7 210 "SecondSunrise$Plant" "hours" "I") (by decide +kernel)) (fun _ h9 => h9) rfl dX7_bestWith_45 ?_
        refine lv_iadd hx hb dX7_bestWith_48 ?_
        obtain ⟨hi_9, hf⟩ := ix_e hf
        refine va_iald hx hb hK hP 13 0 rfl rfl hi_9 dX7_bestWith_49 ?_
        refine lv_iadd hx hb dX7_bestWith_50 ?_
        exact W.iret hx hb hr (fun t ht hW => ⟨_, rfl, Option.some.inj hf, ht⟩) (fun _ h => nomatch h) dX7_bestWith_51
      · rw [if_neg c21] at hf
        refine lv_iconst (v := (-1)) hx hb dX7_bestWith_24 (by decide) ?_
        exact W.iret hx hb hr (fun t ht hW => ⟨_, rfl, Option.some.inj hf, ht⟩) (fun _ h => nomatch h) dX7_bestWith_25
    · rw [if_neg c2_1] at hf e_1
      by_cases c2_2 : x1 = 2
      · rw [if_pos c2_2] at hf e_1
        subst e_1
        refine W.eq (g2 := F0 m 5 ls [.ref h_t_p2]) rfl ?_
        refine lv_astore (lv' := [(5, .ref h_t_p2), (0, .ref h_t), (1, .int x1), (2, .int x2), (3, .int x3), (4, .int x4)]) hx hb dX7_bestWith_5 hl (by decide) rfl (fun ls hl => ?_)
        refine lv_aload hx hb dX7_bestWith_7 (lv_at hl 0 rfl) ?_
        refine lv_ifnull hx hb dX7_bestWith_9 ?_
        refine lv_iload_n hx hb dX7_bestWith_12 rfl (lv_at hl 4 rfl) ?_
        refine lv_aload hx hb dX7_bestWith_13 (lv_at hl 0 rfl) ?_
        refine va_get (D := (dC, dI)) (ci := 2) (v := .int (v_phours 2)) (C := RX2) (T := TX2) (N := 2) hx hb hts hinX2 hown hK hP 9 rfl rfl 0 (by decide) (hts (.fieldLink RX7 210 "SecondSunrise$Plant" "hours" "I") (by decide +kernel)) (fun _ h9 => h9) rfl dX7_bestWith_15 ?_
        refine lv_iadd hx hb dX7_bestWith_18 ?_
        refine lv_iload hx hb dX7_bestWith_19 (lv_at hl 5 rfl) ?_
        refine lv_icmp_le (tgt := 26) hx hb dX7_bestWith_21 (by decide) (fun c21 => ?_) (fun c21 => ?_)
        · rw [if_pos c21] at hf
          refine lv_aload hx hb dX7_bestWith_26 (lv_at hl 0 rfl) ?_
          refine lv_aload_n hx hb dX7_bestWith_28 rfl (lv_at hl 1 rfl) ?_
          refine va_get (D := (dC, dI)) (ci := 6) (v := .ref h_t_sky) (C := RX7) (T := TX7) (N := 11) hx hb hts hinX7 hown hK hP 0 rfl rfl 2 (by decide) (hts (.fieldLink RX7 26 "SecondSunrise" "sky" "LSecondSunrise$Sky;") (by decide +kernel)) (fun _ h9 => h9) rfl dX7_bestWith_29 ?_
          refine lv_iload_n hx hb dX7_bestWith_32 rfl (lv_at hl 3 rfl) ?_
          refine lv_iload_n hx hb dX7_bestWith_33 rfl (lv_at hl 4 rfl) ?_
          refine lv_iadd hx hb dX7_bestWith_34 ?_
          obtain ⟨r35_10, hc_11, hf⟩ := bd1_e hf
          refine vp_callSi (va_runV (As := [.ref h_t_sky, .int (x2 + x3)]) (rest := []) ⟨hx, hb, hml, hown, hts⟩ (c_X2_yieldFrom l dC dI cI cZ cP cS h_t_p2 h_t_p2_growth h_t_sky h_t_red h_t_blue h_t_red_fitting h_t_red_worstLeft h_t_blue_fitting h_t_blue_worstLeft (v_phours 2) (v_pgrowth 2) v_turn v_phase v_up (x2 + x3) n r35_10 hc_11) (cwV 2 hts gX7_bestWith_X2_yieldFrom rfl rfl rfl (by decide +kernel) ⟨Nat.le_of_ble_eq_true rfl, Nat.le_of_ble_eq_true rfl⟩) (pv_ro (ci := 2) (q0 := 0) hK (hP.sub (ws' := (wd_X2_yieldFrom cI cZ cP cS h_t_p2 h_t_p2_growth h_t_sky h_t_red h_t_blue h_t_red_fitting h_t_red_worstLeft h_t_blue_fitting h_t_blue_worstLeft (v_phours 2) (v_pgrowth 2) v_turn v_phase v_up)) [9, 10, 3, 1, 2] rfl) rfl rfl) rfl rfl hl.1 rfl (lv_room (Nat.le_of_ble_eq_true rfl)) dX7_bestWith_35 ⟨Nat.zero_le _, Nat.zero_le _⟩).run (fun x e_12 => ?_)
          rw [e_12]
          refine lv_aload_n hx hb dX7_bestWith_38 rfl (lv_at hl 1 rfl) ?_
          refine va_get (D := (dC, dI)) (ci := 6) (v := .ref h_t_bestFrom) (C := RX7) (T := TX7) (N := 11) hx hb hts hinX7 hown hK hP 0 rfl rfl 9 (by decide) (hts (.fieldLink RX7 63 "SecondSunrise" "bestFrom" "[I") (by decide +kernel)) (fun _ h9 => h9) rfl dX7_bestWith_39 ?_
          refine lv_iload_n hx hb dX7_bestWith_42 rfl (lv_at hl 4 rfl) ?_
          refine lv_aload hx hb dX7_bestWith_43 (lv_at hl 0 rfl) ?_
          refine va_get (D := (dC, dI)) (ci := 2) (v := .int (v_phours 2)) (C := RX2) (T := TX2) (N := 2) hx hb hts hinX2 hown hK hP 9 rfl rfl 0 (by decide) (hts (.fieldLink RX7 210 "SecondSunrise$Plant" "hours" "I") (by decide +kernel)) (fun _ h9 => h9) rfl dX7_bestWith_45 ?_
          refine lv_iadd hx hb dX7_bestWith_48 ?_
          obtain ⟨hi_13, hf⟩ := ix_e hf
          refine va_iald hx hb hK hP 13 0 rfl rfl hi_13 dX7_bestWith_49 ?_
          refine lv_iadd hx hb dX7_bestWith_50 ?_
          exact W.iret hx hb hr (fun t ht hW => ⟨_, rfl, Option.some.inj hf, ht⟩) (fun _ h => nomatch h) dX7_bestWith_51
        · rw [if_neg c21] at hf
          refine lv_iconst (v := (-1)) hx hb dX7_bestWith_24 (by decide) ?_
          exact W.iret hx hb hr (fun t ht hW => ⟨_, rfl, Option.some.inj hf, ht⟩) (fun _ h => nomatch h) dX7_bestWith_25
      · rw [if_neg c2_2] at hf e_1
        by_cases c2_3 : x1 = 3
        · rw [if_pos c2_3] at hf e_1
          subst e_1
          refine W.eq (g2 := F0 m 5 ls [.ref h_t_p3]) rfl ?_
          refine lv_astore (lv' := [(5, .ref h_t_p3), (0, .ref h_t), (1, .int x1), (2, .int x2), (3, .int x3), (4, .int x4)]) hx hb dX7_bestWith_5 hl (by decide) rfl (fun ls hl => ?_)
          refine lv_aload hx hb dX7_bestWith_7 (lv_at hl 0 rfl) ?_
          refine lv_ifnull hx hb dX7_bestWith_9 ?_
          refine lv_iload_n hx hb dX7_bestWith_12 rfl (lv_at hl 4 rfl) ?_
          refine lv_aload hx hb dX7_bestWith_13 (lv_at hl 0 rfl) ?_
          refine va_get (D := (dC, dI)) (ci := 2) (v := .int (v_phours 3)) (C := RX2) (T := TX2) (N := 2) hx hb hts hinX2 hown hK hP 11 rfl rfl 0 (by decide) (hts (.fieldLink RX7 210 "SecondSunrise$Plant" "hours" "I") (by decide +kernel)) (fun _ h9 => h9) rfl dX7_bestWith_15 ?_
          refine lv_iadd hx hb dX7_bestWith_18 ?_
          refine lv_iload hx hb dX7_bestWith_19 (lv_at hl 5 rfl) ?_
          refine lv_icmp_le (tgt := 26) hx hb dX7_bestWith_21 (by decide) (fun c21 => ?_) (fun c21 => ?_)
          · rw [if_pos c21] at hf
            refine lv_aload hx hb dX7_bestWith_26 (lv_at hl 0 rfl) ?_
            refine lv_aload_n hx hb dX7_bestWith_28 rfl (lv_at hl 1 rfl) ?_
            refine va_get (D := (dC, dI)) (ci := 6) (v := .ref h_t_sky) (C := RX7) (T := TX7) (N := 11) hx hb hts hinX7 hown hK hP 0 rfl rfl 2 (by decide) (hts (.fieldLink RX7 26 "SecondSunrise" "sky" "LSecondSunrise$Sky;") (by decide +kernel)) (fun _ h9 => h9) rfl dX7_bestWith_29 ?_
            refine lv_iload_n hx hb dX7_bestWith_32 rfl (lv_at hl 3 rfl) ?_
            refine lv_iload_n hx hb dX7_bestWith_33 rfl (lv_at hl 4 rfl) ?_
            refine lv_iadd hx hb dX7_bestWith_34 ?_
            obtain ⟨r35_14, hc_15, hf⟩ := bd1_e hf
            refine vp_callSi (va_runV (As := [.ref h_t_sky, .int (x2 + x3)]) (rest := []) ⟨hx, hb, hml, hown, hts⟩ (c_X2_yieldFrom l dC dI cI cZ cP cS h_t_p3 h_t_p3_growth h_t_sky h_t_red h_t_blue h_t_red_fitting h_t_red_worstLeft h_t_blue_fitting h_t_blue_worstLeft (v_phours 3) (v_pgrowth 3) v_turn v_phase v_up (x2 + x3) n r35_14 hc_15) (cwV 2 hts gX7_bestWith_X2_yieldFrom rfl rfl rfl (by decide +kernel) ⟨Nat.le_of_ble_eq_true rfl, Nat.le_of_ble_eq_true rfl⟩) (pv_ro (ci := 2) (q0 := 0) hK (hP.sub (ws' := (wd_X2_yieldFrom cI cZ cP cS h_t_p3 h_t_p3_growth h_t_sky h_t_red h_t_blue h_t_red_fitting h_t_red_worstLeft h_t_blue_fitting h_t_blue_worstLeft (v_phours 3) (v_pgrowth 3) v_turn v_phase v_up)) [11, 12, 3, 1, 2] rfl) rfl rfl) rfl rfl hl.1 rfl (lv_room (Nat.le_of_ble_eq_true rfl)) dX7_bestWith_35 ⟨Nat.zero_le _, Nat.zero_le _⟩).run (fun x e_16 => ?_)
            rw [e_16]
            refine lv_aload_n hx hb dX7_bestWith_38 rfl (lv_at hl 1 rfl) ?_
            refine va_get (D := (dC, dI)) (ci := 6) (v := .ref h_t_bestFrom) (C := RX7) (T := TX7) (N := 11) hx hb hts hinX7 hown hK hP 0 rfl rfl 9 (by decide) (hts (.fieldLink RX7 63 "SecondSunrise" "bestFrom" "[I") (by decide +kernel)) (fun _ h9 => h9) rfl dX7_bestWith_39 ?_
            refine lv_iload_n hx hb dX7_bestWith_42 rfl (lv_at hl 4 rfl) ?_
            refine lv_aload hx hb dX7_bestWith_43 (lv_at hl 0 rfl) ?_
            refine va_get (D := (dC, dI)) (ci := 2) (v := .int (v_phours 3)) (C := RX2) (T := TX2) (N := 2) hx hb hts hinX2 hown hK hP 11 rfl rfl 0 (by decide) (hts (.fieldLink RX7 210 "SecondSunrise$Plant" "hours" "I") (by decide +kernel)) (fun _ h9 => h9) rfl dX7_bestWith_45 ?_
            refine lv_iadd hx hb dX7_bestWith_48 ?_
            obtain ⟨hi_17, hf⟩ := ix_e hf
            refine va_iald hx hb hK hP 13 0 rfl rfl hi_17 dX7_bestWith_49 ?_
            refine lv_iadd hx hb dX7_bestWith_50 ?_
            exact W.iret hx hb hr (fun t ht hW => ⟨_, rfl, Option.some.inj hf, ht⟩) (fun _ h => nomatch h) dX7_bestWith_51
          · rw [if_neg c21] at hf
            refine lv_iconst (v := (-1)) hx hb dX7_bestWith_24 (by decide) ?_
            exact W.iret hx hb hr (fun t ht hW => ⟨_, rfl, Option.some.inj hf, ht⟩) (fun _ h => nomatch h) dX7_bestWith_25
        · rw [if_neg c2_3] at hf e_1
          subst e_1
          refine W.eq (g2 := F0 m 5 ls [.null]) rfl ?_
          refine lv_astoreN (lv' := [(5, .null), (0, .ref h_t), (1, .int x1), (2, .int x2), (3, .int x3), (4, .int x4)]) hx hb dX7_bestWith_5 hl (by decide) rfl (fun ls hl => ?_)
          refine lv_aloadN hx hb dX7_bestWith_7 (lv_at hl 0 rfl) ?_
          refine lv_ifnullN (tgt := 24) hx hb dX7_bestWith_9 (by decide) ?_
          refine lv_iconst (v := (-1)) hx hb dX7_bestWith_24 (by decide) ?_
          exact W.iret hx hb hr (fun t ht hW => ⟨_, rfl, Option.some.inj hf, ht⟩) (fun _ h => nomatch h) dX7_bestWith_25

abbrev wd_X7_clouds (cI cZ cP cS : ClassId) (h_t h_t_red h_t_blue h_t_sky h_t_diary h_t_calendar h_t_awakeIn h_t_worths h_t_plants h_t_sheets h_t_bestFrom h_t_red_fitting h_t_red_worstLeft h_t_blue_fitting h_t_blue_worstLeft : Nat) (v_latestFinding : Int32) (v_turn : Nat → Int32) (v_phase : Nat → Int32) (v_up : Nat → Int32) : va_W := [(h_t, .inr (6, [.ref h_t_red, .ref h_t_blue, .ref h_t_sky, .ref h_t_diary, .ref h_t_calendar, .ref h_t_awakeIn, .ref h_t_worths, .ref h_t_plants, .ref h_t_sheets, .ref h_t_bestFrom, .int v_latestFinding])), (h_t_red, .inr (5, [.int (v_turn 0), .int (v_phase 0), .int (v_up 0), .ref h_t_red_fitting, .ref h_t_red_worstLeft])), (h_t_blue, .inr (5, [.int (v_turn 1), .int (v_phase 1), .int (v_up 1), .ref h_t_blue_fitting, .ref h_t_blue_worstLeft]))]
abbrev rm_X7_clouds : Room := { frames := 2, cells := 0, slots := 0, locals := 42 }
def L_X7_clouds_63 (n : Nat) (v_turn : Nat → Int32) (v_phase : Nat → Int32) (v_up : Nat → Int32) (x2 : Int32) (x3 : Int32) (x4 : Int32) (kx63 : Int64 → Int64 → Option (Int64)) : Nat → Int64 → Int64 → Int32 → Option (Int64)
  | 0, _, _, _ => none
  | k63 + 1, y63_7, y63_9, y63_11 => if x3 ≤ y63_11 then kx63 y63_7 y63_9 else bd1_ (f_X5_isUpIn n (v_turn 0) (v_phase 0) (v_up 0) (x2 + y63_11)) (fun (r75_21 : Int32) => jn2_ (fun (y97_7 : Int64) (y97_9 : Int64) => L_X7_clouds_63 n v_turn v_phase v_up x2 x3 x4 kx63 k63 y97_7 y97_9 (y63_11 + 1)) (fun k97 => if r75_21 = 0 then k97 y63_7 y63_9 else k97 (y63_7 * (x4.toInt64)) (y63_9 * 16)))
theorem L_X7_clouds_63_s (n : Nat) (v_turn : Nat → Int32) (v_phase : Nat → Int32) (v_up : Nat → Int32) (x2 : Int32) (x3 : Int32) (x4 : Int32) (kx63 : Int64 → Int64 → Option (Int64)) (k63 : Nat) (y63_7 : Int64) (y63_9 : Int64) (y63_11 : Int32) : L_X7_clouds_63 n v_turn v_phase v_up x2 x3 x4 kx63 (k63 + 1) y63_7 y63_9 y63_11 = if x3 ≤ y63_11 then kx63 y63_7 y63_9 else bd1_ (f_X5_isUpIn n (v_turn 0) (v_phase 0) (v_up 0) (x2 + y63_11)) (fun (r75_21 : Int32) => jn2_ (fun (y97_7 : Int64) (y97_9 : Int64) => L_X7_clouds_63 n v_turn v_phase v_up x2 x3 x4 kx63 k63 y97_7 y97_9 (y63_11 + 1)) (fun k97 => if r75_21 = 0 then k97 y63_7 y63_9 else k97 (y63_7 * (x4.toInt64)) (y63_9 * 16))) := rfl
def L_X7_clouds_63q2 (n : Nat) (v_turn : Nat → Int32) (v_phase : Nat → Int32) (v_up : Nat → Int32) (x2 : Int32) (x3 : Int32) (x4 : Int32) (kx63 : Int64 → Int64 → Option (Int64)) : Nat → Int64 → Int64 → Int32 → Option (Int64)
  | 0, _, _, _ => none
  | k63 + 1, y63_7, y63_9, y63_11 => if x3 ≤ y63_11 then kx63 y63_7 y63_9 else bd1_ (f_X5_isUpIn n (v_turn 1) (v_phase 1) (v_up 1) (x2 + y63_11)) (fun (r75_44 : Int32) => jn2_ (fun (y97_7 : Int64) (y97_9 : Int64) => L_X7_clouds_63q2 n v_turn v_phase v_up x2 x3 x4 kx63 k63 y97_7 y97_9 (y63_11 + 1)) (fun k97 => if r75_44 = 0 then k97 y63_7 y63_9 else k97 (y63_7 * (x4.toInt64)) (y63_9 * 16)))
theorem L_X7_clouds_63q2_s (n : Nat) (v_turn : Nat → Int32) (v_phase : Nat → Int32) (v_up : Nat → Int32) (x2 : Int32) (x3 : Int32) (x4 : Int32) (kx63 : Int64 → Int64 → Option (Int64)) (k63 : Nat) (y63_7 : Int64) (y63_9 : Int64) (y63_11 : Int32) : L_X7_clouds_63q2 n v_turn v_phase v_up x2 x3 x4 kx63 (k63 + 1) y63_7 y63_9 y63_11 = if x3 ≤ y63_11 then kx63 y63_7 y63_9 else bd1_ (f_X5_isUpIn n (v_turn 1) (v_phase 1) (v_up 1) (x2 + y63_11)) (fun (r75_44 : Int32) => jn2_ (fun (y97_7 : Int64) (y97_9 : Int64) => L_X7_clouds_63q2 n v_turn v_phase v_up x2 x3 x4 kx63 k63 y97_7 y97_9 (y63_11 + 1)) (fun k97 => if r75_44 = 0 then k97 y63_7 y63_9 else k97 (y63_7 * (x4.toInt64)) (y63_9 * 16))) := rfl
def f_X7_clouds (n : Nat) (v_turn : Nat → Int32) (v_phase : Nat → Int32) (v_up : Nat → Int32) (x1 : Int32) (x2 : Int32) (x3 : Int32) (x4 : Int32) (x5 : Int32) : Option (Int64) := if x1 = 0 then bd1_ (f_X7_noHour n x2) (fun (r13_2 : Int32) => if r13_2 = 0 then bd1_ (f_X7_outside n x3 0 14) (fun (r23_6 : Int32) => if r23_6 = 0 then bd1_ (f_X7_outside n x4 0 16) (fun (r34_10 : Int32) => if r34_10 = 0 then bd1_ (f_X7_outside n x5 0 1) (fun (r44_14 : Int32) => if r44_14 = 0 then jn2_ (fun (z63_7 : Int64) (z63_9 : Int64) => bd1_ (f_X7_lowestTerms n (z63_9 - z63_7) z63_9 x5) (fun (r112_18 : Int64) => some r112_18)) (fun kx63 => L_X7_clouds_63 n v_turn v_phase v_up x2 x3 x4 kx63 n 1 1 0) else some (-9223372036854775806)) else some (-9223372036854775806)) else some (-9223372036854775806)) else some (-9223372036854775806)) else if x1 = 1 then bd1_ (f_X7_noHour n x2) (fun (r13_25 : Int32) => if r13_25 = 0 then bd1_ (f_X7_outside n x3 0 14) (fun (r23_29 : Int32) => if r23_29 = 0 then bd1_ (f_X7_outside n x4 0 16) (fun (r34_33 : Int32) => if r34_33 = 0 then bd1_ (f_X7_outside n x5 0 1) (fun (r44_37 : Int32) => if r44_37 = 0 then jn2_ (fun (z63_7 : Int64) (z63_9 : Int64) => bd1_ (f_X7_lowestTerms n (z63_9 - z63_7) z63_9 x5) (fun (r112_41 : Int64) => some r112_41)) (fun kx63 => L_X7_clouds_63q2 n v_turn v_phase v_up x2 x3 x4 kx63 n 1 1 0) else some (-9223372036854775806)) else some (-9223372036854775806)) else some (-9223372036854775806)) else some (-9223372036854775806)) else some (-9223372036854775806)
set_option maxHeartbeats 4000000 in
set_option maxRecDepth 100000 in
theorem c_X7_clouds (l : Launch) (dC : Nat → ClassId) (dI : Nat → Nat → Nat) (cI cZ cP cS : ClassId) (h_t h_t_red h_t_blue h_t_sky h_t_diary h_t_calendar h_t_awakeIn h_t_worths h_t_plants h_t_sheets h_t_bestFrom h_t_red_fitting h_t_red_worstLeft h_t_blue_fitting h_t_blue_worstLeft : Nat) (v_latestFinding : Int32) (v_turn : Nat → Int32) (v_phase : Nat → Int32) (v_up : Nat → Int32) (x1 : Int32) (x2 : Int32) (x3 : Int32) (x4 : Int32) (x5 : Int32) (n : Nat) (r : Int64) (hf : f_X7_clouds n v_turn v_phase v_up x1 x2 x3 x4 x5 = some r) : Met l yX7_clouds wsX7_clouds rm_X7_clouds (RO (dC, dI) (TY cI cZ cP cS) [.ref h_t, .int x1, .int x2, .int x3, .int x4, .int x5] (wd_X7_clouds cI cZ cP cS h_t h_t_red h_t_blue h_t_sky h_t_diary h_t_calendar h_t_awakeIn h_t_worths h_t_plants h_t_sheets h_t_bestFrom h_t_red_fitting h_t_red_worstLeft h_t_blue_fitting h_t_blue_worstLeft v_latestFinding v_turn v_phase v_up)) (vp_Sl (fun x => x = r)) 0 0 NF := by
  refine Met.ofW (cc := cX7_clouds) (maxL := 12) (ret := (some .long)) (by decide) rfl ?_
  intro p e s m args below meth c s₁ B hml hv
  obtain ⟨rfl, hP, hK⟩ := hv
  have hx := B.exec
  have hb := B.bytes
  have hr := B.returns
  have hts := atoms_spec (ws := wsX7_clouds) B.pre
  have hown : s.vm.findClass RX7 = some m.cls := findClass_of_methodNamed B.named
  have hlocks := B.notSynchronized
  have hl := lv_entry ([.ref h_t, .int x1, .int x2, .int x3, .int x4, .int x5]) (n := 12) (Nat.le_of_ble_eq_true rfl)
  rw [lg_entry_eq]
  generalize (lg_sl ([.ref h_t, .int x1, .int x2, .int x3, .int x4, .int x5]) ++ List.replicate (12 - (lg_sl ([.ref h_t, .int x1, .int x2, .int x3, .int x4, .int x5])).length) Slot.unset).toArray = ls at hl ⊢
  have hl : lv_has ls 12 [(0, .ref h_t), (1, .int x1), (2, .int x2), (3, .int x3), (4, .int x4), (5, .int x5)] := hl
  unfold f_X7_clouds at hf
  refine lv_aload_n hx hb dX7_clouds_0 rfl (lv_at hl 0 rfl) ?_
  refine lv_iload_n hx hb dX7_clouds_1 rfl (lv_at hl 1 rfl) ?_
  refine va_csq (va_runV (As := [.int x1]) (rest := []) ⟨hx, hb, hml, hown, hts⟩ (c_X7_sunOf l dC dI cI cZ cP cS h_t h_t_red h_t_blue h_t_sky h_t_diary h_t_calendar h_t_awakeIn h_t_worths h_t_plants h_t_sheets h_t_bestFrom v_latestFinding x1) (cwV 1 hts gX7_clouds_X7_sunOf rfl rfl rfl (by decide +kernel) ⟨Nat.le_of_ble_eq_true rfl, Nat.le_of_ble_eq_true rfl⟩) (pv_ro (ci := 6) (q0 := 0) hK (hP.sub (ws' := (wd_X7_sunOf cI cZ cP cS h_t h_t_red h_t_blue h_t_sky h_t_diary h_t_calendar h_t_awakeIn h_t_worths h_t_plants h_t_sheets h_t_bestFrom v_latestFinding)) [0] rfl) rfl rfl) rfl rfl hl.1 rfl (lv_room (Nat.le_of_ble_eq_true rfl)) dX7_clouds_2 ⟨Nat.zero_le _, Nat.zero_le _⟩).run (fun x e_1 => ?_)
  by_cases c2_0 : x1 = 0
  · rw [if_pos c2_0] at hf e_1
    subst e_1
    refine W.eq (g2 := F0 m 5 ls [.ref h_t_red]) rfl ?_
    refine lv_astore (lv' := [(6, .ref h_t_red), (0, .ref h_t), (1, .int x1), (2, .int x2), (3, .int x3), (4, .int x4), (5, .int x5)]) hx hb dX7_clouds_5 hl (by decide) rfl (fun ls hl => ?_)
    refine lv_aload hx hb dX7_clouds_7 (lv_at hl 0 rfl) ?_
    refine lv_ifnull hx hb dX7_clouds_9 ?_
    refine lv_iload_n hx hb dX7_clouds_12 rfl (lv_at hl 3 rfl) ?_
    obtain ⟨r13_2, hc_3, hf⟩ := bd1_e hf
    refine vp_callSi (va_runS (As := [.int x2]) (rest := []) ⟨hx, hb, hml, hown, hts⟩ (c_X7_noHour l dC dI cI cZ cP cS   x2 n r13_2 hc_3) (va_cwS 1 hts gX7_clouds_X7_noHour rfl rfl rfl (by decide +kernel) ⟨Nat.le_of_ble_eq_true rfl, Nat.le_of_ble_eq_true rfl⟩) (ps_ro hK (hP.sub (ws' := ([] : va_W)) [] rfl)) rfl rfl hl.1 rfl (lv_room (Nat.le_of_ble_eq_true rfl)) dX7_clouds_13 ⟨Nat.zero_le _, Nat.zero_le _⟩).run (fun x e_4 => ?_)
    obtain ⟨e_4, hb_5⟩ := e_4
    rw [e_4] at hb_5 ⊢
    refine lv_if_ne (tgt := 50) hx hb dX7_clouds_16 (by decide) (fun c16 => ?_) (fun c16 => ?_)
    · rw [if_neg c16] at hf
      refine lv_ldc2 (v := (-9223372036854775806)) hx hb hown (hts (.constantLong RX7 244 (-9223372036854775806)) (by decide +kernel)) dX7_clouds_50 ?_
      exact W.lret hx hb hr (fun t ht hW => ⟨_, rfl, Option.some.inj hf, ht⟩) (fun _ h => nomatch h) dX7_clouds_53
    · rw [if_pos c16] at hf
      refine lv_iload_n hx hb dX7_clouds_19 rfl (lv_at hl 4 rfl) ?_
      refine lv_iconst (v := 0) hx hb dX7_clouds_20 (by decide) ?_
      refine lv_bipush (v := 14) hx hb dX7_clouds_21 (by decide) ?_
      obtain ⟨r23_6, hc_7, hf⟩ := bd1_e hf
      refine vp_callSi (va_runS (As := [.int x3, .int 0, .int 14]) (rest := []) ⟨hx, hb, hml, hown, hts⟩ (c_X7_outside l dC dI cI cZ cP cS   x3 0 14 n r23_6 hc_7) (va_cwS 3 hts gX7_clouds_X7_outside rfl rfl rfl (by decide +kernel) ⟨Nat.le_of_ble_eq_true rfl, Nat.le_of_ble_eq_true rfl⟩) (ps_ro hK (hP.sub (ws' := ([] : va_W)) [] rfl)) rfl rfl hl.1 rfl (lv_room (Nat.le_of_ble_eq_true rfl)) dX7_clouds_23 ⟨Nat.zero_le _, Nat.zero_le _⟩).run (fun x e_8 => ?_)
      obtain ⟨e_8, hb_9⟩ := e_8
      rw [e_8] at hb_9 ⊢
      refine lv_if_ne (tgt := 50) hx hb dX7_clouds_26 (by decide) (fun c26 => ?_) (fun c26 => ?_)
      · rw [if_neg c26] at hf
        refine lv_ldc2 (v := (-9223372036854775806)) hx hb hown (hts (.constantLong RX7 244 (-9223372036854775806)) (by decide +kernel)) dX7_clouds_50 ?_
        exact W.lret hx hb hr (fun t ht hW => ⟨_, rfl, Option.some.inj hf, ht⟩) (fun _ h => nomatch h) dX7_clouds_53
      · rw [if_pos c26] at hf
        refine lv_iload hx hb dX7_clouds_29 (lv_at hl 5 rfl) ?_
        refine lv_iconst (v := 0) hx hb dX7_clouds_31 (by decide) ?_
        refine lv_bipush (v := 16) hx hb dX7_clouds_32 (by decide) ?_
        obtain ⟨r34_10, hc_11, hf⟩ := bd1_e hf
        refine vp_callSi (va_runS (As := [.int x4, .int 0, .int 16]) (rest := []) ⟨hx, hb, hml, hown, hts⟩ (c_X7_outside l dC dI cI cZ cP cS   x4 0 16 n r34_10 hc_11) (va_cwS 3 hts gX7_clouds_X7_outside rfl rfl rfl (by decide +kernel) ⟨Nat.le_of_ble_eq_true rfl, Nat.le_of_ble_eq_true rfl⟩) (ps_ro hK (hP.sub (ws' := ([] : va_W)) [] rfl)) rfl rfl hl.1 rfl (lv_room (Nat.le_of_ble_eq_true rfl)) dX7_clouds_34 ⟨Nat.zero_le _, Nat.zero_le _⟩).run (fun x e_12 => ?_)
        obtain ⟨e_12, hb_13⟩ := e_12
        rw [e_12] at hb_13 ⊢
        refine lv_if_ne (tgt := 50) hx hb dX7_clouds_37 (by decide) (fun c37 => ?_) (fun c37 => ?_)
        · rw [if_neg c37] at hf
          refine lv_ldc2 (v := (-9223372036854775806)) hx hb hown (hts (.constantLong RX7 244 (-9223372036854775806)) (by decide +kernel)) dX7_clouds_50 ?_
          exact W.lret hx hb hr (fun t ht hW => ⟨_, rfl, Option.some.inj hf, ht⟩) (fun _ h => nomatch h) dX7_clouds_53
        · rw [if_pos c37] at hf
          refine lv_iload hx hb dX7_clouds_40 (lv_at hl 6 rfl) ?_
          refine lv_iconst (v := 0) hx hb dX7_clouds_42 (by decide) ?_
          refine lv_iconst (v := 1) hx hb dX7_clouds_43 (by decide) ?_
          obtain ⟨r44_14, hc_15, hf⟩ := bd1_e hf
          refine vp_callSi (va_runS (As := [.int x5, .int 0, .int 1]) (rest := []) ⟨hx, hb, hml, hown, hts⟩ (c_X7_outside l dC dI cI cZ cP cS   x5 0 1 n r44_14 hc_15) (va_cwS 3 hts gX7_clouds_X7_outside rfl rfl rfl (by decide +kernel) ⟨Nat.le_of_ble_eq_true rfl, Nat.le_of_ble_eq_true rfl⟩) (ps_ro hK (hP.sub (ws' := ([] : va_W)) [] rfl)) rfl rfl hl.1 rfl (lv_room (Nat.le_of_ble_eq_true rfl)) dX7_clouds_44 ⟨Nat.zero_le _, Nat.zero_le _⟩).run (fun x e_16 => ?_)
          obtain ⟨e_16, hb_17⟩ := e_16
          rw [e_16] at hb_17 ⊢
          refine lv_if_eq (tgt := 54) hx hb dX7_clouds_47 (by decide) (fun c47 => ?_) (fun c47 => ?_)
          · rw [if_pos c47] at hf
            refine lv_lconst (v := 1) hx hb dX7_clouds_54 (by decide) ?_
            refine lv_lstore (lv' := [(7, .long 1), (6, .ref h_t_red), (0, .ref h_t), (1, .int x1), (2, .int x2), (3, .int x3), (4, .int x4), (5, .int x5)]) hx hb dX7_clouds_55 hl (by decide) rfl (fun ls hl => ?_)
            refine lv_lconst (v := 1) hx hb dX7_clouds_57 (by decide) ?_
            refine lv_lstore (lv' := [(9, .long 1), (7, .long 1), (6, .ref h_t_red), (0, .ref h_t), (1, .int x1), (2, .int x2), (3, .int x3), (4, .int x4), (5, .int x5)]) hx hb dX7_clouds_58 hl (by decide) rfl (fun ls hl => ?_)
            refine lv_iconst (v := 0) hx hb dX7_clouds_60 (by decide) ?_
            refine lv_istore (lv' := [(11, .int 0), (9, .long 1), (7, .long 1), (6, .ref h_t_red), (0, .ref h_t), (1, .int x1), (2, .int x2), (3, .int x3), (4, .int x4), (5, .int x5)]) hx hb dX7_clouds_61 hl (by decide) rfl (fun ls hl => ?_)
            obtain ⟨kx63, ekx63, hf⟩ := jn2_e hf
            have hx63 : ∀ (z63_7 : Int64) (z63_9 : Int64) (ls : Array Slot), lv_has ls 12 [(5, .int x5), (7, .long z63_7), (9, .long z63_9)] → kx63 z63_7 z63_9 = some r → W p l e (headSpec wsX7_clouds rm_X7_clouds).room s m ([.ref h_t, .int x1, .int x2, .int x3, .int x4, .int x5] : List Value).toArray below meth c s.heap [] 0 0 (MQ below (vp_Sl (fun x => x = r)) ([.ref h_t, .int x1, .int x2, .int x3, .int x4, .int x5] : List Value).toArray s 0 0 NF) (F0 m 103 ls []) := by
              intro z63_7 z63_9 ls hl hf
              rw [ekx63] at hf
              refine lv_lload hx hb dX7_clouds_103 (lv_at hl 2 rfl) ?_
              refine lv_lload hx hb dX7_clouds_105 (lv_at hl 1 rfl) ?_
              refine lv_lsub hx hb dX7_clouds_107 ?_
              refine lv_lload hx hb dX7_clouds_108 (lv_at hl 2 rfl) ?_
              refine lv_iload hx hb dX7_clouds_110 (lv_at hl 0 rfl) ?_
              obtain ⟨r112_18, hc_19, hf⟩ := bd1_e hf
              refine vp_callSl (va_runS (As := [.long (z63_9 - z63_7), .long z63_9, .int x5]) (rest := []) ⟨hx, hb, hml, hown, hts⟩ (c_X7_lowestTerms l dC dI cI cZ cP cS   (z63_9 - z63_7) z63_9 x5 n r112_18 hc_19) (va_cwS 3 hts gX7_clouds_X7_lowestTerms rfl rfl rfl (by decide +kernel) ⟨Nat.le_of_ble_eq_true rfl, Nat.le_of_ble_eq_true rfl⟩) (ps_ro hK (hP.sub (ws' := ([] : va_W)) [] rfl)) rfl rfl hl.1 rfl (lv_room (Nat.le_of_ble_eq_true rfl)) dX7_clouds_112 ⟨Nat.zero_le _, Nat.zero_le _⟩).run (fun x e_20 => ?_)
              rw [e_20]
              exact W.lret hx hb hr (fun t ht hW => ⟨_, rfl, Option.some.inj hf, ht⟩) (fun _ h => nomatch h) dX7_clouds_115
            have hL63 : ∀ (k63 : Nat) (y63_7 : Int64) (y63_9 : Int64) (y63_11 : Int32) (ls : Array Slot), lv_has ls 12 [(2, .int x2), (3, .int x3), (4, .int x4), (5, .int x5), (6, .ref h_t_red), (7, .long y63_7), (9, .long y63_9), (11, .int y63_11)] → L_X7_clouds_63 n v_turn v_phase v_up x2 x3 x4 kx63 k63 y63_7 y63_9 y63_11 = some r → W p l e (headSpec wsX7_clouds rm_X7_clouds).room s m ([.ref h_t, .int x1, .int x2, .int x3, .int x4, .int x5] : List Value).toArray below meth c s.heap [] 0 0 (MQ below (vp_Sl (fun x => x = r)) ([.ref h_t, .int x1, .int x2, .int x3, .int x4, .int x5] : List Value).toArray s 0 0 NF) (F0 m 63 ls []) := by
              intro k63
              induction k63 with
              | zero =>
                intro y63_7 y63_9 y63_11 ls hl hf
                exact absurd hf (fun h => Option.some_ne_none _ h.symm)
              | succ k63 ih =>
                intro y63_7 y63_9 y63_11 ls hl hf
                rw [L_X7_clouds_63_s] at hf
                refine lv_iload hx hb dX7_clouds_63 (lv_at hl 7 rfl) ?_
                refine lv_iload_n hx hb dX7_clouds_65 rfl (lv_at hl 1 rfl) ?_
                refine lv_icmp_ge (tgt := 103) hx hb dX7_clouds_66 (by decide) (fun c66 => ?_) (fun c66 => ?_)
                · rw [if_pos c66] at hf
                  exact hx63 y63_7 y63_9 ls (lv_sub hl [3, 5, 6] rfl) hf
                · rw [if_neg c66] at hf
                  refine lv_aload hx hb dX7_clouds_69 (lv_at hl 4 rfl) ?_
                  refine lv_iload_n hx hb dX7_clouds_71 rfl (lv_at hl 0 rfl) ?_
                  refine lv_iload hx hb dX7_clouds_72 (lv_at hl 7 rfl) ?_
                  refine lv_iadd hx hb dX7_clouds_74 ?_
                  obtain ⟨r75_21, hc_22, hf⟩ := bd1_e hf
                  refine vp_callSi (va_runV (As := [.int (x2 + y63_11)]) (rest := []) ⟨hx, hb, hml, hown, hts⟩ (c_X5_isUpIn l dC dI cI cZ cP cS h_t_red h_t_red_fitting h_t_red_worstLeft (v_turn 0) (v_phase 0) (v_up 0) (x2 + y63_11) n r75_21 hc_22) (cwV 1 hts gX7_clouds_X5_isUpIn rfl rfl rfl (by decide +kernel) ⟨Nat.le_of_ble_eq_true rfl, Nat.le_of_ble_eq_true rfl⟩) (pv_ro (ci := 5) (q0 := 0) hK (hP.sub (ws' := (wd_X5_isUpIn cI cZ cP cS h_t_red h_t_red_fitting h_t_red_worstLeft (v_turn 0) (v_phase 0) (v_up 0))) [1] rfl) rfl rfl) rfl rfl hl.1 rfl (lv_room (Nat.le_of_ble_eq_true rfl)) dX7_clouds_75 ⟨Nat.zero_le _, Nat.zero_le _⟩).run (fun x e_23 => ?_)
                  obtain ⟨e_23, hb_24⟩ := e_23
                  rw [e_23] at hb_24 ⊢
                  obtain ⟨k97, ek97, hf⟩ := jn2_e hf
                  have hj97 : ∀ (y97_7 : Int64) (y97_9 : Int64) (ls : Array Slot), lv_has ls 12 [(2, .int x2), (3, .int x3), (4, .int x4), (5, .int x5), (6, .ref h_t_red), (7, .long y97_7), (9, .long y97_9), (11, .int y63_11)] → k97 y97_7 y97_9 = some r → W p l e (headSpec wsX7_clouds rm_X7_clouds).room s m ([.ref h_t, .int x1, .int x2, .int x3, .int x4, .int x5] : List Value).toArray below meth c s.heap [] 0 0 (MQ below (vp_Sl (fun x => x = r)) ([.ref h_t, .int x1, .int x2, .int x3, .int x4, .int x5] : List Value).toArray s 0 0 NF) (F0 m 97 ls []) := by
                    intro y97_7 y97_9 ls hl hf
                    rw [ek97] at hf
                    refine lv_iinc (v := (y63_11 + 1)) (lv' := [(11, .int (y63_11 + 1)), (2, .int x2), (3, .int x3), (4, .int x4), (5, .int x5), (6, .ref h_t_red), (7, .long y97_7), (9, .long y97_9)]) hx hb dX7_clouds_97 hl (k := 7) rfl rfl (by decide) rfl (fun ls hl => ?_)
                    refine lv_goto (tgt := 63) hx hb dX7_clouds_100 (by decide) ?_
                    exact ih y97_7 y97_9 (y63_11 + 1) ls (lv_sub hl [1, 2, 3, 4, 5, 6, 7, 0] rfl) hf
                  refine lv_if_eq (tgt := 97) hx hb dX7_clouds_78 (by decide) (fun c78 => ?_) (fun c78 => ?_)
                  · rw [if_pos c78] at hf
                    exact hj97 y63_7 y63_9 ls (lv_sub hl [0, 1, 2, 3, 4, 5, 6, 7] rfl) hf
                  · rw [if_neg c78] at hf
                    refine lv_lload hx hb dX7_clouds_81 (lv_at hl 5 rfl) ?_
                    refine lv_iload hx hb dX7_clouds_83 (lv_at hl 2 rfl) ?_
                    refine lv_i2l (v := x4.toInt64) hx hb dX7_clouds_85 rfl ?_
                    refine lv_lmul hx hb dX7_clouds_86 ?_
                    refine lv_lstore (lv' := [(7, .long (y63_7 * (x4.toInt64))), (2, .int x2), (3, .int x3), (4, .int x4), (5, .int x5), (6, .ref h_t_red), (9, .long y63_9), (11, .int y63_11)]) hx hb dX7_clouds_87 hl (by decide) rfl (fun ls hl => ?_)
                    refine lv_lload hx hb dX7_clouds_89 (lv_at hl 6 rfl) ?_
                    refine lv_ldc2 (v := 16) hx hb hown (hts (.constantLong RX7 249 (16)) (by decide +kernel)) dX7_clouds_91 ?_
                    refine lv_lmul hx hb dX7_clouds_94 ?_
                    refine lv_lstore (lv' := [(9, .long (y63_9 * 16)), (7, .long (y63_7 * (x4.toInt64))), (2, .int x2), (3, .int x3), (4, .int x4), (5, .int x5), (6, .ref h_t_red), (11, .int y63_11)]) hx hb dX7_clouds_95 hl (by decide) rfl (fun ls hl => ?_)
                    exact hj97 (y63_7 * (x4.toInt64)) (y63_9 * 16) ls (lv_sub hl [2, 3, 4, 5, 6, 1, 0, 7] rfl) hf
            exact hL63 n 1 1 0 ls (lv_sub hl [6, 7, 8, 9, 3, 2, 1, 0] rfl) hf
          · rw [if_neg c47] at hf
            refine lv_ldc2 (v := (-9223372036854775806)) hx hb hown (hts (.constantLong RX7 244 (-9223372036854775806)) (by decide +kernel)) dX7_clouds_50 ?_
            exact W.lret hx hb hr (fun t ht hW => ⟨_, rfl, Option.some.inj hf, ht⟩) (fun _ h => nomatch h) dX7_clouds_53
  · rw [if_neg c2_0] at hf e_1
    by_cases c2_1 : x1 = 1
    · rw [if_pos c2_1] at hf e_1
      subst e_1
      refine W.eq (g2 := F0 m 5 ls [.ref h_t_blue]) rfl ?_
      refine lv_astore (lv' := [(6, .ref h_t_blue), (0, .ref h_t), (1, .int x1), (2, .int x2), (3, .int x3), (4, .int x4), (5, .int x5)]) hx hb dX7_clouds_5 hl (by decide) rfl (fun ls hl => ?_)
      refine lv_aload hx hb dX7_clouds_7 (lv_at hl 0 rfl) ?_
      refine lv_ifnull hx hb dX7_clouds_9 ?_
      refine lv_iload_n hx hb dX7_clouds_12 rfl (lv_at hl 3 rfl) ?_
      obtain ⟨r13_25, hc_26, hf⟩ := bd1_e hf
      refine vp_callSi (va_runS (As := [.int x2]) (rest := []) ⟨hx, hb, hml, hown, hts⟩ (c_X7_noHour l dC dI cI cZ cP cS   x2 n r13_25 hc_26) (va_cwS 1 hts gX7_clouds_X7_noHour rfl rfl rfl (by decide +kernel) ⟨Nat.le_of_ble_eq_true rfl, Nat.le_of_ble_eq_true rfl⟩) (ps_ro hK (hP.sub (ws' := ([] : va_W)) [] rfl)) rfl rfl hl.1 rfl (lv_room (Nat.le_of_ble_eq_true rfl)) dX7_clouds_13 ⟨Nat.zero_le _, Nat.zero_le _⟩).run (fun x e_27 => ?_)
      obtain ⟨e_27, hb_28⟩ := e_27
      rw [e_27] at hb_28 ⊢
      refine lv_if_ne (tgt := 50) hx hb dX7_clouds_16 (by decide) (fun c16 => ?_) (fun c16 => ?_)
      · rw [if_neg c16] at hf
        refine lv_ldc2 (v := (-9223372036854775806)) hx hb hown (hts (.constantLong RX7 244 (-9223372036854775806)) (by decide +kernel)) dX7_clouds_50 ?_
        exact W.lret hx hb hr (fun t ht hW => ⟨_, rfl, Option.some.inj hf, ht⟩) (fun _ h => nomatch h) dX7_clouds_53
      · rw [if_pos c16] at hf
        refine lv_iload_n hx hb dX7_clouds_19 rfl (lv_at hl 4 rfl) ?_
        refine lv_iconst (v := 0) hx hb dX7_clouds_20 (by decide) ?_
        refine lv_bipush (v := 14) hx hb dX7_clouds_21 (by decide) ?_
        obtain ⟨r23_29, hc_30, hf⟩ := bd1_e hf
        refine vp_callSi (va_runS (As := [.int x3, .int 0, .int 14]) (rest := []) ⟨hx, hb, hml, hown, hts⟩ (c_X7_outside l dC dI cI cZ cP cS   x3 0 14 n r23_29 hc_30) (va_cwS 3 hts gX7_clouds_X7_outside rfl rfl rfl (by decide +kernel) ⟨Nat.le_of_ble_eq_true rfl, Nat.le_of_ble_eq_true rfl⟩) (ps_ro hK (hP.sub (ws' := ([] : va_W)) [] rfl)) rfl rfl hl.1 rfl (lv_room (Nat.le_of_ble_eq_true rfl)) dX7_clouds_23 ⟨Nat.zero_le _, Nat.zero_le _⟩).run (fun x e_31 => ?_)
        obtain ⟨e_31, hb_32⟩ := e_31
        rw [e_31] at hb_32 ⊢
        refine lv_if_ne (tgt := 50) hx hb dX7_clouds_26 (by decide) (fun c26 => ?_) (fun c26 => ?_)
        · rw [if_neg c26] at hf
          refine lv_ldc2 (v := (-9223372036854775806)) hx hb hown (hts (.constantLong RX7 244 (-9223372036854775806)) (by decide +kernel)) dX7_clouds_50 ?_
          exact W.lret hx hb hr (fun t ht hW => ⟨_, rfl, Option.some.inj hf, ht⟩) (fun _ h => nomatch h) dX7_clouds_53
        · rw [if_pos c26] at hf
          refine lv_iload hx hb dX7_clouds_29 (lv_at hl 5 rfl) ?_
          refine lv_iconst (v := 0) hx hb dX7_clouds_31 (by decide) ?_
          refine lv_bipush (v := 16) hx hb dX7_clouds_32 (by decide) ?_
          obtain ⟨r34_33, hc_34, hf⟩ := bd1_e hf
          refine vp_callSi (va_runS (As := [.int x4, .int 0, .int 16]) (rest := []) ⟨hx, hb, hml, hown, hts⟩ (c_X7_outside l dC dI cI cZ cP cS   x4 0 16 n r34_33 hc_34) (va_cwS 3 hts gX7_clouds_X7_outside rfl rfl rfl (by decide +kernel) ⟨Nat.le_of_ble_eq_true rfl, Nat.le_of_ble_eq_true rfl⟩) (ps_ro hK (hP.sub (ws' := ([] : va_W)) [] rfl)) rfl rfl hl.1 rfl (lv_room (Nat.le_of_ble_eq_true rfl)) dX7_clouds_34 ⟨Nat.zero_le _, Nat.zero_le _⟩).run (fun x e_35 => ?_)
          obtain ⟨e_35, hb_36⟩ := e_35
          rw [e_35] at hb_36 ⊢
          refine lv_if_ne (tgt := 50) hx hb dX7_clouds_37 (by decide) (fun c37 => ?_) (fun c37 => ?_)
          · rw [if_neg c37] at hf
            refine lv_ldc2 (v := (-9223372036854775806)) hx hb hown (hts (.constantLong RX7 244 (-9223372036854775806)) (by decide +kernel)) dX7_clouds_50 ?_
            exact W.lret hx hb hr (fun t ht hW => ⟨_, rfl, Option.some.inj hf, ht⟩) (fun _ h => nomatch h) dX7_clouds_53
          · rw [if_pos c37] at hf
            refine lv_iload hx hb dX7_clouds_40 (lv_at hl 6 rfl) ?_
            refine lv_iconst (v := 0) hx hb dX7_clouds_42 (by decide) ?_
            refine lv_iconst (v := 1) hx hb dX7_clouds_43 (by decide) ?_
            obtain ⟨r44_37, hc_38, hf⟩ := bd1_e hf
            refine vp_callSi (va_runS (As := [.int x5, .int 0, .int 1]) (rest := []) ⟨hx, hb, hml, hown, hts⟩ (c_X7_outside l dC dI cI cZ cP cS   x5 0 1 n r44_37 hc_38) (va_cwS 3 hts gX7_clouds_X7_outside rfl rfl rfl (by decide +kernel) ⟨Nat.le_of_ble_eq_true rfl, Nat.le_of_ble_eq_true rfl⟩) (ps_ro hK (hP.sub (ws' := ([] : va_W)) [] rfl)) rfl rfl hl.1 rfl (lv_room (Nat.le_of_ble_eq_true rfl)) dX7_clouds_44 ⟨Nat.zero_le _, Nat.zero_le _⟩).run (fun x e_39 => ?_)
            obtain ⟨e_39, hb_40⟩ := e_39
            rw [e_39] at hb_40 ⊢
            refine lv_if_eq (tgt := 54) hx hb dX7_clouds_47 (by decide) (fun c47 => ?_) (fun c47 => ?_)
            · rw [if_pos c47] at hf
              refine lv_lconst (v := 1) hx hb dX7_clouds_54 (by decide) ?_
              refine lv_lstore (lv' := [(7, .long 1), (6, .ref h_t_blue), (0, .ref h_t), (1, .int x1), (2, .int x2), (3, .int x3), (4, .int x4), (5, .int x5)]) hx hb dX7_clouds_55 hl (by decide) rfl (fun ls hl => ?_)
              refine lv_lconst (v := 1) hx hb dX7_clouds_57 (by decide) ?_
              refine lv_lstore (lv' := [(9, .long 1), (7, .long 1), (6, .ref h_t_blue), (0, .ref h_t), (1, .int x1), (2, .int x2), (3, .int x3), (4, .int x4), (5, .int x5)]) hx hb dX7_clouds_58 hl (by decide) rfl (fun ls hl => ?_)
              refine lv_iconst (v := 0) hx hb dX7_clouds_60 (by decide) ?_
              refine lv_istore (lv' := [(11, .int 0), (9, .long 1), (7, .long 1), (6, .ref h_t_blue), (0, .ref h_t), (1, .int x1), (2, .int x2), (3, .int x3), (4, .int x4), (5, .int x5)]) hx hb dX7_clouds_61 hl (by decide) rfl (fun ls hl => ?_)
              obtain ⟨kx63, ekx63, hf⟩ := jn2_e hf
              have hx63 : ∀ (z63_7 : Int64) (z63_9 : Int64) (ls : Array Slot), lv_has ls 12 [(5, .int x5), (7, .long z63_7), (9, .long z63_9)] → kx63 z63_7 z63_9 = some r → W p l e (headSpec wsX7_clouds rm_X7_clouds).room s m ([.ref h_t, .int x1, .int x2, .int x3, .int x4, .int x5] : List Value).toArray below meth c s.heap [] 0 0 (MQ below (vp_Sl (fun x => x = r)) ([.ref h_t, .int x1, .int x2, .int x3, .int x4, .int x5] : List Value).toArray s 0 0 NF) (F0 m 103 ls []) := by
                intro z63_7 z63_9 ls hl hf
                rw [ekx63] at hf
                refine lv_lload hx hb dX7_clouds_103 (lv_at hl 2 rfl) ?_
                refine lv_lload hx hb dX7_clouds_105 (lv_at hl 1 rfl) ?_
                refine lv_lsub hx hb dX7_clouds_107 ?_
                refine lv_lload hx hb dX7_clouds_108 (lv_at hl 2 rfl) ?_
                refine lv_iload hx hb dX7_clouds_110 (lv_at hl 0 rfl) ?_
                obtain ⟨r112_41, hc_42, hf⟩ := bd1_e hf
                refine vp_callSl (va_runS (As := [.long (z63_9 - z63_7), .long z63_9, .int x5]) (rest := []) ⟨hx, hb, hml, hown, hts⟩ (c_X7_lowestTerms l dC dI cI cZ cP cS   (z63_9 - z63_7) z63_9 x5 n r112_41 hc_42) (va_cwS 3 hts gX7_clouds_X7_lowestTerms rfl rfl rfl (by decide +kernel) ⟨Nat.le_of_ble_eq_true rfl, Nat.le_of_ble_eq_true rfl⟩) (ps_ro hK (hP.sub (ws' := ([] : va_W)) [] rfl)) rfl rfl hl.1 rfl (lv_room (Nat.le_of_ble_eq_true rfl)) dX7_clouds_112 ⟨Nat.zero_le _, Nat.zero_le _⟩).run (fun x e_43 => ?_)
                rw [e_43]
                exact W.lret hx hb hr (fun t ht hW => ⟨_, rfl, Option.some.inj hf, ht⟩) (fun _ h => nomatch h) dX7_clouds_115
              have hL63 : ∀ (k63 : Nat) (y63_7 : Int64) (y63_9 : Int64) (y63_11 : Int32) (ls : Array Slot), lv_has ls 12 [(2, .int x2), (3, .int x3), (4, .int x4), (5, .int x5), (6, .ref h_t_blue), (7, .long y63_7), (9, .long y63_9), (11, .int y63_11)] → L_X7_clouds_63q2 n v_turn v_phase v_up x2 x3 x4 kx63 k63 y63_7 y63_9 y63_11 = some r → W p l e (headSpec wsX7_clouds rm_X7_clouds).room s m ([.ref h_t, .int x1, .int x2, .int x3, .int x4, .int x5] : List Value).toArray below meth c s.heap [] 0 0 (MQ below (vp_Sl (fun x => x = r)) ([.ref h_t, .int x1, .int x2, .int x3, .int x4, .int x5] : List Value).toArray s 0 0 NF) (F0 m 63 ls []) := by
                intro k63
                induction k63 with
                | zero =>
                  intro y63_7 y63_9 y63_11 ls hl hf
                  exact absurd hf (fun h => Option.some_ne_none _ h.symm)
                | succ k63 ih =>
                  intro y63_7 y63_9 y63_11 ls hl hf
                  rw [L_X7_clouds_63q2_s] at hf
                  refine lv_iload hx hb dX7_clouds_63 (lv_at hl 7 rfl) ?_
                  refine lv_iload_n hx hb dX7_clouds_65 rfl (lv_at hl 1 rfl) ?_
                  refine lv_icmp_ge (tgt := 103) hx hb dX7_clouds_66 (by decide) (fun c66 => ?_) (fun c66 => ?_)
                  · rw [if_pos c66] at hf
                    exact hx63 y63_7 y63_9 ls (lv_sub hl [3, 5, 6] rfl) hf
                  · rw [if_neg c66] at hf
                    refine lv_aload hx hb dX7_clouds_69 (lv_at hl 4 rfl) ?_
                    refine lv_iload_n hx hb dX7_clouds_71 rfl (lv_at hl 0 rfl) ?_
                    refine lv_iload hx hb dX7_clouds_72 (lv_at hl 7 rfl) ?_
                    refine lv_iadd hx hb dX7_clouds_74 ?_
                    obtain ⟨r75_44, hc_45, hf⟩ := bd1_e hf
                    refine vp_callSi (va_runV (As := [.int (x2 + y63_11)]) (rest := []) ⟨hx, hb, hml, hown, hts⟩ (c_X5_isUpIn l dC dI cI cZ cP cS h_t_blue h_t_blue_fitting h_t_blue_worstLeft (v_turn 1) (v_phase 1) (v_up 1) (x2 + y63_11) n r75_44 hc_45) (cwV 1 hts gX7_clouds_X5_isUpIn rfl rfl rfl (by decide +kernel) ⟨Nat.le_of_ble_eq_true rfl, Nat.le_of_ble_eq_true rfl⟩) (pv_ro (ci := 5) (q0 := 0) hK (hP.sub (ws' := (wd_X5_isUpIn cI cZ cP cS h_t_blue h_t_blue_fitting h_t_blue_worstLeft (v_turn 1) (v_phase 1) (v_up 1))) [2] rfl) rfl rfl) rfl rfl hl.1 rfl (lv_room (Nat.le_of_ble_eq_true rfl)) dX7_clouds_75 ⟨Nat.zero_le _, Nat.zero_le _⟩).run (fun x e_46 => ?_)
                    obtain ⟨e_46, hb_47⟩ := e_46
                    rw [e_46] at hb_47 ⊢
                    obtain ⟨k97, ek97, hf⟩ := jn2_e hf
                    have hj97 : ∀ (y97_7 : Int64) (y97_9 : Int64) (ls : Array Slot), lv_has ls 12 [(2, .int x2), (3, .int x3), (4, .int x4), (5, .int x5), (6, .ref h_t_blue), (7, .long y97_7), (9, .long y97_9), (11, .int y63_11)] → k97 y97_7 y97_9 = some r → W p l e (headSpec wsX7_clouds rm_X7_clouds).room s m ([.ref h_t, .int x1, .int x2, .int x3, .int x4, .int x5] : List Value).toArray below meth c s.heap [] 0 0 (MQ below (vp_Sl (fun x => x = r)) ([.ref h_t, .int x1, .int x2, .int x3, .int x4, .int x5] : List Value).toArray s 0 0 NF) (F0 m 97 ls []) := by
                      intro y97_7 y97_9 ls hl hf
                      rw [ek97] at hf
                      refine lv_iinc (v := (y63_11 + 1)) (lv' := [(11, .int (y63_11 + 1)), (2, .int x2), (3, .int x3), (4, .int x4), (5, .int x5), (6, .ref h_t_blue), (7, .long y97_7), (9, .long y97_9)]) hx hb dX7_clouds_97 hl (k := 7) rfl rfl (by decide) rfl (fun ls hl => ?_)
                      refine lv_goto (tgt := 63) hx hb dX7_clouds_100 (by decide) ?_
                      exact ih y97_7 y97_9 (y63_11 + 1) ls (lv_sub hl [1, 2, 3, 4, 5, 6, 7, 0] rfl) hf
                    refine lv_if_eq (tgt := 97) hx hb dX7_clouds_78 (by decide) (fun c78 => ?_) (fun c78 => ?_)
                    · rw [if_pos c78] at hf
                      exact hj97 y63_7 y63_9 ls (lv_sub hl [0, 1, 2, 3, 4, 5, 6, 7] rfl) hf
                    · rw [if_neg c78] at hf
                      refine lv_lload hx hb dX7_clouds_81 (lv_at hl 5 rfl) ?_
                      refine lv_iload hx hb dX7_clouds_83 (lv_at hl 2 rfl) ?_
                      refine lv_i2l (v := x4.toInt64) hx hb dX7_clouds_85 rfl ?_
                      refine lv_lmul hx hb dX7_clouds_86 ?_
                      refine lv_lstore (lv' := [(7, .long (y63_7 * (x4.toInt64))), (2, .int x2), (3, .int x3), (4, .int x4), (5, .int x5), (6, .ref h_t_blue), (9, .long y63_9), (11, .int y63_11)]) hx hb dX7_clouds_87 hl (by decide) rfl (fun ls hl => ?_)
                      refine lv_lload hx hb dX7_clouds_89 (lv_at hl 6 rfl) ?_
                      refine lv_ldc2 (v := 16) hx hb hown (hts (.constantLong RX7 249 (16)) (by decide +kernel)) dX7_clouds_91 ?_
                      refine lv_lmul hx hb dX7_clouds_94 ?_
                      refine lv_lstore (lv' := [(9, .long (y63_9 * 16)), (7, .long (y63_7 * (x4.toInt64))), (2, .int x2), (3, .int x3), (4, .int x4), (5, .int x5), (6, .ref h_t_blue), (11, .int y63_11)]) hx hb dX7_clouds_95 hl (by decide) rfl (fun ls hl => ?_)
                      exact hj97 (y63_7 * (x4.toInt64)) (y63_9 * 16) ls (lv_sub hl [2, 3, 4, 5, 6, 1, 0, 7] rfl) hf
              exact hL63 n 1 1 0 ls (lv_sub hl [6, 7, 8, 9, 3, 2, 1, 0] rfl) hf
            · rw [if_neg c47] at hf
              refine lv_ldc2 (v := (-9223372036854775806)) hx hb hown (hts (.constantLong RX7 244 (-9223372036854775806)) (by decide +kernel)) dX7_clouds_50 ?_
              exact W.lret hx hb hr (fun t ht hW => ⟨_, rfl, Option.some.inj hf, ht⟩) (fun _ h => nomatch h) dX7_clouds_53
    · rw [if_neg c2_1] at hf e_1
      subst e_1
      refine W.eq (g2 := F0 m 5 ls [.null]) rfl ?_
      refine lv_astoreN (lv' := [(6, .null), (0, .ref h_t), (1, .int x1), (2, .int x2), (3, .int x3), (4, .int x4), (5, .int x5)]) hx hb dX7_clouds_5 hl (by decide) rfl (fun ls hl => ?_)
      refine lv_aloadN hx hb dX7_clouds_7 (lv_at hl 0 rfl) ?_
      refine lv_ifnullN (tgt := 50) hx hb dX7_clouds_9 (by decide) ?_
      refine lv_ldc2 (v := (-9223372036854775806)) hx hb hown (hts (.constantLong RX7 244 (-9223372036854775806)) (by decide +kernel)) dX7_clouds_50 ?_
      exact W.lret hx hb hr (fun t ht hW => ⟨_, rfl, Option.some.inj hf, ht⟩) (fun _ h => nomatch h) dX7_clouds_53

abbrev wd_X7_found (cI cZ cP cS : ClassId) (h_t h_t_red h_t_blue h_t_sky h_t_diary h_t_calendar h_t_awakeIn h_t_worths h_t_plants h_t_sheets h_t_bestFrom : Nat) (v_latestFinding : Int32) : va_W := [(h_t, .inr (6, [.ref h_t_red, .ref h_t_blue, .ref h_t_sky, .ref h_t_diary, .ref h_t_calendar, .ref h_t_awakeIn, .ref h_t_worths, .ref h_t_plants, .ref h_t_sheets, .ref h_t_bestFrom, .int v_latestFinding]))]
abbrev rm_X7_found : Room := { frames := 0, cells := 0, slots := 0, locals := 0 }
def f_X7_found (n : Nat) (v_latestFinding : Int32) (x1 : Int32) : Option (Int32 × Int32) := some (((-10) - x1), x1)
set_option maxHeartbeats 4000000 in
set_option maxRecDepth 100000 in
theorem c_X7_found (l : Launch) (dC : Nat → ClassId) (dI : Nat → Nat → Nat) (cI cZ cP cS : ClassId) (sz : Nat) (h_t h_t_red h_t_blue h_t_sky h_t_diary h_t_calendar h_t_awakeIn h_t_worths h_t_plants h_t_sheets h_t_bestFrom : Nat) (v_latestFinding : Int32) (x1 : Int32) (n : Nat) (r : Int32) (o_latestFinding : Int32) (hf : f_X7_found n v_latestFinding x1 = some (r, o_latestFinding)) : Met l yX7_found wsX7_found rm_X7_found (RW (dC, dI) (TY cI cZ cP cS) [.ref h_t, .int x1] sz (wd_X7_found cI cZ cP cS h_t h_t_red h_t_blue h_t_sky h_t_diary h_t_calendar h_t_awakeIn h_t_worths h_t_plants h_t_sheets h_t_bestFrom v_latestFinding)) (RWi (dC, dI) (TY cI cZ cP cS) r sz (wd_X7_found cI cZ cP cS h_t h_t_red h_t_blue h_t_sky h_t_diary h_t_calendar h_t_awakeIn h_t_worths h_t_plants h_t_sheets h_t_bestFrom v_latestFinding) (wd_X7_found cI cZ cP cS h_t h_t_red h_t_blue h_t_sky h_t_diary h_t_calendar h_t_awakeIn h_t_worths h_t_plants h_t_sheets h_t_bestFrom o_latestFinding)) 0 0 (va_A (wd_X7_found cI cZ cP cS h_t h_t_red h_t_blue h_t_sky h_t_diary h_t_calendar h_t_awakeIn h_t_worths h_t_plants h_t_sheets h_t_bestFrom v_latestFinding) sz) := by
  refine Met.ofW (cc := cX7_found) (maxL := 2) (ret := (some .int)) (by decide) rfl ?_
  intro p e s m args below meth c s₁ B hml hv
  obtain ⟨rfl, hsz, hP, hK, hD0⟩ := hv
  have hx := B.exec
  have hb := B.bytes
  have hr := B.returns
  have hts := atoms_spec (ws := wsX7_found) B.pre
  have hown : s.vm.findClass RX7 = some m.cls := findClass_of_methodNamed B.named
  have hlocks := B.notSynchronized
  subst hsz
  have hD := hD0.self (sz := s.heap.size)
  have hA : ∀ q : Nat, s.heap.size ≤ q → (va_A (wd_X7_found cI cZ cP cS h_t h_t_red h_t_blue h_t_sky h_t_diary h_t_calendar h_t_awakeIn h_t_worths h_t_plants h_t_sheets h_t_bestFrom v_latestFinding) s.heap.size) q := fun q h => Or.inr h
  have hS : va_S (va_A (wd_X7_found cI cZ cP cS h_t h_t_red h_t_blue h_t_sky h_t_diary h_t_calendar h_t_awakeIn h_t_worths h_t_plants h_t_sheets h_t_bestFrom v_latestFinding) s.heap.size) s.heap s.heap [] := va_S.rf
  have hinX7 : ∀ w ∈ wsX70, w ∈ wsX7_found := by decide +kernel
  have hl := lv_entry ([.ref h_t, .int x1]) (n := 2) (Nat.le_of_ble_eq_true rfl)
  rw [lg_entry_eq]
  generalize (lg_sl ([.ref h_t, .int x1]) ++ List.replicate (2 - (lg_sl ([.ref h_t, .int x1])).length) Slot.unset).toArray = ls at hl ⊢
  have hl : lv_has ls 2 [(0, .ref h_t), (1, .int x1)] := hl
  obtain ⟨H, hH⟩ : ∃ H : Heap, H = s.heap := ⟨_, rfl⟩
  have hP : va_P (dC, dI) vwCl (wd_X7_found cI cZ cP cS h_t h_t_red h_t_blue h_t_sky h_t_diary h_t_calendar h_t_awakeIn h_t_worths h_t_plants h_t_sheets h_t_bestFrom v_latestFinding) H := by rw [hH]; exact hP
  have hS : va_S (va_A (wd_X7_found cI cZ cP cS h_t h_t_red h_t_blue h_t_sky h_t_diary h_t_calendar h_t_awakeIn h_t_worths h_t_plants h_t_sheets h_t_bestFrom v_latestFinding) s.heap.size) s.heap H [] := by rw [hH]; exact hS
  obtain ⟨locs, hlo⟩ : ∃ L : List Loc, L = [] := ⟨_, rfl⟩
  rw [← hlo] at hS
  suffices hgo : W p l e (headSpec wsX7_found rm_X7_found).room s m ([.ref h_t, .int x1] : List Value).toArray below meth c H locs 0 0 (MQ below (RWi (dC, dI) (TY cI cZ cP cS) r s.heap.size (wd_X7_found cI cZ cP cS h_t h_t_red h_t_blue h_t_sky h_t_diary h_t_calendar h_t_awakeIn h_t_worths h_t_plants h_t_sheets h_t_bestFrom v_latestFinding) (wd_X7_found cI cZ cP cS h_t h_t_red h_t_blue h_t_sky h_t_diary h_t_calendar h_t_awakeIn h_t_worths h_t_plants h_t_sheets h_t_bestFrom o_latestFinding)) ([.ref h_t, .int x1] : List Value).toArray s 0 0 (va_A (wd_X7_found cI cZ cP cS h_t h_t_red h_t_blue h_t_sky h_t_diary h_t_calendar h_t_awakeIn h_t_worths h_t_plants h_t_sheets h_t_bestFrom v_latestFinding) s.heap.size)) (F0 m 0 ls []) by rw [hH, hlo] at hgo; exact hgo
  clear hH hlo
  unfold f_X7_found at hf
  refine lv_aload_n hx hb dX7_found_0 rfl (lv_at hl 0 rfl) ?_
  refine lv_iload_n hx hb dX7_found_1 rfl (lv_at hl 1 rfl) ?_
  refine va_put (D := (dC, dI)) (ci := 6) (v := .int x1) (ty := .int) (C := RX7) (T := TX7) (N := 11) hx hb hts hinX7 tyX7 tyX7_ok nmX7 hown hK hP hD hS 0 rfl rfl 10 (by decide) (hts (.fieldLink RX7 66 "SecondSunrise" "latestFinding" "I") (by decide +kernel)) (fun _ h9 => h9) rfl (by decide +kernel) rfl rfl (Nat.le_of_ble_eq_true rfl) dX7_found_2 (fun H locs hP hD hS => ?_)
  have hP : va_P (dC, dI) vwCl (wd_X7_found cI cZ cP cS h_t h_t_red h_t_blue h_t_sky h_t_diary h_t_calendar h_t_awakeIn h_t_worths h_t_plants h_t_sheets h_t_bestFrom x1) H := hP
  have hD : va_D (va_A (wd_X7_found cI cZ cP cS h_t h_t_red h_t_blue h_t_sky h_t_diary h_t_calendar h_t_awakeIn h_t_worths h_t_plants h_t_sheets h_t_bestFrom v_latestFinding) s.heap.size) (wd_X7_found cI cZ cP cS h_t h_t_red h_t_blue h_t_sky h_t_diary h_t_calendar h_t_awakeIn h_t_worths h_t_plants h_t_sheets h_t_bestFrom x1) := hD
  refine lv_bipush (v := (-10)) hx hb dX7_found_5 (by decide) ?_
  refine lv_iload_n hx hb dX7_found_7 rfl (lv_at hl 1 rfl) ?_
  refine lv_isub hx hb dX7_found_8 ?_
  have hq0 := Option.some.inj hf
  obtain ⟨eq0, hq1⟩ := Prod.mk.inj hq0
  clear hf hq0
  subst eq0
  subst hq1
  exact W.iret hx hb hr (fun t ht hW => ⟨⟨_, (), rfl, rfl, by rw [ht]; exact hP, va_K.moved hW.alike hK, hD⟩, hS.F ht⟩) hS.2.2 dX7_found_9

abbrev wd_X7_count (cI cZ cP cS : ClassId) (h_t h_t_red h_t_blue h_t_sky h_t_diary h_t_calendar h_t_awakeIn h_t_worths h_t_plants h_t_sheets h_t_bestFrom h_t_red_fitting h_t_red_worstLeft h_t_blue_fitting h_t_blue_worstLeft h_t_diary_bytes h_t_calendar_bytes : Nat) (v_latestFinding : Int32) (v_turn : Nat → Int32) (v_phase : Nat → Int32) (v_up : Nat → Int32) (v_dsize : Int32) (v_dbytes : Nat → Int32) (v_csize : Int32) (v_cbytes : Nat → Int32) (v_worths : Nat → Int32) : va_W := [(h_t, .inr (6, [.ref h_t_red, .ref h_t_blue, .ref h_t_sky, .ref h_t_diary, .ref h_t_calendar, .ref h_t_awakeIn, .ref h_t_worths, .ref h_t_plants, .ref h_t_sheets, .ref h_t_bestFrom, .int v_latestFinding])), (h_t_red, .inr (5, [.int (v_turn 0), .int (v_phase 0), .int (v_up 0), .ref h_t_red_fitting, .ref h_t_red_worstLeft])), (h_t_blue, .inr (5, [.int (v_turn 1), .int (v_phase 1), .int (v_up 1), .ref h_t_blue_fitting, .ref h_t_blue_worstLeft])), (h_t_sky, .inr (4, [.ref h_t_red, .ref h_t_blue])), (h_t_diary, .inr (1, [.ref h_t_diary_bytes, .int v_dsize])), (h_t_diary_bytes, .inl (cI, 60, .inl v_dbytes)), (h_t_calendar, .inr (0, [.ref h_t_calendar_bytes, .int v_csize])), (h_t_calendar_bytes, .inl (cI, 20, .inl v_cbytes)), (h_t_worths, .inl (cI, 6, .inl v_worths))]
abbrev rm_X7_count : Room := { frames := 5, cells := 0, slots := 0, locals := 107 }
def f_X7_count (n : Nat) (v_latestFinding : Int32) (v_turn : Nat → Int32) (v_dsize : Int32) (v_dbytes : Nat → Int32) (v_csize : Int32) (v_cbytes : Nat → Int32) (v_worths : Nat → Int32) (x1 : Int32) : Option (Int32) := if x1 = 0 then some v_dsize else if x1 = 1 then some v_csize else if x1 = 2 then bd1_ (f_X1_hours n v_dsize v_dbytes) (fun (r72_1 : Int32) => some r72_1) else if x1 = 3 then bd1_ (f_X1_hoursLooked n v_dsize v_dbytes) (fun (r80_4 : Int32) => some r80_4) else if x1 = 4 then bd1_ (f_X0_months n v_csize v_cbytes) (fun (r88_7 : Int32) => some r88_7) else if x1 = 5 then bd1_ (f_X0_hoursOfAll n v_csize v_cbytes) (fun (r96_10 : Int32) => some r96_10) else if x1 = 6 then bd1_ (f_X4_hoursOfRound n v_turn) (fun (r104_13 : Int32) => some r104_13) else if x1 = 7 then bd1_ (f_X7_allWorths n v_worths) (fun (r109_16 : Int32) => some r109_16) else if x1 = 8 then some v_latestFinding else some (-2)
set_option maxHeartbeats 4000000 in
set_option maxRecDepth 100000 in
theorem c_X7_count (l : Launch) (dC : Nat → ClassId) (dI : Nat → Nat → Nat) (cI cZ cP cS : ClassId) (h_t h_t_red h_t_blue h_t_sky h_t_diary h_t_calendar h_t_awakeIn h_t_worths h_t_plants h_t_sheets h_t_bestFrom h_t_red_fitting h_t_red_worstLeft h_t_blue_fitting h_t_blue_worstLeft h_t_diary_bytes h_t_calendar_bytes : Nat) (v_latestFinding : Int32) (v_turn : Nat → Int32) (v_phase : Nat → Int32) (v_up : Nat → Int32) (v_dsize : Int32) (v_dbytes : Nat → Int32) (v_csize : Int32) (v_cbytes : Nat → Int32) (v_worths : Nat → Int32) (x1 : Int32) (n : Nat) (r : Int32) (hf : f_X7_count n v_latestFinding v_turn v_dsize v_dbytes v_csize v_cbytes v_worths x1 = some r) : Met l yX7_count wsX7_count rm_X7_count (RO (dC, dI) (TY cI cZ cP cS) [.ref h_t, .int x1] (wd_X7_count cI cZ cP cS h_t h_t_red h_t_blue h_t_sky h_t_diary h_t_calendar h_t_awakeIn h_t_worths h_t_plants h_t_sheets h_t_bestFrom h_t_red_fitting h_t_red_worstLeft h_t_blue_fitting h_t_blue_worstLeft h_t_diary_bytes h_t_calendar_bytes v_latestFinding v_turn v_phase v_up v_dsize v_dbytes v_csize v_cbytes v_worths)) (vp_Si (fun x => x = r)) 0 0 NF := by
  refine Met.ofW (cc := cX7_count) (maxL := 2) (ret := (some .int)) (by decide) rfl ?_
  intro p e s m args below meth c s₁ B hml hv
  obtain ⟨rfl, hP, hK⟩ := hv
  have hx := B.exec
  have hb := B.bytes
  have hr := B.returns
  have hts := atoms_spec (ws := wsX7_count) B.pre
  have hown : s.vm.findClass RX7 = some m.cls := findClass_of_methodNamed B.named
  have hlocks := B.notSynchronized
  have hinX0 : ∀ w ∈ wsX00, w ∈ wsX7_count := by decide +kernel
  have hinX1 : ∀ w ∈ wsX10, w ∈ wsX7_count := by decide +kernel
  have hinX7 : ∀ w ∈ wsX70, w ∈ wsX7_count := by decide +kernel
  have hl := lv_entry ([.ref h_t, .int x1]) (n := 2) (Nat.le_of_ble_eq_true rfl)
  rw [lg_entry_eq]
  generalize (lg_sl ([.ref h_t, .int x1]) ++ List.replicate (2 - (lg_sl ([.ref h_t, .int x1])).length) Slot.unset).toArray = ls at hl ⊢
  have hl : lv_has ls 2 [(0, .ref h_t), (1, .int x1)] := hl
  unfold f_X7_count at hf
  refine lv_iload_n hx hb dX7_count_0 rfl (lv_at hl 1 rfl) ?_
  by_cases c1_0 : x1 = 0
  · rw [if_pos c1_0] at hf
    refine lv_tableIn (off := 51) (tgt := 52) hx hb dX7_count_1 (by rw [c1_0]; decide) (by rw [c1_0]; decide) (by rw [c1_0]; decide) (by decide) ?_
    refine lv_aload_n hx hb dX7_count_52 rfl (lv_at hl 0 rfl) ?_
    refine va_get (D := (dC, dI)) (ci := 6) (v := .ref h_t_diary) (C := RX7) (T := TX7) (N := 11) hx hb hts hinX7 hown hK hP 0 rfl rfl 3 (by decide) (hts (.fieldLink RX7 33 "SecondSunrise" "diary" "LSecondSunrise$Diary;") (by decide +kernel)) (fun _ h9 => h9) rfl dX7_count_53 ?_
    refine va_get (D := (dC, dI)) (ci := 1) (v := .int v_dsize) (C := RX1) (T := TX1) (N := 2) hx hb hts hinX1 hown hK hP 4 rfl rfl 1 (by decide) (hts (.fieldLink RX7 280 "SecondSunrise$Diary" "size" "I") (by decide +kernel)) (fun x9 h9 => u_same (hts (.sameField "SecondSunrise$Diary" "SecondSunrise$Text" "size" "I") (by decide +kernel)) x9 h9) rfl dX7_count_56 ?_
    exact W.iret hx hb hr (fun t ht hW => ⟨_, rfl, Option.some.inj hf, ht⟩) (fun _ h => nomatch h) dX7_count_59
  · rw [if_neg c1_0] at hf
    by_cases c1_1 : x1 = 1
    · rw [if_pos c1_1] at hf
      refine lv_tableIn (off := 59) (tgt := 60) hx hb dX7_count_1 (by rw [c1_1]; decide) (by rw [c1_1]; decide) (by rw [c1_1]; decide) (by decide) ?_
      refine lv_aload_n hx hb dX7_count_60 rfl (lv_at hl 0 rfl) ?_
      refine va_get (D := (dC, dI)) (ci := 6) (v := .ref h_t_calendar) (C := RX7) (T := TX7) (N := 11) hx hb hts hinX7 hown hK hP 0 rfl rfl 4 (by decide) (hts (.fieldLink RX7 40 "SecondSunrise" "calendar" "LSecondSunrise$Calendar;") (by decide +kernel)) (fun _ h9 => h9) rfl dX7_count_61 ?_
      refine va_get (D := (dC, dI)) (ci := 0) (v := .int v_csize) (C := RX0) (T := TX0) (N := 2) hx hb hts hinX0 hown hK hP 6 rfl rfl 1 (by decide) (hts (.fieldLink RX7 281 "SecondSunrise$Calendar" "size" "I") (by decide +kernel)) (fun x9 h9 => u_same (hts (.sameField "SecondSunrise$Calendar" "SecondSunrise$Text" "size" "I") (by decide +kernel)) x9 h9) rfl dX7_count_64 ?_
      exact W.iret hx hb hr (fun t ht hW => ⟨_, rfl, Option.some.inj hf, ht⟩) (fun _ h => nomatch h) dX7_count_67
    · rw [if_neg c1_1] at hf
      by_cases c1_2 : x1 = 2
      · rw [if_pos c1_2] at hf
        refine lv_tableIn (off := 67) (tgt := 68) hx hb dX7_count_1 (by rw [c1_2]; decide) (by rw [c1_2]; decide) (by rw [c1_2]; decide) (by decide) ?_
        refine lv_aload_n hx hb dX7_count_68 rfl (lv_at hl 0 rfl) ?_
        refine va_get (D := (dC, dI)) (ci := 6) (v := .ref h_t_diary) (C := RX7) (T := TX7) (N := 11) hx hb hts hinX7 hown hK hP 0 rfl rfl 3 (by decide) (hts (.fieldLink RX7 33 "SecondSunrise" "diary" "LSecondSunrise$Diary;") (by decide +kernel)) (fun _ h9 => h9) rfl dX7_count_69 ?_
        obtain ⟨r72_1, hc_2, hf⟩ := bd1_e hf
        refine vp_callSi (va_runV (As := []) (rest := []) ⟨hx, hb, hml, hown, hts⟩ (c_X1_hours l dC dI cI cZ cP cS h_t_diary h_t_diary_bytes v_dsize v_dbytes  n r72_1 hc_2) (cwV 0 hts gX7_count_X1_hours rfl rfl rfl (by decide +kernel) ⟨Nat.le_of_ble_eq_true rfl, Nat.le_of_ble_eq_true rfl⟩) (pv_ro (ci := 1) (q0 := 0) hK (hP.sub (ws' := (wd_X1_hours cI cZ cP cS h_t_diary h_t_diary_bytes v_dsize v_dbytes)) [4, 5] rfl) rfl rfl) rfl rfl hl.1 rfl (lv_room (Nat.le_of_ble_eq_true rfl)) dX7_count_72 ⟨Nat.zero_le _, Nat.zero_le _⟩).run (fun x e_3 => ?_)
        rw [e_3]
        exact W.iret hx hb hr (fun t ht hW => ⟨_, rfl, Option.some.inj hf, ht⟩) (fun _ h => nomatch h) dX7_count_75
      · rw [if_neg c1_2] at hf
        by_cases c1_3 : x1 = 3
        · rw [if_pos c1_3] at hf
          refine lv_tableIn (off := 75) (tgt := 76) hx hb dX7_count_1 (by rw [c1_3]; decide) (by rw [c1_3]; decide) (by rw [c1_3]; decide) (by decide) ?_
          refine lv_aload_n hx hb dX7_count_76 rfl (lv_at hl 0 rfl) ?_
          refine va_get (D := (dC, dI)) (ci := 6) (v := .ref h_t_diary) (C := RX7) (T := TX7) (N := 11) hx hb hts hinX7 hown hK hP 0 rfl rfl 3 (by decide) (hts (.fieldLink RX7 33 "SecondSunrise" "diary" "LSecondSunrise$Diary;") (by decide +kernel)) (fun _ h9 => h9) rfl dX7_count_77 ?_
          obtain ⟨r80_4, hc_5, hf⟩ := bd1_e hf
          refine vp_callSi (va_runV (As := []) (rest := []) ⟨hx, hb, hml, hown, hts⟩ (c_X1_hoursLooked l dC dI cI cZ cP cS h_t_diary h_t_diary_bytes v_dsize v_dbytes  n r80_4 hc_5) (cwV 0 hts gX7_count_X1_hoursLooked rfl rfl rfl (by decide +kernel) ⟨Nat.le_of_ble_eq_true rfl, Nat.le_of_ble_eq_true rfl⟩) (pv_ro (ci := 1) (q0 := 0) hK (hP.sub (ws' := (wd_X1_hoursLooked cI cZ cP cS h_t_diary h_t_diary_bytes v_dsize v_dbytes)) [4, 5] rfl) rfl rfl) rfl rfl hl.1 rfl (lv_room (Nat.le_of_ble_eq_true rfl)) dX7_count_80 ⟨Nat.zero_le _, Nat.zero_le _⟩).run (fun x e_6 => ?_)
          rw [e_6]
          exact W.iret hx hb hr (fun t ht hW => ⟨_, rfl, Option.some.inj hf, ht⟩) (fun _ h => nomatch h) dX7_count_83
        · rw [if_neg c1_3] at hf
          by_cases c1_4 : x1 = 4
          · rw [if_pos c1_4] at hf
            refine lv_tableIn (off := 83) (tgt := 84) hx hb dX7_count_1 (by rw [c1_4]; decide) (by rw [c1_4]; decide) (by rw [c1_4]; decide) (by decide) ?_
            refine lv_aload_n hx hb dX7_count_84 rfl (lv_at hl 0 rfl) ?_
            refine va_get (D := (dC, dI)) (ci := 6) (v := .ref h_t_calendar) (C := RX7) (T := TX7) (N := 11) hx hb hts hinX7 hown hK hP 0 rfl rfl 4 (by decide) (hts (.fieldLink RX7 40 "SecondSunrise" "calendar" "LSecondSunrise$Calendar;") (by decide +kernel)) (fun _ h9 => h9) rfl dX7_count_85 ?_
            obtain ⟨r88_7, hc_8, hf⟩ := bd1_e hf
            refine vp_callSi (va_runV (As := []) (rest := []) ⟨hx, hb, hml, hown, hts⟩ (c_X0_months l dC dI cI cZ cP cS h_t_calendar h_t_calendar_bytes v_csize v_cbytes  n r88_7 hc_8) (cwV 0 hts gX7_count_X0_months rfl rfl rfl (by decide +kernel) ⟨Nat.le_of_ble_eq_true rfl, Nat.le_of_ble_eq_true rfl⟩) (pv_ro (ci := 0) (q0 := 0) hK (hP.sub (ws' := (wd_X0_months cI cZ cP cS h_t_calendar h_t_calendar_bytes v_csize v_cbytes)) [6, 7] rfl) rfl rfl) rfl rfl hl.1 rfl (lv_room (Nat.le_of_ble_eq_true rfl)) dX7_count_88 ⟨Nat.zero_le _, Nat.zero_le _⟩).run (fun x e_9 => ?_)
            rw [e_9]
            exact W.iret hx hb hr (fun t ht hW => ⟨_, rfl, Option.some.inj hf, ht⟩) (fun _ h => nomatch h) dX7_count_91
          · rw [if_neg c1_4] at hf
            by_cases c1_5 : x1 = 5
            · rw [if_pos c1_5] at hf
              refine lv_tableIn (off := 91) (tgt := 92) hx hb dX7_count_1 (by rw [c1_5]; decide) (by rw [c1_5]; decide) (by rw [c1_5]; decide) (by decide) ?_
              refine lv_aload_n hx hb dX7_count_92 rfl (lv_at hl 0 rfl) ?_
              refine va_get (D := (dC, dI)) (ci := 6) (v := .ref h_t_calendar) (C := RX7) (T := TX7) (N := 11) hx hb hts hinX7 hown hK hP 0 rfl rfl 4 (by decide) (hts (.fieldLink RX7 40 "SecondSunrise" "calendar" "LSecondSunrise$Calendar;") (by decide +kernel)) (fun _ h9 => h9) rfl dX7_count_93 ?_
              obtain ⟨r96_10, hc_11, hf⟩ := bd1_e hf
              refine vp_callSi (va_runV (As := []) (rest := []) ⟨hx, hb, hml, hown, hts⟩ (c_X0_hoursOfAll l dC dI cI cZ cP cS h_t_calendar h_t_calendar_bytes v_csize v_cbytes  n r96_10 hc_11) (cwV 0 hts gX7_count_X0_hoursOfAll rfl rfl rfl (by decide +kernel) ⟨Nat.le_of_ble_eq_true rfl, Nat.le_of_ble_eq_true rfl⟩) (pv_ro (ci := 0) (q0 := 0) hK (hP.sub (ws' := (wd_X0_hoursOfAll cI cZ cP cS h_t_calendar h_t_calendar_bytes v_csize v_cbytes)) [6, 7] rfl) rfl rfl) rfl rfl hl.1 rfl (lv_room (Nat.le_of_ble_eq_true rfl)) dX7_count_96 ⟨Nat.zero_le _, Nat.zero_le _⟩).run (fun x e_12 => ?_)
              rw [e_12]
              exact W.iret hx hb hr (fun t ht hW => ⟨_, rfl, Option.some.inj hf, ht⟩) (fun _ h => nomatch h) dX7_count_99
            · rw [if_neg c1_5] at hf
              by_cases c1_6 : x1 = 6
              · rw [if_pos c1_6] at hf
                refine lv_tableIn (off := 99) (tgt := 100) hx hb dX7_count_1 (by rw [c1_6]; decide) (by rw [c1_6]; decide) (by rw [c1_6]; decide) (by decide) ?_
                refine lv_aload_n hx hb dX7_count_100 rfl (lv_at hl 0 rfl) ?_
                refine va_get (D := (dC, dI)) (ci := 6) (v := .ref h_t_sky) (C := RX7) (T := TX7) (N := 11) hx hb hts hinX7 hown hK hP 0 rfl rfl 2 (by decide) (hts (.fieldLink RX7 26 "SecondSunrise" "sky" "LSecondSunrise$Sky;") (by decide +kernel)) (fun _ h9 => h9) rfl dX7_count_101 ?_
                obtain ⟨r104_13, hc_14, hf⟩ := bd1_e hf
                refine vp_callSi (va_runV (As := []) (rest := []) ⟨hx, hb, hml, hown, hts⟩ (c_X4_hoursOfRound l dC dI cI cZ cP cS h_t_sky h_t_red h_t_blue h_t_red_fitting h_t_red_worstLeft h_t_blue_fitting h_t_blue_worstLeft v_turn v_phase v_up  n r104_13 hc_14) (cwV 0 hts gX7_count_X4_hoursOfRound rfl rfl rfl (by decide +kernel) ⟨Nat.le_of_ble_eq_true rfl, Nat.le_of_ble_eq_true rfl⟩) (pv_ro (ci := 4) (q0 := 0) hK (hP.sub (ws' := (wd_X4_hoursOfRound cI cZ cP cS h_t_sky h_t_red h_t_blue h_t_red_fitting h_t_red_worstLeft h_t_blue_fitting h_t_blue_worstLeft v_turn v_phase v_up)) [3, 1, 2] rfl) rfl rfl) rfl rfl hl.1 rfl (lv_room (Nat.le_of_ble_eq_true rfl)) dX7_count_104 ⟨Nat.zero_le _, Nat.zero_le _⟩).run (fun x e_15 => ?_)
                rw [e_15]
                exact W.iret hx hb hr (fun t ht hW => ⟨_, rfl, Option.some.inj hf, ht⟩) (fun _ h => nomatch h) dX7_count_107
              · rw [if_neg c1_6] at hf
                by_cases c1_7 : x1 = 7
                · rw [if_pos c1_7] at hf
                  refine lv_tableIn (off := 107) (tgt := 108) hx hb dX7_count_1 (by rw [c1_7]; decide) (by rw [c1_7]; decide) (by rw [c1_7]; decide) (by decide) ?_
                  refine lv_aload_n hx hb dX7_count_108 rfl (lv_at hl 0 rfl) ?_
                  obtain ⟨r109_16, hc_17, hf⟩ := bd1_e hf
                  refine vp_callSi (va_runV (As := []) (rest := []) ⟨hx, hb, hml, hown, hts⟩ (c_X7_allWorths l dC dI cI cZ cP cS h_t h_t_red h_t_blue h_t_sky h_t_diary h_t_calendar h_t_awakeIn h_t_worths h_t_plants h_t_sheets h_t_bestFrom v_latestFinding v_worths  n r109_16 hc_17) (cwV 0 hts gX7_count_X7_allWorths rfl rfl rfl (by decide +kernel) ⟨Nat.le_of_ble_eq_true rfl, Nat.le_of_ble_eq_true rfl⟩) (pv_ro (ci := 6) (q0 := 0) hK (hP.sub (ws' := (wd_X7_allWorths cI cZ cP cS h_t h_t_red h_t_blue h_t_sky h_t_diary h_t_calendar h_t_awakeIn h_t_worths h_t_plants h_t_sheets h_t_bestFrom v_latestFinding v_worths)) [0, 8] rfl) rfl rfl) rfl rfl hl.1 rfl (lv_room (Nat.le_of_ble_eq_true rfl)) dX7_count_109 ⟨Nat.zero_le _, Nat.zero_le _⟩).run (fun x e_18 => ?_)
                  rw [e_18]
                  exact W.iret hx hb hr (fun t ht hW => ⟨_, rfl, Option.some.inj hf, ht⟩) (fun _ h => nomatch h) dX7_count_112
                · rw [if_neg c1_7] at hf
                  by_cases c1_8 : x1 = 8
                  · rw [if_pos c1_8] at hf
                    refine lv_tableIn (off := 112) (tgt := 113) hx hb dX7_count_1 (by rw [c1_8]; decide) (by rw [c1_8]; decide) (by rw [c1_8]; decide) (by decide) ?_
                    refine lv_aload_n hx hb dX7_count_113 rfl (lv_at hl 0 rfl) ?_
                    refine va_get (D := (dC, dI)) (ci := 6) (v := .int v_latestFinding) (C := RX7) (T := TX7) (N := 11) hx hb hts hinX7 hown hK hP 0 rfl rfl 10 (by decide) (hts (.fieldLink RX7 66 "SecondSunrise" "latestFinding" "I") (by decide +kernel)) (fun _ h9 => h9) rfl dX7_count_114 ?_
                    exact W.iret hx hb hr (fun t ht hW => ⟨_, rfl, Option.some.inj hf, ht⟩) (fun _ h => nomatch h) dX7_count_117
                  · rw [if_neg c1_8] at hf
                    refine lv_tableOut (tgt := 118) hx hb dX7_count_1 (sw8 c1_0 c1_1 c1_2 c1_3 c1_4 c1_5 c1_6 c1_7 c1_8) (by decide) ?_
                    refine lv_bipush (v := (-2)) hx hb dX7_count_118 (by decide) ?_
                    exact W.iret hx hb hr (fun t ht hW => ⟨_, rfl, Option.some.inj hf, ht⟩) (fun _ h => nomatch h) dX7_count_120

abbrev wd_X7_crop (cI cZ cP cS : ClassId) (h_t h_t_red h_t_blue h_t_sky h_t_diary h_t_calendar h_t_awakeIn h_t_worths h_t_plants h_t_sheets h_t_bestFrom h_t_red_fitting h_t_red_worstLeft h_t_blue_fitting h_t_blue_worstLeft h_t_p0 h_t_p1 h_t_p2 h_t_p3 h_t_p0_growth h_t_p1_growth h_t_p2_growth h_t_p3_growth : Nat) (v_latestFinding : Int32) (v_turn : Nat → Int32) (v_phase : Nat → Int32) (v_up : Nat → Int32) (v_phours : Nat → Int32) (v_pgrowth : Nat → Nat → Int32) : va_W := [(h_t, .inr (6, [.ref h_t_red, .ref h_t_blue, .ref h_t_sky, .ref h_t_diary, .ref h_t_calendar, .ref h_t_awakeIn, .ref h_t_worths, .ref h_t_plants, .ref h_t_sheets, .ref h_t_bestFrom, .int v_latestFinding])), (h_t_red, .inr (5, [.int (v_turn 0), .int (v_phase 0), .int (v_up 0), .ref h_t_red_fitting, .ref h_t_red_worstLeft])), (h_t_blue, .inr (5, [.int (v_turn 1), .int (v_phase 1), .int (v_up 1), .ref h_t_blue_fitting, .ref h_t_blue_worstLeft])), (h_t_sky, .inr (4, [.ref h_t_red, .ref h_t_blue])), (h_t_plants, .inl (cP, 4, .inr (.inr (.inr (.inr (ar4 h_t_p0 h_t_p1 h_t_p2 h_t_p3)))))), (h_t_p0, .inr (2, [.int (v_phours 0), .ref h_t_p0_growth])), (h_t_p0_growth, .inl (cI, 4, .inl (v_pgrowth 0))), (h_t_p1, .inr (2, [.int (v_phours 1), .ref h_t_p1_growth])), (h_t_p1_growth, .inl (cI, 4, .inl (v_pgrowth 1))), (h_t_p2, .inr (2, [.int (v_phours 2), .ref h_t_p2_growth])), (h_t_p2_growth, .inl (cI, 4, .inl (v_pgrowth 2))), (h_t_p3, .inr (2, [.int (v_phours 3), .ref h_t_p3_growth])), (h_t_p3_growth, .inl (cI, 4, .inl (v_pgrowth 3)))]
abbrev rm_X7_crop : Room := { frames := 3, cells := 0, slots := 0, locals := 67 }
def f_X7_crop (n : Nat) (v_turn : Nat → Int32) (v_phase : Nat → Int32) (v_up : Nat → Int32) (v_phours : Nat → Int32) (v_pgrowth : Nat → Nat → Int32) (x1 : Int32) (x2 : Int32) : Option (Int32) := if x1 = 0 then bd1_ (f_X7_noHour n x2) (fun (r11_2 : Int32) => if r11_2 = 0 then bd1_ (f_X2_yieldFrom n (v_phours 0) (v_pgrowth 0) v_turn v_phase v_up x2) (fun (r28_6 : Int32) => some r28_6) else some (-2)) else if x1 = 1 then bd1_ (f_X7_noHour n x2) (fun (r11_9 : Int32) => if r11_9 = 0 then bd1_ (f_X2_yieldFrom n (v_phours 1) (v_pgrowth 1) v_turn v_phase v_up x2) (fun (r28_13 : Int32) => some r28_13) else some (-2)) else if x1 = 2 then bd1_ (f_X7_noHour n x2) (fun (r11_16 : Int32) => if r11_16 = 0 then bd1_ (f_X2_yieldFrom n (v_phours 2) (v_pgrowth 2) v_turn v_phase v_up x2) (fun (r28_20 : Int32) => some r28_20) else some (-2)) else if x1 = 3 then bd1_ (f_X7_noHour n x2) (fun (r11_23 : Int32) => if r11_23 = 0 then bd1_ (f_X2_yieldFrom n (v_phours 3) (v_pgrowth 3) v_turn v_phase v_up x2) (fun (r28_27 : Int32) => some r28_27) else some (-2)) else some (-2)
set_option maxHeartbeats 4000000 in
set_option maxRecDepth 100000 in
theorem c_X7_crop (l : Launch) (dC : Nat → ClassId) (dI : Nat → Nat → Nat) (cI cZ cP cS : ClassId) (h_t h_t_red h_t_blue h_t_sky h_t_diary h_t_calendar h_t_awakeIn h_t_worths h_t_plants h_t_sheets h_t_bestFrom h_t_red_fitting h_t_red_worstLeft h_t_blue_fitting h_t_blue_worstLeft h_t_p0 h_t_p1 h_t_p2 h_t_p3 h_t_p0_growth h_t_p1_growth h_t_p2_growth h_t_p3_growth : Nat) (v_latestFinding : Int32) (v_turn : Nat → Int32) (v_phase : Nat → Int32) (v_up : Nat → Int32) (v_phours : Nat → Int32) (v_pgrowth : Nat → Nat → Int32) (x1 : Int32) (x2 : Int32) (n : Nat) (r : Int32) (hf : f_X7_crop n v_turn v_phase v_up v_phours v_pgrowth x1 x2 = some r) : Met l yX7_crop wsX7_crop rm_X7_crop (RO (dC, dI) (TY cI cZ cP cS) [.ref h_t, .int x1, .int x2] (wd_X7_crop cI cZ cP cS h_t h_t_red h_t_blue h_t_sky h_t_diary h_t_calendar h_t_awakeIn h_t_worths h_t_plants h_t_sheets h_t_bestFrom h_t_red_fitting h_t_red_worstLeft h_t_blue_fitting h_t_blue_worstLeft h_t_p0 h_t_p1 h_t_p2 h_t_p3 h_t_p0_growth h_t_p1_growth h_t_p2_growth h_t_p3_growth v_latestFinding v_turn v_phase v_up v_phours v_pgrowth)) (vp_Si (fun x => x = r)) 0 0 NF := by
  refine Met.ofW (cc := cX7_crop) (maxL := 4) (ret := (some .int)) (by decide) rfl ?_
  intro p e s m args below meth c s₁ B hml hv
  obtain ⟨rfl, hP, hK⟩ := hv
  have hx := B.exec
  have hb := B.bytes
  have hr := B.returns
  have hts := atoms_spec (ws := wsX7_crop) B.pre
  have hown : s.vm.findClass RX7 = some m.cls := findClass_of_methodNamed B.named
  have hlocks := B.notSynchronized
  have hinX7 : ∀ w ∈ wsX70, w ∈ wsX7_crop := by decide +kernel
  have hl := lv_entry ([.ref h_t, .int x1, .int x2]) (n := 4) (Nat.le_of_ble_eq_true rfl)
  rw [lg_entry_eq]
  generalize (lg_sl ([.ref h_t, .int x1, .int x2]) ++ List.replicate (4 - (lg_sl ([.ref h_t, .int x1, .int x2])).length) Slot.unset).toArray = ls at hl ⊢
  have hl : lv_has ls 4 [(0, .ref h_t), (1, .int x1), (2, .int x2)] := hl
  unfold f_X7_crop at hf
  refine lv_aload_n hx hb dX7_crop_0 rfl (lv_at hl 0 rfl) ?_
  refine lv_iload_n hx hb dX7_crop_1 rfl (lv_at hl 1 rfl) ?_
  refine va_csq (va_runV (As := [.int x1]) (rest := []) ⟨hx, hb, hml, hown, hts⟩ (c_X7_plantOf l dC dI cI cZ cP cS h_t h_t_red h_t_blue h_t_sky h_t_diary h_t_calendar h_t_awakeIn h_t_worths h_t_plants h_t_sheets h_t_bestFrom h_t_p0 h_t_p1 h_t_p2 h_t_p3 v_latestFinding x1) (cwV 1 hts gX7_crop_X7_plantOf rfl rfl rfl (by decide +kernel) ⟨Nat.le_of_ble_eq_true rfl, Nat.le_of_ble_eq_true rfl⟩) (pv_ro (ci := 6) (q0 := 0) hK (hP.sub (ws' := (wd_X7_plantOf cI cZ cP cS h_t h_t_red h_t_blue h_t_sky h_t_diary h_t_calendar h_t_awakeIn h_t_worths h_t_plants h_t_sheets h_t_bestFrom h_t_p0 h_t_p1 h_t_p2 h_t_p3 v_latestFinding)) [0, 4] rfl) rfl rfl) rfl rfl hl.1 rfl (lv_room (Nat.le_of_ble_eq_true rfl)) dX7_crop_2 ⟨Nat.zero_le _, Nat.zero_le _⟩).run (fun x e_1 => ?_)
  by_cases c2_0 : x1 = 0
  · rw [if_pos c2_0] at hf e_1
    subst e_1
    refine W.eq (g2 := F0 m 5 ls [.ref h_t_p0]) rfl ?_
    refine lv_astore_n (lv' := [(3, .ref h_t_p0), (0, .ref h_t), (1, .int x1), (2, .int x2)]) hx hb dX7_crop_5 rfl hl (by decide) rfl (fun ls hl => ?_)
    refine lv_aload_n hx hb dX7_crop_6 rfl (lv_at hl 0 rfl) ?_
    refine lv_ifnull hx hb dX7_crop_7 ?_
    refine lv_iload_n hx hb dX7_crop_10 rfl (lv_at hl 3 rfl) ?_
    obtain ⟨r11_2, hc_3, hf⟩ := bd1_e hf
    refine vp_callSi (va_runS (As := [.int x2]) (rest := []) ⟨hx, hb, hml, hown, hts⟩ (c_X7_noHour l dC dI cI cZ cP cS   x2 n r11_2 hc_3) (va_cwS 1 hts gX7_crop_X7_noHour rfl rfl rfl (by decide +kernel) ⟨Nat.le_of_ble_eq_true rfl, Nat.le_of_ble_eq_true rfl⟩) (ps_ro hK (hP.sub (ws' := ([] : va_W)) [] rfl)) rfl rfl hl.1 rfl (lv_room (Nat.le_of_ble_eq_true rfl)) dX7_crop_11 ⟨Nat.zero_le _, Nat.zero_le _⟩).run (fun x e_4 => ?_)
    obtain ⟨e_4, hb_5⟩ := e_4
    rw [e_4] at hb_5 ⊢
    refine lv_if_eq (tgt := 22) hx hb dX7_crop_14 (by decide) (fun c14 => ?_) (fun c14 => ?_)
    · rw [if_pos c14] at hf
      refine lv_aload_n hx hb dX7_crop_22 rfl (lv_at hl 0 rfl) ?_
      refine lv_aload_n hx hb dX7_crop_23 rfl (lv_at hl 1 rfl) ?_
      refine va_get (D := (dC, dI)) (ci := 6) (v := .ref h_t_sky) (C := RX7) (T := TX7) (N := 11) hx hb hts hinX7 hown hK hP 0 rfl rfl 2 (by decide) (hts (.fieldLink RX7 26 "SecondSunrise" "sky" "LSecondSunrise$Sky;") (by decide +kernel)) (fun _ h9 => h9) rfl dX7_crop_24 ?_
      refine lv_iload_n hx hb dX7_crop_27 rfl (lv_at hl 3 rfl) ?_
      obtain ⟨r28_6, hc_7, hf⟩ := bd1_e hf
      refine vp_callSi (va_runV (As := [.ref h_t_sky, .int x2]) (rest := []) ⟨hx, hb, hml, hown, hts⟩ (c_X2_yieldFrom l dC dI cI cZ cP cS h_t_p0 h_t_p0_growth h_t_sky h_t_red h_t_blue h_t_red_fitting h_t_red_worstLeft h_t_blue_fitting h_t_blue_worstLeft (v_phours 0) (v_pgrowth 0) v_turn v_phase v_up x2 n r28_6 hc_7) (cwV 2 hts gX7_crop_X2_yieldFrom rfl rfl rfl (by decide +kernel) ⟨Nat.le_of_ble_eq_true rfl, Nat.le_of_ble_eq_true rfl⟩) (pv_ro (ci := 2) (q0 := 0) hK (hP.sub (ws' := (wd_X2_yieldFrom cI cZ cP cS h_t_p0 h_t_p0_growth h_t_sky h_t_red h_t_blue h_t_red_fitting h_t_red_worstLeft h_t_blue_fitting h_t_blue_worstLeft (v_phours 0) (v_pgrowth 0) v_turn v_phase v_up)) [5, 6, 3, 1, 2] rfl) rfl rfl) rfl rfl hl.1 rfl (lv_room (Nat.le_of_ble_eq_true rfl)) dX7_crop_28 ⟨Nat.zero_le _, Nat.zero_le _⟩).run (fun x e_8 => ?_)
      rw [e_8]
      exact W.iret hx hb hr (fun t ht hW => ⟨_, rfl, Option.some.inj hf, ht⟩) (fun _ h => nomatch h) dX7_crop_31
    · rw [if_neg c14] at hf
      refine lv_bipush (v := (-2)) hx hb dX7_crop_17 (by decide) ?_
      refine lv_goto (tgt := 31) hx hb dX7_crop_19 (by decide) ?_
      exact W.iret hx hb hr (fun t ht hW => ⟨_, rfl, Option.some.inj hf, ht⟩) (fun _ h => nomatch h) dX7_crop_31
  · rw [if_neg c2_0] at hf e_1
    by_cases c2_1 : x1 = 1
    · rw [if_pos c2_1] at hf e_1
      subst e_1
      refine W.eq (g2 := F0 m 5 ls [.ref h_t_p1]) rfl ?_
      refine lv_astore_n (lv' := [(3, .ref h_t_p1), (0, .ref h_t), (1, .int x1), (2, .int x2)]) hx hb dX7_crop_5 rfl hl (by decide) rfl (fun ls hl => ?_)
      refine lv_aload_n hx hb dX7_crop_6 rfl (lv_at hl 0 rfl) ?_
      refine lv_ifnull hx hb dX7_crop_7 ?_
      refine lv_iload_n hx hb dX7_crop_10 rfl (lv_at hl 3 rfl) ?_
      obtain ⟨r11_9, hc_10, hf⟩ := bd1_e hf
      refine vp_callSi (va_runS (As := [.int x2]) (rest := []) ⟨hx, hb, hml, hown, hts⟩ (c_X7_noHour l dC dI cI cZ cP cS   x2 n r11_9 hc_10) (va_cwS 1 hts gX7_crop_X7_noHour rfl rfl rfl (by decide +kernel) ⟨Nat.le_of_ble_eq_true rfl, Nat.le_of_ble_eq_true rfl⟩) (ps_ro hK (hP.sub (ws' := ([] : va_W)) [] rfl)) rfl rfl hl.1 rfl (lv_room (Nat.le_of_ble_eq_true rfl)) dX7_crop_11 ⟨Nat.zero_le _, Nat.zero_le _⟩).run (fun x e_11 => ?_)
      obtain ⟨e_11, hb_12⟩ := e_11
      rw [e_11] at hb_12 ⊢
      refine lv_if_eq (tgt := 22) hx hb dX7_crop_14 (by decide) (fun c14 => ?_) (fun c14 => ?_)
      · rw [if_pos c14] at hf
        refine lv_aload_n hx hb dX7_crop_22 rfl (lv_at hl 0 rfl) ?_
        refine lv_aload_n hx hb dX7_crop_23 rfl (lv_at hl 1 rfl) ?_
        refine va_get (D := (dC, dI)) (ci := 6) (v := .ref h_t_sky) (C := RX7) (T := TX7) (N := 11) hx hb hts hinX7 hown hK hP 0 rfl rfl 2 (by decide) (hts (.fieldLink RX7 26 "SecondSunrise" "sky" "LSecondSunrise$Sky;") (by decide +kernel)) (fun _ h9 => h9) rfl dX7_crop_24 ?_
        refine lv_iload_n hx hb dX7_crop_27 rfl (lv_at hl 3 rfl) ?_
        obtain ⟨r28_13, hc_14, hf⟩ := bd1_e hf
        refine vp_callSi (va_runV (As := [.ref h_t_sky, .int x2]) (rest := []) ⟨hx, hb, hml, hown, hts⟩ (c_X2_yieldFrom l dC dI cI cZ cP cS h_t_p1 h_t_p1_growth h_t_sky h_t_red h_t_blue h_t_red_fitting h_t_red_worstLeft h_t_blue_fitting h_t_blue_worstLeft (v_phours 1) (v_pgrowth 1) v_turn v_phase v_up x2 n r28_13 hc_14) (cwV 2 hts gX7_crop_X2_yieldFrom rfl rfl rfl (by decide +kernel) ⟨Nat.le_of_ble_eq_true rfl, Nat.le_of_ble_eq_true rfl⟩) (pv_ro (ci := 2) (q0 := 0) hK (hP.sub (ws' := (wd_X2_yieldFrom cI cZ cP cS h_t_p1 h_t_p1_growth h_t_sky h_t_red h_t_blue h_t_red_fitting h_t_red_worstLeft h_t_blue_fitting h_t_blue_worstLeft (v_phours 1) (v_pgrowth 1) v_turn v_phase v_up)) [7, 8, 3, 1, 2] rfl) rfl rfl) rfl rfl hl.1 rfl (lv_room (Nat.le_of_ble_eq_true rfl)) dX7_crop_28 ⟨Nat.zero_le _, Nat.zero_le _⟩).run (fun x e_15 => ?_)
        rw [e_15]
        exact W.iret hx hb hr (fun t ht hW => ⟨_, rfl, Option.some.inj hf, ht⟩) (fun _ h => nomatch h) dX7_crop_31
      · rw [if_neg c14] at hf
        refine lv_bipush (v := (-2)) hx hb dX7_crop_17 (by decide) ?_
        refine lv_goto (tgt := 31) hx hb dX7_crop_19 (by decide) ?_
        exact W.iret hx hb hr (fun t ht hW => ⟨_, rfl, Option.some.inj hf, ht⟩) (fun _ h => nomatch h) dX7_crop_31
    · rw [if_neg c2_1] at hf e_1
      by_cases c2_2 : x1 = 2
      · rw [if_pos c2_2] at hf e_1
        subst e_1
        refine W.eq (g2 := F0 m 5 ls [.ref h_t_p2]) rfl ?_
        refine lv_astore_n (lv' := [(3, .ref h_t_p2), (0, .ref h_t), (1, .int x1), (2, .int x2)]) hx hb dX7_crop_5 rfl hl (by decide) rfl (fun ls hl => ?_)
        refine lv_aload_n hx hb dX7_crop_6 rfl (lv_at hl 0 rfl) ?_
        refine lv_ifnull hx hb dX7_crop_7 ?_
        refine lv_iload_n hx hb dX7_crop_10 rfl (lv_at hl 3 rfl) ?_
        obtain ⟨r11_16, hc_17, hf⟩ := bd1_e hf
        refine vp_callSi (va_runS (As := [.int x2]) (rest := []) ⟨hx, hb, hml, hown, hts⟩ (c_X7_noHour l dC dI cI cZ cP cS   x2 n r11_16 hc_17) (va_cwS 1 hts gX7_crop_X7_noHour rfl rfl rfl (by decide +kernel) ⟨Nat.le_of_ble_eq_true rfl, Nat.le_of_ble_eq_true rfl⟩) (ps_ro hK (hP.sub (ws' := ([] : va_W)) [] rfl)) rfl rfl hl.1 rfl (lv_room (Nat.le_of_ble_eq_true rfl)) dX7_crop_11 ⟨Nat.zero_le _, Nat.zero_le _⟩).run (fun x e_18 => ?_)
        obtain ⟨e_18, hb_19⟩ := e_18
        rw [e_18] at hb_19 ⊢
        refine lv_if_eq (tgt := 22) hx hb dX7_crop_14 (by decide) (fun c14 => ?_) (fun c14 => ?_)
        · rw [if_pos c14] at hf
          refine lv_aload_n hx hb dX7_crop_22 rfl (lv_at hl 0 rfl) ?_
          refine lv_aload_n hx hb dX7_crop_23 rfl (lv_at hl 1 rfl) ?_
          refine va_get (D := (dC, dI)) (ci := 6) (v := .ref h_t_sky) (C := RX7) (T := TX7) (N := 11) hx hb hts hinX7 hown hK hP 0 rfl rfl 2 (by decide) (hts (.fieldLink RX7 26 "SecondSunrise" "sky" "LSecondSunrise$Sky;") (by decide +kernel)) (fun _ h9 => h9) rfl dX7_crop_24 ?_
          refine lv_iload_n hx hb dX7_crop_27 rfl (lv_at hl 3 rfl) ?_
          obtain ⟨r28_20, hc_21, hf⟩ := bd1_e hf
          refine vp_callSi (va_runV (As := [.ref h_t_sky, .int x2]) (rest := []) ⟨hx, hb, hml, hown, hts⟩ (c_X2_yieldFrom l dC dI cI cZ cP cS h_t_p2 h_t_p2_growth h_t_sky h_t_red h_t_blue h_t_red_fitting h_t_red_worstLeft h_t_blue_fitting h_t_blue_worstLeft (v_phours 2) (v_pgrowth 2) v_turn v_phase v_up x2 n r28_20 hc_21) (cwV 2 hts gX7_crop_X2_yieldFrom rfl rfl rfl (by decide +kernel) ⟨Nat.le_of_ble_eq_true rfl, Nat.le_of_ble_eq_true rfl⟩) (pv_ro (ci := 2) (q0 := 0) hK (hP.sub (ws' := (wd_X2_yieldFrom cI cZ cP cS h_t_p2 h_t_p2_growth h_t_sky h_t_red h_t_blue h_t_red_fitting h_t_red_worstLeft h_t_blue_fitting h_t_blue_worstLeft (v_phours 2) (v_pgrowth 2) v_turn v_phase v_up)) [9, 10, 3, 1, 2] rfl) rfl rfl) rfl rfl hl.1 rfl (lv_room (Nat.le_of_ble_eq_true rfl)) dX7_crop_28 ⟨Nat.zero_le _, Nat.zero_le _⟩).run (fun x e_22 => ?_)
          rw [e_22]
          exact W.iret hx hb hr (fun t ht hW => ⟨_, rfl, Option.some.inj hf, ht⟩) (fun _ h => nomatch h) dX7_crop_31
        · rw [if_neg c14] at hf
          refine lv_bipush (v := (-2)) hx hb dX7_crop_17 (by decide) ?_
          refine lv_goto (tgt := 31) hx hb dX7_crop_19 (by decide) ?_
          exact W.iret hx hb hr (fun t ht hW => ⟨_, rfl, Option.some.inj hf, ht⟩) (fun _ h => nomatch h) dX7_crop_31
      · rw [if_neg c2_2] at hf e_1
        by_cases c2_3 : x1 = 3
        · rw [if_pos c2_3] at hf e_1
          subst e_1
          refine W.eq (g2 := F0 m 5 ls [.ref h_t_p3]) rfl ?_
          refine lv_astore_n (lv' := [(3, .ref h_t_p3), (0, .ref h_t), (1, .int x1), (2, .int x2)]) hx hb dX7_crop_5 rfl hl (by decide) rfl (fun ls hl => ?_)
          refine lv_aload_n hx hb dX7_crop_6 rfl (lv_at hl 0 rfl) ?_
          refine lv_ifnull hx hb dX7_crop_7 ?_
          refine lv_iload_n hx hb dX7_crop_10 rfl (lv_at hl 3 rfl) ?_
          obtain ⟨r11_23, hc_24, hf⟩ := bd1_e hf
          refine vp_callSi (va_runS (As := [.int x2]) (rest := []) ⟨hx, hb, hml, hown, hts⟩ (c_X7_noHour l dC dI cI cZ cP cS   x2 n r11_23 hc_24) (va_cwS 1 hts gX7_crop_X7_noHour rfl rfl rfl (by decide +kernel) ⟨Nat.le_of_ble_eq_true rfl, Nat.le_of_ble_eq_true rfl⟩) (ps_ro hK (hP.sub (ws' := ([] : va_W)) [] rfl)) rfl rfl hl.1 rfl (lv_room (Nat.le_of_ble_eq_true rfl)) dX7_crop_11 ⟨Nat.zero_le _, Nat.zero_le _⟩).run (fun x e_25 => ?_)
          obtain ⟨e_25, hb_26⟩ := e_25
          rw [e_25] at hb_26 ⊢
          refine lv_if_eq (tgt := 22) hx hb dX7_crop_14 (by decide) (fun c14 => ?_) (fun c14 => ?_)
          · rw [if_pos c14] at hf
            refine lv_aload_n hx hb dX7_crop_22 rfl (lv_at hl 0 rfl) ?_
            refine lv_aload_n hx hb dX7_crop_23 rfl (lv_at hl 1 rfl) ?_
            refine va_get (D := (dC, dI)) (ci := 6) (v := .ref h_t_sky) (C := RX7) (T := TX7) (N := 11) hx hb hts hinX7 hown hK hP 0 rfl rfl 2 (by decide) (hts (.fieldLink RX7 26 "SecondSunrise" "sky" "LSecondSunrise$Sky;") (by decide +kernel)) (fun _ h9 => h9) rfl dX7_crop_24 ?_
            refine lv_iload_n hx hb dX7_crop_27 rfl (lv_at hl 3 rfl) ?_
            obtain ⟨r28_27, hc_28, hf⟩ := bd1_e hf
            refine vp_callSi (va_runV (As := [.ref h_t_sky, .int x2]) (rest := []) ⟨hx, hb, hml, hown, hts⟩ (c_X2_yieldFrom l dC dI cI cZ cP cS h_t_p3 h_t_p3_growth h_t_sky h_t_red h_t_blue h_t_red_fitting h_t_red_worstLeft h_t_blue_fitting h_t_blue_worstLeft (v_phours 3) (v_pgrowth 3) v_turn v_phase v_up x2 n r28_27 hc_28) (cwV 2 hts gX7_crop_X2_yieldFrom rfl rfl rfl (by decide +kernel) ⟨Nat.le_of_ble_eq_true rfl, Nat.le_of_ble_eq_true rfl⟩) (pv_ro (ci := 2) (q0 := 0) hK (hP.sub (ws' := (wd_X2_yieldFrom cI cZ cP cS h_t_p3 h_t_p3_growth h_t_sky h_t_red h_t_blue h_t_red_fitting h_t_red_worstLeft h_t_blue_fitting h_t_blue_worstLeft (v_phours 3) (v_pgrowth 3) v_turn v_phase v_up)) [11, 12, 3, 1, 2] rfl) rfl rfl) rfl rfl hl.1 rfl (lv_room (Nat.le_of_ble_eq_true rfl)) dX7_crop_28 ⟨Nat.zero_le _, Nat.zero_le _⟩).run (fun x e_29 => ?_)
            rw [e_29]
            exact W.iret hx hb hr (fun t ht hW => ⟨_, rfl, Option.some.inj hf, ht⟩) (fun _ h => nomatch h) dX7_crop_31
          · rw [if_neg c14] at hf
            refine lv_bipush (v := (-2)) hx hb dX7_crop_17 (by decide) ?_
            refine lv_goto (tgt := 31) hx hb dX7_crop_19 (by decide) ?_
            exact W.iret hx hb hr (fun t ht hW => ⟨_, rfl, Option.some.inj hf, ht⟩) (fun _ h => nomatch h) dX7_crop_31
        · rw [if_neg c2_3] at hf e_1
          subst e_1
          refine W.eq (g2 := F0 m 5 ls [.null]) rfl ?_
          refine lv_astore_nN (lv' := [(3, .null), (0, .ref h_t), (1, .int x1), (2, .int x2)]) hx hb dX7_crop_5 rfl hl (by decide) rfl (fun ls hl => ?_)
          refine lv_aload_nN hx hb dX7_crop_6 rfl (lv_at hl 0 rfl) ?_
          refine lv_ifnullN (tgt := 17) hx hb dX7_crop_7 (by decide) ?_
          refine lv_bipush (v := (-2)) hx hb dX7_crop_17 (by decide) ?_
          refine lv_goto (tgt := 31) hx hb dX7_crop_19 (by decide) ?_
          exact W.iret hx hb hr (fun t ht hW => ⟨_, rfl, Option.some.inj hf, ht⟩) (fun _ h => nomatch h) dX7_crop_31

abbrev wd_X7_dials (cI cZ cP cS : ClassId) (h_t h_t_red h_t_blue h_t_sky h_t_diary h_t_calendar h_t_awakeIn h_t_worths h_t_plants h_t_sheets h_t_bestFrom h_t_red_fitting h_t_red_worstLeft h_t_blue_fitting h_t_blue_worstLeft : Nat) (v_latestFinding : Int32) (v_turn : Nat → Int32) (v_phase : Nat → Int32) (v_up : Nat → Int32) : va_W := [(h_t, .inr (6, [.ref h_t_red, .ref h_t_blue, .ref h_t_sky, .ref h_t_diary, .ref h_t_calendar, .ref h_t_awakeIn, .ref h_t_worths, .ref h_t_plants, .ref h_t_sheets, .ref h_t_bestFrom, .int v_latestFinding])), (h_t_red, .inr (5, [.int (v_turn 0), .int (v_phase 0), .int (v_up 0), .ref h_t_red_fitting, .ref h_t_red_worstLeft])), (h_t_blue, .inr (5, [.int (v_turn 1), .int (v_phase 1), .int (v_up 1), .ref h_t_blue_fitting, .ref h_t_blue_worstLeft])), (h_t_sky, .inr (4, [.ref h_t_red, .ref h_t_blue]))]
abbrev rm_X7_dials : Room := { frames := 4, cells := 0, slots := 0, locals := 91 }
def f_X7_dials (n : Nat) (v_turn : Nat → Int32) (v_phase : Nat → Int32) (v_up : Nat → Int32) (x1 : Int32) (x2 : Int32) (x3 : Int32) : Option (Int32) := bd1_ (f_X7_outside n x1 (-1) 39) (fun (r4_1 : Int32) => if r4_1 = 0 then bd1_ (f_X7_outside n x2 (-1) 39) (fun (r14_5 : Int32) => if r14_5 = 0 then bd1_ (f_X7_outside n x3 0 1) (fun (r23_9 : Int32) => if r23_9 = 0 then if x3 = 0 then bd1_ (f_X4_hoursByDials n v_turn v_phase v_up x1 x2) (fun (r42_16 : Int32) => some r42_16) else bd1_ (f_X4_firstByDials n v_turn v_phase v_up x1 x2) (fun (r54_13 : Int32) => some r54_13) else some (-2)) else some (-2)) else some (-2))
set_option maxHeartbeats 4000000 in
set_option maxRecDepth 100000 in
theorem c_X7_dials (l : Launch) (dC : Nat → ClassId) (dI : Nat → Nat → Nat) (cI cZ cP cS : ClassId) (h_t h_t_red h_t_blue h_t_sky h_t_diary h_t_calendar h_t_awakeIn h_t_worths h_t_plants h_t_sheets h_t_bestFrom h_t_red_fitting h_t_red_worstLeft h_t_blue_fitting h_t_blue_worstLeft : Nat) (v_latestFinding : Int32) (v_turn : Nat → Int32) (v_phase : Nat → Int32) (v_up : Nat → Int32) (x1 : Int32) (x2 : Int32) (x3 : Int32) (n : Nat) (r : Int32) (hf : f_X7_dials n v_turn v_phase v_up x1 x2 x3 = some r) : Met l yX7_dials wsX7_dials rm_X7_dials (RO (dC, dI) (TY cI cZ cP cS) [.ref h_t, .int x1, .int x2, .int x3] (wd_X7_dials cI cZ cP cS h_t h_t_red h_t_blue h_t_sky h_t_diary h_t_calendar h_t_awakeIn h_t_worths h_t_plants h_t_sheets h_t_bestFrom h_t_red_fitting h_t_red_worstLeft h_t_blue_fitting h_t_blue_worstLeft v_latestFinding v_turn v_phase v_up)) (vp_Si (fun x => x = r)) 0 0 NF := by
  refine Met.ofW (cc := cX7_dials) (maxL := 4) (ret := (some .int)) (by decide) rfl ?_
  intro p e s m args below meth c s₁ B hml hv
  obtain ⟨rfl, hP, hK⟩ := hv
  have hx := B.exec
  have hb := B.bytes
  have hr := B.returns
  have hts := atoms_spec (ws := wsX7_dials) B.pre
  have hown : s.vm.findClass RX7 = some m.cls := findClass_of_methodNamed B.named
  have hlocks := B.notSynchronized
  have hinX7 : ∀ w ∈ wsX70, w ∈ wsX7_dials := by decide +kernel
  have hl := lv_entry ([.ref h_t, .int x1, .int x2, .int x3]) (n := 4) (Nat.le_of_ble_eq_true rfl)
  rw [lg_entry_eq]
  generalize (lg_sl ([.ref h_t, .int x1, .int x2, .int x3]) ++ List.replicate (4 - (lg_sl ([.ref h_t, .int x1, .int x2, .int x3])).length) Slot.unset).toArray = ls at hl ⊢
  have hl : lv_has ls 4 [(0, .ref h_t), (1, .int x1), (2, .int x2), (3, .int x3)] := hl
  unfold f_X7_dials at hf
  refine lv_iload_n hx hb dX7_dials_0 rfl (lv_at hl 1 rfl) ?_
  refine lv_iconst (v := (-1)) hx hb dX7_dials_1 (by decide) ?_
  refine lv_bipush (v := 39) hx hb dX7_dials_2 (by decide) ?_
  obtain ⟨r4_1, hc_2, hf⟩ := bd1_e hf
  refine vp_callSi (va_runS (As := [.int x1, .int (-1), .int 39]) (rest := []) ⟨hx, hb, hml, hown, hts⟩ (c_X7_outside l dC dI cI cZ cP cS   x1 (-1) 39 n r4_1 hc_2) (va_cwS 3 hts gX7_dials_X7_outside rfl rfl rfl (by decide +kernel) ⟨Nat.le_of_ble_eq_true rfl, Nat.le_of_ble_eq_true rfl⟩) (ps_ro hK (hP.sub (ws' := ([] : va_W)) [] rfl)) rfl rfl hl.1 rfl (lv_room (Nat.le_of_ble_eq_true rfl)) dX7_dials_4 ⟨Nat.zero_le _, Nat.zero_le _⟩).run (fun x e_3 => ?_)
  obtain ⟨e_3, hb_4⟩ := e_3
  rw [e_3] at hb_4 ⊢
  refine lv_if_ne (tgt := 29) hx hb dX7_dials_7 (by decide) (fun c7 => ?_) (fun c7 => ?_)
  · rw [if_neg c7] at hf
    refine lv_bipush (v := (-2)) hx hb dX7_dials_29 (by decide) ?_
    exact W.iret hx hb hr (fun t ht hW => ⟨_, rfl, Option.some.inj hf, ht⟩) (fun _ h => nomatch h) dX7_dials_31
  · rw [if_pos c7] at hf
    refine lv_iload_n hx hb dX7_dials_10 rfl (lv_at hl 2 rfl) ?_
    refine lv_iconst (v := (-1)) hx hb dX7_dials_11 (by decide) ?_
    refine lv_bipush (v := 39) hx hb dX7_dials_12 (by decide) ?_
    obtain ⟨r14_5, hc_6, hf⟩ := bd1_e hf
    refine vp_callSi (va_runS (As := [.int x2, .int (-1), .int 39]) (rest := []) ⟨hx, hb, hml, hown, hts⟩ (c_X7_outside l dC dI cI cZ cP cS   x2 (-1) 39 n r14_5 hc_6) (va_cwS 3 hts gX7_dials_X7_outside rfl rfl rfl (by decide +kernel) ⟨Nat.le_of_ble_eq_true rfl, Nat.le_of_ble_eq_true rfl⟩) (ps_ro hK (hP.sub (ws' := ([] : va_W)) [] rfl)) rfl rfl hl.1 rfl (lv_room (Nat.le_of_ble_eq_true rfl)) dX7_dials_14 ⟨Nat.zero_le _, Nat.zero_le _⟩).run (fun x e_7 => ?_)
    obtain ⟨e_7, hb_8⟩ := e_7
    rw [e_7] at hb_8 ⊢
    refine lv_if_ne (tgt := 29) hx hb dX7_dials_17 (by decide) (fun c17 => ?_) (fun c17 => ?_)
    · rw [if_neg c17] at hf
      refine lv_bipush (v := (-2)) hx hb dX7_dials_29 (by decide) ?_
      exact W.iret hx hb hr (fun t ht hW => ⟨_, rfl, Option.some.inj hf, ht⟩) (fun _ h => nomatch h) dX7_dials_31
    · rw [if_pos c17] at hf
      refine lv_iload_n hx hb dX7_dials_20 rfl (lv_at hl 3 rfl) ?_
      refine lv_iconst (v := 0) hx hb dX7_dials_21 (by decide) ?_
      refine lv_iconst (v := 1) hx hb dX7_dials_22 (by decide) ?_
      obtain ⟨r23_9, hc_10, hf⟩ := bd1_e hf
      refine vp_callSi (va_runS (As := [.int x3, .int 0, .int 1]) (rest := []) ⟨hx, hb, hml, hown, hts⟩ (c_X7_outside l dC dI cI cZ cP cS   x3 0 1 n r23_9 hc_10) (va_cwS 3 hts gX7_dials_X7_outside rfl rfl rfl (by decide +kernel) ⟨Nat.le_of_ble_eq_true rfl, Nat.le_of_ble_eq_true rfl⟩) (ps_ro hK (hP.sub (ws' := ([] : va_W)) [] rfl)) rfl rfl hl.1 rfl (lv_room (Nat.le_of_ble_eq_true rfl)) dX7_dials_23 ⟨Nat.zero_le _, Nat.zero_le _⟩).run (fun x e_11 => ?_)
      obtain ⟨e_11, hb_12⟩ := e_11
      rw [e_11] at hb_12 ⊢
      refine lv_if_eq (tgt := 32) hx hb dX7_dials_26 (by decide) (fun c26 => ?_) (fun c26 => ?_)
      · rw [if_pos c26] at hf
        refine lv_iload_n hx hb dX7_dials_32 rfl (lv_at hl 3 rfl) ?_
        refine lv_if_ne (tgt := 48) hx hb dX7_dials_33 (by decide) (fun c33 => ?_) (fun c33 => ?_)
        · rw [if_neg c33] at hf
          refine lv_aload_n hx hb dX7_dials_48 rfl (lv_at hl 0 rfl) ?_
          refine va_get (D := (dC, dI)) (ci := 6) (v := .ref h_t_sky) (C := RX7) (T := TX7) (N := 11) hx hb hts hinX7 hown hK hP 0 rfl rfl 2 (by decide) (hts (.fieldLink RX7 26 "SecondSunrise" "sky" "LSecondSunrise$Sky;") (by decide +kernel)) (fun _ h9 => h9) rfl dX7_dials_49 ?_
          refine lv_iload_n hx hb dX7_dials_52 rfl (lv_at hl 1 rfl) ?_
          refine lv_iload_n hx hb dX7_dials_53 rfl (lv_at hl 2 rfl) ?_
          obtain ⟨r54_13, hc_14, hf⟩ := bd1_e hf
          refine vp_callSi (va_runV (As := [.int x1, .int x2]) (rest := []) ⟨hx, hb, hml, hown, hts⟩ (c_X4_firstByDials l dC dI cI cZ cP cS h_t_sky h_t_red h_t_blue h_t_red_fitting h_t_red_worstLeft h_t_blue_fitting h_t_blue_worstLeft v_turn v_phase v_up x1 x2 n r54_13 hc_14) (cwV 2 hts gX7_dials_X4_firstByDials rfl rfl rfl (by decide +kernel) ⟨Nat.le_of_ble_eq_true rfl, Nat.le_of_ble_eq_true rfl⟩) (pv_ro (ci := 4) (q0 := 0) hK (hP.sub (ws' := (wd_X4_firstByDials cI cZ cP cS h_t_sky h_t_red h_t_blue h_t_red_fitting h_t_red_worstLeft h_t_blue_fitting h_t_blue_worstLeft v_turn v_phase v_up)) [3, 1, 2] rfl) rfl rfl) rfl rfl hl.1 rfl (lv_room (Nat.le_of_ble_eq_true rfl)) dX7_dials_54 ⟨Nat.zero_le _, Nat.zero_le _⟩).run (fun x e_15 => ?_)
          rw [e_15]
          exact W.iret hx hb hr (fun t ht hW => ⟨_, rfl, Option.some.inj hf, ht⟩) (fun _ h => nomatch h) dX7_dials_57
        · rw [if_pos c33] at hf
          refine lv_aload_n hx hb dX7_dials_36 rfl (lv_at hl 0 rfl) ?_
          refine va_get (D := (dC, dI)) (ci := 6) (v := .ref h_t_sky) (C := RX7) (T := TX7) (N := 11) hx hb hts hinX7 hown hK hP 0 rfl rfl 2 (by decide) (hts (.fieldLink RX7 26 "SecondSunrise" "sky" "LSecondSunrise$Sky;") (by decide +kernel)) (fun _ h9 => h9) rfl dX7_dials_37 ?_
          refine lv_iload_n hx hb dX7_dials_40 rfl (lv_at hl 1 rfl) ?_
          refine lv_iload_n hx hb dX7_dials_41 rfl (lv_at hl 2 rfl) ?_
          obtain ⟨r42_16, hc_17, hf⟩ := bd1_e hf
          refine vp_callSi (va_runV (As := [.int x1, .int x2]) (rest := []) ⟨hx, hb, hml, hown, hts⟩ (c_X4_hoursByDials l dC dI cI cZ cP cS h_t_sky h_t_red h_t_blue h_t_red_fitting h_t_red_worstLeft h_t_blue_fitting h_t_blue_worstLeft v_turn v_phase v_up x1 x2 n r42_16 hc_17) (cwV 2 hts gX7_dials_X4_hoursByDials rfl rfl rfl (by decide +kernel) ⟨Nat.le_of_ble_eq_true rfl, Nat.le_of_ble_eq_true rfl⟩) (pv_ro (ci := 4) (q0 := 0) hK (hP.sub (ws' := (wd_X4_hoursByDials cI cZ cP cS h_t_sky h_t_red h_t_blue h_t_red_fitting h_t_red_worstLeft h_t_blue_fitting h_t_blue_worstLeft v_turn v_phase v_up)) [3, 1, 2] rfl) rfl rfl) rfl rfl hl.1 rfl (lv_room (Nat.le_of_ble_eq_true rfl)) dX7_dials_42 ⟨Nat.zero_le _, Nat.zero_le _⟩).run (fun x e_18 => ?_)
          rw [e_18]
          refine lv_goto (tgt := 57) hx hb dX7_dials_45 (by decide) ?_
          exact W.iret hx hb hr (fun t ht hW => ⟨_, rfl, Option.some.inj hf, ht⟩) (fun _ h => nomatch h) dX7_dials_57
      · rw [if_neg c26] at hf
        refine lv_bipush (v := (-2)) hx hb dX7_dials_29 (by decide) ?_
        exact W.iret hx hb hr (fun t ht hW => ⟨_, rfl, Option.some.inj hf, ht⟩) (fun _ h => nomatch h) dX7_dials_31

abbrev wd_X7_fault (cI cZ cP cS : ClassId) (h_t h_t_red h_t_blue h_t_sky h_t_diary h_t_calendar h_t_awakeIn h_t_worths h_t_plants h_t_sheets h_t_bestFrom h_t_diary_bytes h_t_calendar_bytes : Nat) (v_latestFinding : Int32) (v_dsize : Int32) (v_dbytes : Nat → Int32) (v_csize : Int32) (v_cbytes : Nat → Int32) : va_W := [(h_t, .inr (6, [.ref h_t_red, .ref h_t_blue, .ref h_t_sky, .ref h_t_diary, .ref h_t_calendar, .ref h_t_awakeIn, .ref h_t_worths, .ref h_t_plants, .ref h_t_sheets, .ref h_t_bestFrom, .int v_latestFinding])), (h_t_diary, .inr (1, [.ref h_t_diary_bytes, .int v_dsize])), (h_t_diary_bytes, .inl (cI, 60, .inl v_dbytes)), (h_t_calendar, .inr (0, [.ref h_t_calendar_bytes, .int v_csize])), (h_t_calendar_bytes, .inl (cI, 20, .inl v_cbytes))]
abbrev rm_X7_fault : Room := { frames := 3, cells := 0, slots := 0, locals := 64 }
def f_X7_fault (n : Nat) (v_dsize : Int32) (v_dbytes : Nat → Int32) (v_csize : Int32) (v_cbytes : Nat → Int32) (x1 : Int32) : Option (Int32) := if x1 = 0 then bd1_ (f_X1_firstFault n v_dsize v_dbytes) (fun (r16_2 : Int32) => some r16_2) else if x1 = 1 then bd1_ (f_X0_firstFault n v_csize v_cbytes) (fun (r16_5 : Int32) => some r16_5) else some (-2)
set_option maxHeartbeats 4000000 in
set_option maxRecDepth 100000 in
theorem c_X7_fault (l : Launch) (dC : Nat → ClassId) (dI : Nat → Nat → Nat) (cI cZ cP cS : ClassId) (h_t h_t_red h_t_blue h_t_sky h_t_diary h_t_calendar h_t_awakeIn h_t_worths h_t_plants h_t_sheets h_t_bestFrom h_t_diary_bytes h_t_calendar_bytes : Nat) (v_latestFinding : Int32) (v_dsize : Int32) (v_dbytes : Nat → Int32) (v_csize : Int32) (v_cbytes : Nat → Int32) (x1 : Int32) (n : Nat) (r : Int32) (hf : f_X7_fault n v_dsize v_dbytes v_csize v_cbytes x1 = some r) : Met l yX7_fault wsX7_fault rm_X7_fault (ROn (dC, dI) (TY cI cZ cP cS) [.ref h_t, .int x1] (wd_X7_fault cI cZ cP cS h_t h_t_red h_t_blue h_t_sky h_t_diary h_t_calendar h_t_awakeIn h_t_worths h_t_plants h_t_sheets h_t_bestFrom h_t_diary_bytes h_t_calendar_bytes v_latestFinding v_dsize v_dbytes v_csize v_cbytes)) (vp_Si (fun x => x = r)) 0 0 NF := by
  refine Met.ofW (cc := cX7_fault) (maxL := 3) (ret := (some .int)) (by decide) rfl ?_
  intro p e s m args below meth c s₁ B hml hv
  obtain ⟨rfl, hP, hK, hN⟩ := hv
  have hx := B.exec
  have hb := B.bytes
  have hr := B.returns
  have hts := atoms_spec (ws := wsX7_fault) B.pre
  have hown : s.vm.findClass RX7 = some m.cls := findClass_of_methodNamed B.named
  have hlocks := B.notSynchronized
  have hl := lv_entry ([.ref h_t, .int x1]) (n := 3) (Nat.le_of_ble_eq_true rfl)
  rw [lg_entry_eq]
  generalize (lg_sl ([.ref h_t, .int x1]) ++ List.replicate (3 - (lg_sl ([.ref h_t, .int x1])).length) Slot.unset).toArray = ls at hl ⊢
  have hl : lv_has ls 3 [(0, .ref h_t), (1, .int x1)] := hl
  unfold f_X7_fault at hf
  refine lv_aload_n hx hb dX7_fault_0 rfl (lv_at hl 0 rfl) ?_
  refine lv_iload_n hx hb dX7_fault_1 rfl (lv_at hl 1 rfl) ?_
  refine va_csq (va_runV (As := [.int x1]) (rest := []) ⟨hx, hb, hml, hown, hts⟩ (c_X7_textOf l dC dI cI cZ cP cS h_t h_t_red h_t_blue h_t_sky h_t_diary h_t_calendar h_t_awakeIn h_t_worths h_t_plants h_t_sheets h_t_bestFrom v_latestFinding x1) (cwV 1 hts gX7_fault_X7_textOf rfl rfl rfl (by decide +kernel) ⟨Nat.le_of_ble_eq_true rfl, Nat.le_of_ble_eq_true rfl⟩) (pv_ro (ci := 6) (q0 := 0) hK (hP.sub (ws' := (wd_X7_textOf cI cZ cP cS h_t h_t_red h_t_blue h_t_sky h_t_diary h_t_calendar h_t_awakeIn h_t_worths h_t_plants h_t_sheets h_t_bestFrom v_latestFinding)) [0] rfl) rfl rfl) rfl rfl hl.1 rfl (lv_room (Nat.le_of_ble_eq_true rfl)) dX7_fault_2 ⟨Nat.zero_le _, Nat.zero_le _⟩).run (fun x e_1 => ?_)
  by_cases c2_0 : x1 = 0
  · rw [if_pos c2_0] at hf e_1
    subst e_1
    refine W.eq (g2 := F0 m 5 ls [.ref h_t_diary]) rfl ?_
    refine lv_astore_n (lv' := [(2, .ref h_t_diary), (0, .ref h_t), (1, .int x1)]) hx hb dX7_fault_5 rfl hl (by decide) rfl (fun ls hl => ?_)
    refine lv_aload_n hx hb dX7_fault_6 rfl (lv_at hl 0 rfl) ?_
    refine lv_ifnonnull (tgt := 15) hx hb dX7_fault_7 (by decide) ?_
    refine lv_aload_n hx hb dX7_fault_15 rfl (lv_at hl 0 rfl) ?_
    obtain ⟨r16_2, hc_3, hf⟩ := bd1_e hf
    refine vp_callSi (va_runU (As := []) (rest := []) ⟨hx, hb, hml, hown, hts⟩ (c_X1_firstFault l dC dI cI cZ cP cS h_t_diary h_t_diary_bytes v_dsize v_dbytes  n r16_2 hc_3) (va_cwA 0 hts gX7_fault_X1_firstFault_u106X1 rfl rfl rfl hN (by decide +kernel) ⟨Nat.le_of_ble_eq_true rfl, Nat.le_of_ble_eq_true rfl⟩) (pv_ro (ci := 1) (q0 := 0) hK (hP.sub (ws' := (wd_X1_firstFault cI cZ cP cS h_t_diary h_t_diary_bytes v_dsize v_dbytes)) [1, 2] rfl) rfl rfl) rfl rfl hl.1 rfl (lv_room (Nat.le_of_ble_eq_true rfl)) dX7_fault_16 ⟨Nat.zero_le _, Nat.zero_le _⟩).run (fun x e_4 => ?_)
    rw [e_4]
    exact W.iret hx hb hr (fun t ht hW => ⟨_, rfl, Option.some.inj hf, ht⟩) (fun _ h => nomatch h) dX7_fault_19
  · rw [if_neg c2_0] at hf e_1
    by_cases c2_1 : x1 = 1
    · rw [if_pos c2_1] at hf e_1
      subst e_1
      refine W.eq (g2 := F0 m 5 ls [.ref h_t_calendar]) rfl ?_
      refine lv_astore_n (lv' := [(2, .ref h_t_calendar), (0, .ref h_t), (1, .int x1)]) hx hb dX7_fault_5 rfl hl (by decide) rfl (fun ls hl => ?_)
      refine lv_aload_n hx hb dX7_fault_6 rfl (lv_at hl 0 rfl) ?_
      refine lv_ifnonnull (tgt := 15) hx hb dX7_fault_7 (by decide) ?_
      refine lv_aload_n hx hb dX7_fault_15 rfl (lv_at hl 0 rfl) ?_
      obtain ⟨r16_5, hc_6, hf⟩ := bd1_e hf
      refine vp_callSi (va_runU (As := []) (rest := []) ⟨hx, hb, hml, hown, hts⟩ (c_X0_firstFault l dC dI cI cZ cP cS h_t_calendar h_t_calendar_bytes v_csize v_cbytes  n r16_5 hc_6) (va_cwA 0 hts gX7_fault_X0_firstFault_u106X0 rfl rfl rfl hN (by decide +kernel) ⟨Nat.le_of_ble_eq_true rfl, Nat.le_of_ble_eq_true rfl⟩) (pv_ro (ci := 0) (q0 := 0) hK (hP.sub (ws' := (wd_X0_firstFault cI cZ cP cS h_t_calendar h_t_calendar_bytes v_csize v_cbytes)) [3, 4] rfl) rfl rfl) rfl rfl hl.1 rfl (lv_room (Nat.le_of_ble_eq_true rfl)) dX7_fault_16 ⟨Nat.zero_le _, Nat.zero_le _⟩).run (fun x e_7 => ?_)
      rw [e_7]
      exact W.iret hx hb hr (fun t ht hW => ⟨_, rfl, Option.some.inj hf, ht⟩) (fun _ h => nomatch h) dX7_fault_19
    · rw [if_neg c2_1] at hf e_1
      subst e_1
      refine W.eq (g2 := F0 m 5 ls [.null]) rfl ?_
      refine lv_astore_nN (lv' := [(2, .null), (0, .ref h_t), (1, .int x1)]) hx hb dX7_fault_5 rfl hl (by decide) rfl (fun ls hl => ?_)
      refine lv_aload_nN hx hb dX7_fault_6 rfl (lv_at hl 0 rfl) ?_
      refine lv_ifnonnullN hx hb dX7_fault_7 ?_
      refine lv_bipush (v := (-2)) hx hb dX7_fault_10 (by decide) ?_
      refine lv_goto (tgt := 19) hx hb dX7_fault_12 (by decide) ?_
      exact W.iret hx hb hr (fun t ht hW => ⟨_, rfl, Option.some.inj hf, ht⟩) (fun _ h => nomatch h) dX7_fault_19
