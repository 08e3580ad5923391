abbrev rm_X0_isFigure : Room := { frames := 0, cells := 0, slots := 0, locals := 0 }
def f_X0_isFigure (n : Nat) (x0 : Int32) : Option (Int32) := jn0_ (some 0) (fun k16 => if x0 < 48 then k16 else if (57 : Int32) < x0 then k16 else some 1)
set_option maxHeartbeats 4000000 in
set_option maxRecDepth 100000 in
theorem c_X0_isFigure (l : Launch) (dC : Nat → ClassId) (dI : Nat → Nat → Nat) (cI cZ cP cS : ClassId) (x0 : Int32) (n : Nat) (r : Int32) (hf : f_X0_isFigure n x0 = some r) : Met l yX0_isFigure wsX0_isFigure rm_X0_isFigure (RO (dC, dI) (TY cI cZ cP cS) [.int x0] ([] : va_W)) (vp_Si (fun x => x = r ∧ narrow .boolean (.int x) = .int x)) 0 0 NF := by
  refine Met.ofW (cc := cX0_isFigure) (maxL := 1) (ret := (some .boolean)) (by decide) rfl ?_
  intro p e s m args below meth c s₁ B hml hv
  obtain ⟨rfl, hP, hK⟩ := hv
  have hx := B.exec
  have hb := B.bytes
  have hr := B.returns
  have hts := atoms_spec (ws := wsX0_isFigure) B.pre
  have hown : s.vm.findClass RX0 = some m.cls := findClass_of_methodNamed B.named
  have hlocks := B.notSynchronized
  have hl := lv_entry ([.int x0]) (n := 1) (Nat.le_of_ble_eq_true rfl)
  rw [lg_entry_eq]
  generalize (lg_sl ([.int x0]) ++ List.replicate (1 - (lg_sl ([.int x0])).length) Slot.unset).toArray = ls at hl ⊢
  have hl : lv_has ls 1 [(0, .int x0)] := hl
  unfold f_X0_isFigure at hf
  refine lv_iload_n hx hb dX0_isFigure_0 rfl (lv_at hl 0 rfl) ?_
  refine lv_bipush (v := 48) hx hb dX0_isFigure_1 (by decide) ?_
  obtain ⟨k16, ek16, hf⟩ := jn0_e hf
  have hj16 : ∀ (ls : Array Slot), lv_has ls 1 [] → k16 = some r → W p l e (headSpec wsX0_isFigure rm_X0_isFigure).room s m ([.int x0] : List Value).toArray below meth c s.heap [] 0 0 (MQ below (vp_Si (fun x => x = r ∧ narrow .boolean (.int x) = .int x)) ([.int x0] : List Value).toArray s 0 0 NF) (F0 m 16 ls []) := by
    intro ls hl hf
    rw [ek16] at hf
    refine lv_iconst (v := 0) hx hb dX0_isFigure_16 (by decide) ?_
    exact W.zret hx hb hr (by decide) (fun t ht hW => ⟨_, rfl, ⟨Option.some.inj hf, (by decide)⟩, ht⟩) (fun _ h => nomatch h) dX0_isFigure_17
  refine lv_icmp_lt (tgt := 16) hx hb dX0_isFigure_3 (by decide) (fun c3 => ?_) (fun c3 => ?_)
  · rw [if_pos c3] at hf
    exact hj16 ls (lv_sub hl [] rfl) hf
  · rw [if_neg c3] at hf
    refine lv_iload_n hx hb dX0_isFigure_6 rfl (lv_at hl 0 rfl) ?_
    refine lv_bipush (v := 57) hx hb dX0_isFigure_7 (by decide) ?_
    refine lv_icmp_gt (tgt := 16) hx hb dX0_isFigure_9 (by decide) (fun c9 => ?_) (fun c9 => ?_)
    · rw [if_pos c9] at hf
      exact hj16 ls (lv_sub hl [] rfl) hf
    · rw [if_neg c9] at hf
      refine lv_iconst (v := 1) hx hb dX0_isFigure_12 (by decide) ?_
      refine lv_goto (tgt := 17) hx hb dX0_isFigure_13 (by decide) ?_
      exact W.zret hx hb hr (by decide) (fun t ht hW => ⟨_, rfl, ⟨Option.some.inj hf, (by decide)⟩, ht⟩) (fun _ h => nomatch h) dX0_isFigure_17

abbrev wd_X6_byteAt_C (cI cZ cP cS : ClassId) (h_t h_t_bytes : Nat) (v_size : Int32) (v_bytes : Nat → Int32) : va_W := [(h_t, .inr (0, [.ref h_t_bytes, .int v_size])), (h_t_bytes, .inl (cI, 20, .inl v_bytes))]
abbrev rm_X6_byteAt_C : Room := { frames := 0, cells := 0, slots := 0, locals := 0 }
def f_X6_byteAt_C (n : Nat) (v_size : Int32) (v_bytes : Nat → Int32) (x1 : Int32) : Option (Int32) := jn0_ (some (-1)) (fun k21 => if x1 < 0 then k21 else if v_size ≤ x1 then k21 else if x1 < 20 then ix_ x1 20 (some (v_bytes x1.toNatClampNeg)) else k21)
set_option maxHeartbeats 4000000 in
set_option maxRecDepth 100000 in
theorem c_X6_byteAt_C (l : Launch) (dC : Nat → ClassId) (dI : Nat → Nat → Nat) (cI cZ cP cS : ClassId) (h_t h_t_bytes : Nat) (v_size : Int32) (v_bytes : Nat → Int32) (x1 : Int32) (n : Nat) (r : Int32) (hf : f_X6_byteAt_C n v_size v_bytes x1 = some r) : Met l yX6_byteAt wsX6_byteAt rm_X6_byteAt_C (RO (dC, dI) (TY cI cZ cP cS) [.ref h_t, .int x1] (wd_X6_byteAt_C cI cZ cP cS h_t h_t_bytes v_size v_bytes)) (vp_Si (fun x => x = r)) 0 0 NF := by
  refine Met.ofW (cc := cX6_byteAt) (maxL := 2) (ret := (some .int)) (by decide) rfl ?_
  intro p e s m args below meth c s₁ B hml hv
  obtain ⟨rfl, hP, hK⟩ := hv
  have hx := B.exec
  have hb := B.bytes
  have hr := B.returns
  have hts := atoms_spec (ws := wsX6_byteAt) B.pre
  have hown : s.vm.findClass RX6 = some m.cls := findClass_of_methodNamed B.named
  have hlocks := B.notSynchronized
  have hinX0 : ∀ w ∈ wsX00, w ∈ wsX6_byteAt := by decide +kernel
  have hl := lv_entry ([.ref h_t, .int x1]) (n := 2) (Nat.le_of_ble_eq_true rfl)
  rw [lg_entry_eq]
  generalize (lg_sl ([.ref h_t, .int x1]) ++ List.replicate (2 - (lg_sl ([.ref h_t, .int x1])).length) Slot.unset).toArray = ls at hl ⊢
  have hl : lv_has ls 2 [(0, .ref h_t), (1, .int x1)] := hl
  unfold f_X6_byteAt_C at hf
  refine lv_iload_n hx hb dX6_byteAt_0 rfl (lv_at hl 1 rfl) ?_
  obtain ⟨k21, ek21, hf⟩ := jn0_e hf
  have hj21 : ∀ (ls : Array Slot), lv_has ls 2 [] → k21 = some r → W p l e (headSpec wsX6_byteAt rm_X6_byteAt_C).room s m ([.ref h_t, .int x1] : List Value).toArray below meth c s.heap [] 0 0 (MQ below (vp_Si (fun x => x = r)) ([.ref h_t, .int x1] : List Value).toArray s 0 0 NF) (F0 m 21 ls []) := by
    intro ls hl hf
    rw [ek21] at hf
    refine lv_iconst (v := (-1)) hx hb dX6_byteAt_21 (by decide) ?_
    refine lv_goto (tgt := 31) hx hb dX6_byteAt_22 (by decide) ?_
    exact W.iret hx hb hr (fun t ht hW => ⟨_, rfl, Option.some.inj hf, ht⟩) (fun _ h => nomatch h) dX6_byteAt_31
  refine lv_if_lt (tgt := 21) hx hb dX6_byteAt_1 (by decide) (fun c1 => ?_) (fun c1 => ?_)
  · rw [if_pos c1] at hf
    exact hj21 ls (lv_sub hl [] rfl) hf
  · rw [if_neg c1] at hf
    refine lv_iload_n hx hb dX6_byteAt_4 rfl (lv_at hl 1 rfl) ?_
    refine lv_aload_n hx hb dX6_byteAt_5 rfl (lv_at hl 0 rfl) ?_
    refine va_get (D := (dC, dI)) (ci := 0) (v := .int v_size) (C := RX0) (T := TX0) (N := 2) hx hb hts hinX0 hown hK hP 0 rfl rfl 1 (by decide) (hts (.fieldLink RX6 9 "SecondSunrise$Text" "size" "I") (by decide +kernel)) (fun _ h9 => h9) rfl dX6_byteAt_6 ?_
    refine lv_icmp_ge (tgt := 21) hx hb dX6_byteAt_9 (by decide) (fun c9 => ?_) (fun c9 => ?_)
    · rw [if_pos c9] at hf
      exact hj21 ls (lv_sub hl [] rfl) hf
    · rw [if_neg c9] at hf
      refine lv_iload_n hx hb dX6_byteAt_12 rfl (lv_at hl 1 rfl) ?_
      refine lv_aload_n hx hb dX6_byteAt_13 rfl (lv_at hl 0 rfl) ?_
      refine va_get (D := (dC, dI)) (ci := 0) (v := .ref h_t_bytes) (C := RX0) (T := TX0) (N := 2) hx hb hts hinX0 hown hK hP 0 rfl rfl 0 (by decide) (hts (.fieldLink RX6 15 "SecondSunrise$Text" "bytes" "[I") (by decide +kernel)) (fun _ h9 => h9) rfl dX6_byteAt_14 ?_
      refine va_alen (v := 20) hx hb hK hP 1 0 rfl rfl rfl dX6_byteAt_17 ?_
      refine lv_icmp_lt (tgt := 25) hx hb dX6_byteAt_18 (by decide) (fun c18 => ?_) (fun c18 => ?_)
      · rw [if_pos c18] at hf
        refine lv_aload_n hx hb dX6_byteAt_25 rfl (lv_at hl 0 rfl) ?_
        refine va_get (D := (dC, dI)) (ci := 0) (v := .ref h_t_bytes) (C := RX0) (T := TX0) (N := 2) hx hb hts hinX0 hown hK hP 0 rfl rfl 0 (by decide) (hts (.fieldLink RX6 15 "SecondSunrise$Text" "bytes" "[I") (by decide +kernel)) (fun _ h9 => h9) rfl dX6_byteAt_26 ?_
        refine lv_iload_n hx hb dX6_byteAt_29 rfl (lv_at hl 1 rfl) ?_
        obtain ⟨hi_1, hf⟩ := ix_e hf
        refine va_iald hx hb hK hP 1 0 rfl rfl hi_1 dX6_byteAt_30 ?_
        exact W.iret hx hb hr (fun t ht hW => ⟨_, rfl, Option.some.inj hf, ht⟩) (fun _ h => nomatch h) dX6_byteAt_31
      · rw [if_neg c18] at hf
        exact hj21 ls (lv_sub hl [] rfl) hf

abbrev wd_X6_byteAt_D (cI cZ cP cS : ClassId) (h_t h_t_bytes : Nat) (v_size : Int32) (v_bytes : Nat → Int32) : va_W := [(h_t, .inr (1, [.ref h_t_bytes, .int v_size])), (h_t_bytes, .inl (cI, 60, .inl v_bytes))]
abbrev rm_X6_byteAt_D : Room := { frames := 0, cells := 0, slots := 0, locals := 0 }
def f_X6_byteAt_D (n : Nat) (v_size : Int32) (v_bytes : Nat → Int32) (x1 : Int32) : Option (Int32) := jn0_ (some (-1)) (fun k21 => if x1 < 0 then k21 else if v_size ≤ x1 then k21 else if x1 < 60 then ix_ x1 60 (some (v_bytes x1.toNatClampNeg)) else k21)
set_option maxHeartbeats 4000000 in
set_option maxRecDepth 100000 in
theorem c_X6_byteAt_D (l : Launch) (dC : Nat → ClassId) (dI : Nat → Nat → Nat) (cI cZ cP cS : ClassId) (h_t h_t_bytes : Nat) (v_size : Int32) (v_bytes : Nat → Int32) (x1 : Int32) (n : Nat) (r : Int32) (hf : f_X6_byteAt_D n v_size v_bytes x1 = some r) : Met l yX6_byteAt wsX6_byteAt rm_X6_byteAt_D (RO (dC, dI) (TY cI cZ cP cS) [.ref h_t, .int x1] (wd_X6_byteAt_D cI cZ cP cS h_t h_t_bytes v_size v_bytes)) (vp_Si (fun x => x = r)) 0 0 NF := by
  refine Met.ofW (cc := cX6_byteAt) (maxL := 2) (ret := (some .int)) (by decide) rfl ?_
  intro p e s m args below meth c s₁ B hml hv
  obtain ⟨rfl, hP, hK⟩ := hv
  have hx := B.exec
  have hb := B.bytes
  have hr := B.returns
  have hts := atoms_spec (ws := wsX6_byteAt) B.pre
  have hown : s.vm.findClass RX6 = some m.cls := findClass_of_methodNamed B.named
  have hlocks := B.notSynchronized
  have hinX1 : ∀ w ∈ wsX10, w ∈ wsX6_byteAt := by decide +kernel
  have hl := lv_entry ([.ref h_t, .int x1]) (n := 2) (Nat.le_of_ble_eq_true rfl)
  rw [lg_entry_eq]
  generalize (lg_sl ([.ref h_t, .int x1]) ++ List.replicate (2 - (lg_sl ([.ref h_t, .int x1])).length) Slot.unset).toArray = ls at hl ⊢
  have hl : lv_has ls 2 [(0, .ref h_t), (1, .int x1)] := hl
  unfold f_X6_byteAt_D at hf
  refine lv_iload_n hx hb dX6_byteAt_0 rfl (lv_at hl 1 rfl) ?_
  obtain ⟨k21, ek21, hf⟩ := jn0_e hf
  have hj21 : ∀ (ls : Array Slot), lv_has ls 2 [] → k21 = some r → W p l e (headSpec wsX6_byteAt rm_X6_byteAt_D).room s m ([.ref h_t, .int x1] : List Value).toArray below meth c s.heap [] 0 0 (MQ below (vp_Si (fun x => x = r)) ([.ref h_t, .int x1] : List Value).toArray s 0 0 NF) (F0 m 21 ls []) := by
    intro ls hl hf
    rw [ek21] at hf
    refine lv_iconst (v := (-1)) hx hb dX6_byteAt_21 (by decide) ?_
    refine lv_goto (tgt := 31) hx hb dX6_byteAt_22 (by decide) ?_
    exact W.iret hx hb hr (fun t ht hW => ⟨_, rfl, Option.some.inj hf, ht⟩) (fun _ h => nomatch h) dX6_byteAt_31
  refine lv_if_lt (tgt := 21) hx hb dX6_byteAt_1 (by decide) (fun c1 => ?_) (fun c1 => ?_)
  · rw [if_pos c1] at hf
    exact hj21 ls (lv_sub hl [] rfl) hf
  · rw [if_neg c1] at hf
    refine lv_iload_n hx hb dX6_byteAt_4 rfl (lv_at hl 1 rfl) ?_
    refine lv_aload_n hx hb dX6_byteAt_5 rfl (lv_at hl 0 rfl) ?_
    refine va_get (D := (dC, dI)) (ci := 1) (v := .int v_size) (C := RX1) (T := TX1) (N := 2) hx hb hts hinX1 hown hK hP 0 rfl rfl 1 (by decide) (hts (.fieldLink RX6 9 "SecondSunrise$Text" "size" "I") (by decide +kernel)) (fun _ h9 => h9) rfl dX6_byteAt_6 ?_
    refine lv_icmp_ge (tgt := 21) hx hb dX6_byteAt_9 (by decide) (fun c9 => ?_) (fun c9 => ?_)
    · rw [if_pos c9] at hf
      exact hj21 ls (lv_sub hl [] rfl) hf
    · rw [if_neg c9] at hf
      refine lv_iload_n hx hb dX6_byteAt_12 rfl (lv_at hl 1 rfl) ?_
      refine lv_aload_n hx hb dX6_byteAt_13 rfl (lv_at hl 0 rfl) ?_
      refine va_get (D := (dC, dI)) (ci := 1) (v := .ref h_t_bytes) (C := RX1) (T := TX1) (N := 2) hx hb hts hinX1 hown hK hP 0 rfl rfl 0 (by decide) (hts (.fieldLink RX6 15 "SecondSunrise$Text" "bytes" "[I") (by decide +kernel)) (fun _ h9 => h9) rfl dX6_byteAt_14 ?_
      refine va_alen (v := 60) hx hb hK hP 1 0 rfl rfl rfl dX6_byteAt_17 ?_
      refine lv_icmp_lt (tgt := 25) hx hb dX6_byteAt_18 (by decide) (fun c18 => ?_) (fun c18 => ?_)
      · rw [if_pos c18] at hf
        refine lv_aload_n hx hb dX6_byteAt_25 rfl (lv_at hl 0 rfl) ?_
        refine va_get (D := (dC, dI)) (ci := 1) (v := .ref h_t_bytes) (C := RX1) (T := TX1) (N := 2) hx hb hts hinX1 hown hK hP 0 rfl rfl 0 (by decide) (hts (.fieldLink RX6 15 "SecondSunrise$Text" "bytes" "[I") (by decide +kernel)) (fun _ h9 => h9) rfl dX6_byteAt_26 ?_
        refine lv_iload_n hx hb dX6_byteAt_29 rfl (lv_at hl 1 rfl) ?_
        obtain ⟨hi_1, hf⟩ := ix_e hf
        refine va_iald hx hb hK hP 1 0 rfl rfl hi_1 dX6_byteAt_30 ?_
        exact W.iret hx hb hr (fun t ht hW => ⟨_, rfl, Option.some.inj hf, ht⟩) (fun _ h => nomatch h) dX6_byteAt_31
      · rw [if_neg c18] at hf
        exact hj21 ls (lv_sub hl [] rfl) hf

abbrev wd_X0_goesOnAt (cI cZ cP cS : ClassId) (h_t h_t_bytes : Nat) (v_size : Int32) (v_bytes : Nat → Int32) : va_W := [(h_t, .inr (0, [.ref h_t_bytes, .int v_size])), (h_t_bytes, .inl (cI, 20, .inl v_bytes))]
abbrev rm_X0_goesOnAt : Room := { frames := 1, cells := 0, slots := 0, locals := 21 }
def f_X0_goesOnAt (n : Nat) (v_size : Int32) (v_bytes : Nat → Int32) (x1 : Int32) : Option (Int32) := bd1_ (f_X6_byteAt_C n v_size v_bytes x1) (fun (r2_1 : Int32) => if (x1 - x1 / 3 * 3) = 0 then bd1_ (f_X0_isFigure n r2_1) (fun (r37_4 : Int32) => some r37_4) else if (x1 - x1 / 3 * 3) = 1 then bd1_ (f_X0_isFigure n r2_1) (fun (r42_8 : Int32) => jn0_ (some 0) (fun k70 => if r42_8 = 0 then k70 else jn0_ (some 1) (fun k66 => if r2_1 = 48 then bd1_ (f_X6_byteAt_C n v_size v_bytes (x1 - 1)) (fun (r58_12 : Int32) => if r58_12 = 48 then k70 else k66) else k66))) else if r2_1 = 59 then some 1 else some 0)
set_option maxHeartbeats 4000000 in
set_option maxRecDepth 100000 in
theorem c_X0_goesOnAt (l : Launch) (dC : Nat → ClassId) (dI : Nat → Nat → Nat) (cI cZ cP cS : ClassId) (h_t h_t_bytes : Nat) (v_size : Int32) (v_bytes : Nat → Int32) (x1 : Int32) (n : Nat) (r : Int32) (hf : f_X0_goesOnAt n v_size v_bytes x1 = some r) : Met l yX0_goesOnAt wsX0_goesOnAt rm_X0_goesOnAt (RO (dC, dI) (TY cI cZ cP cS) [.ref h_t, .int x1] (wd_X0_goesOnAt cI cZ cP cS h_t h_t_bytes v_size v_bytes)) (vp_Si (fun x => x = r ∧ narrow .boolean (.int x) = .int x)) 0 0 NF := by
  refine Met.ofW (cc := cX0_goesOnAt) (maxL := 3) (ret := (some .boolean)) (by decide) rfl ?_
  intro p e s m args below meth c s₁ B hml hv
  obtain ⟨rfl, hP, hK⟩ := hv
  have hx := B.exec
  have hb := B.bytes
  have hr := B.returns
  have hts := atoms_spec (ws := wsX0_goesOnAt) B.pre
  have hown : s.vm.findClass RX0 = some m.cls := findClass_of_methodNamed B.named
  have hlocks := B.notSynchronized
  have hl := lv_entry ([.ref h_t, .int x1]) (n := 3) (Nat.le_of_ble_eq_true rfl)
  rw [lg_entry_eq]
  generalize (lg_sl ([.ref h_t, .int x1]) ++ List.replicate (3 - (lg_sl ([.ref h_t, .int x1])).length) Slot.unset).toArray = ls at hl ⊢
  have hl : lv_has ls 3 [(0, .ref h_t), (1, .int x1)] := hl
  unfold f_X0_goesOnAt at hf
  refine lv_aload_n hx hb dX0_goesOnAt_0 rfl (lv_at hl 0 rfl) ?_
  refine lv_iload_n hx hb dX0_goesOnAt_1 rfl (lv_at hl 1 rfl) ?_
  obtain ⟨r2_1, hc_2, hf⟩ := bd1_e hf
  refine vp_callSi (va_runU (As := [.int x1]) (rest := []) ⟨hx, hb, hml, hown, hts⟩ (c_X6_byteAt_C l dC dI cI cZ cP cS h_t h_t_bytes v_size v_bytes x1 n r2_1 hc_2) (va_cwU 1 hts gX0_goesOnAt_X6_byteAt_u19X0 rfl rfl rfl rfl (by decide +kernel) ⟨Nat.le_of_ble_eq_true rfl, Nat.le_of_ble_eq_true rfl⟩) (pv_ro (ci := 0) (q0 := 0) hK (hP.sub (ws' := (wd_X6_byteAt_C cI cZ cP cS h_t h_t_bytes v_size v_bytes)) [0, 1] rfl) rfl rfl) rfl rfl hl.1 rfl (lv_room (Nat.le_of_ble_eq_true rfl)) dX0_goesOnAt_2 ⟨Nat.zero_le _, Nat.zero_le _⟩).run (fun x e_3 => ?_)
  rw [e_3]
  refine lv_istore_n (lv' := [(2, .int r2_1), (0, .ref h_t), (1, .int x1)]) hx hb dX0_goesOnAt_5 rfl hl (by decide) rfl (fun ls hl => ?_)
  refine lv_iload_n hx hb dX0_goesOnAt_6 rfl (lv_at hl 2 rfl) ?_
  refine lv_iconst (v := 3) hx hb dX0_goesOnAt_7 (by decide) ?_
  refine lv_irem hx hb dX0_goesOnAt_8 (by decide) ?_
  by_cases c9_0 : (x1 - x1 / 3 * 3) = 0
  · rw [if_pos c9_0] at hf
    refine lv_lookup (off := 27) (tgt := 36) hx hb dX0_goesOnAt_9 (by decide) (by rw [c9_0]; decide) (by decide) ?_
    refine lv_iload_n hx hb dX0_goesOnAt_36 rfl (lv_at hl 0 rfl) ?_
    obtain ⟨r37_4, hc_5, hf⟩ := bd1_e hf
    refine vp_callSi (va_runS (As := [.int r2_1]) (rest := []) ⟨hx, hb, hml, hown, hts⟩ (c_X0_isFigure l dC dI cI cZ cP cS   r2_1 n r37_4 hc_5) (va_cwS 1 hts gX0_goesOnAt_X0_isFigure rfl rfl rfl (by decide +kernel) ⟨Nat.le_of_ble_eq_true rfl, Nat.le_of_ble_eq_true rfl⟩) (ps_ro hK (hP.sub (ws' := ([] : va_W)) [] rfl)) rfl rfl hl.1 rfl (lv_room (Nat.le_of_ble_eq_true rfl)) dX0_goesOnAt_37 ⟨Nat.zero_le _, Nat.zero_le _⟩).run (fun x e_6 => ?_)
    obtain ⟨e_6, hb_7⟩ := e_6
    rw [e_6] at hb_7 ⊢
    exact W.zret hx hb hr hb_7 (fun t ht hW => ⟨_, rfl, ⟨Option.some.inj hf, hb_7⟩, ht⟩) (fun _ h => nomatch h) dX0_goesOnAt_40
  · rw [if_neg c9_0] at hf
    by_cases c9_1 : (x1 - x1 / 3 * 3) = 1
    · rw [if_pos c9_1] at hf
      refine lv_lookup (off := 32) (tgt := 41) hx hb dX0_goesOnAt_9 (by decide) (by rw [c9_1]; decide) (by decide) ?_
      refine lv_iload_n hx hb dX0_goesOnAt_41 rfl (lv_at hl 0 rfl) ?_
      obtain ⟨r42_8, hc_9, hf⟩ := bd1_e hf
      refine vp_callSi (va_runS (As := [.int r2_1]) (rest := []) ⟨hx, hb, hml, hown, hts⟩ (c_X0_isFigure l dC dI cI cZ cP cS   r2_1 n r42_8 hc_9) (va_cwS 1 hts gX0_goesOnAt_X0_isFigure rfl rfl rfl (by decide +kernel) ⟨Nat.le_of_ble_eq_true rfl, Nat.le_of_ble_eq_true rfl⟩) (ps_ro hK (hP.sub (ws' := ([] : va_W)) [] rfl)) rfl rfl hl.1 rfl (lv_room (Nat.le_of_ble_eq_true rfl)) dX0_goesOnAt_42 ⟨Nat.zero_le _, Nat.zero_le _⟩).run (fun x e_10 => ?_)
      obtain ⟨e_10, hb_11⟩ := e_10
      rw [e_10] at hb_11 ⊢
      obtain ⟨k70, ek70, hf⟩ := jn0_e hf
      have hj70 : ∀ (ls : Array Slot), lv_has ls 3 [] → k70 = some r → W p l e (headSpec wsX0_goesOnAt rm_X0_goesOnAt).room s m ([.ref h_t, .int x1] : List Value).toArray below meth c s.heap [] 0 0 (MQ below (vp_Si (fun x => x = r ∧ narrow .boolean (.int x) = .int x)) ([.ref h_t, .int x1] : List Value).toArray s 0 0 NF) (F0 m 70 ls []) := by
        intro ls hl hf
        rw [ek70] at hf
        refine lv_iconst (v := 0) hx hb dX0_goesOnAt_70 (by decide) ?_
        exact W.zret hx hb hr (by decide) (fun t ht hW => ⟨_, rfl, ⟨Option.some.inj hf, (by decide)⟩, ht⟩) (fun _ h => nomatch h) dX0_goesOnAt_71
      refine lv_if_eq (tgt := 70) hx hb dX0_goesOnAt_45 (by decide) (fun c45 => ?_) (fun c45 => ?_)
      · rw [if_pos c45] at hf
        exact hj70 ls (lv_sub hl [] rfl) hf
      · rw [if_neg c45] at hf
        refine lv_iload_n hx hb dX0_goesOnAt_48 rfl (lv_at hl 0 rfl) ?_
        refine lv_bipush (v := 48) hx hb dX0_goesOnAt_49 (by decide) ?_
        obtain ⟨k66, ek66, hf⟩ := jn0_e hf
        have hj66 : ∀ (ls : Array Slot), lv_has ls 3 [] → k66 = some r → W p l e (headSpec wsX0_goesOnAt rm_X0_goesOnAt).room s m ([.ref h_t, .int x1] : List Value).toArray below meth c s.heap [] 0 0 (MQ below (vp_Si (fun x => x = r ∧ narrow .boolean (.int x) = .int x)) ([.ref h_t, .int x1] : List Value).toArray s 0 0 NF) (F0 m 66 ls []) := by
          intro ls hl hf
          rw [ek66] at hf
          refine lv_iconst (v := 1) hx hb dX0_goesOnAt_66 (by decide) ?_
          refine lv_goto (tgt := 71) hx hb dX0_goesOnAt_67 (by decide) ?_
          exact W.zret hx hb hr (by decide) (fun t ht hW => ⟨_, rfl, ⟨Option.some.inj hf, (by decide)⟩, ht⟩) (fun _ h => nomatch h) dX0_goesOnAt_71
        refine lv_icmp_ne (tgt := 66) hx hb dX0_goesOnAt_51 (by decide) (fun c51 => ?_) (fun c51 => ?_)
        · rw [if_neg c51] at hf
          exact hj66 ls (lv_sub hl [] rfl) hf
        · rw [if_pos c51] at hf
          refine lv_aload_n hx hb dX0_goesOnAt_54 rfl (lv_at hl 1 rfl) ?_
          refine lv_iload_n hx hb dX0_goesOnAt_55 rfl (lv_at hl 2 rfl) ?_
          refine lv_iconst (v := 1) hx hb dX0_goesOnAt_56 (by decide) ?_
          refine lv_isub hx hb dX0_goesOnAt_57 ?_
          obtain ⟨r58_12, hc_13, hf⟩ := bd1_e hf
          refine vp_callSi (va_runU (As := [.int (x1 - 1)]) (rest := []) ⟨hx, hb, hml, hown, hts⟩ (c_X6_byteAt_C l dC dI cI cZ cP cS h_t h_t_bytes v_size v_bytes (x1 - 1) n r58_12 hc_13) (va_cwU 1 hts gX0_goesOnAt_X6_byteAt_u19X0 rfl rfl rfl rfl (by decide +kernel) ⟨Nat.le_of_ble_eq_true rfl, Nat.le_of_ble_eq_true rfl⟩) (pv_ro (ci := 0) (q0 := 0) hK (hP.sub (ws' := (wd_X6_byteAt_C cI cZ cP cS h_t h_t_bytes v_size v_bytes)) [0, 1] rfl) rfl rfl) rfl rfl hl.1 rfl (lv_room (Nat.le_of_ble_eq_true rfl)) dX0_goesOnAt_58 ⟨Nat.zero_le _, Nat.zero_le _⟩).run (fun x e_14 => ?_)
          rw [e_14]
          refine lv_bipush (v := 48) hx hb dX0_goesOnAt_61 (by decide) ?_
          refine lv_icmp_eq (tgt := 70) hx hb dX0_goesOnAt_63 (by decide) (fun c63 => ?_) (fun c63 => ?_)
          · rw [if_pos c63] at hf
            exact hj70 ls (lv_sub hl [] rfl) hf
          · rw [if_neg c63] at hf
            exact hj66 ls (lv_sub hl [] rfl) hf
    · rw [if_neg c9_1] at hf
      refine lv_lookup (off := 63) (tgt := 72) hx hb dX0_goesOnAt_9 (by decide) (lk2 c9_0 c9_1) (by decide) ?_
      refine lv_iload_n hx hb dX0_goesOnAt_72 rfl (lv_at hl 0 rfl) ?_
      refine lv_bipush (v := 59) hx hb dX0_goesOnAt_73 (by decide) ?_
      refine lv_icmp_ne (tgt := 82) hx hb dX0_goesOnAt_75 (by decide) (fun c75 => ?_) (fun c75 => ?_)
      · rw [if_neg c75] at hf
        refine lv_iconst (v := 0) hx hb dX0_goesOnAt_82 (by decide) ?_
        exact W.zret hx hb hr (by decide) (fun t ht hW => ⟨_, rfl, ⟨Option.some.inj hf, (by decide)⟩, ht⟩) (fun _ h => nomatch h) dX0_goesOnAt_83
      · rw [if_pos c75] at hf
        refine lv_iconst (v := 1) hx hb dX0_goesOnAt_78 (by decide) ?_
        refine lv_goto (tgt := 83) hx hb dX0_goesOnAt_79 (by decide) ?_
        exact W.zret hx hb hr (by decide) (fun t ht hW => ⟨_, rfl, ⟨Option.some.inj hf, (by decide)⟩, ht⟩) (fun _ h => nomatch h) dX0_goesOnAt_83

abbrev wd_X0_firstFault (cI cZ cP cS : ClassId) (h_t h_t_bytes : Nat) (v_size : Int32) (v_bytes : Nat → Int32) : va_W := [(h_t, .inr (0, [.ref h_t_bytes, .int v_size])), (h_t_bytes, .inl (cI, 20, .inl v_bytes))]
abbrev rm_X0_firstFault : Room := { frames := 2, cells := 0, slots := 0, locals := 43 }
def L_X0_firstFault_2 (n : Nat) (v_size : Int32) (v_bytes : Nat → Int32) (kx2 : Option (Int32)) : Nat → Int32 → Option (Int32)
  | 0, _ => none
  | k2 + 1, y2_1 => if v_size ≤ y2_1 then kx2 else if (18 : Int32) ≤ y2_1 then some y2_1 else bd1_ (f_X0_goesOnAt n v_size v_bytes y2_1) (fun (r18_1 : Int32) => if r18_1 = 0 then some y2_1 else L_X0_firstFault_2 n v_size v_bytes kx2 k2 (y2_1 + 1))
theorem L_X0_firstFault_2_s (n : Nat) (v_size : Int32) (v_bytes : Nat → Int32) (kx2 : Option (Int32)) (k2 : Nat) (y2_1 : Int32) : L_X0_firstFault_2 n v_size v_bytes kx2 (k2 + 1) y2_1 = if v_size ≤ y2_1 then kx2 else if (18 : Int32) ≤ y2_1 then some y2_1 else bd1_ (f_X0_goesOnAt n v_size v_bytes y2_1) (fun (r18_1 : Int32) => if r18_1 = 0 then some y2_1 else L_X0_firstFault_2 n v_size v_bytes kx2 k2 (y2_1 + 1)) := rfl
def f_X0_firstFault (n : Nat) (v_size : Int32) (v_bytes : Nat → Int32) : Option (Int32) := jn0_ (jn1_ (fun (q54_0 : Int32) => if q54_0 = 0 then some v_size else some (-1)) (fun k54 => jn0_ (k54 1) (fun k49 => if v_size = 0 then k49 else if (v_size - v_size / 3 * 3) = 2 then k49 else k54 0))) (fun kx2 => L_X0_firstFault_2 n v_size v_bytes kx2 n 0)
set_option maxHeartbeats 4000000 in
set_option maxRecDepth 100000 in
theorem c_X0_firstFault (l : Launch) (dC : Nat → ClassId) (dI : Nat → Nat → Nat) (cI cZ cP cS : ClassId) (h_t h_t_bytes : Nat) (v_size : Int32) (v_bytes : Nat → Int32) (n : Nat) (r : Int32) (hf : f_X0_firstFault n v_size v_bytes = some r) : Met l yX0_firstFault wsX0_firstFault rm_X0_firstFault (RO (dC, dI) (TY cI cZ cP cS) [.ref h_t] (wd_X0_firstFault cI cZ cP cS h_t h_t_bytes v_size v_bytes)) (vp_Si (fun x => x = r)) 0 0 NF := by
  refine Met.ofW (cc := cX0_firstFault) (maxL := 2) (ret := (some .int)) (by decide) rfl ?_
  intro p e s m args below meth c s₁ B hml hv
  obtain ⟨rfl, hP, hK⟩ := hv
  have hx := B.exec
  have hb := B.bytes
  have hr := B.returns
  have hts := atoms_spec (ws := wsX0_firstFault) B.pre
  have hown : s.vm.findClass RX0 = some m.cls := findClass_of_methodNamed B.named
  have hlocks := B.notSynchronized
  have hinX0 : ∀ w ∈ wsX00, w ∈ wsX0_firstFault := by decide +kernel
  have hl := lv_entry ([.ref h_t]) (n := 2) (Nat.le_of_ble_eq_true rfl)
  rw [lg_entry_eq]
  generalize (lg_sl ([.ref h_t]) ++ List.replicate (2 - (lg_sl ([.ref h_t])).length) Slot.unset).toArray = ls at hl ⊢
  have hl : lv_has ls 2 [(0, .ref h_t)] := hl
  unfold f_X0_firstFault at hf
  refine lv_iconst (v := 0) hx hb dX0_firstFault_0 (by decide) ?_
  refine lv_istore_n (lv' := [(1, .int 0), (0, .ref h_t)]) hx hb dX0_firstFault_1 rfl hl (by decide) rfl (fun ls hl => ?_)
  obtain ⟨kx2, ekx2, hf⟩ := jn0_e hf
  have hx2 : ∀ (ls : Array Slot), lv_has ls 2 [(0, .ref h_t)] → kx2 = some r → W p l e (headSpec wsX0_firstFault rm_X0_firstFault).room s m ([.ref h_t] : List Value).toArray below meth c s.heap [] 0 0 (MQ below (vp_Si (fun x => x = r)) ([.ref h_t] : List Value).toArray s 0 0 NF) (F0 m 32 ls []) := by
    intro ls hl hf
    rw [ekx2] at hf
    refine lv_aload_n hx hb dX0_firstFault_32 rfl (lv_at hl 0 rfl) ?_
    refine va_get (D := (dC, dI)) (ci := 0) (v := .int v_size) (C := RX0) (T := TX0) (N := 2) hx hb hts hinX0 hown hK hP 0 rfl rfl 1 (by decide) (hts (.fieldLink RX0 9 "SecondSunrise$Calendar" "size" "I") (by decide +kernel)) (fun x9 h9 => u_same (hts (.sameField "SecondSunrise$Calendar" "SecondSunrise$Text" "size" "I") (by decide +kernel)) x9 h9) rfl dX0_firstFault_33 ?_
    obtain ⟨k54, ek54, hf⟩ := jn1_e hf
    have hj54 : ∀ (q54_0 : Int32) (ls : Array Slot), lv_has ls 2 [(0, .ref h_t)] → k54 q54_0 = some r → W p l e (headSpec wsX0_firstFault rm_X0_firstFault).room s m ([.ref h_t] : List Value).toArray below meth c s.heap [] 0 0 (MQ below (vp_Si (fun x => x = r)) ([.ref h_t] : List Value).toArray s 0 0 NF) (F0 m 54 ls [.int q54_0]) := by
      intro q54_0 ls hl hf
      rw [ek54] at hf
      refine lv_istore_n (lv' := [(1, .int q54_0), (0, .ref h_t)]) hx hb dX0_firstFault_54 rfl hl (by decide) rfl (fun ls hl => ?_)
      refine lv_iload_n hx hb dX0_firstFault_55 rfl (lv_at hl 0 rfl) ?_
      refine lv_if_eq (tgt := 63) hx hb dX0_firstFault_56 (by decide) (fun c56 => ?_) (fun c56 => ?_)
      · rw [if_pos c56] at hf
        refine lv_aload_n hx hb dX0_firstFault_63 rfl (lv_at hl 1 rfl) ?_
        refine va_get (D := (dC, dI)) (ci := 0) (v := .int v_size) (C := RX0) (T := TX0) (N := 2) hx hb hts hinX0 hown hK hP 0 rfl rfl 1 (by decide) (hts (.fieldLink RX0 9 "SecondSunrise$Calendar" "size" "I") (by decide +kernel)) (fun x9 h9 => u_same (hts (.sameField "SecondSunrise$Calendar" "SecondSunrise$Text" "size" "I") (by decide +kernel)) x9 h9) rfl dX0_firstFault_64 ?_
        exact W.iret hx hb hr (fun t ht hW => ⟨_, rfl, Option.some.inj hf, ht⟩) (fun _ h => nomatch h) dX0_firstFault_67
      · rw [if_neg c56] at hf
        refine lv_iconst (v := (-1)) hx hb dX0_firstFault_59 (by decide) ?_
        refine lv_goto (tgt := 67) hx hb dX0_firstFault_60 (by decide) ?_
        exact W.iret hx hb hr (fun t ht hW => ⟨_, rfl, Option.some.inj hf, ht⟩) (fun _ h => nomatch h) dX0_firstFault_67
    obtain ⟨k49, ek49, hf⟩ := jn0_e hf
    have hj49 : ∀ (ls : Array Slot), lv_has ls 2 [(0, .ref h_t)] → k49 = some r → W p l e (headSpec wsX0_firstFault rm_X0_firstFault).room s m ([.ref h_t] : List Value).toArray below meth c s.heap [] 0 0 (MQ below (vp_Si (fun x => x = r)) ([.ref h_t] : List Value).toArray s 0 0 NF) (F0 m 49 ls []) := by
      intro ls hl hf
      rw [ek49] at hf
      refine lv_iconst (v := 1) hx hb dX0_firstFault_49 (by decide) ?_
      refine lv_goto (tgt := 54) hx hb dX0_firstFault_50 (by decide) ?_
      exact hj54 1 ls (lv_sub hl [0] rfl) hf
    refine lv_if_eq (tgt := 49) hx hb dX0_firstFault_36 (by decide) (fun c36 => ?_) (fun c36 => ?_)
    · rw [if_pos c36] at hf
      exact hj49 ls (lv_sub hl [0] rfl) hf
    · rw [if_neg c36] at hf
      refine lv_aload_n hx hb dX0_firstFault_39 rfl (lv_at hl 0 rfl) ?_
      refine va_get (D := (dC, dI)) (ci := 0) (v := .int v_size) (C := RX0) (T := TX0) (N := 2) hx hb hts hinX0 hown hK hP 0 rfl rfl 1 (by decide) (hts (.fieldLink RX0 9 "SecondSunrise$Calendar" "size" "I") (by decide +kernel)) (fun x9 h9 => u_same (hts (.sameField "SecondSunrise$Calendar" "SecondSunrise$Text" "size" "I") (by decide +kernel)) x9 h9) rfl dX0_firstFault_40 ?_
      refine lv_iconst (v := 3) hx hb dX0_firstFault_43 (by decide) ?_
      refine lv_irem hx hb dX0_firstFault_44 (by decide) ?_
      refine lv_iconst (v := 2) hx hb dX0_firstFault_45 (by decide) ?_
      refine lv_icmp_ne (tgt := 53) hx hb dX0_firstFault_46 (by decide) (fun c46 => ?_) (fun c46 => ?_)
      · rw [if_neg c46] at hf
        refine lv_iconst (v := 0) hx hb dX0_firstFault_53 (by decide) ?_
        exact hj54 0 ls (lv_sub hl [0] rfl) hf
      · rw [if_pos c46] at hf
        exact hj49 ls (lv_sub hl [0] rfl) hf
  have hL2 : ∀ (k2 : Nat) (y2_1 : Int32) (ls : Array Slot), lv_has ls 2 [(0, .ref h_t), (1, .int y2_1)] → L_X0_firstFault_2 n v_size v_bytes kx2 k2 y2_1 = some r → W p l e (headSpec wsX0_firstFault rm_X0_firstFault).room s m ([.ref h_t] : List Value).toArray below meth c s.heap [] 0 0 (MQ below (vp_Si (fun x => x = r)) ([.ref h_t] : List Value).toArray s 0 0 NF) (F0 m 2 ls []) := by
    intro k2
    induction k2 with
    | zero =>
      intro y2_1 ls hl hf
      exact absurd hf (fun h => Option.some_ne_none _ h.symm)
    | succ k2 ih =>
      intro y2_1 ls hl hf
      rw [L_X0_firstFault_2_s] at hf
      refine lv_iload_n hx hb dX0_firstFault_2 rfl (lv_at hl 1 rfl) ?_
      refine lv_aload_n hx hb dX0_firstFault_3 rfl (lv_at hl 0 rfl) ?_
      refine va_get (D := (dC, dI)) (ci := 0) (v := .int v_size) (C := RX0) (T := TX0) (N := 2) hx hb hts hinX0 hown hK hP 0 rfl rfl 1 (by decide) (hts (.fieldLink RX0 9 "SecondSunrise$Calendar" "size" "I") (by decide +kernel)) (fun x9 h9 => u_same (hts (.sameField "SecondSunrise$Calendar" "SecondSunrise$Text" "size" "I") (by decide +kernel)) x9 h9) rfl dX0_firstFault_4 ?_
      refine lv_icmp_ge (tgt := 32) hx hb dX0_firstFault_7 (by decide) (fun c7 => ?_) (fun c7 => ?_)
      · rw [if_pos c7] at hf
        exact hx2 ls (lv_sub hl [0] rfl) hf
      · rw [if_neg c7] at hf
        refine lv_iload_n hx hb dX0_firstFault_10 rfl (lv_at hl 1 rfl) ?_
        refine lv_bipush (v := 18) hx hb dX0_firstFault_11 (by decide) ?_
        refine lv_icmp_ge (tgt := 24) hx hb dX0_firstFault_13 (by decide) (fun c13 => ?_) (fun c13 => ?_)
        · rw [if_pos c13] at hf
          refine lv_iload_n hx hb dX0_firstFault_24 rfl (lv_at hl 1 rfl) ?_
          exact W.iret hx hb hr (fun t ht hW => ⟨_, rfl, Option.some.inj hf, ht⟩) (fun _ h => nomatch h) dX0_firstFault_25
        · rw [if_neg c13] at hf
          refine lv_aload_n hx hb dX0_firstFault_16 rfl (lv_at hl 0 rfl) ?_
          refine lv_iload_n hx hb dX0_firstFault_17 rfl (lv_at hl 1 rfl) ?_
          obtain ⟨r18_1, hc_2, hf⟩ := bd1_e hf
          refine vp_callSi (va_runV (As := [.int y2_1]) (rest := []) ⟨hx, hb, hml, hown, hts⟩ (c_X0_goesOnAt l dC dI cI cZ cP cS h_t h_t_bytes v_size v_bytes y2_1 n r18_1 hc_2) (cwV 1 hts gX0_firstFault_X0_goesOnAt rfl rfl rfl (by decide +kernel) ⟨Nat.le_of_ble_eq_true rfl, Nat.le_of_ble_eq_true rfl⟩) (pv_ro (ci := 0) (q0 := 0) hK (hP.sub (ws' := (wd_X0_goesOnAt cI cZ cP cS h_t h_t_bytes v_size v_bytes)) [0, 1] rfl) rfl rfl) rfl rfl hl.1 rfl (lv_room (Nat.le_of_ble_eq_true rfl)) dX0_firstFault_18 ⟨Nat.zero_le _, Nat.zero_le _⟩).run (fun x e_3 => ?_)
          obtain ⟨e_3, hb_4⟩ := e_3
          rw [e_3] at hb_4 ⊢
          refine lv_if_ne (tgt := 26) hx hb dX0_firstFault_21 (by decide) (fun c21 => ?_) (fun c21 => ?_)
          · rw [if_neg c21] at hf
            refine lv_iinc (v := (y2_1 + 1)) (lv' := [(1, .int (y2_1 + 1)), (0, .ref h_t)]) hx hb dX0_firstFault_26 hl (k := 1) rfl rfl (by decide) rfl (fun ls hl => ?_)
            refine lv_goto (tgt := 2) hx hb dX0_firstFault_29 (by decide) ?_
            exact ih (y2_1 + 1) ls (lv_sub hl [1, 0] rfl) hf
          · rw [if_pos c21] at hf
            refine lv_iload_n hx hb dX0_firstFault_24 rfl (lv_at hl 1 rfl) ?_
            exact W.iret hx hb hr (fun t ht hW => ⟨_, rfl, Option.some.inj hf, ht⟩) (fun _ h => nomatch h) dX0_firstFault_25
  exact hL2 n 0 ls (lv_sub hl [1, 0] rfl) hf

abbrev wd_X0_lengthOf (cI cZ cP cS : ClassId) (h_t h_t_bytes : Nat) (v_size : Int32) (v_bytes : Nat → Int32) : va_W := [(h_t, .inr (0, [.ref h_t_bytes, .int v_size])), (h_t_bytes, .inl (cI, 20, .inl v_bytes))]
abbrev rm_X0_lengthOf : Room := { frames := 1, cells := 0, slots := 0, locals := 21 }
def f_X0_lengthOf (n : Nat) (v_size : Int32) (v_bytes : Nat → Int32) (x1 : Int32) : Option (Int32) := bd1_ (f_X6_byteAt_C n v_size v_bytes (3 * x1)) (fun (r8_1 : Int32) => bd1_ (f_X6_byteAt_C n v_size v_bytes ((3 * x1) + 1)) (fun (r19_4 : Int32) => some (((10 * (r8_1 - 48)) + r19_4) - 48)))
set_option maxHeartbeats 4000000 in
set_option maxRecDepth 100000 in
theorem c_X0_lengthOf (l : Launch) (dC : Nat → ClassId) (dI : Nat → Nat → Nat) (cI cZ cP cS : ClassId) (h_t h_t_bytes : Nat) (v_size : Int32) (v_bytes : Nat → Int32) (x1 : Int32) (n : Nat) (r : Int32) (hf : f_X0_lengthOf n v_size v_bytes x1 = some r) : Met l yX0_lengthOf wsX0_lengthOf rm_X0_lengthOf (RO (dC, dI) (TY cI cZ cP cS) [.ref h_t, .int x1] (wd_X0_lengthOf cI cZ cP cS h_t h_t_bytes v_size v_bytes)) (vp_Si (fun x => x = r)) 0 0 NF := by
  refine Met.ofW (cc := cX0_lengthOf) (maxL := 3) (ret := (some .int)) (by decide) rfl ?_
  intro p e s m args below meth c s₁ B hml hv
  obtain ⟨rfl, hP, hK⟩ := hv
  have hx := B.exec
  have hb := B.bytes
  have hr := B.returns
  have hts := atoms_spec (ws := wsX0_lengthOf) B.pre
  have hown : s.vm.findClass RX0 = some m.cls := findClass_of_methodNamed B.named
  have hlocks := B.notSynchronized
  have hl := lv_entry ([.ref h_t, .int x1]) (n := 3) (Nat.le_of_ble_eq_true rfl)
  rw [lg_entry_eq]
  generalize (lg_sl ([.ref h_t, .int x1]) ++ List.replicate (3 - (lg_sl ([.ref h_t, .int x1])).length) Slot.unset).toArray = ls at hl ⊢
  have hl : lv_has ls 3 [(0, .ref h_t), (1, .int x1)] := hl
  unfold f_X0_lengthOf at hf
  refine lv_iconst (v := 3) hx hb dX0_lengthOf_0 (by decide) ?_
  refine lv_iload_n hx hb dX0_lengthOf_1 rfl (lv_at hl 1 rfl) ?_
  refine lv_imul hx hb dX0_lengthOf_2 ?_
  refine lv_istore_n (lv' := [(2, .int (3 * x1)), (0, .ref h_t), (1, .int x1)]) hx hb dX0_lengthOf_3 rfl hl (by decide) rfl (fun ls hl => ?_)
  refine lv_bipush (v := 10) hx hb dX0_lengthOf_4 (by decide) ?_
  refine lv_aload_n hx hb dX0_lengthOf_6 rfl (lv_at hl 1 rfl) ?_
  refine lv_iload_n hx hb dX0_lengthOf_7 rfl (lv_at hl 0 rfl) ?_
  obtain ⟨r8_1, hc_2, hf⟩ := bd1_e hf
  refine vp_callSi (va_runU (As := [.int (3 * x1)]) (rest := [.int 10]) ⟨hx, hb, hml, hown, hts⟩ (c_X6_byteAt_C l dC dI cI cZ cP cS h_t h_t_bytes v_size v_bytes (3 * x1) n r8_1 hc_2) (va_cwU 1 hts gX0_lengthOf_X6_byteAt_u19X0 rfl rfl rfl rfl (by decide +kernel) ⟨Nat.le_of_ble_eq_true rfl, Nat.le_of_ble_eq_true rfl⟩) (pv_ro (ci := 0) (q0 := 0) hK (hP.sub (ws' := (wd_X6_byteAt_C cI cZ cP cS h_t h_t_bytes v_size v_bytes)) [0, 1] rfl) rfl rfl) rfl rfl hl.1 rfl (lv_room (Nat.le_of_ble_eq_true rfl)) dX0_lengthOf_8 ⟨Nat.zero_le _, Nat.zero_le _⟩).run (fun x e_3 => ?_)
  rw [e_3]
  refine lv_bipush (v := 48) hx hb dX0_lengthOf_11 (by decide) ?_
  refine lv_isub hx hb dX0_lengthOf_13 ?_
  refine lv_imul hx hb dX0_lengthOf_14 ?_
  refine lv_aload_n hx hb dX0_lengthOf_15 rfl (lv_at hl 1 rfl) ?_
  refine lv_iload_n hx hb dX0_lengthOf_16 rfl (lv_at hl 0 rfl) ?_
  refine lv_iconst (v := 1) hx hb dX0_lengthOf_17 (by decide) ?_
  refine lv_iadd hx hb dX0_lengthOf_18 ?_
  obtain ⟨r19_4, hc_5, hf⟩ := bd1_e hf
  refine vp_callSi (va_runU (As := [.int ((3 * x1) + 1)]) (rest := [.int (10 * (r8_1 - 48))]) ⟨hx, hb, hml, hown, hts⟩ (c_X6_byteAt_C l dC dI cI cZ cP cS h_t h_t_bytes v_size v_bytes ((3 * x1) + 1) n r19_4 hc_5) (va_cwU 1 hts gX0_lengthOf_X6_byteAt_u19X0 rfl rfl rfl rfl (by decide +kernel) ⟨Nat.le_of_ble_eq_true rfl, Nat.le_of_ble_eq_true rfl⟩) (pv_ro (ci := 0) (q0 := 0) hK (hP.sub (ws' := (wd_X6_byteAt_C cI cZ cP cS h_t h_t_bytes v_size v_bytes)) [0, 1] rfl) rfl rfl) rfl rfl hl.1 rfl (lv_room (Nat.le_of_ble_eq_true rfl)) dX0_lengthOf_19 ⟨Nat.zero_le _, Nat.zero_le _⟩).run (fun x e_6 => ?_)
  rw [e_6]
  refine lv_iadd hx hb dX0_lengthOf_22 ?_
  refine lv_bipush (v := 48) hx hb dX0_lengthOf_23 (by decide) ?_
  refine lv_isub hx hb dX0_lengthOf_25 ?_
  exact W.iret hx hb hr (fun t ht hW => ⟨_, rfl, Option.some.inj hf, ht⟩) (fun _ h => nomatch h) dX0_lengthOf_26

abbrev wd_X0_months (cI cZ cP cS : ClassId) (h_t h_t_bytes : Nat) (v_size : Int32) (v_bytes : Nat → Int32) : va_W := [(h_t, .inr (0, [.ref h_t_bytes, .int v_size])), (h_t_bytes, .inl (cI, 20, .inl v_bytes))]
abbrev rm_X0_months : Room := { frames := 3, cells := 0, slots := 0, locals := 64 }
def f_X0_months (n : Nat) (v_size : Int32) (v_bytes : Nat → Int32) : Option (Int32) := bd1_ (f_X0_firstFault n v_size v_bytes) (fun (r1_1 : Int32) => if r1_1 = (-1) then some ((v_size + 1) / 3) else some 0)
set_option maxHeartbeats 4000000 in
set_option maxRecDepth 100000 in
theorem c_X0_months (l : Launch) (dC : Nat → ClassId) (dI : Nat → Nat → Nat) (cI cZ cP cS : ClassId) (h_t h_t_bytes : Nat) (v_size : Int32) (v_bytes : Nat → Int32) (n : Nat) (r : Int32) (hf : f_X0_months n v_size v_bytes = some r) : Met l yX0_months wsX0_months rm_X0_months (RO (dC, dI) (TY cI cZ cP cS) [.ref h_t] (wd_X0_months cI cZ cP cS h_t h_t_bytes v_size v_bytes)) (vp_Si (fun x => x = r)) 0 0 NF := by
  refine Met.ofW (cc := cX0_months) (maxL := 1) (ret := (some .int)) (by decide) rfl ?_
  intro p e s m args below meth c s₁ B hml hv
  obtain ⟨rfl, hP, hK⟩ := hv
  have hx := B.exec
  have hb := B.bytes
  have hr := B.returns
  have hts := atoms_spec (ws := wsX0_months) B.pre
  have hown : s.vm.findClass RX0 = some m.cls := findClass_of_methodNamed B.named
  have hlocks := B.notSynchronized
  have hinX0 : ∀ w ∈ wsX00, w ∈ wsX0_months := by decide +kernel
  have hl := lv_entry ([.ref h_t]) (n := 1) (Nat.le_of_ble_eq_true rfl)
  rw [lg_entry_eq]
  generalize (lg_sl ([.ref h_t]) ++ List.replicate (1 - (lg_sl ([.ref h_t])).length) Slot.unset).toArray = ls at hl ⊢
  have hl : lv_has ls 1 [(0, .ref h_t)] := hl
  unfold f_X0_months at hf
  refine lv_aload_n hx hb dX0_months_0 rfl (lv_at hl 0 rfl) ?_
  obtain ⟨r1_1, hc_2, hf⟩ := bd1_e hf
  refine vp_callSi (va_runV (As := []) (rest := []) ⟨hx, hb, hml, hown, hts⟩ (c_X0_firstFault l dC dI cI cZ cP cS h_t h_t_bytes v_size v_bytes  n r1_1 hc_2) (cwV 0 hts gX0_months_X0_firstFault rfl rfl rfl (by decide +kernel) ⟨Nat.le_of_ble_eq_true rfl, Nat.le_of_ble_eq_true rfl⟩) (pv_ro (ci := 0) (q0 := 0) hK (hP.sub (ws' := (wd_X0_firstFault cI cZ cP cS h_t h_t_bytes v_size v_bytes)) [0, 1] rfl) rfl rfl) rfl rfl hl.1 rfl (lv_room (Nat.le_of_ble_eq_true rfl)) dX0_months_1 ⟨Nat.zero_le _, Nat.zero_le _⟩).run (fun x e_3 => ?_)
  rw [e_3]
  refine lv_iconst (v := (-1)) hx hb dX0_months_4 (by decide) ?_
  refine lv_icmp_ne (tgt := 19) hx hb dX0_months_5 (by decide) (fun c5 => ?_) (fun c5 => ?_)
  · rw [if_neg c5] at hf
    refine lv_iconst (v := 0) hx hb dX0_months_19 (by decide) ?_
    exact W.iret hx hb hr (fun t ht hW => ⟨_, rfl, Option.some.inj hf, ht⟩) (fun _ h => nomatch h) dX0_months_20
  · rw [if_pos c5] at hf
    refine lv_aload_n hx hb dX0_months_8 rfl (lv_at hl 0 rfl) ?_
    refine va_get (D := (dC, dI)) (ci := 0) (v := .int v_size) (C := RX0) (T := TX0) (N := 2) hx hb hts hinX0 hown hK hP 0 rfl rfl 1 (by decide) (hts (.fieldLink RX0 9 "SecondSunrise$Calendar" "size" "I") (by decide +kernel)) (fun x9 h9 => u_same (hts (.sameField "SecondSunrise$Calendar" "SecondSunrise$Text" "size" "I") (by decide +kernel)) x9 h9) rfl dX0_months_9 ?_
    refine lv_iconst (v := 1) hx hb dX0_months_12 (by decide) ?_
    refine lv_iadd hx hb dX0_months_13 ?_
    refine lv_iconst (v := 3) hx hb dX0_months_14 (by decide) ?_
    refine lv_idiv hx hb dX0_months_15 (by decide) ?_
    refine lv_goto (tgt := 20) hx hb dX0_months_16 (by decide) ?_
    exact W.iret hx hb hr (fun t ht hW => ⟨_, rfl, Option.some.inj hf, ht⟩) (fun _ h => nomatch h) dX0_months_20

abbrev wd_X0_hoursOfAll (cI cZ cP cS : ClassId) (h_t h_t_bytes : Nat) (v_size : Int32) (v_bytes : Nat → Int32) : va_W := [(h_t, .inr (0, [.ref h_t_bytes, .int v_size])), (h_t_bytes, .inl (cI, 20, .inl v_bytes))]
abbrev rm_X0_hoursOfAll : Room := { frames := 4, cells := 0, slots := 0, locals := 84 }
def L_X0_hoursOfAll_9 (n : Nat) (v_size : Int32) (v_bytes : Nat → Int32) (r1_1 : Int32) (kx9 : Int32 → Option (Int32)) : Nat → Int32 → Int32 → Option (Int32)
  | 0, _, _ => none
  | k9 + 1, y9_2, y9_3 => if r1_1 ≤ y9_3 then kx9 y9_2 else bd1_ (f_X0_lengthOf n v_size v_bytes y9_3) (fun (r17_4 : Int32) => L_X0_hoursOfAll_9 n v_size v_bytes r1_1 kx9 k9 (y9_2 + r17_4) (y9_3 + 1))
theorem L_X0_hoursOfAll_9_s (n : Nat) (v_size : Int32) (v_bytes : Nat → Int32) (r1_1 : Int32) (kx9 : Int32 → Option (Int32)) (k9 : Nat) (y9_2 : Int32) (y9_3 : Int32) : L_X0_hoursOfAll_9 n v_size v_bytes r1_1 kx9 (k9 + 1) y9_2 y9_3 = if r1_1 ≤ y9_3 then kx9 y9_2 else bd1_ (f_X0_lengthOf n v_size v_bytes y9_3) (fun (r17_4 : Int32) => L_X0_hoursOfAll_9 n v_size v_bytes r1_1 kx9 k9 (y9_2 + r17_4) (y9_3 + 1)) := rfl
def f_X0_hoursOfAll (n : Nat) (v_size : Int32) (v_bytes : Nat → Int32) : Option (Int32) := bd1_ (f_X0_months n v_size v_bytes) (fun (r1_1 : Int32) => jn1_ (fun (z9_2 : Int32) => some z9_2) (fun kx9 => L_X0_hoursOfAll_9 n v_size v_bytes r1_1 kx9 n 0 0))
set_option maxHeartbeats 4000000 in
set_option maxRecDepth 100000 in
theorem c_X0_hoursOfAll (l : Launch) (dC : Nat → ClassId) (dI : Nat → Nat → Nat) (cI cZ cP cS : ClassId) (h_t h_t_bytes : Nat) (v_size : Int32) (v_bytes : Nat → Int32) (n : Nat) (r : Int32) (hf : f_X0_hoursOfAll n v_size v_bytes = some r) : Met l yX0_hoursOfAll wsX0_hoursOfAll rm_X0_hoursOfAll (RO (dC, dI) (TY cI cZ cP cS) [.ref h_t] (wd_X0_hoursOfAll cI cZ cP cS h_t h_t_bytes v_size v_bytes)) (vp_Si (fun x => x = r)) 0 0 NF := by
  refine Met.ofW (cc := cX0_hoursOfAll) (maxL := 4) (ret := (some .int)) (by decide) rfl ?_
  intro p e s m args below meth c s₁ B hml hv
  obtain ⟨rfl, hP, hK⟩ := hv
  have hx := B.exec
  have hb := B.bytes
  have hr := B.returns
  have hts := atoms_spec (ws := wsX0_hoursOfAll) B.pre
  have hown : s.vm.findClass RX0 = some m.cls := findClass_of_methodNamed B.named
  have hlocks := B.notSynchronized
  have hl := lv_entry ([.ref h_t]) (n := 4) (Nat.le_of_ble_eq_true rfl)
  rw [lg_entry_eq]
  generalize (lg_sl ([.ref h_t]) ++ List.replicate (4 - (lg_sl ([.ref h_t])).length) Slot.unset).toArray = ls at hl ⊢
  have hl : lv_has ls 4 [(0, .ref h_t)] := hl
  unfold f_X0_hoursOfAll at hf
  refine lv_aload_n hx hb dX0_hoursOfAll_0 rfl (lv_at hl 0 rfl) ?_
  obtain ⟨r1_1, hc_2, hf⟩ := bd1_e hf
  refine vp_callSi (va_runV (As := []) (rest := []) ⟨hx, hb, hml, hown, hts⟩ (c_X0_months l dC dI cI cZ cP cS h_t h_t_bytes v_size v_bytes  n r1_1 hc_2) (cwV 0 hts gX0_hoursOfAll_X0_months rfl rfl rfl (by decide +kernel) ⟨Nat.le_of_ble_eq_true rfl, Nat.le_of_ble_eq_true rfl⟩) (pv_ro (ci := 0) (q0 := 0) hK (hP.sub (ws' := (wd_X0_months cI cZ cP cS h_t h_t_bytes v_size v_bytes)) [0, 1] rfl) rfl rfl) rfl rfl hl.1 rfl (lv_room (Nat.le_of_ble_eq_true rfl)) dX0_hoursOfAll_1 ⟨Nat.zero_le _, Nat.zero_le _⟩).run (fun x e_3 => ?_)
  rw [e_3]
  refine lv_istore_n (lv' := [(1, .int r1_1), (0, .ref h_t)]) hx hb dX0_hoursOfAll_4 rfl hl (by decide) rfl (fun ls hl => ?_)
  refine lv_iconst (v := 0) hx hb dX0_hoursOfAll_5 (by decide) ?_
  refine lv_istore_n (lv' := [(2, .int 0), (1, .int r1_1), (0, .ref h_t)]) hx hb dX0_hoursOfAll_6 rfl hl (by decide) rfl (fun ls hl => ?_)
  refine lv_iconst (v := 0) hx hb dX0_hoursOfAll_7 (by decide) ?_
  refine lv_istore_n (lv' := [(3, .int 0), (2, .int 0), (1, .int r1_1), (0, .ref h_t)]) hx hb dX0_hoursOfAll_8 rfl hl (by decide) rfl (fun ls hl => ?_)
  obtain ⟨kx9, ekx9, hf⟩ := jn1_e hf
  have hx9 : ∀ (z9_2 : Int32) (ls : Array Slot), lv_has ls 4 [(2, .int z9_2)] → kx9 z9_2 = some r → W p l e (headSpec wsX0_hoursOfAll rm_X0_hoursOfAll).room s m ([.ref h_t] : List Value).toArray below meth c s.heap [] 0 0 (MQ below (vp_Si (fun x => x = r)) ([.ref h_t] : List Value).toArray s 0 0 NF) (F0 m 28 ls []) := by
    intro z9_2 ls hl hf
    rw [ekx9] at hf
    refine lv_iload_n hx hb dX0_hoursOfAll_28 rfl (lv_at hl 0 rfl) ?_
    exact W.iret hx hb hr (fun t ht hW => ⟨_, rfl, Option.some.inj hf, ht⟩) (fun _ h => nomatch h) dX0_hoursOfAll_29
  have hL9 : ∀ (k9 : Nat) (y9_2 : Int32) (y9_3 : Int32) (ls : Array Slot), lv_has ls 4 [(0, .ref h_t), (1, .int r1_1), (2, .int y9_2), (3, .int y9_3)] → L_X0_hoursOfAll_9 n v_size v_bytes r1_1 kx9 k9 y9_2 y9_3 = some r → W p l e (headSpec wsX0_hoursOfAll rm_X0_hoursOfAll).room s m ([.ref h_t] : List Value).toArray below meth c s.heap [] 0 0 (MQ below (vp_Si (fun x => x = r)) ([.ref h_t] : List Value).toArray s 0 0 NF) (F0 m 9 ls []) := by
    intro k9
    induction k9 with
    | zero =>
      intro y9_2 y9_3 ls hl hf
      exact absurd hf (fun h => Option.some_ne_none _ h.symm)
    | succ k9 ih =>
      intro y9_2 y9_3 ls hl hf
      rw [L_X0_hoursOfAll_9_s] at hf
      refine lv_iload_n hx hb dX0_hoursOfAll_9 rfl (lv_at hl 3 rfl) ?_
      refine lv_iload_n hx hb dX0_hoursOfAll_10 rfl (lv_at hl 1 rfl) ?_
      refine lv_icmp_ge (tgt := 28) hx hb dX0_hoursOfAll_11 (by decide) (fun c11 => ?_) (fun c11 => ?_)
      · rw [if_pos c11] at hf
        exact hx9 y9_2 ls (lv_sub hl [2] rfl) hf
      · rw [if_neg c11] at hf
        refine lv_iload_n hx hb dX0_hoursOfAll_14 rfl (lv_at hl 2 rfl) ?_
        refine lv_aload_n hx hb dX0_hoursOfAll_15 rfl (lv_at hl 0 rfl) ?_
        refine lv_iload_n hx hb dX0_hoursOfAll_16 rfl (lv_at hl 3 rfl) ?_
        obtain ⟨r17_4, hc_5, hf⟩ := bd1_e hf
        refine vp_callSi (va_runV (As := [.int y9_3]) (rest := [.int y9_2]) ⟨hx, hb, hml, hown, hts⟩ (c_X0_lengthOf l dC dI cI cZ cP cS h_t h_t_bytes v_size v_bytes y9_3 n r17_4 hc_5) (cwV 1 hts gX0_hoursOfAll_X0_lengthOf rfl rfl rfl (by decide +kernel) ⟨Nat.le_of_ble_eq_true rfl, Nat.le_of_ble_eq_true rfl⟩) (pv_ro (ci := 0) (q0 := 0) hK (hP.sub (ws' := (wd_X0_lengthOf cI cZ cP cS h_t h_t_bytes v_size v_bytes)) [0, 1] rfl) rfl rfl) rfl rfl hl.1 rfl (lv_room (Nat.le_of_ble_eq_true rfl)) dX0_hoursOfAll_17 ⟨Nat.zero_le _, Nat.zero_le _⟩).run (fun x e_6 => ?_)
        rw [e_6]
        refine lv_iadd hx hb dX0_hoursOfAll_20 ?_
        refine lv_istore_n (lv' := [(2, .int (y9_2 + r17_4)), (0, .ref h_t), (1, .int r1_1), (3, .int y9_3)]) hx hb dX0_hoursOfAll_21 rfl hl (by decide) rfl (fun ls hl => ?_)
        refine lv_iinc (v := (y9_3 + 1)) (lv' := [(3, .int (y9_3 + 1)), (2, .int (y9_2 + r17_4)), (0, .ref h_t), (1, .int r1_1)]) hx hb dX0_hoursOfAll_22 hl (k := 3) rfl rfl (by decide) rfl (fun ls hl => ?_)
        refine lv_goto (tgt := 9) hx hb dX0_hoursOfAll_25 (by decide) ?_
        exact ih (y9_2 + r17_4) (y9_3 + 1) ls (lv_sub hl [2, 3, 1, 0] rfl) hf
  exact hL9 n 0 0 ls (lv_sub hl [3, 2, 1, 0] rfl) hf

abbrev wd_X1_seenIn (cI cZ cP cS : ClassId) (h_t h_t_bytes : Nat) (v_size : Int32) (v_bytes : Nat → Int32) : va_W := [(h_t, .inr (1, [.ref h_t_bytes, .int v_size])), (h_t_bytes, .inl (cI, 60, .inl v_bytes))]
abbrev rm_X1_seenIn : Room := { frames := 1, cells := 0, slots := 0, locals := 21 }
def f_X1_seenIn (n : Nat) (v_size : Int32) (v_bytes : Nat → Int32) (x1 : Int32) : Option (Int32) := bd1_ (f_X6_byteAt_D n v_size v_bytes x1) (fun (r2_1 : Int32) => if r2_1 = 98 then some 2 else if r2_1 = 100 then some 3 else if r2_1 = 110 then some 0 else if r2_1 = 114 then some 1 else some (-1))
set_option maxHeartbeats 4000000 in
set_option maxRecDepth 100000 in
theorem c_X1_seenIn (l : Launch) (dC : Nat → ClassId) (dI : Nat → Nat → Nat) (cI cZ cP cS : ClassId) (h_t h_t_bytes : Nat) (v_size : Int32) (v_bytes : Nat → Int32) (x1 : Int32) (n : Nat) (r : Int32) (hf : f_X1_seenIn n v_size v_bytes x1 = some r) : Met l yX1_seenIn wsX1_seenIn rm_X1_seenIn (RO (dC, dI) (TY cI cZ cP cS) [.ref h_t, .int x1] (wd_X1_seenIn cI cZ cP cS h_t h_t_bytes v_size v_bytes)) (vp_Si (fun x => x = r)) 0 0 NF := by
  refine Met.ofW (cc := cX1_seenIn) (maxL := 2) (ret := (some .int)) (by decide) rfl ?_
  intro p e s m args below meth c s₁ B hml hv
  obtain ⟨rfl, hP, hK⟩ := hv
  have hx := B.exec
  have hb := B.bytes
  have hr := B.returns
  have hts := atoms_spec (ws := wsX1_seenIn) B.pre
  have hown : s.vm.findClass RX1 = some m.cls := findClass_of_methodNamed B.named
  have hlocks := B.notSynchronized
  have hl := lv_entry ([.ref h_t, .int x1]) (n := 2) (Nat.le_of_ble_eq_true rfl)
  rw [lg_entry_eq]
  generalize (lg_sl ([.ref h_t, .int x1]) ++ List.replicate (2 - (lg_sl ([.ref h_t, .int x1])).length) Slot.unset).toArray = ls at hl ⊢
  have hl : lv_has ls 2 [(0, .ref h_t), (1, .int x1)] := hl
  unfold f_X1_seenIn at hf
  refine lv_aload_n hx hb dX1_seenIn_0 rfl (lv_at hl 0 rfl) ?_
  refine lv_iload_n hx hb dX1_seenIn_1 rfl (lv_at hl 1 rfl) ?_
  obtain ⟨r2_1, hc_2, hf⟩ := bd1_e hf
  refine vp_callSi (va_runU (As := [.int x1]) (rest := []) ⟨hx, hb, hml, hown, hts⟩ (c_X6_byteAt_D l dC dI cI cZ cP cS h_t h_t_bytes v_size v_bytes x1 n r2_1 hc_2) (va_cwU 1 hts gX1_seenIn_X6_byteAt_u15X1 rfl rfl rfl rfl (by decide +kernel) ⟨Nat.le_of_ble_eq_true rfl, Nat.le_of_ble_eq_true rfl⟩) (pv_ro (ci := 1) (q0 := 0) hK (hP.sub (ws' := (wd_X6_byteAt_D cI cZ cP cS h_t h_t_bytes v_size v_bytes)) [0, 1] rfl) rfl rfl) rfl rfl hl.1 rfl (lv_room (Nat.le_of_ble_eq_true rfl)) dX1_seenIn_2 ⟨Nat.zero_le _, Nat.zero_le _⟩).run (fun x e_3 => ?_)
  rw [e_3]
  by_cases c5_98 : r2_1 = 98
  · rw [if_pos c5_98] at hf
    refine lv_lookup (off := 47) (tgt := 52) hx hb dX1_seenIn_5 (by decide) (by rw [c5_98]; decide) (by decide) ?_
    refine lv_iconst (v := 2) hx hb dX1_seenIn_52 (by decide) ?_
    exact W.iret hx hb hr (fun t ht hW => ⟨_, rfl, Option.some.inj hf, ht⟩) (fun _ h => nomatch h) dX1_seenIn_53
  · rw [if_neg c5_98] at hf
    by_cases c5_100 : r2_1 = 100
    · rw [if_pos c5_100] at hf
      refine lv_lookup (off := 49) (tgt := 54) hx hb dX1_seenIn_5 (by decide) (by rw [c5_100]; decide) (by decide) ?_
      refine lv_iconst (v := 3) hx hb dX1_seenIn_54 (by decide) ?_
      exact W.iret hx hb hr (fun t ht hW => ⟨_, rfl, Option.some.inj hf, ht⟩) (fun _ h => nomatch h) dX1_seenIn_55
    · rw [if_neg c5_100] at hf
      by_cases c5_110 : r2_1 = 110
      · rw [if_pos c5_110] at hf
        refine lv_lookup (off := 43) (tgt := 48) hx hb dX1_seenIn_5 (by decide) (by rw [c5_110]; decide) (by decide) ?_
        refine lv_iconst (v := 0) hx hb dX1_seenIn_48 (by decide) ?_
        exact W.iret hx hb hr (fun t ht hW => ⟨_, rfl, Option.some.inj hf, ht⟩) (fun _ h => nomatch h) dX1_seenIn_49
      · rw [if_neg c5_110] at hf
        by_cases c5_114 : r2_1 = 114
        · rw [if_pos c5_114] at hf
          refine lv_lookup (off := 45) (tgt := 50) hx hb dX1_seenIn_5 (by decide) (by rw [c5_114]; decide) (by decide) ?_
          refine lv_iconst (v := 1) hx hb dX1_seenIn_50 (by decide) ?_
          exact W.iret hx hb hr (fun t ht hW => ⟨_, rfl, Option.some.inj hf, ht⟩) (fun _ h => nomatch h) dX1_seenIn_51
        · rw [if_neg c5_114] at hf
          refine lv_lookup (off := 51) (tgt := 56) hx hb dX1_seenIn_5 (by decide) (lk4 c5_98 c5_100 c5_110 c5_114) (by decide) ?_
          refine lv_iconst (v := (-1)) hx hb dX1_seenIn_56 (by decide) ?_
          exact W.iret hx hb hr (fun t ht hW => ⟨_, rfl, Option.some.inj hf, ht⟩) (fun _ h => nomatch h) dX1_seenIn_57

abbrev wd_X1_firstFault (cI cZ cP cS : ClassId) (h_t h_t_bytes : Nat) (v_size : Int32) (v_bytes : Nat → Int32) : va_W := [(h_t, .inr (1, [.ref h_t_bytes, .int v_size])), (h_t_bytes, .inl (cI, 60, .inl v_bytes))]
abbrev rm_X1_firstFault : Room := { frames := 2, cells := 0, slots := 0, locals := 42 }
def L_X1_firstFault_2 (n : Nat) (v_size : Int32) (v_bytes : Nat → Int32) (kx2 : Option (Int32)) : Nat → Int32 → Option (Int32)
  | 0, _ => none
  | k2 + 1, y2_1 => if v_size ≤ y2_1 then kx2 else bd1_ (f_X6_byteAt_D n v_size v_bytes y2_1) (fun (r12_1 : Int32) => jn0_ (L_X1_firstFault_2 n v_size v_bytes kx2 k2 (y2_1 + 1)) (fun k31 => if r12_1 = 46 then k31 else bd1_ (f_X1_seenIn n v_size v_bytes y2_1) (fun (r22_4 : Int32) => if r22_4 = (-1) then some y2_1 else k31)))
theorem L_X1_firstFault_2_s (n : Nat) (v_size : Int32) (v_bytes : Nat → Int32) (kx2 : Option (Int32)) (k2 : Nat) (y2_1 : Int32) : L_X1_firstFault_2 n v_size v_bytes kx2 (k2 + 1) y2_1 = if v_size ≤ y2_1 then kx2 else bd1_ (f_X6_byteAt_D n v_size v_bytes y2_1) (fun (r12_1 : Int32) => jn0_ (L_X1_firstFault_2 n v_size v_bytes kx2 k2 (y2_1 + 1)) (fun k31 => if r12_1 = 46 then k31 else bd1_ (f_X1_seenIn n v_size v_bytes y2_1) (fun (r22_4 : Int32) => if r22_4 = (-1) then some y2_1 else k31))) := rfl
def f_X1_firstFault (n : Nat) (v_size : Int32) (v_bytes : Nat → Int32) : Option (Int32) := jn0_ (some (-1)) (fun kx2 => L_X1_firstFault_2 n v_size v_bytes kx2 n 0)
set_option maxHeartbeats 4000000 in
set_option maxRecDepth 100000 in
theorem c_X1_firstFault (l : Launch) (dC : Nat → ClassId) (dI : Nat → Nat → Nat) (cI cZ cP cS : ClassId) (h_t h_t_bytes : Nat) (v_size : Int32) (v_bytes : Nat → Int32) (n : Nat) (r : Int32) (hf : f_X1_firstFault n v_size v_bytes = some r) : Met l yX1_firstFault wsX1_firstFault rm_X1_firstFault (RO (dC, dI) (TY cI cZ cP cS) [.ref h_t] (wd_X1_firstFault cI cZ cP cS h_t h_t_bytes v_size v_bytes)) (vp_Si (fun x => x = r)) 0 0 NF := by
  refine Met.ofW (cc := cX1_firstFault) (maxL := 2) (ret := (some .int)) (by decide) rfl ?_
  intro p e s m args below meth c s₁ B hml hv
  obtain ⟨rfl, hP, hK⟩ := hv
  have hx := B.exec
  have hb := B.bytes
  have hr := B.returns
  have hts := atoms_spec (ws := wsX1_firstFault) B.pre
  have hown : s.vm.findClass RX1 = some m.cls := findClass_of_methodNamed B.named
  have hlocks := B.notSynchronized
  have hinX1 : ∀ w ∈ wsX10, w ∈ wsX1_firstFault := by decide +kernel
  have hl := lv_entry ([.ref h_t]) (n := 2) (Nat.le_of_ble_eq_true rfl)
  rw [lg_entry_eq]
  generalize (lg_sl ([.ref h_t]) ++ List.replicate (2 - (lg_sl ([.ref h_t])).length) Slot.unset).toArray = ls at hl ⊢
  have hl : lv_has ls 2 [(0, .ref h_t)] := hl
  unfold f_X1_firstFault at hf
  refine lv_iconst (v := 0) hx hb dX1_firstFault_0 (by decide) ?_
  refine lv_istore_n (lv' := [(1, .int 0), (0, .ref h_t)]) hx hb dX1_firstFault_1 rfl hl (by decide) rfl (fun ls hl => ?_)
  obtain ⟨kx2, ekx2, hf⟩ := jn0_e hf
  have hx2 : ∀ (ls : Array Slot), lv_has ls 2 [] → kx2 = some r → W p l e (headSpec wsX1_firstFault rm_X1_firstFault).room s m ([.ref h_t] : List Value).toArray below meth c s.heap [] 0 0 (MQ below (vp_Si (fun x => x = r)) ([.ref h_t] : List Value).toArray s 0 0 NF) (F0 m 37 ls []) := by
    intro ls hl hf
    rw [ekx2] at hf
    refine lv_iconst (v := (-1)) hx hb dX1_firstFault_37 (by decide) ?_
    exact W.iret hx hb hr (fun t ht hW => ⟨_, rfl, Option.some.inj hf, ht⟩) (fun _ h => nomatch h) dX1_firstFault_38
  have hL2 : ∀ (k2 : Nat) (y2_1 : Int32) (ls : Array Slot), lv_has ls 2 [(0, .ref h_t), (1, .int y2_1)] → L_X1_firstFault_2 n v_size v_bytes kx2 k2 y2_1 = some r → W p l e (headSpec wsX1_firstFault rm_X1_firstFault).room s m ([.ref h_t] : List Value).toArray below meth c s.heap [] 0 0 (MQ below (vp_Si (fun x => x = r)) ([.ref h_t] : List Value).toArray s 0 0 NF) (F0 m 2 ls []) := by
    intro k2
    induction k2 with
    | zero =>
      intro y2_1 ls hl hf
      exact absurd hf (fun h => Option.some_ne_none _ h.symm)
    | succ k2 ih =>
      intro y2_1 ls hl hf
      rw [L_X1_firstFault_2_s] at hf
      refine lv_iload_n hx hb dX1_firstFault_2 rfl (lv_at hl 1 rfl) ?_
      refine lv_aload_n hx hb dX1_firstFault_3 rfl (lv_at hl 0 rfl) ?_
      refine va_get (D := (dC, dI)) (ci := 1) (v := .int v_size) (C := RX1) (T := TX1) (N := 2) hx hb hts hinX1 hown hK hP 0 rfl rfl 1 (by decide) (hts (.fieldLink RX1 9 "SecondSunrise$Diary" "size" "I") (by decide +kernel)) (fun x9 h9 => u_same (hts (.sameField "SecondSunrise$Diary" "SecondSunrise$Text" "size" "I") (by decide +kernel)) x9 h9) rfl dX1_firstFault_4 ?_
      refine lv_icmp_ge (tgt := 37) hx hb dX1_firstFault_7 (by decide) (fun c7 => ?_) (fun c7 => ?_)
      · rw [if_pos c7] at hf
        exact hx2 ls (lv_sub hl [] rfl) hf
      · rw [if_neg c7] at hf
        refine lv_aload_n hx hb dX1_firstFault_10 rfl (lv_at hl 0 rfl) ?_
        refine lv_iload_n hx hb dX1_firstFault_11 rfl (lv_at hl 1 rfl) ?_
        obtain ⟨r12_1, hc_2, hf⟩ := bd1_e hf
        refine vp_callSi (va_runU (As := [.int y2_1]) (rest := []) ⟨hx, hb, hml, hown, hts⟩ (c_X6_byteAt_D l dC dI cI cZ cP cS h_t h_t_bytes v_size v_bytes y2_1 n r12_1 hc_2) (va_cwU 1 hts gX1_firstFault_X6_byteAt_u15X1 rfl rfl rfl rfl (by decide +kernel) ⟨Nat.le_of_ble_eq_true rfl, Nat.le_of_ble_eq_true rfl⟩) (pv_ro (ci := 1) (q0 := 0) hK (hP.sub (ws' := (wd_X6_byteAt_D cI cZ cP cS h_t h_t_bytes v_size v_bytes)) [0, 1] rfl) rfl rfl) rfl rfl hl.1 rfl (lv_room (Nat.le_of_ble_eq_true rfl)) dX1_firstFault_12 ⟨Nat.zero_le _, Nat.zero_le _⟩).run (fun x e_3 => ?_)
        rw [e_3]
        refine lv_bipush (v := 46) hx hb dX1_firstFault_15 (by decide) ?_
        obtain ⟨k31, ek31, hf⟩ := jn0_e hf
        have hj31 : ∀ (ls : Array Slot), lv_has ls 2 [(0, .ref h_t), (1, .int y2_1)] → k31 = some r → W p l e (headSpec wsX1_firstFault rm_X1_firstFault).room s m ([.ref h_t] : List Value).toArray below meth c s.heap [] 0 0 (MQ below (vp_Si (fun x => x = r)) ([.ref h_t] : List Value).toArray s 0 0 NF) (F0 m 31 ls []) := by
          intro ls hl hf
          rw [ek31] at hf
          refine lv_iinc (v := (y2_1 + 1)) (lv' := [(1, .int (y2_1 + 1)), (0, .ref h_t)]) hx hb dX1_firstFault_31 hl (k := 1) rfl rfl (by decide) rfl (fun ls hl => ?_)
          refine lv_goto (tgt := 2) hx hb dX1_firstFault_34 (by decide) ?_
          exact ih (y2_1 + 1) ls (lv_sub hl [1, 0] rfl) hf
        refine lv_icmp_eq (tgt := 31) hx hb dX1_firstFault_17 (by decide) (fun c17 => ?_) (fun c17 => ?_)
        · rw [if_pos c17] at hf
          exact hj31 ls (lv_sub hl [0, 1] rfl) hf
        · rw [if_neg c17] at hf
          refine lv_aload_n hx hb dX1_firstFault_20 rfl (lv_at hl 0 rfl) ?_
          refine lv_iload_n hx hb dX1_firstFault_21 rfl (lv_at hl 1 rfl) ?_
          obtain ⟨r22_4, hc_5, hf⟩ := bd1_e hf
          refine vp_callSi (va_runV (As := [.int y2_1]) (rest := []) ⟨hx, hb, hml, hown, hts⟩ (c_X1_seenIn l dC dI cI cZ cP cS h_t h_t_bytes v_size v_bytes y2_1 n r22_4 hc_5) (cwV 1 hts gX1_firstFault_X1_seenIn rfl rfl rfl (by decide +kernel) ⟨Nat.le_of_ble_eq_true rfl, Nat.le_of_ble_eq_true rfl⟩) (pv_ro (ci := 1) (q0 := 0) hK (hP.sub (ws' := (wd_X1_seenIn cI cZ cP cS h_t h_t_bytes v_size v_bytes)) [0, 1] rfl) rfl rfl) rfl rfl hl.1 rfl (lv_room (Nat.le_of_ble_eq_true rfl)) dX1_firstFault_22 ⟨Nat.zero_le _, Nat.zero_le _⟩).run (fun x e_6 => ?_)
          rw [e_6]
          refine lv_iconst (v := (-1)) hx hb dX1_firstFault_25 (by decide) ?_
          refine lv_icmp_ne (tgt := 31) hx hb dX1_firstFault_26 (by decide) (fun c26 => ?_) (fun c26 => ?_)
          · rw [if_neg c26] at hf
            exact hj31 ls (lv_sub hl [0, 1] rfl) hf
          · rw [if_pos c26] at hf
            refine lv_iload_n hx hb dX1_firstFault_29 rfl (lv_at hl 1 rfl) ?_
            exact W.iret hx hb hr (fun t ht hW => ⟨_, rfl, Option.some.inj hf, ht⟩) (fun _ h => nomatch h) dX1_firstFault_30
  exact hL2 n 0 ls (lv_sub hl [1, 0] rfl) hf

abbrev wd_X1_hours (cI cZ cP cS : ClassId) (h_t h_t_bytes : Nat) (v_size : Int32) (v_bytes : Nat → Int32) : va_W := [(h_t, .inr (1, [.ref h_t_bytes, .int v_size])), (h_t_bytes, .inl (cI, 60, .inl v_bytes))]
abbrev rm_X1_hours : Room := { frames := 3, cells := 0, slots := 0, locals := 63 }
def f_X1_hours (n : Nat) (v_size : Int32) (v_bytes : Nat → Int32) : Option (Int32) := bd1_ (f_X1_firstFault n v_size v_bytes) (fun (r1_1 : Int32) => if r1_1 = (-1) then some v_size else some 0)
set_option maxHeartbeats 4000000 in
set_option maxRecDepth 100000 in
theorem c_X1_hours (l : Launch) (dC : Nat → ClassId) (dI : Nat → Nat → Nat) (cI cZ cP cS : ClassId) (h_t h_t_bytes : Nat) (v_size : Int32) (v_bytes : Nat → Int32) (n : Nat) (r : Int32) (hf : f_X1_hours n v_size v_bytes = some r) : Met l yX1_hours wsX1_hours rm_X1_hours (RO (dC, dI) (TY cI cZ cP cS) [.ref h_t] (wd_X1_hours cI cZ cP cS h_t h_t_bytes v_size v_bytes)) (vp_Si (fun x => x = r)) 0 0 NF := by
  refine Met.ofW (cc := cX1_hours) (maxL := 1) (ret := (some .int)) (by decide) rfl ?_
  intro p e s m args below meth c s₁ B hml hv
  obtain ⟨rfl, hP, hK⟩ := hv
  have hx := B.exec
  have hb := B.bytes
  have hr := B.returns
  have hts := atoms_spec (ws := wsX1_hours) B.pre
  have hown : s.vm.findClass RX1 = some m.cls := findClass_of_methodNamed B.named
  have hlocks := B.notSynchronized
  have hinX1 : ∀ w ∈ wsX10, w ∈ wsX1_hours := by decide +kernel
  have hl := lv_entry ([.ref h_t]) (n := 1) (Nat.le_of_ble_eq_true rfl)
  rw [lg_entry_eq]
  generalize (lg_sl ([.ref h_t]) ++ List.replicate (1 - (lg_sl ([.ref h_t])).length) Slot.unset).toArray = ls at hl ⊢
  have hl : lv_has ls 1 [(0, .ref h_t)] := hl
  unfold f_X1_hours at hf
  refine lv_aload_n hx hb dX1_hours_0 rfl (lv_at hl 0 rfl) ?_
  obtain ⟨r1_1, hc_2, hf⟩ := bd1_e hf
  refine vp_callSi (va_runV (As := []) (rest := []) ⟨hx, hb, hml, hown, hts⟩ (c_X1_firstFault l dC dI cI cZ cP cS h_t h_t_bytes v_size v_bytes  n r1_1 hc_2) (cwV 0 hts gX1_hours_X1_firstFault rfl rfl rfl (by decide +kernel) ⟨Nat.le_of_ble_eq_true rfl, Nat.le_of_ble_eq_true rfl⟩) (pv_ro (ci := 1) (q0 := 0) hK (hP.sub (ws' := (wd_X1_firstFault cI cZ cP cS h_t h_t_bytes v_size v_bytes)) [0, 1] rfl) rfl rfl) rfl rfl hl.1 rfl (lv_room (Nat.le_of_ble_eq_true rfl)) dX1_hours_1 ⟨Nat.zero_le _, Nat.zero_le _⟩).run (fun x e_3 => ?_)
  rw [e_3]
  refine lv_iconst (v := (-1)) hx hb dX1_hours_4 (by decide) ?_
  refine lv_icmp_ne (tgt := 15) hx hb dX1_hours_5 (by decide) (fun c5 => ?_) (fun c5 => ?_)
  · rw [if_neg c5] at hf
    refine lv_iconst (v := 0) hx hb dX1_hours_15 (by decide) ?_
    exact W.iret hx hb hr (fun t ht hW => ⟨_, rfl, Option.some.inj hf, ht⟩) (fun _ h => nomatch h) dX1_hours_16
  · rw [if_pos c5] at hf
    refine lv_aload_n hx hb dX1_hours_8 rfl (lv_at hl 0 rfl) ?_
    refine va_get (D := (dC, dI)) (ci := 1) (v := .int v_size) (C := RX1) (T := TX1) (N := 2) hx hb hts hinX1 hown hK hP 0 rfl rfl 1 (by decide) (hts (.fieldLink RX1 9 "SecondSunrise$Diary" "size" "I") (by decide +kernel)) (fun x9 h9 => u_same (hts (.sameField "SecondSunrise$Diary" "SecondSunrise$Text" "size" "I") (by decide +kernel)) x9 h9) rfl dX1_hours_9 ?_
    refine lv_goto (tgt := 16) hx hb dX1_hours_12 (by decide) ?_
    exact W.iret hx hb hr (fun t ht hW => ⟨_, rfl, Option.some.inj hf, ht⟩) (fun _ h => nomatch h) dX1_hours_16

abbrev wd_X1_hoursLooked (cI cZ cP cS : ClassId) (h_t h_t_bytes : Nat) (v_size : Int32) (v_bytes : Nat → Int32) : va_W := [(h_t, .inr (1, [.ref h_t_bytes, .int v_size])), (h_t_bytes, .inl (cI, 60, .inl v_bytes))]
abbrev rm_X1_hoursLooked : Room := { frames := 4, cells := 0, slots := 0, locals := 83 }
def L_X1_hoursLooked_9 (n : Nat) (v_size : Int32) (v_bytes : Nat → Int32) (r1_1 : Int32) (kx9 : Int32 → Option (Int32)) : Nat → Int32 → Int32 → Option (Int32)
  | 0, _, _ => none
  | k9 + 1, y9_2, y9_3 => if r1_1 ≤ y9_3 then kx9 y9_2 else bd1_ (f_X1_seenIn n v_size v_bytes y9_3) (fun (r16_4 : Int32) => lt_ ((if r16_4 = (-1) then y9_2 else (y9_2 + 1)) : Int32) (fun v26_7 => L_X1_hoursLooked_9 n v_size v_bytes r1_1 kx9 k9 v26_7 (y9_3 + 1)))
theorem L_X1_hoursLooked_9_s (n : Nat) (v_size : Int32) (v_bytes : Nat → Int32) (r1_1 : Int32) (kx9 : Int32 → Option (Int32)) (k9 : Nat) (y9_2 : Int32) (y9_3 : Int32) : L_X1_hoursLooked_9 n v_size v_bytes r1_1 kx9 (k9 + 1) y9_2 y9_3 = if r1_1 ≤ y9_3 then kx9 y9_2 else bd1_ (f_X1_seenIn n v_size v_bytes y9_3) (fun (r16_4 : Int32) => lt_ ((if r16_4 = (-1) then y9_2 else (y9_2 + 1)) : Int32) (fun v26_7 => L_X1_hoursLooked_9 n v_size v_bytes r1_1 kx9 k9 v26_7 (y9_3 + 1))) := rfl
def f_X1_hoursLooked (n : Nat) (v_size : Int32) (v_bytes : Nat → Int32) : Option (Int32) := bd1_ (f_X1_hours n v_size v_bytes) (fun (r1_1 : Int32) => jn1_ (fun (z9_2 : Int32) => some z9_2) (fun kx9 => L_X1_hoursLooked_9 n v_size v_bytes r1_1 kx9 n 0 0))
set_option maxHeartbeats 4000000 in
set_option maxRecDepth 100000 in
theorem c_X1_hoursLooked (l : Launch) (dC : Nat → ClassId) (dI : Nat → Nat → Nat) (cI cZ cP cS : ClassId) (h_t h_t_bytes : Nat) (v_size : Int32) (v_bytes : Nat → Int32) (n : Nat) (r : Int32) (hf : f_X1_hoursLooked n v_size v_bytes = some r) : Met l yX1_hoursLooked wsX1_hoursLooked rm_X1_hoursLooked (RO (dC, dI) (TY cI cZ cP cS) [.ref h_t] (wd_X1_hoursLooked cI cZ cP cS h_t h_t_bytes v_size v_bytes)) (vp_Si (fun x => x = r)) 0 0 NF := by
  refine Met.ofW (cc := cX1_hoursLooked) (maxL := 4) (ret := (some .int)) (by decide) rfl ?_
  intro p e s m args below meth c s₁ B hml hv
  obtain ⟨rfl, hP, hK⟩ := hv
  have hx := B.exec
  have hb := B.bytes
  have hr := B.returns
  have hts := atoms_spec (ws := wsX1_hoursLooked) B.pre
  have hown : s.vm.findClass RX1 = some m.cls := findClass_of_methodNamed B.named
  have hlocks := B.notSynchronized
  have hl := lv_entry ([.ref h_t]) (n := 4) (Nat.le_of_ble_eq_true rfl)
  rw [lg_entry_eq]
  generalize (lg_sl ([.ref h_t]) ++ List.replicate (4 - (lg_sl ([.ref h_t])).length) Slot.unset).toArray = ls at hl ⊢
  have hl : lv_has ls 4 [(0, .ref h_t)] := hl
  unfold f_X1_hoursLooked at hf
  refine lv_aload_n hx hb dX1_hoursLooked_0 rfl (lv_at hl 0 rfl) ?_
  obtain ⟨r1_1, hc_2, hf⟩ := bd1_e hf
  refine vp_callSi (va_runV (As := []) (rest := []) ⟨hx, hb, hml, hown, hts⟩ (c_X1_hours l dC dI cI cZ cP cS h_t h_t_bytes v_size v_bytes  n r1_1 hc_2) (cwV 0 hts gX1_hoursLooked_X1_hours rfl rfl rfl (by decide +kernel) ⟨Nat.le_of_ble_eq_true rfl, Nat.le_of_ble_eq_true rfl⟩) (pv_ro (ci := 1) (q0 := 0) hK (hP.sub (ws' := (wd_X1_hours cI cZ cP cS h_t h_t_bytes v_size v_bytes)) [0, 1] rfl) rfl rfl) rfl rfl hl.1 rfl (lv_room (Nat.le_of_ble_eq_true rfl)) dX1_hoursLooked_1 ⟨Nat.zero_le _, Nat.zero_le _⟩).run (fun x e_3 => ?_)
  rw [e_3]
  refine lv_istore_n (lv' := [(1, .int r1_1), (0, .ref h_t)]) hx hb dX1_hoursLooked_4 rfl hl (by decide) rfl (fun ls hl => ?_)
  refine lv_iconst (v := 0) hx hb dX1_hoursLooked_5 (by decide) ?_
  refine lv_istore_n (lv' := [(2, .int 0), (1, .int r1_1), (0, .ref h_t)]) hx hb dX1_hoursLooked_6 rfl hl (by decide) rfl (fun ls hl => ?_)
  refine lv_iconst (v := 0) hx hb dX1_hoursLooked_7 (by decide) ?_
  refine lv_istore_n (lv' := [(3, .int 0), (2, .int 0), (1, .int r1_1), (0, .ref h_t)]) hx hb dX1_hoursLooked_8 rfl hl (by decide) rfl (fun ls hl => ?_)
  obtain ⟨kx9, ekx9, hf⟩ := jn1_e hf
  have hx9 : ∀ (z9_2 : Int32) (ls : Array Slot), lv_has ls 4 [(2, .int z9_2)] → kx9 z9_2 = some r → W p l e (headSpec wsX1_hoursLooked rm_X1_hoursLooked).room s m ([.ref h_t] : List Value).toArray below meth c s.heap [] 0 0 (MQ below (vp_Si (fun x => x = r)) ([.ref h_t] : List Value).toArray s 0 0 NF) (F0 m 32 ls []) := by
    intro z9_2 ls hl hf
    rw [ekx9] at hf
    refine lv_iload_n hx hb dX1_hoursLooked_32 rfl (lv_at hl 0 rfl) ?_
    exact W.iret hx hb hr (fun t ht hW => ⟨_, rfl, Option.some.inj hf, ht⟩) (fun _ h => nomatch h) dX1_hoursLooked_33
  have hL9 : ∀ (k9 : Nat) (y9_2 : Int32) (y9_3 : Int32) (ls : Array Slot), lv_has ls 4 [(0, .ref h_t), (1, .int r1_1), (2, .int y9_2), (3, .int y9_3)] → L_X1_hoursLooked_9 n v_size v_bytes r1_1 kx9 k9 y9_2 y9_3 = some r → W p l e (headSpec wsX1_hoursLooked rm_X1_hoursLooked).room s m ([.ref h_t] : List Value).toArray below meth c s.heap [] 0 0 (MQ below (vp_Si (fun x => x = r)) ([.ref h_t] : List Value).toArray s 0 0 NF) (F0 m 9 ls []) := by
    intro k9
    induction k9 with
    | zero =>
      intro y9_2 y9_3 ls hl hf
      exact absurd hf (fun h => Option.some_ne_none _ h.symm)
    | succ k9 ih =>
      intro y9_2 y9_3 ls hl hf
      rw [L_X1_hoursLooked_9_s] at hf
      refine lv_iload_n hx hb dX1_hoursLooked_9 rfl (lv_at hl 3 rfl) ?_
      refine lv_iload_n hx hb dX1_hoursLooked_10 rfl (lv_at hl 1 rfl) ?_
      refine lv_icmp_ge (tgt := 32) hx hb dX1_hoursLooked_11 (by decide) (fun c11 => ?_) (fun c11 => ?_)
      · rw [if_pos c11] at hf
        exact hx9 y9_2 ls (lv_sub hl [2] rfl) hf
      · rw [if_neg c11] at hf
        refine lv_aload_n hx hb dX1_hoursLooked_14 rfl (lv_at hl 0 rfl) ?_
        refine lv_iload_n hx hb dX1_hoursLooked_15 rfl (lv_at hl 3 rfl) ?_
        obtain ⟨r16_4, hc_5, hf⟩ := bd1_e hf
        refine vp_callSi (va_runV (As := [.int y9_3]) (rest := []) ⟨hx, hb, hml, hown, hts⟩ (c_X1_seenIn l dC dI cI cZ cP cS h_t h_t_bytes v_size v_bytes y9_3 n r16_4 hc_5) (cwV 1 hts gX1_hoursLooked_X1_seenIn rfl rfl rfl (by decide +kernel) ⟨Nat.le_of_ble_eq_true rfl, Nat.le_of_ble_eq_true rfl⟩) (pv_ro (ci := 1) (q0 := 0) hK (hP.sub (ws' := (wd_X1_seenIn cI cZ cP cS h_t h_t_bytes v_size v_bytes)) [0, 1] rfl) rfl rfl) rfl rfl hl.1 rfl (lv_room (Nat.le_of_ble_eq_true rfl)) dX1_hoursLooked_16 ⟨Nat.zero_le _, Nat.zero_le _⟩).run (fun x e_6 => ?_)
        rw [e_6]
        refine lv_iconst (v := (-1)) hx hb dX1_hoursLooked_19 (by decide) ?_
        obtain ⟨v26_7, ev26_7, hf⟩ := lt_e hf
        have hj26_8 : ∀ (ls : Array Slot), lv_has ls 4 [(0, .ref h_t), (1, .int r1_1), (2, .int v26_7), (3, .int y9_3)] → W p l e (headSpec wsX1_hoursLooked rm_X1_hoursLooked).room s m ([.ref h_t] : List Value).toArray below meth c s.heap [] 0 0 (MQ below (vp_Si (fun x => x = r)) ([.ref h_t] : List Value).toArray s 0 0 NF) (F0 m 26 ls []) := by
          intro ls hl
          refine lv_iinc (v := (y9_3 + 1)) (lv' := [(3, .int (y9_3 + 1)), (0, .ref h_t), (1, .int r1_1), (2, .int v26_7)]) hx hb dX1_hoursLooked_26 hl (k := 3) rfl rfl (by decide) rfl (fun ls hl => ?_)
          refine lv_goto (tgt := 9) hx hb dX1_hoursLooked_29 (by decide) ?_
          exact ih v26_7 (y9_3 + 1) ls (lv_sub hl [1, 2, 3, 0] rfl) hf
        clear hf
        refine lv_icmp_eq (tgt := 26) hx hb dX1_hoursLooked_20 (by decide) (fun c20 => ?_) (fun c20 => ?_)
        ·
          rw [if_pos c20] at ev26_7
          subst ev26_7
          exact hj26_8 ls (lv_sub hl [0, 1, 2, 3] rfl)
        ·
          refine lv_iinc (v := (y9_2 + 1)) (lv' := [(2, .int (y9_2 + 1)), (0, .ref h_t), (1, .int r1_1), (3, .int y9_3)]) hx hb dX1_hoursLooked_23 hl (k := 2) rfl rfl (by decide) rfl (fun ls hl => ?_)
          rw [if_neg c20] at ev26_7
          subst ev26_7
          exact hj26_8 ls (lv_sub hl [1, 2, 0, 3] rfl)
  exact hL9 n 0 0 ls (lv_sub hl [3, 2, 1, 0] rfl) hf

abbrev wd_X5_placeIn (cI cZ cP cS : ClassId) (h_t h_t_fitting h_t_worstLeft : Nat) (v_turn : Int32) (v_phase : Int32) (v_up : Int32) : va_W := [(h_t, .inr (5, [.int v_turn, .int v_phase, .int v_up, .ref h_t_fitting, .ref h_t_worstLeft]))]
abbrev rm_X5_placeIn : Room := { frames := 0, cells := 0, slots := 0, locals := 0 }
def f_X5_placeIn (n : Nat) (v_turn : Int32) (v_phase : Int32) (x1 : Int32) : Option (Int32) := if (2 : Int32) ≤ v_turn then nz_ v_turn (some ((x1 + v_phase) - (x1 + v_phase) / v_turn * v_turn)) else some 0
set_option maxHeartbeats 4000000 in
set_option maxRecDepth 100000 in
theorem c_X5_placeIn (l : Launch) (dC : Nat → ClassId) (dI : Nat → Nat → Nat) (cI cZ cP cS : ClassId) (h_t h_t_fitting h_t_worstLeft : Nat) (v_turn : Int32) (v_phase : Int32) (v_up : Int32) (x1 : Int32) (n : Nat) (r : Int32) (hf : f_X5_placeIn n v_turn v_phase x1 = some r) : Met l yX5_placeIn wsX5_placeIn rm_X5_placeIn (RO (dC, dI) (TY cI cZ cP cS) [.ref h_t, .int x1] (wd_X5_placeIn cI cZ cP cS h_t h_t_fitting h_t_worstLeft v_turn v_phase v_up)) (vp_Si (fun x => x = r)) 0 0 NF := by
  refine Met.ofW (cc := cX5_placeIn) (maxL := 2) (ret := (some .int)) (by decide) rfl ?_
  intro p e s m args below meth c s₁ B hml hv
  obtain ⟨rfl, hP, hK⟩ := hv
  have hx := B.exec
  have hb := B.bytes
  have hr := B.returns
  have hts := atoms_spec (ws := wsX5_placeIn) B.pre
  have hown : s.vm.findClass RX5 = some m.cls := findClass_of_methodNamed B.named
  have hlocks := B.notSynchronized
  have hinX5 : ∀ w ∈ wsX50, w ∈ wsX5_placeIn := by decide +kernel
  have hl := lv_entry ([.ref h_t, .int x1]) (n := 2) (Nat.le_of_ble_eq_true rfl)
  rw [lg_entry_eq]
  generalize (lg_sl ([.ref h_t, .int x1]) ++ List.replicate (2 - (lg_sl ([.ref h_t, .int x1])).length) Slot.unset).toArray = ls at hl ⊢
  have hl : lv_has ls 2 [(0, .ref h_t), (1, .int x1)] := hl
  unfold f_X5_placeIn at hf
  refine lv_aload_n hx hb dX5_placeIn_0 rfl (lv_at hl 0 rfl) ?_
  refine va_get (D := (dC, dI)) (ci := 5) (v := .int v_turn) (C := RX5) (T := TX5) (N := 5) hx hb hts hinX5 hown hK hP 0 rfl rfl 0 (by decide) (hts (.fieldLink RX5 23 "SecondSunrise$Sun" "turn" "I") (by decide +kernel)) (fun _ h9 => h9) rfl dX5_placeIn_1 ?_
  refine lv_iconst (v := 2) hx hb dX5_placeIn_4 (by decide) ?_
  refine lv_icmp_ge (tgt := 12) hx hb dX5_placeIn_5 (by decide) (fun c5 => ?_) (fun c5 => ?_)
  · rw [if_pos c5] at hf
    refine lv_iload_n hx hb dX5_placeIn_12 rfl (lv_at hl 1 rfl) ?_
    refine lv_aload_n hx hb dX5_placeIn_13 rfl (lv_at hl 0 rfl) ?_
    refine va_get (D := (dC, dI)) (ci := 5) (v := .int v_phase) (C := RX5) (T := TX5) (N := 5) hx hb hts hinX5 hown hK hP 0 rfl rfl 1 (by decide) (hts (.fieldLink RX5 9 "SecondSunrise$Sun" "phase" "I") (by decide +kernel)) (fun _ h9 => h9) rfl dX5_placeIn_14 ?_
    refine lv_iadd hx hb dX5_placeIn_17 ?_
    refine lv_aload_n hx hb dX5_placeIn_18 rfl (lv_at hl 0 rfl) ?_
    refine va_get (D := (dC, dI)) (ci := 5) (v := .int v_turn) (C := RX5) (T := TX5) (N := 5) hx hb hts hinX5 hown hK hP 0 rfl rfl 0 (by decide) (hts (.fieldLink RX5 23 "SecondSunrise$Sun" "turn" "I") (by decide +kernel)) (fun _ h9 => h9) rfl dX5_placeIn_19 ?_
    obtain ⟨hz_1, hf⟩ := nz_e hf
    refine lv_irem hx hb dX5_placeIn_22 hz_1 ?_
    exact W.iret hx hb hr (fun t ht hW => ⟨_, rfl, Option.some.inj hf, ht⟩) (fun _ h => nomatch h) dX5_placeIn_23
  · rw [if_neg c5] at hf
    refine lv_iconst (v := 0) hx hb dX5_placeIn_8 (by decide) ?_
    refine lv_goto (tgt := 23) hx hb dX5_placeIn_9 (by decide) ?_
    exact W.iret hx hb hr (fun t ht hW => ⟨_, rfl, Option.some.inj hf, ht⟩) (fun _ h => nomatch h) dX5_placeIn_23

abbrev wd_X4_lightIn (cI cZ cP cS : ClassId) (h_t h_t_red h_t_blue h_t_red_fitting h_t_red_worstLeft h_t_blue_fitting h_t_blue_worstLeft : Nat) (v_turn : Nat → Int32) (v_phase : Nat → Int32) (v_up : Nat → Int32) : va_W := [(h_t, .inr (4, [.ref h_t_red, .ref h_t_blue])), (h_t_red, .inr (5, [.int (v_turn 0), .int (v_phase 0), .int (v_up 0), .ref h_t_red_fitting, .ref h_t_red_worstLeft])), (h_t_blue, .inr (5, [.int (v_turn 1), .int (v_phase 1), .int (v_up 1), .ref h_t_blue_fitting, .ref h_t_blue_worstLeft]))]
abbrev rm_X4_lightIn : Room := { frames := 1, cells := 0, slots := 0, locals := 21 }
def f_X4_lightIn (n : Nat) (v_turn : Nat → Int32) (v_phase : Nat → Int32) (v_up : Nat → Int32) (x1 : Int32) : Option (Int32) := bd1_ (f_X5_placeIn n (v_turn 0) (v_phase 0) x1) (fun (r5_1 : Int32) => lt_ ((if (v_up 0) ≤ r5_1 then 0 else 1) : Int32) (fun v23_4 => bd1_ (f_X5_placeIn n (v_turn 1) (v_phase 1) x1) (fun (r28_6 : Int32) => if (v_up 1) ≤ r28_6 then some (v23_4 + 0) else some (v23_4 + 2))))
set_option maxHeartbeats 4000000 in
set_option maxRecDepth 100000 in
theorem c_X4_lightIn (l : Launch) (dC : Nat → ClassId) (dI : Nat → Nat → Nat) (cI cZ cP cS : ClassId) (h_t h_t_red h_t_blue h_t_red_fitting h_t_red_worstLeft h_t_blue_fitting h_t_blue_worstLeft : Nat) (v_turn : Nat → Int32) (v_phase : Nat → Int32) (v_up : Nat → Int32) (x1 : Int32) (n : Nat) (r : Int32) (hf : f_X4_lightIn n v_turn v_phase v_up x1 = some r) : Met l yX4_lightIn wsX4_lightIn rm_X4_lightIn (RO (dC, dI) (TY cI cZ cP cS) [.ref h_t, .int x1] (wd_X4_lightIn cI cZ cP cS h_t h_t_red h_t_blue h_t_red_fitting h_t_red_worstLeft h_t_blue_fitting h_t_blue_worstLeft v_turn v_phase v_up)) (vp_Si (fun x => x = r)) 0 0 NF := by
  refine Met.ofW (cc := cX4_lightIn) (maxL := 2) (ret := (some .int)) (by decide) rfl ?_
  intro p e s m args below meth c s₁ B hml hv
  obtain ⟨rfl, hP, hK⟩ := hv
  have hx := B.exec
  have hb := B.bytes
  have hr := B.returns
  have hts := atoms_spec (ws := wsX4_lightIn) B.pre
  have hown : s.vm.findClass RX4 = some m.cls := findClass_of_methodNamed B.named
  have hlocks := B.notSynchronized
  have hinX4 : ∀ w ∈ wsX40, w ∈ wsX4_lightIn := by decide +kernel
  have hinX5 : ∀ w ∈ wsX50, w ∈ wsX4_lightIn := by decide +kernel
  have hl := lv_entry ([.ref h_t, .int x1]) (n := 2) (Nat.le_of_ble_eq_true rfl)
  rw [lg_entry_eq]
  generalize (lg_sl ([.ref h_t, .int x1]) ++ List.replicate (2 - (lg_sl ([.ref h_t, .int x1])).length) Slot.unset).toArray = ls at hl ⊢
  have hl : lv_has ls 2 [(0, .ref h_t), (1, .int x1)] := hl
  unfold f_X4_lightIn at hf
  refine lv_aload_n hx hb dX4_lightIn_0 rfl (lv_at hl 0 rfl) ?_
  refine va_get (D := (dC, dI)) (ci := 4) (v := .ref h_t_red) (C := RX4) (T := TX4) (N := 2) hx hb hts hinX4 hown hK hP 0 rfl rfl 0 (by decide) (hts (.fieldLink RX4 9 "SecondSunrise$Sky" "red" "LSecondSunrise$Sun;") (by decide +kernel)) (fun _ h9 => h9) rfl dX4_lightIn_1 ?_
  refine lv_iload_n hx hb dX4_lightIn_4 rfl (lv_at hl 1 rfl) ?_
  obtain ⟨r5_1, hc_2, hf⟩ := bd1_e hf
  refine vp_callSi (va_runV (As := [.int x1]) (rest := []) ⟨hx, hb, hml, hown, hts⟩ (c_X5_placeIn l dC dI cI cZ cP cS h_t_red h_t_red_fitting h_t_red_worstLeft (v_turn 0) (v_phase 0) (v_up 0) x1 n r5_1 hc_2) (cwV 1 hts gX4_lightIn_X5_placeIn rfl rfl rfl (by decide +kernel) ⟨Nat.le_of_ble_eq_true rfl, Nat.le_of_ble_eq_true rfl⟩) (pv_ro (ci := 5) (q0 := 0) hK (hP.sub (ws' := (wd_X5_placeIn cI cZ cP cS h_t_red h_t_red_fitting h_t_red_worstLeft (v_turn 0) (v_phase 0) (v_up 0))) [1] rfl) rfl rfl) rfl rfl hl.1 rfl (lv_room (Nat.le_of_ble_eq_true rfl)) dX4_lightIn_5 ⟨Nat.zero_le _, Nat.zero_le _⟩).run (fun x e_3 => ?_)
  rw [e_3]
  refine lv_aload_n hx hb dX4_lightIn_8 rfl (lv_at hl 0 rfl) ?_
  refine va_get (D := (dC, dI)) (ci := 4) (v := .ref h_t_red) (C := RX4) (T := TX4) (N := 2) hx hb hts hinX4 hown hK hP 0 rfl rfl 0 (by decide) (hts (.fieldLink RX4 9 "SecondSunrise$Sky" "red" "LSecondSunrise$Sun;") (by decide +kernel)) (fun _ h9 => h9) rfl dX4_lightIn_9 ?_
  refine va_get (D := (dC, dI)) (ci := 5) (v := .int (v_up 0)) (C := RX5) (T := TX5) (N := 5) hx hb hts hinX5 hown hK hP 1 rfl rfl 2 (by decide) (hts (.fieldLink RX4 24 "SecondSunrise$Sun" "up" "I") (by decide +kernel)) (fun _ h9 => h9) rfl dX4_lightIn_12 ?_
  obtain ⟨v23_4, ev23_4, hf⟩ := lt_e hf
  have hj23_5 : ∀ (ls : Array Slot), lv_has ls 2 [(0, .ref h_t), (1, .int x1)] → W p l e (headSpec wsX4_lightIn rm_X4_lightIn).room s m ([.ref h_t, .int x1] : List Value).toArray below meth c s.heap [] 0 0 (MQ below (vp_Si (fun x => x = r)) ([.ref h_t, .int x1] : List Value).toArray s 0 0 NF) (F0 m 23 ls [.int v23_4]) := by
    intro ls hl
    refine lv_aload_n hx hb dX4_lightIn_23 rfl (lv_at hl 0 rfl) ?_
    refine va_get (D := (dC, dI)) (ci := 4) (v := .ref h_t_blue) (C := RX4) (T := TX4) (N := 2) hx hb hts hinX4 hown hK hP 0 rfl rfl 1 (by decide) (hts (.fieldLink RX4 15 "SecondSunrise$Sky" "blue" "LSecondSunrise$Sun;") (by decide +kernel)) (fun _ h9 => h9) rfl dX4_lightIn_24 ?_
    refine lv_iload_n hx hb dX4_lightIn_27 rfl (lv_at hl 1 rfl) ?_
    obtain ⟨r28_6, hc_7, hf⟩ := bd1_e hf
    refine vp_callSi (va_runV (As := [.int x1]) (rest := [.int v23_4]) ⟨hx, hb, hml, hown, hts⟩ (c_X5_placeIn l dC dI cI cZ cP cS h_t_blue h_t_blue_fitting h_t_blue_worstLeft (v_turn 1) (v_phase 1) (v_up 1) x1 n r28_6 hc_7) (cwV 1 hts gX4_lightIn_X5_placeIn rfl rfl rfl (by decide +kernel) ⟨Nat.le_of_ble_eq_true rfl, Nat.le_of_ble_eq_true rfl⟩) (pv_ro (ci := 5) (q0 := 0) hK (hP.sub (ws' := (wd_X5_placeIn cI cZ cP cS h_t_blue h_t_blue_fitting h_t_blue_worstLeft (v_turn 1) (v_phase 1) (v_up 1))) [2] rfl) rfl rfl) rfl rfl hl.1 rfl (lv_room (Nat.le_of_ble_eq_true rfl)) dX4_lightIn_28 ⟨Nat.zero_le _, Nat.zero_le _⟩).run (fun x e_8 => ?_)
    rw [e_8]
    refine lv_aload_n hx hb dX4_lightIn_31 rfl (lv_at hl 0 rfl) ?_
    refine va_get (D := (dC, dI)) (ci := 4) (v := .ref h_t_blue) (C := RX4) (T := TX4) (N := 2) hx hb hts hinX4 hown hK hP 0 rfl rfl 1 (by decide) (hts (.fieldLink RX4 15 "SecondSunrise$Sky" "blue" "LSecondSunrise$Sun;") (by decide +kernel)) (fun _ h9 => h9) rfl dX4_lightIn_32 ?_
    refine va_get (D := (dC, dI)) (ci := 5) (v := .int (v_up 1)) (C := RX5) (T := TX5) (N := 5) hx hb hts hinX5 hown hK hP 2 rfl rfl 2 (by decide) (hts (.fieldLink RX4 24 "SecondSunrise$Sun" "up" "I") (by decide +kernel)) (fun _ h9 => h9) rfl dX4_lightIn_35 ?_
    refine lv_icmp_ge (tgt := 45) hx hb dX4_lightIn_38 (by decide) (fun c38 => ?_) (fun c38 => ?_)
    · rw [if_pos c38] at hf
      refine lv_iconst (v := 0) hx hb dX4_lightIn_45 (by decide) ?_
      refine lv_iadd hx hb dX4_lightIn_46 ?_
      exact W.iret hx hb hr (fun t ht hW => ⟨_, rfl, Option.some.inj hf, ht⟩) (fun _ h => nomatch h) dX4_lightIn_47
    · rw [if_neg c38] at hf
      refine lv_iconst (v := 2) hx hb dX4_lightIn_41 (by decide) ?_
      refine lv_goto (tgt := 46) hx hb dX4_lightIn_42 (by decide) ?_
      refine lv_iadd hx hb dX4_lightIn_46 ?_
      exact W.iret hx hb hr (fun t ht hW => ⟨_, rfl, Option.some.inj hf, ht⟩) (fun _ h => nomatch h) dX4_lightIn_47
  clear hf
  refine lv_icmp_ge (tgt := 22) hx hb dX4_lightIn_15 (by decide) (fun c15 => ?_) (fun c15 => ?_)
  ·
    refine lv_iconst (v := 0) hx hb dX4_lightIn_22 (by decide) ?_
    rw [if_pos c15] at ev23_4
    subst ev23_4
    exact hj23_5 ls (lv_sub hl [0, 1] rfl)
  ·
    refine lv_iconst (v := 1) hx hb dX4_lightIn_18 (by decide) ?_
    refine lv_goto (tgt := 23) hx hb dX4_lightIn_19 (by decide) ?_
    rw [if_neg c15] at ev23_4
    subst ev23_4
    exact hj23_5 ls (lv_sub hl [0, 1] rfl)

abbrev wd_X2_yieldFrom (cI cZ cP cS : ClassId) (h_t h_t_growth h_a1 h_a1_red h_a1_blue h_a1_red_fitting h_a1_red_worstLeft h_a1_blue_fitting h_a1_blue_worstLeft : Nat) (v_hours : Int32) (v_growth : Nat → Int32) (v_turn : Nat → Int32) (v_phase : Nat → Int32) (v_up : Nat → Int32) : va_W := [(h_t, .inr (2, [.int v_hours, .ref h_t_growth])), (h_t_growth, .inl (cI, 4, .inl v_growth)), (h_a1, .inr (4, [.ref h_a1_red, .ref h_a1_blue])), (h_a1_red, .inr (5, [.int (v_turn 0), .int (v_phase 0), .int (v_up 0), .ref h_a1_red_fitting, .ref h_a1_red_worstLeft])), (h_a1_blue, .inr (5, [.int (v_turn 1), .int (v_phase 1), .int (v_up 1), .ref h_a1_blue_fitting, .ref h_a1_blue_worstLeft]))]
abbrev rm_X2_yieldFrom : Room := { frames := 2, cells := 0, slots := 0, locals := 42 }
def L_X2_yieldFrom_5 (n : Nat) (v_hours : Int32) (v_growth : Nat → Int32) (v_turn : Nat → Int32) (v_phase : Nat → Int32) (v_up : Nat → Int32) (x2 : Int32) (kx5 : Int32 → Option (Int32)) : Nat → Int32 → Int32 → Option (Int32)
  | 0, _, _ => none
  | k5 + 1, y5_3, y5_4 => if v_hours ≤ y5_4 then kx5 y5_3 else bd1_ (f_X4_lightIn n v_turn v_phase v_up (x2 + y5_4)) (fun (r19_1 : Int32) => jn1_ (fun (y49_3 : Int32) => L_X2_yieldFrom_5 n v_hours v_growth v_turn v_phase v_up x2 kx5 k5 y49_3 (y5_4 + 1)) (fun k49 => if r19_1 < 0 then k49 y5_3 else if (4 : Int32) ≤ r19_1 then k49 y5_3 else ix_ r19_1 4 (k49 (y5_3 + (v_growth r19_1.toNatClampNeg)))))
theorem L_X2_yieldFrom_5_s (n : Nat) (v_hours : Int32) (v_growth : Nat → Int32) (v_turn : Nat → Int32) (v_phase : Nat → Int32) (v_up : Nat → Int32) (x2 : Int32) (kx5 : Int32 → Option (Int32)) (k5 : Nat) (y5_3 : Int32) (y5_4 : Int32) : L_X2_yieldFrom_5 n v_hours v_growth v_turn v_phase v_up x2 kx5 (k5 + 1) y5_3 y5_4 = if v_hours ≤ y5_4 then kx5 y5_3 else bd1_ (f_X4_lightIn n v_turn v_phase v_up (x2 + y5_4)) (fun (r19_1 : Int32) => jn1_ (fun (y49_3 : Int32) => L_X2_yieldFrom_5 n v_hours v_growth v_turn v_phase v_up x2 kx5 k5 y49_3 (y5_4 + 1)) (fun k49 => if r19_1 < 0 then k49 y5_3 else if (4 : Int32) ≤ r19_1 then k49 y5_3 else ix_ r19_1 4 (k49 (y5_3 + (v_growth r19_1.toNatClampNeg))))) := rfl
def f_X2_yieldFrom (n : Nat) (v_hours : Int32) (v_growth : Nat → Int32) (v_turn : Nat → Int32) (v_phase : Nat → Int32) (v_up : Nat → Int32) (x2 : Int32) : Option (Int32) := jn1_ (fun (z5_3 : Int32) => some (if z5_3 < 0 then 0 else z5_3)) (fun kx5 => L_X2_yieldFrom_5 n v_hours v_growth v_turn v_phase v_up x2 kx5 n 0 0)
set_option maxHeartbeats 4000000 in
set_option maxRecDepth 100000 in
theorem c_X2_yieldFrom (l : Launch) (dC : Nat → ClassId) (dI : Nat → Nat → Nat) (cI cZ cP cS : ClassId) (h_t h_t_growth h_a1 h_a1_red h_a1_blue h_a1_red_fitting h_a1_red_worstLeft h_a1_blue_fitting h_a1_blue_worstLeft : Nat) (v_hours : Int32) (v_growth : Nat → Int32) (v_turn : Nat → Int32) (v_phase : Nat → Int32) (v_up : Nat → Int32) (x2 : Int32) (n : Nat) (r : Int32) (hf : f_X2_yieldFrom n v_hours v_growth v_turn v_phase v_up x2 = some r) : Met l yX2_yieldFrom wsX2_yieldFrom rm_X2_yieldFrom (RO (dC, dI) (TY cI cZ cP cS) [.ref h_t, .ref h_a1, .int x2] (wd_X2_yieldFrom cI cZ cP cS h_t h_t_growth h_a1 h_a1_red h_a1_blue h_a1_red_fitting h_a1_red_worstLeft h_a1_blue_fitting h_a1_blue_worstLeft v_hours v_growth v_turn v_phase v_up)) (vp_Si (fun x => x = r)) 0 0 NF := by
  refine Met.ofW (cc := cX2_yieldFrom) (maxL := 6) (ret := (some .int)) (by decide) rfl ?_
  intro p e s m args below meth c s₁ B hml hv
  obtain ⟨rfl, hP, hK⟩ := hv
  have hx := B.exec
  have hb := B.bytes
  have hr := B.returns
  have hts := atoms_spec (ws := wsX2_yieldFrom) B.pre
  have hown : s.vm.findClass RX2 = some m.cls := findClass_of_methodNamed B.named
  have hlocks := B.notSynchronized
  have hinX2 : ∀ w ∈ wsX20, w ∈ wsX2_yieldFrom := by decide +kernel
  have hl := lv_entry ([.ref h_t, .ref h_a1, .int x2]) (n := 6) (Nat.le_of_ble_eq_true rfl)
  rw [lg_entry_eq]
  generalize (lg_sl ([.ref h_t, .ref h_a1, .int x2]) ++ List.replicate (6 - (lg_sl ([.ref h_t, .ref h_a1, .int x2])).length) Slot.unset).toArray = ls at hl ⊢
  have hl : lv_has ls 6 [(0, .ref h_t), (1, .ref h_a1), (2, .int x2)] := hl
  unfold f_X2_yieldFrom at hf
  refine lv_iconst (v := 0) hx hb dX2_yieldFrom_0 (by decide) ?_
  refine lv_istore_n (lv' := [(3, .int 0), (0, .ref h_t), (1, .ref h_a1), (2, .int x2)]) hx hb dX2_yieldFrom_1 rfl hl (by decide) rfl (fun ls hl => ?_)
  refine lv_iconst (v := 0) hx hb dX2_yieldFrom_2 (by decide) ?_
  refine lv_istore (lv' := [(4, .int 0), (3, .int 0), (0, .ref h_t), (1, .ref h_a1), (2, .int x2)]) hx hb dX2_yieldFrom_3 hl (by decide) rfl (fun ls hl => ?_)
  obtain ⟨kx5, ekx5, hf⟩ := jn1_e hf
  have hx5 : ∀ (z5_3 : Int32) (ls : Array Slot), lv_has ls 6 [(3, .int z5_3)] → kx5 z5_3 = some r → W p l e (headSpec wsX2_yieldFrom rm_X2_yieldFrom).room s m ([.ref h_t, .ref h_a1, .int x2] : List Value).toArray below meth c s.heap [] 0 0 (MQ below (vp_Si (fun x => x = r)) ([.ref h_t, .ref h_a1, .int x2] : List Value).toArray s 0 0 NF) (F0 m 55 ls []) := by
    intro z5_3 ls hl hf
    rw [ekx5] at hf
    refine lv_iload_n hx hb dX2_yieldFrom_55 rfl (lv_at hl 0 rfl) ?_
    refine lv_iconst (v := 0) hx hb dX2_yieldFrom_56 (by decide) ?_
    refine va_mmax hx hb (hml.trans hl.1.symm) hown (hts (.methodLink RX2 23 Lib.Math.max.name) (by decide +kernel)) (hts (.static Lib.Math.max.name) (by decide +kernel)) (hts (.initialized "java/lang/Math") (by decide +kernel)) (hts (.code Lib.Math.max.name Lib.Math.max.code 2 (some .int)) (by decide +kernel)) (Nat.le_of_ble_eq_true rfl) (Nat.le_of_ble_eq_true rfl) (Nat.zero_le _) (Nat.zero_le _) dX2_yieldFrom_57 ?_
    exact W.iret hx hb hr (fun t ht hW => ⟨_, rfl, Option.some.inj hf, ht⟩) (fun _ h => nomatch h) dX2_yieldFrom_60
  have hL5 : ∀ (k5 : Nat) (y5_3 : Int32) (y5_4 : Int32) (ls : Array Slot), lv_has ls 6 [(0, .ref h_t), (1, .ref h_a1), (2, .int x2), (3, .int y5_3), (4, .int y5_4)] → L_X2_yieldFrom_5 n v_hours v_growth v_turn v_phase v_up x2 kx5 k5 y5_3 y5_4 = some r → W p l e (headSpec wsX2_yieldFrom rm_X2_yieldFrom).room s m ([.ref h_t, .ref h_a1, .int x2] : List Value).toArray below meth c s.heap [] 0 0 (MQ below (vp_Si (fun x => x = r)) ([.ref h_t, .ref h_a1, .int x2] : List Value).toArray s 0 0 NF) (F0 m 5 ls []) := by
    intro k5
    induction k5 with
    | zero =>
      intro y5_3 y5_4 ls hl hf
      exact absurd hf (fun h => Option.some_ne_none _ h.symm)
    | succ k5 ih =>
      intro y5_3 y5_4 ls hl hf
      rw [L_X2_yieldFrom_5_s] at hf
      refine lv_iload hx hb dX2_yieldFrom_5 (lv_at hl 4 rfl) ?_
      refine lv_aload_n hx hb dX2_yieldFrom_7 rfl (lv_at hl 0 rfl) ?_
      refine va_get (D := (dC, dI)) (ci := 2) (v := .int v_hours) (C := RX2) (T := TX2) (N := 2) hx hb hts hinX2 hown hK hP 0 rfl rfl 0 (by decide) (hts (.fieldLink RX2 7 "SecondSunrise$Plant" "hours" "I") (by decide +kernel)) (fun _ h9 => h9) rfl dX2_yieldFrom_8 ?_
      refine lv_icmp_ge (tgt := 55) hx hb dX2_yieldFrom_11 (by decide) (fun c11 => ?_) (fun c11 => ?_)
      · rw [if_pos c11] at hf
        exact hx5 y5_3 ls (lv_sub hl [3] rfl) hf
      · rw [if_neg c11] at hf
        refine lv_aload_n hx hb dX2_yieldFrom_14 rfl (lv_at hl 1 rfl) ?_
        refine lv_iload_n hx hb dX2_yieldFrom_15 rfl (lv_at hl 2 rfl) ?_
        refine lv_iload hx hb dX2_yieldFrom_16 (lv_at hl 4 rfl) ?_
        refine lv_iadd hx hb dX2_yieldFrom_18 ?_
        obtain ⟨r19_1, hc_2, hf⟩ := bd1_e hf
        refine vp_callSi (va_runV (As := [.int (x2 + y5_4)]) (rest := []) ⟨hx, hb, hml, hown, hts⟩ (c_X4_lightIn l dC dI cI cZ cP cS h_a1 h_a1_red h_a1_blue h_a1_red_fitting h_a1_red_worstLeft h_a1_blue_fitting h_a1_blue_worstLeft v_turn v_phase v_up (x2 + y5_4) n r19_1 hc_2) (cwV 1 hts gX2_yieldFrom_X4_lightIn rfl rfl rfl (by decide +kernel) ⟨Nat.le_of_ble_eq_true rfl, Nat.le_of_ble_eq_true rfl⟩) (pv_ro (ci := 4) (q0 := 0) hK (hP.sub (ws' := (wd_X4_lightIn cI cZ cP cS h_a1 h_a1_red h_a1_blue h_a1_red_fitting h_a1_red_worstLeft h_a1_blue_fitting h_a1_blue_worstLeft v_turn v_phase v_up)) [2, 3, 4] rfl) rfl rfl) rfl rfl hl.1 rfl (lv_room (Nat.le_of_ble_eq_true rfl)) dX2_yieldFrom_19 ⟨Nat.zero_le _, Nat.zero_le _⟩).run (fun x e_3 => ?_)
        rw [e_3]
        refine lv_istore (lv' := [(5, .int r19_1), (0, .ref h_t), (1, .ref h_a1), (2, .int x2), (3, .int y5_3), (4, .int y5_4)]) hx hb dX2_yieldFrom_22 hl (by decide) rfl (fun ls hl => ?_)
        refine lv_iload hx hb dX2_yieldFrom_24 (lv_at hl 0 rfl) ?_
        obtain ⟨k49, ek49, hf⟩ := jn1_e hf
        have hj49 : ∀ (y49_3 : Int32) (ls : Array Slot), lv_has ls 6 [(0, .ref h_t), (1, .ref h_a1), (2, .int x2), (3, .int y49_3), (4, .int y5_4)] → k49 y49_3 = some r → W p l e (headSpec wsX2_yieldFrom rm_X2_yieldFrom).room s m ([.ref h_t, .ref h_a1, .int x2] : List Value).toArray below meth c s.heap [] 0 0 (MQ below (vp_Si (fun x => x = r)) ([.ref h_t, .ref h_a1, .int x2] : List Value).toArray s 0 0 NF) (F0 m 49 ls []) := by
          intro y49_3 ls hl hf
          rw [ek49] at hf
          refine lv_iinc (v := (y5_4 + 1)) (lv' := [(4, .int (y5_4 + 1)), (0, .ref h_t), (1, .ref h_a1), (2, .int x2), (3, .int y49_3)]) hx hb dX2_yieldFrom_49 hl (k := 4) rfl rfl (by decide) rfl (fun ls hl => ?_)
          refine lv_goto (tgt := 5) hx hb dX2_yieldFrom_52 (by decide) ?_
          exact ih y49_3 (y5_4 + 1) ls (lv_sub hl [1, 2, 3, 4, 0] rfl) hf
        refine lv_if_lt (tgt := 49) hx hb dX2_yieldFrom_26 (by decide) (fun c26 => ?_) (fun c26 => ?_)
        · rw [if_pos c26] at hf
          exact hj49 y5_3 ls (lv_sub hl [1, 2, 3, 4, 5] rfl) hf
        · rw [if_neg c26] at hf
          refine lv_iload hx hb dX2_yieldFrom_29 (lv_at hl 0 rfl) ?_
          refine lv_aload_n hx hb dX2_yieldFrom_31 rfl (lv_at hl 1 rfl) ?_
          refine va_get (D := (dC, dI)) (ci := 2) (v := .ref h_t_growth) (C := RX2) (T := TX2) (N := 2) hx hb hts hinX2 hown hK hP 0 rfl rfl 1 (by decide) (hts (.fieldLink RX2 13 "SecondSunrise$Plant" "growth" "[I") (by decide +kernel)) (fun _ h9 => h9) rfl dX2_yieldFrom_32 ?_
          refine va_alen (v := 4) hx hb hK hP 1 0 rfl rfl rfl dX2_yieldFrom_35 ?_
          refine lv_icmp_ge (tgt := 49) hx hb dX2_yieldFrom_36 (by decide) (fun c36 => ?_) (fun c36 => ?_)
          · rw [if_pos c36] at hf
            exact hj49 y5_3 ls (lv_sub hl [1, 2, 3, 4, 5] rfl) hf
          · rw [if_neg c36] at hf
            refine lv_iload_n hx hb dX2_yieldFrom_39 rfl (lv_at hl 4 rfl) ?_
            refine lv_aload_n hx hb dX2_yieldFrom_40 rfl (lv_at hl 1 rfl) ?_
            refine va_get (D := (dC, dI)) (ci := 2) (v := .ref h_t_growth) (C := RX2) (T := TX2) (N := 2) hx hb hts hinX2 hown hK hP 0 rfl rfl 1 (by decide) (hts (.fieldLink RX2 13 "SecondSunrise$Plant" "growth" "[I") (by decide +kernel)) (fun _ h9 => h9) rfl dX2_yieldFrom_41 ?_
            refine lv_iload hx hb dX2_yieldFrom_44 (lv_at hl 0 rfl) ?_
            obtain ⟨hi_4, hf⟩ := ix_e hf
            refine va_iald hx hb hK hP 1 0 rfl rfl hi_4 dX2_yieldFrom_46 ?_
            refine lv_iadd hx hb dX2_yieldFrom_47 ?_
            refine lv_istore_n (lv' := [(3, .int (y5_3 + (v_growth r19_1.toNatClampNeg))), (5, .int r19_1), (0, .ref h_t), (1, .ref h_a1), (2, .int x2), (4, .int y5_4)]) hx hb dX2_yieldFrom_48 rfl hl (by decide) rfl (fun ls hl => ?_)
            exact hj49 (y5_3 + (v_growth r19_1.toNatClampNeg)) ls (lv_sub hl [2, 3, 4, 0, 5] rfl) hf
  exact hL5 n 0 0 ls (lv_sub hl [2, 3, 4, 1, 0] rfl) hf

abbrev wd_X3_begin (cI cZ cP cS : ClassId) (h_t h_t_items : Nat) (v_form : Int32) (v_size : Int32) (v_items : Nat → Int32) : va_W := [(h_t, .inr (3, [.int v_form, .int v_size, .ref h_t_items])), (h_t_items, .inl (cI, 48, .inl v_items))]
abbrev rm_X3_begin : Room := { frames := 0, cells := 0, slots := 0, locals := 0 }
def L_X3_begin_12 (kx12 : (Nat → Int32) → Option (Int32 × Int32 × (Nat → Int32))) : Nat → Int32 → (Nat → Int32) → Option (Int32 × Int32 × (Nat → Int32))
  | 0, _, _ => none
  | k12 + 1, y12_3, w12_items => if (48 : Int32) ≤ y12_3 then kx12 w12_items else ix_ y12_3 48 (L_X3_begin_12 kx12 k12 (y12_3 + 1) (upd w12_items y12_3.toNatClampNeg 0))
theorem L_X3_begin_12_s (kx12 : (Nat → Int32) → Option (Int32 × Int32 × (Nat → Int32))) (k12 : Nat) (y12_3 : Int32) (w12_items : Nat → Int32) : L_X3_begin_12 kx12 (k12 + 1) y12_3 w12_items = if (48 : Int32) ≤ y12_3 then kx12 w12_items else ix_ y12_3 48 (L_X3_begin_12 kx12 k12 (y12_3 + 1) (upd w12_items y12_3.toNatClampNeg 0)) := rfl
def f_X3_begin (n : Nat) (v_form : Int32) (v_size : Int32) (v_items : Nat → Int32) (x1 : Int32) (x2 : Int32) : Option (Int32 × Int32 × (Nat → Int32)) := jn1_ (fun (u12_items : Nat → Int32) => some (x1, x2, u12_items)) (fun kx12 => L_X3_begin_12 kx12 n 0 v_items)
set_option maxHeartbeats 4000000 in
set_option maxRecDepth 100000 in
theorem c_X3_begin (l : Launch) (dC : Nat → ClassId) (dI : Nat → Nat → Nat) (cI cZ cP cS : ClassId) (sz : Nat) (h_t h_t_items : Nat) (v_form : Int32) (v_size : Int32) (v_items : Nat → Int32) (x1 : Int32) (x2 : Int32) (n : Nat) (o_form : Int32) (o_size : Int32) (o_items : Nat → Int32) (hf : f_X3_begin n v_form v_size v_items x1 x2 = some (o_form, o_size, o_items)) : Met l yX3_begin wsX3_begin rm_X3_begin (RW (dC, dI) (TY cI cZ cP cS) [.ref h_t, .int x1, .int x2] sz (wd_X3_begin cI cZ cP cS h_t h_t_items v_form v_size v_items)) (RWv (dC, dI) (TY cI cZ cP cS) sz (wd_X3_begin cI cZ cP cS h_t h_t_items v_form v_size v_items) (wd_X3_begin cI cZ cP cS h_t h_t_items o_form o_size o_items)) 0 0 (va_A (wd_X3_begin cI cZ cP cS h_t h_t_items v_form v_size v_items) sz) := by
  refine Met.ofW (cc := cX3_begin) (maxL := 4) (ret := none) (by decide) rfl ?_
  intro p e s m args below meth c s₁ B hml hv
  obtain ⟨rfl, hsz, hP, hK, hD0⟩ := hv
  have hx := B.exec
  have hb := B.bytes
  have hr := B.returns
  have hts := atoms_spec (ws := wsX3_begin) B.pre
  have hown : s.vm.findClass RX3 = some m.cls := findClass_of_methodNamed B.named
  have hlocks := B.notSynchronized
  subst hsz
  have hD := hD0.self (sz := s.heap.size)
  have hA : ∀ q : Nat, s.heap.size ≤ q → (va_A (wd_X3_begin cI cZ cP cS h_t h_t_items v_form v_size v_items) s.heap.size) q := fun q h => Or.inr h
  have hS : va_S (va_A (wd_X3_begin cI cZ cP cS h_t h_t_items v_form v_size v_items) s.heap.size) s.heap s.heap [] := va_S.rf
  have hinX3 : ∀ w ∈ wsX30, w ∈ wsX3_begin := by decide +kernel
  have hl := lv_entry ([.ref h_t, .int x1, .int x2]) (n := 4) (Nat.le_of_ble_eq_true rfl)
  rw [lg_entry_eq]
  generalize (lg_sl ([.ref h_t, .int x1, .int x2]) ++ List.replicate (4 - (lg_sl ([.ref h_t, .int x1, .int x2])).length) Slot.unset).toArray = ls at hl ⊢
  have hl : lv_has ls 4 [(0, .ref h_t), (1, .int x1), (2, .int x2)] := hl
  obtain ⟨H, hH⟩ : ∃ H : Heap, H = s.heap := ⟨_, rfl⟩
  have hP : va_P (dC, dI) vwCl (wd_X3_begin cI cZ cP cS h_t h_t_items v_form v_size v_items) H := by rw [hH]; exact hP
  have hS : va_S (va_A (wd_X3_begin cI cZ cP cS h_t h_t_items v_form v_size v_items) s.heap.size) s.heap H [] := by rw [hH]; exact hS
  obtain ⟨locs, hlo⟩ : ∃ L : List Loc, L = [] := ⟨_, rfl⟩
  rw [← hlo] at hS
  suffices hgo : W p l e (headSpec wsX3_begin rm_X3_begin).room s m ([.ref h_t, .int x1, .int x2] : List Value).toArray below meth c H locs 0 0 (MQ below (RWv (dC, dI) (TY cI cZ cP cS) s.heap.size (wd_X3_begin cI cZ cP cS h_t h_t_items v_form v_size v_items) (wd_X3_begin cI cZ cP cS h_t h_t_items o_form o_size o_items)) ([.ref h_t, .int x1, .int x2] : List Value).toArray s 0 0 (va_A (wd_X3_begin cI cZ cP cS h_t h_t_items v_form v_size v_items) s.heap.size)) (F0 m 0 ls []) by rw [hH, hlo] at hgo; exact hgo
  clear hH hlo
  unfold f_X3_begin at hf
  refine lv_aload_n hx hb dX3_begin_0 rfl (lv_at hl 0 rfl) ?_
  refine lv_iload_n hx hb dX3_begin_1 rfl (lv_at hl 1 rfl) ?_
  refine va_put (D := (dC, dI)) (ci := 3) (v := .int x1) (ty := .int) (C := RX3) (T := TX3) (N := 3) hx hb hts hinX3 tyX3 tyX3_ok nmX3 hown hK hP hD hS 0 rfl rfl 0 (by decide) (hts (.fieldLink RX3 9 "SecondSunrise$Sheet" "form" "I") (by decide +kernel)) (fun _ h9 => h9) rfl (by decide +kernel) rfl rfl (Nat.le_of_ble_eq_true rfl) dX3_begin_2 (fun H locs hP hD hS => ?_)
  have hP : va_P (dC, dI) vwCl (wd_X3_begin cI cZ cP cS h_t h_t_items x1 v_size v_items) H := hP
  have hD : va_D (va_A (wd_X3_begin cI cZ cP cS h_t h_t_items v_form v_size v_items) s.heap.size) (wd_X3_begin cI cZ cP cS h_t h_t_items x1 v_size v_items) := hD
  refine lv_aload_n hx hb dX3_begin_5 rfl (lv_at hl 0 rfl) ?_
  refine lv_iload_n hx hb dX3_begin_6 rfl (lv_at hl 2 rfl) ?_
  refine va_put (D := (dC, dI)) (ci := 3) (v := .int x2) (ty := .int) (C := RX3) (T := TX3) (N := 3) hx hb hts hinX3 tyX3 tyX3_ok nmX3 hown hK hP hD hS 0 rfl rfl 1 (by decide) (hts (.fieldLink RX3 15 "SecondSunrise$Sheet" "size" "I") (by decide +kernel)) (fun _ h9 => h9) rfl (by decide +kernel) rfl rfl (Nat.le_of_ble_eq_true rfl) dX3_begin_7 (fun H locs hP hD hS => ?_)
  have hP : va_P (dC, dI) vwCl (wd_X3_begin cI cZ cP cS h_t h_t_items x1 x2 v_items) H := hP
  have hD : va_D (va_A (wd_X3_begin cI cZ cP cS h_t h_t_items v_form v_size v_items) s.heap.size) (wd_X3_begin cI cZ cP cS h_t h_t_items x1 x2 v_items) := hD
  refine lv_iconst (v := 0) hx hb dX3_begin_10 (by decide) ?_
  refine lv_istore_n (lv' := [(3, .int 0), (0, .ref h_t), (1, .int x1), (2, .int x2)]) hx hb dX3_begin_11 rfl hl (by decide) rfl (fun ls hl => ?_)
  obtain ⟨kx12, ekx12, hf⟩ := jn1_e hf
  have hx12 : ∀ (u12_items : Nat → Int32) (H : Heap) (locs : List Loc) (ls : Array Slot), lv_has ls 4 [] → va_P (dC, dI) vwCl (wd_X3_begin cI cZ cP cS h_t h_t_items x1 x2 u12_items) H → va_D (va_A (wd_X3_begin cI cZ cP cS h_t h_t_items v_form v_size v_items) s.heap.size) (wd_X3_begin cI cZ cP cS h_t h_t_items x1 x2 u12_items) → va_S (va_A (wd_X3_begin cI cZ cP cS h_t h_t_items v_form v_size v_items) s.heap.size) s.heap H locs → kx12 u12_items = some (o_form, o_size, o_items) → W p l e (headSpec wsX3_begin rm_X3_begin).room s m ([.ref h_t, .int x1, .int x2] : List Value).toArray below meth c H locs 0 0 (MQ below (RWv (dC, dI) (TY cI cZ cP cS) s.heap.size (wd_X3_begin cI cZ cP cS h_t h_t_items v_form v_size v_items) (wd_X3_begin cI cZ cP cS h_t h_t_items o_form o_size o_items)) ([.ref h_t, .int x1, .int x2] : List Value).toArray s 0 0 (va_A (wd_X3_begin cI cZ cP cS h_t h_t_items v_form v_size v_items) s.heap.size)) (F0 m 31 ls []) := by
    intro u12_items H locs ls hl hP hD hS hf
    rw [ekx12] at hf
    have hq0 := Option.some.inj hf
    obtain ⟨eq0, hq1⟩ := Prod.mk.inj hq0
    obtain ⟨eq1, hq2⟩ := Prod.mk.inj hq1
    clear hf hq0 hq1
    subst eq0
    subst eq1
    subst hq2
    exact W.vret hx hb hr (fun t ht hW => ⟨⟨(), rfl, trivial, by rw [ht]; exact hP, va_K.moved hW.alike hK, hD⟩, hS.F ht⟩) hS.2.2 dX3_begin_31
  have hL12 : ∀ (k12 : Nat) (y12_3 : Int32) (w12_items : Nat → Int32) (H : Heap) (locs : List Loc) (ls : Array Slot), lv_has ls 4 [(0, .ref h_t), (3, .int y12_3)] → va_P (dC, dI) vwCl (wd_X3_begin cI cZ cP cS h_t h_t_items x1 x2 w12_items) H → va_D (va_A (wd_X3_begin cI cZ cP cS h_t h_t_items v_form v_size v_items) s.heap.size) (wd_X3_begin cI cZ cP cS h_t h_t_items x1 x2 w12_items) → va_S (va_A (wd_X3_begin cI cZ cP cS h_t h_t_items v_form v_size v_items) s.heap.size) s.heap H locs → L_X3_begin_12 kx12 k12 y12_3 w12_items = some (o_form, o_size, o_items) → W p l e (headSpec wsX3_begin rm_X3_begin).room s m ([.ref h_t, .int x1, .int x2] : List Value).toArray below meth c H locs 0 0 (MQ below (RWv (dC, dI) (TY cI cZ cP cS) s.heap.size (wd_X3_begin cI cZ cP cS h_t h_t_items v_form v_size v_items) (wd_X3_begin cI cZ cP cS h_t h_t_items o_form o_size o_items)) ([.ref h_t, .int x1, .int x2] : List Value).toArray s 0 0 (va_A (wd_X3_begin cI cZ cP cS h_t h_t_items v_form v_size v_items) s.heap.size)) (F0 m 12 ls []) := by
    intro k12
    induction k12 with
    | zero =>
      intro y12_3 w12_items H locs ls hl hP hD hS hf
      exact absurd hf (fun h => Option.some_ne_none _ h.symm)
    | succ k12 ih =>
      intro y12_3 w12_items H locs ls hl hP hD hS hf
      rw [L_X3_begin_12_s] at hf
      refine lv_iload_n hx hb dX3_begin_12 rfl (lv_at hl 1 rfl) ?_
      refine lv_bipush (v := 48) hx hb dX3_begin_13 (by decide) ?_
      refine lv_icmp_ge (tgt := 31) hx hb dX3_begin_15 (by decide) (fun c15 => ?_) (fun c15 => ?_)
      · rw [if_pos c15] at hf
        exact hx12 w12_items H locs ls (lv_sub hl [] rfl) hP hD hS hf
      · rw [if_neg c15] at hf
        refine lv_aload_n hx hb dX3_begin_18 rfl (lv_at hl 0 rfl) ?_
        refine va_get (D := (dC, dI)) (ci := 3) (v := .ref h_t_items) (C := RX3) (T := TX3) (N := 3) hx hb hts hinX3 hown hK hP 0 rfl rfl 2 (by decide) (hts (.fieldLink RX3 18 "SecondSunrise$Sheet" "items" "[I") (by decide +kernel)) (fun _ h9 => h9) rfl dX3_begin_19 ?_
        refine lv_iload_n hx hb dX3_begin_22 rfl (lv_at hl 1 rfl) ?_
        refine lv_iconst (v := 0) hx hb dX3_begin_23 (by decide) ?_
        obtain ⟨hi_1, hf⟩ := ix_e hf
        refine va_iast hx hb hK hP hD hS 1 0 rfl rfl hi_1 dX3_begin_24 (fun H locs hP hD hS => ?_)
        have hP : va_P (dC, dI) vwCl (wd_X3_begin cI cZ cP cS h_t h_t_items x1 x2 (upd w12_items y12_3.toNatClampNeg 0)) H := hP
        have hD : va_D (va_A (wd_X3_begin cI cZ cP cS h_t h_t_items v_form v_size v_items) s.heap.size) (wd_X3_begin cI cZ cP cS h_t h_t_items x1 x2 (upd w12_items y12_3.toNatClampNeg 0)) := hD
        refine lv_iinc (v := (y12_3 + 1)) (lv' := [(3, .int (y12_3 + 1)), (0, .ref h_t)]) hx hb dX3_begin_25 hl (k := 1) rfl rfl (by decide) rfl (fun ls hl => ?_)
        refine lv_goto (tgt := 12) hx hb dX3_begin_28 (by decide) ?_
        exact ih (y12_3 + 1) (upd w12_items y12_3.toNatClampNeg 0) H locs ls (lv_sub hl [1, 0] rfl) hP hD hS hf
  exact hL12 n 0 v_items H locs ls (lv_sub hl [1, 0] rfl) hP hD hS hf

abbrev wd_X3_findingOf (cI cZ cP cS : ClassId) (h_t h_t_items : Nat) (v_form : Int32) (v_size : Int32) : va_W := [(h_t, .inr (3, [.int v_form, .int v_size, .ref h_t_items]))]
abbrev rm_X3_findingOf : Room := { frames := 0, cells := 0, slots := 0, locals := 0 }
def f_X3_findingOf (n : Nat) (v_form : Int32) (v_size : Int32) (x1 : Int32) (x2 : Int32) : Option (Int32) := if v_form = (-1) then some 1 else if v_form = x1 then jn0_ (some 2) (fun k32 => if x2 < 0 then k32 else if x2 < v_size then some 0 else k32) else some 3
set_option maxHeartbeats 4000000 in
set_option maxRecDepth 100000 in
theorem c_X3_findingOf (l : Launch) (dC : Nat → ClassId) (dI : Nat → Nat → Nat) (cI cZ cP cS : ClassId) (h_t h_t_items : Nat) (v_form : Int32) (v_size : Int32) (x1 : Int32) (x2 : Int32) (n : Nat) (r : Int32) (hf : f_X3_findingOf n v_form v_size x1 x2 = some r) : Met l yX3_findingOf wsX3_findingOf rm_X3_findingOf (RO (dC, dI) (TY cI cZ cP cS) [.ref h_t, .int x1, .int x2] (wd_X3_findingOf cI cZ cP cS h_t h_t_items v_form v_size)) (vp_Si (fun x => x = r)) 0 0 NF := by
  refine Met.ofW (cc := cX3_findingOf) (maxL := 3) (ret := (some .int)) (by decide) rfl ?_
  intro p e s m args below meth c s₁ B hml hv
  obtain ⟨rfl, hP, hK⟩ := hv
  have hx := B.exec
  have hb := B.bytes
  have hr := B.returns
  have hts := atoms_spec (ws := wsX3_findingOf) B.pre
  have hown : s.vm.findClass RX3 = some m.cls := findClass_of_methodNamed B.named
  have hlocks := B.notSynchronized
  have hinX3 : ∀ w ∈ wsX30, w ∈ wsX3_findingOf := by decide +kernel
  have hl := lv_entry ([.ref h_t, .int x1, .int x2]) (n := 3) (Nat.le_of_ble_eq_true rfl)
  rw [lg_entry_eq]
  generalize (lg_sl ([.ref h_t, .int x1, .int x2]) ++ List.replicate (3 - (lg_sl ([.ref h_t, .int x1, .int x2])).length) Slot.unset).toArray = ls at hl ⊢
  have hl : lv_has ls 3 [(0, .ref h_t), (1, .int x1), (2, .int x2)] := hl
  unfold f_X3_findingOf at hf
  refine lv_aload_n hx hb dX3_findingOf_0 rfl (lv_at hl 0 rfl) ?_
  refine va_get (D := (dC, dI)) (ci := 3) (v := .int v_form) (C := RX3) (T := TX3) (N := 3) hx hb hts hinX3 hown hK hP 0 rfl rfl 0 (by decide) (hts (.fieldLink RX3 9 "SecondSunrise$Sheet" "form" "I") (by decide +kernel)) (fun _ h9 => h9) rfl dX3_findingOf_1 ?_
  refine lv_iconst (v := (-1)) hx hb dX3_findingOf_4 (by decide) ?_
  refine lv_icmp_ne (tgt := 10) hx hb dX3_findingOf_5 (by decide) (fun c5 => ?_) (fun c5 => ?_)
  · rw [if_neg c5] at hf
    refine lv_aload_n hx hb dX3_findingOf_10 rfl (lv_at hl 0 rfl) ?_
    refine va_get (D := (dC, dI)) (ci := 3) (v := .int v_form) (C := RX3) (T := TX3) (N := 3) hx hb hts hinX3 hown hK hP 0 rfl rfl 0 (by decide) (hts (.fieldLink RX3 9 "SecondSunrise$Sheet" "form" "I") (by decide +kernel)) (fun _ h9 => h9) rfl dX3_findingOf_11 ?_
    refine lv_iload_n hx hb dX3_findingOf_14 rfl (lv_at hl 1 rfl) ?_
    refine lv_icmp_eq (tgt := 20) hx hb dX3_findingOf_15 (by decide) (fun c15 => ?_) (fun c15 => ?_)
    · rw [if_pos c15] at hf
      refine lv_iload_n hx hb dX3_findingOf_20 rfl (lv_at hl 2 rfl) ?_
      obtain ⟨k32, ek32, hf⟩ := jn0_e hf
      have hj32 : ∀ (ls : Array Slot), lv_has ls 3 [] → k32 = some r → W p l e (headSpec wsX3_findingOf rm_X3_findingOf).room s m ([.ref h_t, .int x1, .int x2] : List Value).toArray below meth c s.heap [] 0 0 (MQ below (vp_Si (fun x => x = r)) ([.ref h_t, .int x1, .int x2] : List Value).toArray s 0 0 NF) (F0 m 32 ls []) := by
        intro ls hl hf
        rw [ek32] at hf
        refine lv_iconst (v := 2) hx hb dX3_findingOf_32 (by decide) ?_
        refine lv_goto (tgt := 37) hx hb dX3_findingOf_33 (by decide) ?_
        exact W.iret hx hb hr (fun t ht hW => ⟨_, rfl, Option.some.inj hf, ht⟩) (fun _ h => nomatch h) dX3_findingOf_37
      refine lv_if_lt (tgt := 32) hx hb dX3_findingOf_21 (by decide) (fun c21 => ?_) (fun c21 => ?_)
      · rw [if_pos c21] at hf
        exact hj32 ls (lv_sub hl [] rfl) hf
      · rw [if_neg c21] at hf
        refine lv_iload_n hx hb dX3_findingOf_24 rfl (lv_at hl 2 rfl) ?_
        refine lv_aload_n hx hb dX3_findingOf_25 rfl (lv_at hl 0 rfl) ?_
        refine va_get (D := (dC, dI)) (ci := 3) (v := .int v_size) (C := RX3) (T := TX3) (N := 3) hx hb hts hinX3 hown hK hP 0 rfl rfl 1 (by decide) (hts (.fieldLink RX3 15 "SecondSunrise$Sheet" "size" "I") (by decide +kernel)) (fun _ h9 => h9) rfl dX3_findingOf_26 ?_
        refine lv_icmp_lt (tgt := 36) hx hb dX3_findingOf_29 (by decide) (fun c29 => ?_) (fun c29 => ?_)
        · rw [if_pos c29] at hf
          refine lv_iconst (v := 0) hx hb dX3_findingOf_36 (by decide) ?_
          exact W.iret hx hb hr (fun t ht hW => ⟨_, rfl, Option.some.inj hf, ht⟩) (fun _ h => nomatch h) dX3_findingOf_37
        · rw [if_neg c29] at hf
          exact hj32 ls (lv_sub hl [] rfl) hf
    · rw [if_neg c15] at hf
      refine lv_iconst (v := 3) hx hb dX3_findingOf_18 (by decide) ?_
      exact W.iret hx hb hr (fun t ht hW => ⟨_, rfl, Option.some.inj hf, ht⟩) (fun _ h => nomatch h) dX3_findingOf_19
  · rw [if_pos c5] at hf
    refine lv_iconst (v := 1) hx hb dX3_findingOf_8 (by decide) ?_
    exact W.iret hx hb hr (fun t ht hW => ⟨_, rfl, Option.some.inj hf, ht⟩) (fun _ h => nomatch h) dX3_findingOf_9

abbrev wd_X3_holds (cI cZ cP cS : ClassId) (h_t h_t_items : Nat) (v_form : Int32) (v_size : Int32) : va_W := [(h_t, .inr (3, [.int v_form, .int v_size, .ref h_t_items]))]
abbrev rm_X3_holds : Room := { frames := 0, cells := 0, slots := 0, locals := 0 }
def f_X3_holds (n : Nat) (v_size : Int32) (x1 : Int32) (x2 : Int32) : Option (Int32) := jn0_ (some 0) (fun k30 => if x1 < 0 then k30 else if x2 < 0 then k30 else if v_size < x1 then k30 else if (v_size - x1) < x2 then k30 else some 1)
set_option maxHeartbeats 4000000 in
set_option maxRecDepth 100000 in
theorem c_X3_holds (l : Launch) (dC : Nat → ClassId) (dI : Nat → Nat → Nat) (cI cZ cP cS : ClassId) (h_t h_t_items : Nat) (v_form : Int32) (v_size : Int32) (x1 : Int32) (x2 : Int32) (n : Nat) (r : Int32) (hf : f_X3_holds n v_size x1 x2 = some r) : Met l yX3_holds wsX3_holds rm_X3_holds (RO (dC, dI) (TY cI cZ cP cS) [.ref h_t, .int x1, .int x2] (wd_X3_holds cI cZ cP cS h_t h_t_items v_form v_size)) (vp_Si (fun x => x = r ∧ narrow .boolean (.int x) = .int x)) 0 0 NF := by
  refine Met.ofW (cc := cX3_holds) (maxL := 3) (ret := (some .boolean)) (by decide) rfl ?_
  intro p e s m args below meth c s₁ B hml hv
  obtain ⟨rfl, hP, hK⟩ := hv
  have hx := B.exec
  have hb := B.bytes
  have hr := B.returns
  have hts := atoms_spec (ws := wsX3_holds) B.pre
  have hown : s.vm.findClass RX3 = some m.cls := findClass_of_methodNamed B.named
  have hlocks := B.notSynchronized
  have hinX3 : ∀ w ∈ wsX30, w ∈ wsX3_holds := by decide +kernel
  have hl := lv_entry ([.ref h_t, .int x1, .int x2]) (n := 3) (Nat.le_of_ble_eq_true rfl)
  rw [lg_entry_eq]
  generalize (lg_sl ([.ref h_t, .int x1, .int x2]) ++ List.replicate (3 - (lg_sl ([.ref h_t, .int x1, .int x2])).length) Slot.unset).toArray = ls at hl ⊢
  have hl : lv_has ls 3 [(0, .ref h_t), (1, .int x1), (2, .int x2)] := hl
  unfold f_X3_holds at hf
  refine lv_iload_n hx hb dX3_holds_0 rfl (lv_at hl 1 rfl) ?_
  obtain ⟨k30, ek30, hf⟩ := jn0_e hf
  have hj30 : ∀ (ls : Array Slot), lv_has ls 3 [] → k30 = some r → W p l e (headSpec wsX3_holds rm_X3_holds).room s m ([.ref h_t, .int x1, .int x2] : List Value).toArray below meth c s.heap [] 0 0 (MQ below (vp_Si (fun x => x = r ∧ narrow .boolean (.int x) = .int x)) ([.ref h_t, .int x1, .int x2] : List Value).toArray s 0 0 NF) (F0 m 30 ls []) := by
    intro ls hl hf
    rw [ek30] at hf
    refine lv_iconst (v := 0) hx hb dX3_holds_30 (by decide) ?_
    exact W.zret hx hb hr (by decide) (fun t ht hW => ⟨_, rfl, ⟨Option.some.inj hf, (by decide)⟩, ht⟩) (fun _ h => nomatch h) dX3_holds_31
  refine lv_if_lt (tgt := 30) hx hb dX3_holds_1 (by decide) (fun c1 => ?_) (fun c1 => ?_)
  · rw [if_pos c1] at hf
    exact hj30 ls (lv_sub hl [] rfl) hf
  · rw [if_neg c1] at hf
    refine lv_iload_n hx hb dX3_holds_4 rfl (lv_at hl 2 rfl) ?_
    refine lv_if_lt (tgt := 30) hx hb dX3_holds_5 (by decide) (fun c5 => ?_) (fun c5 => ?_)
    · rw [if_pos c5] at hf
      exact hj30 ls (lv_sub hl [] rfl) hf
    · rw [if_neg c5] at hf
      refine lv_iload_n hx hb dX3_holds_8 rfl (lv_at hl 1 rfl) ?_
      refine lv_aload_n hx hb dX3_holds_9 rfl (lv_at hl 0 rfl) ?_
      refine va_get (D := (dC, dI)) (ci := 3) (v := .int v_size) (C := RX3) (T := TX3) (N := 3) hx hb hts hinX3 hown hK hP 0 rfl rfl 1 (by decide) (hts (.fieldLink RX3 15 "SecondSunrise$Sheet" "size" "I") (by decide +kernel)) (fun _ h9 => h9) rfl dX3_holds_10 ?_
      refine lv_icmp_gt (tgt := 30) hx hb dX3_holds_13 (by decide) (fun c13 => ?_) (fun c13 => ?_)
      · rw [if_pos c13] at hf
        exact hj30 ls (lv_sub hl [] rfl) hf
      · rw [if_neg c13] at hf
        refine lv_iload_n hx hb dX3_holds_16 rfl (lv_at hl 2 rfl) ?_
        refine lv_aload_n hx hb dX3_holds_17 rfl (lv_at hl 0 rfl) ?_
        refine va_get (D := (dC, dI)) (ci := 3) (v := .int v_size) (C := RX3) (T := TX3) (N := 3) hx hb hts hinX3 hown hK hP 0 rfl rfl 1 (by decide) (hts (.fieldLink RX3 15 "SecondSunrise$Sheet" "size" "I") (by decide +kernel)) (fun _ h9 => h9) rfl dX3_holds_18 ?_
        refine lv_iload_n hx hb dX3_holds_21 rfl (lv_at hl 1 rfl) ?_
        refine lv_isub hx hb dX3_holds_22 ?_
        refine lv_icmp_gt (tgt := 30) hx hb dX3_holds_23 (by decide) (fun c23 => ?_) (fun c23 => ?_)
        · rw [if_pos c23] at hf
          exact hj30 ls (lv_sub hl [] rfl) hf
        · rw [if_neg c23] at hf
          refine lv_iconst (v := 1) hx hb dX3_holds_26 (by decide) ?_
          refine lv_goto (tgt := 31) hx hb dX3_holds_27 (by decide) ?_
          exact W.zret hx hb hr (by decide) (fun t ht hW => ⟨_, rfl, ⟨Option.some.inj hf, (by decide)⟩, ht⟩) (fun _ h => nomatch h) dX3_holds_31

abbrev wd_X3_lowestBits (cI cZ cP cS : ClassId) (h_t h_t_items : Nat) (v_form : Int32) (v_size : Int32) : va_W := [(h_t, .inr (3, [.int v_form, .int v_size, .ref h_t_items]))]
abbrev rm_X3_lowestBits : Room := { frames := 0, cells := 0, slots := 0, locals := 0 }
def f_X3_lowestBits (n : Nat) (v_form : Int32) (x1 : Int32) : Option (Int32) := if v_form = 0 then some (x1.toInt8.toInt32) else if v_form = 1 then some (x1.toInt16.toInt32) else some x1
set_option maxHeartbeats 4000000 in
set_option maxRecDepth 100000 in
theorem c_X3_lowestBits (l : Launch) (dC : Nat → ClassId) (dI : Nat → Nat → Nat) (cI cZ cP cS : ClassId) (h_t h_t_items : Nat) (v_form : Int32) (v_size : Int32) (x1 : Int32) (n : Nat) (r : Int32) (hf : f_X3_lowestBits n v_form x1 = some r) : Met l yX3_lowestBits wsX3_lowestBits rm_X3_lowestBits (RO (dC, dI) (TY cI cZ cP cS) [.ref h_t, .int x1] (wd_X3_lowestBits cI cZ cP cS h_t h_t_items v_form v_size)) (vp_Si (fun x => x = r)) 0 0 NF := by
  refine Met.ofW (cc := cX3_lowestBits) (maxL := 2) (ret := (some .int)) (by decide) rfl ?_
  intro p e s m args below meth c s₁ B hml hv
  obtain ⟨rfl, hP, hK⟩ := hv
  have hx := B.exec
  have hb := B.bytes
  have hr := B.returns
  have hts := atoms_spec (ws := wsX3_lowestBits) B.pre
  have hown : s.vm.findClass RX3 = some m.cls := findClass_of_methodNamed B.named
  have hlocks := B.notSynchronized
  have hinX3 : ∀ w ∈ wsX30, w ∈ wsX3_lowestBits := by decide +kernel
  have hl := lv_entry ([.ref h_t, .int x1]) (n := 2) (Nat.le_of_ble_eq_true rfl)
  rw [lg_entry_eq]
  generalize (lg_sl ([.ref h_t, .int x1]) ++ List.replicate (2 - (lg_sl ([.ref h_t, .int x1])).length) Slot.unset).toArray = ls at hl ⊢
  have hl : lv_has ls 2 [(0, .ref h_t), (1, .int x1)] := hl
  unfold f_X3_lowestBits at hf
  refine lv_aload_n hx hb dX3_lowestBits_0 rfl (lv_at hl 0 rfl) ?_
  refine va_get (D := (dC, dI)) (ci := 3) (v := .int v_form) (C := RX3) (T := TX3) (N := 3) hx hb hts hinX3 hown hK hP 0 rfl rfl 0 (by decide) (hts (.fieldLink RX3 9 "SecondSunrise$Sheet" "form" "I") (by decide +kernel)) (fun _ h9 => h9) rfl dX3_lowestBits_1 ?_
  refine lv_if_ne (tgt := 10) hx hb dX3_lowestBits_4 (by decide) (fun c4 => ?_) (fun c4 => ?_)
  · rw [if_neg c4] at hf
    refine lv_aload_n hx hb dX3_lowestBits_10 rfl (lv_at hl 0 rfl) ?_
    refine va_get (D := (dC, dI)) (ci := 3) (v := .int v_form) (C := RX3) (T := TX3) (N := 3) hx hb hts hinX3 hown hK hP 0 rfl rfl 0 (by decide) (hts (.fieldLink RX3 9 "SecondSunrise$Sheet" "form" "I") (by decide +kernel)) (fun _ h9 => h9) rfl dX3_lowestBits_11 ?_
    refine lv_iconst (v := 1) hx hb dX3_lowestBits_14 (by decide) ?_
    refine lv_icmp_ne (tgt := 23) hx hb dX3_lowestBits_15 (by decide) (fun c15 => ?_) (fun c15 => ?_)
    · rw [if_neg c15] at hf
      refine lv_iload_n hx hb dX3_lowestBits_23 rfl (lv_at hl 1 rfl) ?_
      exact W.iret hx hb hr (fun t ht hW => ⟨_, rfl, Option.some.inj hf, ht⟩) (fun _ h => nomatch h) dX3_lowestBits_24
    · rw [if_pos c15] at hf
      refine lv_iload_n hx hb dX3_lowestBits_18 rfl (lv_at hl 1 rfl) ?_
      refine lv_i2s (v := x1.toInt16.toInt32) hx hb dX3_lowestBits_19 rfl ?_
      refine lv_goto (tgt := 24) hx hb dX3_lowestBits_20 (by decide) ?_
      exact W.iret hx hb hr (fun t ht hW => ⟨_, rfl, Option.some.inj hf, ht⟩) (fun _ h => nomatch h) dX3_lowestBits_24
  · rw [if_pos c4] at hf
    refine lv_iload_n hx hb dX3_lowestBits_7 rfl (lv_at hl 1 rfl) ?_
    refine lv_i2b (v := x1.toInt8.toInt32) hx hb dX3_lowestBits_8 rfl ?_
    exact W.iret hx hb hr (fun t ht hW => ⟨_, rfl, Option.some.inj hf, ht⟩) (fun _ h => nomatch h) dX3_lowestBits_9

abbrev wd_X4_hasOneOf (cI cZ cP cS : ClassId) (h_t h_t_red h_t_blue h_t_red_fitting h_t_red_worstLeft h_t_blue_fitting h_t_blue_worstLeft : Nat) (v_turn : Nat → Int32) (v_phase : Nat → Int32) (v_up : Nat → Int32) : va_W := [(h_t, .inr (4, [.ref h_t_red, .ref h_t_blue])), (h_t_red, .inr (5, [.int (v_turn 0), .int (v_phase 0), .int (v_up 0), .ref h_t_red_fitting, .ref h_t_red_worstLeft])), (h_t_blue, .inr (5, [.int (v_turn 1), .int (v_phase 1), .int (v_up 1), .ref h_t_blue_fitting, .ref h_t_blue_worstLeft]))]
abbrev rm_X4_hasOneOf : Room := { frames := 2, cells := 0, slots := 0, locals := 42 }
def f_X4_hasOneOf (n : Nat) (v_turn : Nat → Int32) (v_phase : Nat → Int32) (v_up : Nat → Int32) (x1 : Int32) (x2 : Int32) : Option (Int32) := bd1_ (f_X4_lightIn n v_turn v_phase v_up x2) (fun (r3_1 : Int32) => some ((x1 >>> (r3_1 &&& 31)) &&& 1))
set_option maxHeartbeats 4000000 in
set_option maxRecDepth 100000 in
theorem c_X4_hasOneOf (l : Launch) (dC : Nat → ClassId) (dI : Nat → Nat → Nat) (cI cZ cP cS : ClassId) (h_t h_t_red h_t_blue h_t_red_fitting h_t_red_worstLeft h_t_blue_fitting h_t_blue_worstLeft : Nat) (v_turn : Nat → Int32) (v_phase : Nat → Int32) (v_up : Nat → Int32) (x1 : Int32) (x2 : Int32) (n : Nat) (r : Int32) (hf : f_X4_hasOneOf n v_turn v_phase v_up x1 x2 = some r) : Met l yX4_hasOneOf wsX4_hasOneOf rm_X4_hasOneOf (RO (dC, dI) (TY cI cZ cP cS) [.ref h_t, .int x1, .int x2] (wd_X4_hasOneOf cI cZ cP cS h_t h_t_red h_t_blue h_t_red_fitting h_t_red_worstLeft h_t_blue_fitting h_t_blue_worstLeft v_turn v_phase v_up)) (vp_Si (fun x => x = r)) 0 0 NF := by
  refine Met.ofW (cc := cX4_hasOneOf) (maxL := 3) (ret := (some .int)) (by decide) rfl ?_
  intro p e s m args below meth c s₁ B hml hv
  obtain ⟨rfl, hP, hK⟩ := hv
  have hx := B.exec
  have hb := B.bytes
  have hr := B.returns
  have hts := atoms_spec (ws := wsX4_hasOneOf) B.pre
  have hown : s.vm.findClass RX4 = some m.cls := findClass_of_methodNamed B.named
  have hlocks := B.notSynchronized
  have hl := lv_entry ([.ref h_t, .int x1, .int x2]) (n := 3) (Nat.le_of_ble_eq_true rfl)
  rw [lg_entry_eq]
  generalize (lg_sl ([.ref h_t, .int x1, .int x2]) ++ List.replicate (3 - (lg_sl ([.ref h_t, .int x1, .int x2])).length) Slot.unset).toArray = ls at hl ⊢
  have hl : lv_has ls 3 [(0, .ref h_t), (1, .int x1), (2, .int x2)] := hl
  unfold f_X4_hasOneOf at hf
  refine lv_iload_n hx hb dX4_hasOneOf_0 rfl (lv_at hl 1 rfl) ?_
  refine lv_aload_n hx hb dX4_hasOneOf_1 rfl (lv_at hl 0 rfl) ?_
  refine lv_iload_n hx hb dX4_hasOneOf_2 rfl (lv_at hl 2 rfl) ?_
  obtain ⟨r3_1, hc_2, hf⟩ := bd1_e hf
  refine vp_callSi (va_runV (As := [.int x2]) (rest := [.int x1]) ⟨hx, hb, hml, hown, hts⟩ (c_X4_lightIn l dC dI cI cZ cP cS h_t h_t_red h_t_blue h_t_red_fitting h_t_red_worstLeft h_t_blue_fitting h_t_blue_worstLeft v_turn v_phase v_up x2 n r3_1 hc_2) (cwV 1 hts gX4_hasOneOf_X4_lightIn rfl rfl rfl (by decide +kernel) ⟨Nat.le_of_ble_eq_true rfl, Nat.le_of_ble_eq_true rfl⟩) (pv_ro (ci := 4) (q0 := 0) hK (hP.sub (ws' := (wd_X4_lightIn cI cZ cP cS h_t h_t_red h_t_blue h_t_red_fitting h_t_red_worstLeft h_t_blue_fitting h_t_blue_worstLeft v_turn v_phase v_up)) [0, 1, 2] rfl) rfl rfl) rfl rfl hl.1 rfl (lv_room (Nat.le_of_ble_eq_true rfl)) dX4_hasOneOf_3 ⟨Nat.zero_le _, Nat.zero_le _⟩).run (fun x e_3 => ?_)
  rw [e_3]
  refine lv_ishr hx hb dX4_hasOneOf_6 ?_
  refine lv_iconst (v := 1) hx hb dX4_hasOneOf_7 (by decide) ?_
  refine lv_iand hx hb dX4_hasOneOf_8 ?_
  exact W.iret hx hb hr (fun t ht hW => ⟨_, rfl, Option.some.inj hf, ht⟩) (fun _ h => nomatch h) dX4_hasOneOf_9

abbrev wd_X4_hoursOfRound (cI cZ cP cS : ClassId) (h_t h_t_red h_t_blue h_t_red_fitting h_t_red_worstLeft h_t_blue_fitting h_t_blue_worstLeft : Nat) (v_turn : Nat → Int32) (v_phase : Nat → Int32) (v_up : Nat → Int32) : va_W := [(h_t, .inr (4, [.ref h_t_red, .ref h_t_blue])), (h_t_red, .inr (5, [.int (v_turn 0), .int (v_phase 0), .int (v_up 0), .ref h_t_red_fitting, .ref h_t_red_worstLeft])), (h_t_blue, .inr (5, [.int (v_turn 1), .int (v_phase 1), .int (v_up 1), .ref h_t_blue_fitting, .ref h_t_blue_worstLeft]))]
abbrev rm_X4_hoursOfRound : Room := { frames := 0, cells := 0, slots := 0, locals := 0 }
def L_X4_hoursOfRound_10 (v_turn : Nat → Int32) (kx10 : Int32 → Option (Int32)) : Nat → Int32 → Int32 → Option (Int32)
  | 0, _, _ => none
  | k10 + 1, y10_1, y10_2 => if (40 : Int32) ≤ y10_2 then kx10 y10_1 else if (v_turn 1) ≤ 0 then kx10 y10_1 else nz_ (v_turn 1) (if (y10_1 - y10_1 / (v_turn 1) * (v_turn 1)) = 0 then kx10 y10_1 else L_X4_hoursOfRound_10 v_turn kx10 k10 (y10_1 + (v_turn 0)) (y10_2 + 1))
theorem L_X4_hoursOfRound_10_s (v_turn : Nat → Int32) (kx10 : Int32 → Option (Int32)) (k10 : Nat) (y10_1 : Int32) (y10_2 : Int32) : L_X4_hoursOfRound_10 v_turn kx10 (k10 + 1) y10_1 y10_2 = if (40 : Int32) ≤ y10_2 then kx10 y10_1 else if (v_turn 1) ≤ 0 then kx10 y10_1 else nz_ (v_turn 1) (if (y10_1 - y10_1 / (v_turn 1) * (v_turn 1)) = 0 then kx10 y10_1 else L_X4_hoursOfRound_10 v_turn kx10 k10 (y10_1 + (v_turn 0)) (y10_2 + 1)) := rfl
def f_X4_hoursOfRound (n : Nat) (v_turn : Nat → Int32) : Option (Int32) := jn1_ (fun (z10_1 : Int32) => some z10_1) (fun kx10 => L_X4_hoursOfRound_10 v_turn kx10 n (v_turn 0) 1)
set_option maxHeartbeats 4000000 in
set_option maxRecDepth 100000 in
theorem c_X4_hoursOfRound (l : Launch) (dC : Nat → ClassId) (dI : Nat → Nat → Nat) (cI cZ cP cS : ClassId) (h_t h_t_red h_t_blue h_t_red_fitting h_t_red_worstLeft h_t_blue_fitting h_t_blue_worstLeft : Nat) (v_turn : Nat → Int32) (v_phase : Nat → Int32) (v_up : Nat → Int32) (n : Nat) (r : Int32) (hf : f_X4_hoursOfRound n v_turn = some r) : Met l yX4_hoursOfRound wsX4_hoursOfRound rm_X4_hoursOfRound (RO (dC, dI) (TY cI cZ cP cS) [.ref h_t] (wd_X4_hoursOfRound cI cZ cP cS h_t h_t_red h_t_blue h_t_red_fitting h_t_red_worstLeft h_t_blue_fitting h_t_blue_worstLeft v_turn v_phase v_up)) (vp_Si (fun x => x = r)) 0 0 NF := by
  refine Met.ofW (cc := cX4_hoursOfRound) (maxL := 3) (ret := (some .int)) (by decide) rfl ?_
  intro p e s m args below meth c s₁ B hml hv
  obtain ⟨rfl, hP, hK⟩ := hv
  have hx := B.exec
  have hb := B.bytes
  have hr := B.returns
  have hts := atoms_spec (ws := wsX4_hoursOfRound) B.pre
  have hown : s.vm.findClass RX4 = some m.cls := findClass_of_methodNamed B.named
  have hlocks := B.notSynchronized
  have hinX4 : ∀ w ∈ wsX40, w ∈ wsX4_hoursOfRound := by decide +kernel
  have hinX5 : ∀ w ∈ wsX50, w ∈ wsX4_hoursOfRound := by decide +kernel
  have hl := lv_entry ([.ref h_t]) (n := 3) (Nat.le_of_ble_eq_true rfl)
  rw [lg_entry_eq]
  generalize (lg_sl ([.ref h_t]) ++ List.replicate (3 - (lg_sl ([.ref h_t])).length) Slot.unset).toArray = ls at hl ⊢
  have hl : lv_has ls 3 [(0, .ref h_t)] := hl
  unfold f_X4_hoursOfRound at hf
  refine lv_aload_n hx hb dX4_hoursOfRound_0 rfl (lv_at hl 0 rfl) ?_
  refine va_get (D := (dC, dI)) (ci := 4) (v := .ref h_t_red) (C := RX4) (T := TX4) (N := 2) hx hb hts hinX4 hown hK hP 0 rfl rfl 0 (by decide) (hts (.fieldLink RX4 9 "SecondSunrise$Sky" "red" "LSecondSunrise$Sun;") (by decide +kernel)) (fun _ h9 => h9) rfl dX4_hoursOfRound_1 ?_
  refine va_get (D := (dC, dI)) (ci := 5) (v := .int (v_turn 0)) (C := RX5) (T := TX5) (N := 5) hx hb hts hinX5 hown hK hP 1 rfl rfl 0 (by decide) (hts (.fieldLink RX4 28 "SecondSunrise$Sun" "turn" "I") (by decide +kernel)) (fun _ h9 => h9) rfl dX4_hoursOfRound_4 ?_
  refine lv_istore_n (lv' := [(1, .int (v_turn 0)), (0, .ref h_t)]) hx hb dX4_hoursOfRound_7 rfl hl (by decide) rfl (fun ls hl => ?_)
  refine lv_iconst (v := 1) hx hb dX4_hoursOfRound_8 (by decide) ?_
  refine lv_istore_n (lv' := [(2, .int 1), (1, .int (v_turn 0)), (0, .ref h_t)]) hx hb dX4_hoursOfRound_9 rfl hl (by decide) rfl (fun ls hl => ?_)
  obtain ⟨kx10, ekx10, hf⟩ := jn1_e hf
  have hx10 : ∀ (z10_1 : Int32) (ls : Array Slot), lv_has ls 3 [(1, .int z10_1)] → kx10 z10_1 = some r → W p l e (headSpec wsX4_hoursOfRound rm_X4_hoursOfRound).room s m ([.ref h_t] : List Value).toArray below meth c s.heap [] 0 0 (MQ below (vp_Si (fun x => x = r)) ([.ref h_t] : List Value).toArray s 0 0 NF) (F0 m 54 ls []) := by
    intro z10_1 ls hl hf
    rw [ekx10] at hf
    refine lv_iload_n hx hb dX4_hoursOfRound_54 rfl (lv_at hl 0 rfl) ?_
    exact W.iret hx hb hr (fun t ht hW => ⟨_, rfl, Option.some.inj hf, ht⟩) (fun _ h => nomatch h) dX4_hoursOfRound_55
  have hL10 : ∀ (k10 : Nat) (y10_1 : Int32) (y10_2 : Int32) (ls : Array Slot), lv_has ls 3 [(0, .ref h_t), (1, .int y10_1), (2, .int y10_2)] → L_X4_hoursOfRound_10 v_turn kx10 k10 y10_1 y10_2 = some r → W p l e (headSpec wsX4_hoursOfRound rm_X4_hoursOfRound).room s m ([.ref h_t] : List Value).toArray below meth c s.heap [] 0 0 (MQ below (vp_Si (fun x => x = r)) ([.ref h_t] : List Value).toArray s 0 0 NF) (F0 m 10 ls []) := by
    intro k10
    induction k10 with
    | zero =>
      intro y10_1 y10_2 ls hl hf
      exact absurd hf (fun h => Option.some_ne_none _ h.symm)
    | succ k10 ih =>
      intro y10_1 y10_2 ls hl hf
      rw [L_X4_hoursOfRound_10_s] at hf
      refine lv_iload_n hx hb dX4_hoursOfRound_10 rfl (lv_at hl 2 rfl) ?_
      refine lv_bipush (v := 40) hx hb dX4_hoursOfRound_11 (by decide) ?_
      refine lv_icmp_ge (tgt := 54) hx hb dX4_hoursOfRound_13 (by decide) (fun c13 => ?_) (fun c13 => ?_)
      · rw [if_pos c13] at hf
        exact hx10 y10_1 ls (lv_sub hl [1] rfl) hf
      · rw [if_neg c13] at hf
        refine lv_aload_n hx hb dX4_hoursOfRound_16 rfl (lv_at hl 0 rfl) ?_
        refine va_get (D := (dC, dI)) (ci := 4) (v := .ref h_t_blue) (C := RX4) (T := TX4) (N := 2) hx hb hts hinX4 hown hK hP 0 rfl rfl 1 (by decide) (hts (.fieldLink RX4 15 "SecondSunrise$Sky" "blue" "LSecondSunrise$Sun;") (by decide +kernel)) (fun _ h9 => h9) rfl dX4_hoursOfRound_17 ?_
        refine va_get (D := (dC, dI)) (ci := 5) (v := .int (v_turn 1)) (C := RX5) (T := TX5) (N := 5) hx hb hts hinX5 hown hK hP 2 rfl rfl 0 (by decide) (hts (.fieldLink RX4 28 "SecondSunrise$Sun" "turn" "I") (by decide +kernel)) (fun _ h9 => h9) rfl dX4_hoursOfRound_20 ?_
        refine lv_if_le (tgt := 54) hx hb dX4_hoursOfRound_23 (by decide) (fun c23 => ?_) (fun c23 => ?_)
        · rw [if_pos c23] at hf
          exact hx10 y10_1 ls (lv_sub hl [1] rfl) hf
        · rw [if_neg c23] at hf
          refine lv_iload_n hx hb dX4_hoursOfRound_26 rfl (lv_at hl 1 rfl) ?_
          refine lv_aload_n hx hb dX4_hoursOfRound_27 rfl (lv_at hl 0 rfl) ?_
          refine va_get (D := (dC, dI)) (ci := 4) (v := .ref h_t_blue) (C := RX4) (T := TX4) (N := 2) hx hb hts hinX4 hown hK hP 0 rfl rfl 1 (by decide) (hts (.fieldLink RX4 15 "SecondSunrise$Sky" "blue" "LSecondSunrise$Sun;") (by decide +kernel)) (fun _ h9 => h9) rfl dX4_hoursOfRound_28 ?_
          refine va_get (D := (dC, dI)) (ci := 5) (v := .int (v_turn 1)) (C := RX5) (T := TX5) (N := 5) hx hb hts hinX5 hown hK hP 2 rfl rfl 0 (by decide) (hts (.fieldLink RX4 28 "SecondSunrise$Sun" "turn" "I") (by decide +kernel)) (fun _ h9 => h9) rfl dX4_hoursOfRound_31 ?_
          obtain ⟨hz_1, hf⟩ := nz_e hf
          refine lv_irem hx hb dX4_hoursOfRound_34 hz_1 ?_
          refine lv_if_eq (tgt := 54) hx hb dX4_hoursOfRound_35 (by decide) (fun c35 => ?_) (fun c35 => ?_)
          · rw [if_pos c35] at hf
            exact hx10 y10_1 ls (lv_sub hl [1] rfl) hf
          · rw [if_neg c35] at hf
            refine lv_iload_n hx hb dX4_hoursOfRound_38 rfl (lv_at hl 1 rfl) ?_
            refine lv_aload_n hx hb dX4_hoursOfRound_39 rfl (lv_at hl 0 rfl) ?_
            refine va_get (D := (dC, dI)) (ci := 4) (v := .ref h_t_red) (C := RX4) (T := TX4) (N := 2) hx hb hts hinX4 hown hK hP 0 rfl rfl 0 (by decide) (hts (.fieldLink RX4 9 "SecondSunrise$Sky" "red" "LSecondSunrise$Sun;") (by decide +kernel)) (fun _ h9 => h9) rfl dX4_hoursOfRound_40 ?_
            refine va_get (D := (dC, dI)) (ci := 5) (v := .int (v_turn 0)) (C := RX5) (T := TX5) (N := 5) hx hb hts hinX5 hown hK hP 1 rfl rfl 0 (by decide) (hts (.fieldLink RX4 28 "SecondSunrise$Sun" "turn" "I") (by decide +kernel)) (fun _ h9 => h9) rfl dX4_hoursOfRound_43 ?_
            refine lv_iadd hx hb dX4_hoursOfRound_46 ?_
            refine lv_istore_n (lv' := [(1, .int (y10_1 + (v_turn 0))), (0, .ref h_t), (2, .int y10_2)]) hx hb dX4_hoursOfRound_47 rfl hl (by decide) rfl (fun ls hl => ?_)
            refine lv_iinc (v := (y10_2 + 1)) (lv' := [(2, .int (y10_2 + 1)), (1, .int (y10_1 + (v_turn 0))), (0, .ref h_t)]) hx hb dX4_hoursOfRound_48 hl (k := 2) rfl rfl (by decide) rfl (fun ls hl => ?_)
            refine lv_goto (tgt := 10) hx hb dX4_hoursOfRound_51 (by decide) ?_
            exact ih (y10_1 + (v_turn 0)) (y10_2 + 1) ls (lv_sub hl [2, 1, 0] rfl) hf
  exact hL10 n (v_turn 0) 1 ls (lv_sub hl [2, 1, 0] rfl) hf

abbrev wd_X4_hoursWithin (cI cZ cP cS : ClassId) (h_t h_t_red h_t_blue h_t_red_fitting h_t_red_worstLeft h_t_blue_fitting h_t_blue_worstLeft : Nat) (v_turn : Nat → Int32) (v_phase : Nat → Int32) (v_up : Nat → Int32) : va_W := [(h_t, .inr (4, [.ref h_t_red, .ref h_t_blue])), (h_t_red, .inr (5, [.int (v_turn 0), .int (v_phase 0), .int (v_up 0), .ref h_t_red_fitting, .ref h_t_red_worstLeft])), (h_t_blue, .inr (5, [.int (v_turn 1), .int (v_phase 1), .int (v_up 1), .ref h_t_blue_fitting, .ref h_t_blue_worstLeft]))]
abbrev rm_X4_hoursWithin : Room := { frames := 3, cells := 0, slots := 0, locals := 64 }
def L_X4_hoursWithin_6 (n : Nat) (v_turn : Nat → Int32) (v_phase : Nat → Int32) (v_up : Nat → Int32) (x1 : Int32) (x2 : Int32) (x3 : Int32) (kx6 : Int32 → Option (Int32)) : Nat → Int32 → Int32 → Option (Int32)
  | 0, _, _ => none
  | k6 + 1, y6_4, y6_5 => if x3 ≤ y6_5 then kx6 y6_4 else bd1_ (f_X4_hasOneOf n v_turn v_phase v_up x1 (x2 + y6_5)) (fun (r20_1 : Int32) => L_X4_hoursWithin_6 n v_turn v_phase v_up x1 x2 x3 kx6 k6 (y6_4 + r20_1) (y6_5 + 1))
theorem L_X4_hoursWithin_6_s (n : Nat) (v_turn : Nat → Int32) (v_phase : Nat → Int32) (v_up : Nat → Int32) (x1 : Int32) (x2 : Int32) (x3 : Int32) (kx6 : Int32 → Option (Int32)) (k6 : Nat) (y6_4 : Int32) (y6_5 : Int32) : L_X4_hoursWithin_6 n v_turn v_phase v_up x1 x2 x3 kx6 (k6 + 1) y6_4 y6_5 = if x3 ≤ y6_5 then kx6 y6_4 else bd1_ (f_X4_hasOneOf n v_turn v_phase v_up x1 (x2 + y6_5)) (fun (r20_1 : Int32) => L_X4_hoursWithin_6 n v_turn v_phase v_up x1 x2 x3 kx6 k6 (y6_4 + r20_1) (y6_5 + 1)) := rfl
def f_X4_hoursWithin (n : Nat) (v_turn : Nat → Int32) (v_phase : Nat → Int32) (v_up : Nat → Int32) (x1 : Int32) (x2 : Int32) (x3 : Int32) : Option (Int32) := jn1_ (fun (z6_4 : Int32) => some z6_4) (fun kx6 => L_X4_hoursWithin_6 n v_turn v_phase v_up x1 x2 x3 kx6 n 0 0)
set_option maxHeartbeats 4000000 in
set_option maxRecDepth 100000 in
theorem c_X4_hoursWithin (l : Launch) (dC : Nat → ClassId) (dI : Nat → Nat → Nat) (cI cZ cP cS : ClassId) (h_t h_t_red h_t_blue h_t_red_fitting h_t_red_worstLeft h_t_blue_fitting h_t_blue_worstLeft : Nat) (v_turn : Nat → Int32) (v_phase : Nat → Int32) (v_up : Nat → Int32) (x1 : Int32) (x2 : Int32) (x3 : Int32) (n : Nat) (r : Int32) (hf : f_X4_hoursWithin n v_turn v_phase v_up x1 x2 x3 = some r) : Met l yX4_hoursWithin wsX4_hoursWithin rm_X4_hoursWithin (RO (dC, dI) (TY cI cZ cP cS) [.ref h_t, .int x1, .int x2, .int x3] (wd_X4_hoursWithin cI cZ cP cS h_t h_t_red h_t_blue h_t_red_fitting h_t_red_worstLeft h_t_blue_fitting h_t_blue_worstLeft v_turn v_phase v_up)) (vp_Si (fun x => x = r)) 0 0 NF := by
  refine Met.ofW (cc := cX4_hoursWithin) (maxL := 6) (ret := (some .int)) (by decide) rfl ?_
  intro p e s m args below meth c s₁ B hml hv
  obtain ⟨rfl, hP, hK⟩ := hv
  have hx := B.exec
  have hb := B.bytes
  have hr := B.returns
  have hts := atoms_spec (ws := wsX4_hoursWithin) B.pre
  have hown : s.vm.findClass RX4 = some m.cls := findClass_of_methodNamed B.named
  have hlocks := B.notSynchronized
  have hl := lv_entry ([.ref h_t, .int x1, .int x2, .int x3]) (n := 6) (Nat.le_of_ble_eq_true rfl)
  rw [lg_entry_eq]
  generalize (lg_sl ([.ref h_t, .int x1, .int x2, .int x3]) ++ List.replicate (6 - (lg_sl ([.ref h_t, .int x1, .int x2, .int x3])).length) Slot.unset).toArray = ls at hl ⊢
  have hl : lv_has ls 6 [(0, .ref h_t), (1, .int x1), (2, .int x2), (3, .int x3)] := hl
  unfold f_X4_hoursWithin at hf
  refine lv_iconst (v := 0) hx hb dX4_hoursWithin_0 (by decide) ?_
  refine lv_istore (lv' := [(4, .int 0), (0, .ref h_t), (1, .int x1), (2, .int x2), (3, .int x3)]) hx hb dX4_hoursWithin_1 hl (by decide) rfl (fun ls hl => ?_)
  refine lv_iconst (v := 0) hx hb dX4_hoursWithin_3 (by decide) ?_
  refine lv_istore (lv' := [(5, .int 0), (4, .int 0), (0, .ref h_t), (1, .int x1), (2, .int x2), (3, .int x3)]) hx hb dX4_hoursWithin_4 hl (by decide) rfl (fun ls hl => ?_)
  obtain ⟨kx6, ekx6, hf⟩ := jn1_e hf
  have hx6 : ∀ (z6_4 : Int32) (ls : Array Slot), lv_has ls 6 [(4, .int z6_4)] → kx6 z6_4 = some r → W p l e (headSpec wsX4_hoursWithin rm_X4_hoursWithin).room s m ([.ref h_t, .int x1, .int x2, .int x3] : List Value).toArray below meth c s.heap [] 0 0 (MQ below (vp_Si (fun x => x = r)) ([.ref h_t, .int x1, .int x2, .int x3] : List Value).toArray s 0 0 NF) (F0 m 32 ls []) := by
    intro z6_4 ls hl hf
    rw [ekx6] at hf
    refine lv_iload hx hb dX4_hoursWithin_32 (lv_at hl 0 rfl) ?_
    exact W.iret hx hb hr (fun t ht hW => ⟨_, rfl, Option.some.inj hf, ht⟩) (fun _ h => nomatch h) dX4_hoursWithin_34
  have hL6 : ∀ (k6 : Nat) (y6_4 : Int32) (y6_5 : Int32) (ls : Array Slot), lv_has ls 6 [(0, .ref h_t), (1, .int x1), (2, .int x2), (3, .int x3), (4, .int y6_4), (5, .int y6_5)] → L_X4_hoursWithin_6 n v_turn v_phase v_up x1 x2 x3 kx6 k6 y6_4 y6_5 = some r → W p l e (headSpec wsX4_hoursWithin rm_X4_hoursWithin).room s m ([.ref h_t, .int x1, .int x2, .int x3] : List Value).toArray below meth c s.heap [] 0 0 (MQ below (vp_Si (fun x => x = r)) ([.ref h_t, .int x1, .int x2, .int x3] : List Value).toArray s 0 0 NF) (F0 m 6 ls []) := by
    intro k6
    induction k6 with
    | zero =>
      intro y6_4 y6_5 ls hl hf
      exact absurd hf (fun h => Option.some_ne_none _ h.symm)
    | succ k6 ih =>
      intro y6_4 y6_5 ls hl hf
      rw [L_X4_hoursWithin_6_s] at hf
      refine lv_iload hx hb dX4_hoursWithin_6 (lv_at hl 5 rfl) ?_
      refine lv_iload_n hx hb dX4_hoursWithin_8 rfl (lv_at hl 3 rfl) ?_
      refine lv_icmp_ge (tgt := 32) hx hb dX4_hoursWithin_9 (by decide) (fun c9 => ?_) (fun c9 => ?_)
      · rw [if_pos c9] at hf
        exact hx6 y6_4 ls (lv_sub hl [4] rfl) hf
      · rw [if_neg c9] at hf
        refine lv_iload hx hb dX4_hoursWithin_12 (lv_at hl 4 rfl) ?_
        refine lv_aload_n hx hb dX4_hoursWithin_14 rfl (lv_at hl 0 rfl) ?_
        refine lv_iload_n hx hb dX4_hoursWithin_15 rfl (lv_at hl 1 rfl) ?_
        refine lv_iload_n hx hb dX4_hoursWithin_16 rfl (lv_at hl 2 rfl) ?_
        refine lv_iload hx hb dX4_hoursWithin_17 (lv_at hl 5 rfl) ?_
        refine lv_iadd hx hb dX4_hoursWithin_19 ?_
        obtain ⟨r20_1, hc_2, hf⟩ := bd1_e hf
        refine vp_callSi (va_runV (As := [.int x1, .int (x2 + y6_5)]) (rest := [.int y6_4]) ⟨hx, hb, hml, hown, hts⟩ (c_X4_hasOneOf l dC dI cI cZ cP cS h_t h_t_red h_t_blue h_t_red_fitting h_t_red_worstLeft h_t_blue_fitting h_t_blue_worstLeft v_turn v_phase v_up x1 (x2 + y6_5) n r20_1 hc_2) (cwV 2 hts gX4_hoursWithin_X4_hasOneOf rfl rfl rfl (by decide +kernel) ⟨Nat.le_of_ble_eq_true rfl, Nat.le_of_ble_eq_true rfl⟩) (pv_ro (ci := 4) (q0 := 0) hK (hP.sub (ws' := (wd_X4_hasOneOf cI cZ cP cS h_t h_t_red h_t_blue h_t_red_fitting h_t_red_worstLeft h_t_blue_fitting h_t_blue_worstLeft v_turn v_phase v_up)) [0, 1, 2] rfl) rfl rfl) rfl rfl hl.1 rfl (lv_room (Nat.le_of_ble_eq_true rfl)) dX4_hoursWithin_20 ⟨Nat.zero_le _, Nat.zero_le _⟩).run (fun x e_3 => ?_)
        rw [e_3]
        refine lv_iadd hx hb dX4_hoursWithin_23 ?_
        refine lv_istore (lv' := [(4, .int (y6_4 + r20_1)), (0, .ref h_t), (1, .int x1), (2, .int x2), (3, .int x3), (5, .int y6_5)]) hx hb dX4_hoursWithin_24 hl (by decide) rfl (fun ls hl => ?_)
        refine lv_iinc (v := (y6_5 + 1)) (lv' := [(5, .int (y6_5 + 1)), (4, .int (y6_4 + r20_1)), (0, .ref h_t), (1, .int x1), (2, .int x2), (3, .int x3)]) hx hb dX4_hoursWithin_26 hl (k := 5) rfl rfl (by decide) rfl (fun ls hl => ?_)
        refine lv_goto (tgt := 6) hx hb dX4_hoursWithin_29 (by decide) ?_
        exact ih (y6_4 + r20_1) (y6_5 + 1) ls (lv_sub hl [2, 3, 4, 5, 1, 0] rfl) hf
  exact hL6 n 0 0 ls (lv_sub hl [2, 3, 4, 5, 1, 0] rfl) hf
