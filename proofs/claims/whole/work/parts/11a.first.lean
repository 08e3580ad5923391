abbrev rm_X7_outside : Room := { frames := 0, cells := 0, slots := 0, locals := 0 }
def f_X7_outside (n : Nat) (x0 : Int32) (x1 : Int32) (x2 : Int32) : Option (Int32) := jn0_ (some 1) (fun k10 => if x0 < x1 then k10 else if x0 ≤ x2 then some 0 else k10)
set_option maxHeartbeats 4000000 in
set_option maxRecDepth 100000 in
theorem c_X7_outside (l : Launch) (dC : Nat → ClassId) (dI : Nat → Nat → Nat) (cI cZ cP cS : ClassId) (x0 : Int32) (x1 : Int32) (x2 : Int32) (n : Nat) (r : Int32) (hf : f_X7_outside n x0 x1 x2 = some r) : Met l yX7_outside wsX7_outside rm_X7_outside (RO (dC, dI) (TY cI cZ cP cS) [.int x0, .int x1, .int x2] ([] : va_W)) (vp_Si (fun x => x = r ∧ narrow .boolean (.int x) = .int x)) 0 0 NF := by
  refine Met.ofW (cc := cX7_outside) (maxL := 3) (ret := (some .boolean)) (by decide) rfl ?_
  intro p e s m args below meth c s₁ B hml hv
  obtain ⟨rfl, hP, hK⟩ := hv
  have hx := B.exec
  have hb := B.bytes
  have hr := B.returns
  have hts := atoms_spec (ws := wsX7_outside) B.pre
  have hown : s.vm.findClass RX7 = some m.cls := findClass_of_methodNamed B.named
  have hlocks := B.notSynchronized
  have hl := lv_entry ([.int x0, .int x1, .int x2]) (n := 3) (Nat.le_of_ble_eq_true rfl)
  rw [lg_entry_eq]
  generalize (lg_sl ([.int x0, .int x1, .int x2]) ++ List.replicate (3 - (lg_sl ([.int x0, .int x1, .int x2])).length) Slot.unset).toArray = ls at hl ⊢
  have hl : lv_has ls 3 [(0, .int x0), (1, .int x1), (2, .int x2)] := hl
  unfold f_X7_outside at hf
  refine lv_iload_n hx hb dX7_outside_0 rfl (lv_at hl 0 rfl) ?_
  refine lv_iload_n hx hb dX7_outside_1 rfl (lv_at hl 1 rfl) ?_
  obtain ⟨k10, ek10, hf⟩ := jn0_e hf
  have hj10 : ∀ (ls : Array Slot), lv_has ls 3 [] → k10 = some r → W p l e (headSpec wsX7_outside rm_X7_outside).room s m ([.int x0, .int x1, .int x2] : List Value).toArray below meth c s.heap [] 0 0 (MQ below (vp_Si (fun x => x = r ∧ narrow .boolean (.int x) = .int x)) ([.int x0, .int x1, .int x2] : List Value).toArray s 0 0 NF) (F0 m 10 ls []) := by
    intro ls hl hf
    rw [ek10] at hf
    refine lv_iconst (v := 1) hx hb dX7_outside_10 (by decide) ?_
    refine lv_goto (tgt := 15) hx hb dX7_outside_11 (by decide) ?_
    exact W.zret hx hb hr (by decide) (fun t ht hW => ⟨_, rfl, ⟨Option.some.inj hf, (by decide)⟩, ht⟩) (fun _ h => nomatch h) dX7_outside_15
  refine lv_icmp_lt (tgt := 10) hx hb dX7_outside_2 (by decide) (fun c2 => ?_) (fun c2 => ?_)
  · rw [if_pos c2] at hf
    exact hj10 ls (lv_sub hl [] rfl) hf
  · rw [if_neg c2] at hf
    refine lv_iload_n hx hb dX7_outside_5 rfl (lv_at hl 0 rfl) ?_
    refine lv_iload_n hx hb dX7_outside_6 rfl (lv_at hl 2 rfl) ?_
    refine lv_icmp_le (tgt := 14) hx hb dX7_outside_7 (by decide) (fun c7 => ?_) (fun c7 => ?_)
    · rw [if_pos c7] at hf
      refine lv_iconst (v := 0) hx hb dX7_outside_14 (by decide) ?_
      exact W.zret hx hb hr (by decide) (fun t ht hW => ⟨_, rfl, ⟨Option.some.inj hf, (by decide)⟩, ht⟩) (fun _ h => nomatch h) dX7_outside_15
    · rw [if_neg c7] at hf
      exact hj10 ls (lv_sub hl [] rfl) hf

abbrev rm_X7_noPerson : Room := { frames := 1, cells := 0, slots := 0, locals := 22 }
def f_X7_noPerson (n : Nat) (x0 : Int32) : Option (Int32) := bd1_ (f_X7_outside n x0 0 5) (fun (r3_1 : Int32) => some r3_1)
set_option maxHeartbeats 4000000 in
set_option maxRecDepth 100000 in
theorem c_X7_noPerson (l : Launch) (dC : Nat → ClassId) (dI : Nat → Nat → Nat) (cI cZ cP cS : ClassId) (x0 : Int32) (n : Nat) (r : Int32) (hf : f_X7_noPerson n x0 = some r) : Met l yX7_noPerson wsX7_noPerson rm_X7_noPerson (RO (dC, dI) (TY cI cZ cP cS) [.int x0] ([] : va_W)) (vp_Si (fun x => x = r ∧ narrow .boolean (.int x) = .int x)) 0 0 NF := by
  refine Met.ofW (cc := cX7_noPerson) (maxL := 1) (ret := (some .boolean)) (by decide) rfl ?_
  intro p e s m args below meth c s₁ B hml hv
  obtain ⟨rfl, hP, hK⟩ := hv
  have hx := B.exec
  have hb := B.bytes
  have hr := B.returns
  have hts := atoms_spec (ws := wsX7_noPerson) B.pre
  have hown : s.vm.findClass RX7 = some m.cls := findClass_of_methodNamed B.named
  have hlocks := B.notSynchronized
  have hl := lv_entry ([.int x0]) (n := 1) (Nat.le_of_ble_eq_true rfl)
  rw [lg_entry_eq]
  generalize (lg_sl ([.int x0]) ++ List.replicate (1 - (lg_sl ([.int x0])).length) Slot.unset).toArray = ls at hl ⊢
  have hl : lv_has ls 1 [(0, .int x0)] := hl
  unfold f_X7_noPerson at hf
  refine lv_iload_n hx hb dX7_noPerson_0 rfl (lv_at hl 0 rfl) ?_
  refine lv_iconst (v := 0) hx hb dX7_noPerson_1 (by decide) ?_
  refine lv_iconst (v := 5) hx hb dX7_noPerson_2 (by decide) ?_
  obtain ⟨r3_1, hc_2, hf⟩ := bd1_e hf
  refine vp_callSi (va_runS (As := [.int x0, .int 0, .int 5]) (rest := []) ⟨hx, hb, hml, hown, hts⟩ (c_X7_outside l dC dI cI cZ cP cS   x0 0 5 n r3_1 hc_2) (va_cwS 3 hts gX7_noPerson_X7_outside rfl rfl rfl (by decide +kernel) ⟨Nat.le_of_ble_eq_true rfl, Nat.le_of_ble_eq_true rfl⟩) (ps_ro hK (hP.sub (ws' := ([] : va_W)) [] rfl)) rfl rfl hl.1 rfl (lv_room (Nat.le_of_ble_eq_true rfl)) dX7_noPerson_3 ⟨Nat.zero_le _, Nat.zero_le _⟩).run (fun x e_3 => ?_)
  obtain ⟨e_3, hb_4⟩ := e_3
  rw [e_3] at hb_4 ⊢
  exact W.zret hx hb hr hb_4 (fun t ht hW => ⟨_, rfl, ⟨Option.some.inj hf, hb_4⟩, ht⟩) (fun _ h => nomatch h) dX7_noPerson_6

abbrev rm_X7_lowestTerms : Room := { frames := 0, cells := 0, slots := 0, locals := 0 }
def L_X7_lowestTerms_26 (kx26 : Int64 → Int64 → Option (Int64)) : Nat → Int64 → Int64 → Int32 → Option (Int64)
  | 0, _, _, _ => none
  | k26 + 1, y26_5, y26_7, y26_9 => if (56 : Int32) ≤ y26_9 then kx26 y26_5 y26_7 else if (lg_cmp (y26_5 &&& 1) 0) = 0 then L_X7_lowestTerms_26 kx26 k26 (y26_5 >>> ((1 : Int32).toInt64 &&& 63)) (y26_7 >>> ((1 : Int32).toInt64 &&& 63)) (y26_9 + 1) else kx26 y26_5 y26_7
theorem L_X7_lowestTerms_26_s (kx26 : Int64 → Int64 → Option (Int64)) (k26 : Nat) (y26_5 : Int64) (y26_7 : Int64) (y26_9 : Int32) : L_X7_lowestTerms_26 kx26 (k26 + 1) y26_5 y26_7 y26_9 = if (56 : Int32) ≤ y26_9 then kx26 y26_5 y26_7 else if (lg_cmp (y26_5 &&& 1) 0) = 0 then L_X7_lowestTerms_26 kx26 k26 (y26_5 >>> ((1 : Int32).toInt64 &&& 63)) (y26_7 >>> ((1 : Int32).toInt64 &&& 63)) (y26_9 + 1) else kx26 y26_5 y26_7 := rfl
def f_X7_lowestTerms (n : Nat) (x0 : Int64) (x2 : Int64) (x4 : Int32) : Option (Int64) := if (lg_cmp x0 0) = 0 then if x4 = 0 then some 0 else some 1 else jn2_ (fun (z26_5 : Int64) (z26_7 : Int64) => if x4 = 0 then some z26_5 else some z26_7) (fun kx26 => L_X7_lowestTerms_26 kx26 n x0 x2 0)
set_option maxHeartbeats 4000000 in
set_option maxRecDepth 100000 in
theorem c_X7_lowestTerms (l : Launch) (dC : Nat → ClassId) (dI : Nat → Nat → Nat) (cI cZ cP cS : ClassId) (x0 : Int64) (x2 : Int64) (x4 : Int32) (n : Nat) (r : Int64) (hf : f_X7_lowestTerms n x0 x2 x4 = some r) : Met l yX7_lowestTerms wsX7_lowestTerms rm_X7_lowestTerms (RO (dC, dI) (TY cI cZ cP cS) [.long x0, .long x2, .int x4] ([] : va_W)) (vp_Sl (fun x => x = r)) 0 0 NF := by
  refine Met.ofW (cc := cX7_lowestTerms) (maxL := 10) (ret := (some .long)) (by decide) rfl ?_
  intro p e s m args below meth c s₁ B hml hv
  obtain ⟨rfl, hP, hK⟩ := hv
  have hx := B.exec
  have hb := B.bytes
  have hr := B.returns
  have hts := atoms_spec (ws := wsX7_lowestTerms) B.pre
  have hown : s.vm.findClass RX7 = some m.cls := findClass_of_methodNamed B.named
  have hlocks := B.notSynchronized
  have hl := lv_entry ([.long x0, .long x2, .int x4]) (n := 10) (Nat.le_of_ble_eq_true rfl)
  rw [lg_entry_eq]
  generalize (lg_sl ([.long x0, .long x2, .int x4]) ++ List.replicate (10 - (lg_sl ([.long x0, .long x2, .int x4])).length) Slot.unset).toArray = ls at hl ⊢
  have hl : lv_has ls 10 [(0, .long x0), (2, .long x2), (4, .int x4)] := hl
  unfold f_X7_lowestTerms at hf
  refine lv_lload_n hx hb dX7_lowestTerms_0 rfl (lv_at hl 0 rfl) ?_
  refine lv_lconst (v := 0) hx hb dX7_lowestTerms_1 (by decide) ?_
  refine W.lcmp hx hb dX7_lowestTerms_2 ?_
  refine lv_if_ne (tgt := 17) hx hb dX7_lowestTerms_3 (by decide) (fun c3 => ?_) (fun c3 => ?_)
  · rw [if_neg c3] at hf
    refine lv_lload_n hx hb dX7_lowestTerms_17 rfl (lv_at hl 0 rfl) ?_
    refine lv_lstore (lv' := [(5, .long x0), (0, .long x0), (2, .long x2), (4, .int x4)]) hx hb dX7_lowestTerms_18 hl (by decide) rfl (fun ls hl => ?_)
    refine lv_lload_n hx hb dX7_lowestTerms_20 rfl (lv_at hl 2 rfl) ?_
    refine lv_lstore (lv' := [(7, .long x2), (5, .long x0), (0, .long x0), (2, .long x2), (4, .int x4)]) hx hb dX7_lowestTerms_21 hl (by decide) rfl (fun ls hl => ?_)
    refine lv_iconst (v := 0) hx hb dX7_lowestTerms_23 (by decide) ?_
    refine lv_istore (lv' := [(9, .int 0), (7, .long x2), (5, .long x0), (0, .long x0), (2, .long x2), (4, .int x4)]) hx hb dX7_lowestTerms_24 hl (by decide) rfl (fun ls hl => ?_)
    obtain ⟨kx26, ekx26, hf⟩ := jn2_e hf
    have hx26 : ∀ (z26_5 : Int64) (z26_7 : Int64) (ls : Array Slot), lv_has ls 10 [(4, .int x4), (5, .long z26_5), (7, .long z26_7)] → kx26 z26_5 z26_7 = some r → W p l e (headSpec wsX7_lowestTerms rm_X7_lowestTerms).room s m ([.long x0, .long x2, .int x4] : List Value).toArray below meth c s.heap [] 0 0 (MQ below (vp_Sl (fun x => x = r)) ([.long x0, .long x2, .int x4] : List Value).toArray s 0 0 NF) (F0 m 60 ls []) := by
      intro z26_5 z26_7 ls hl hf
      rw [ekx26] at hf
      refine lv_iload hx hb dX7_lowestTerms_60 (lv_at hl 0 rfl) ?_
      refine lv_if_ne (tgt := 70) hx hb dX7_lowestTerms_62 (by decide) (fun c62 => ?_) (fun c62 => ?_)
      · rw [if_neg c62] at hf
        refine lv_lload hx hb dX7_lowestTerms_70 (lv_at hl 2 rfl) ?_
        exact W.lret hx hb hr (fun t ht hW => ⟨_, rfl, Option.some.inj hf, ht⟩) (fun _ h => nomatch h) dX7_lowestTerms_72
      · rw [if_pos c62] at hf
        refine lv_lload hx hb dX7_lowestTerms_65 (lv_at hl 1 rfl) ?_
        refine lv_goto (tgt := 72) hx hb dX7_lowestTerms_67 (by decide) ?_
        exact W.lret hx hb hr (fun t ht hW => ⟨_, rfl, Option.some.inj hf, ht⟩) (fun _ h => nomatch h) dX7_lowestTerms_72
    have hL26 : ∀ (k26 : Nat) (y26_5 : Int64) (y26_7 : Int64) (y26_9 : Int32) (ls : Array Slot), lv_has ls 10 [(4, .int x4), (5, .long y26_5), (7, .long y26_7), (9, .int y26_9)] → L_X7_lowestTerms_26 kx26 k26 y26_5 y26_7 y26_9 = some r → W p l e (headSpec wsX7_lowestTerms rm_X7_lowestTerms).room s m ([.long x0, .long x2, .int x4] : List Value).toArray below meth c s.heap [] 0 0 (MQ below (vp_Sl (fun x => x = r)) ([.long x0, .long x2, .int x4] : List Value).toArray s 0 0 NF) (F0 m 26 ls []) := by
      intro k26
      induction k26 with
      | zero =>
        intro y26_5 y26_7 y26_9 ls hl hf
        exact absurd hf (fun h => Option.some_ne_none _ h.symm)
      | succ k26 ih =>
        intro y26_5 y26_7 y26_9 ls hl hf
        rw [L_X7_lowestTerms_26_s] at hf
        refine lv_iload hx hb dX7_lowestTerms_26 (lv_at hl 3 rfl) ?_
        refine lv_bipush (v := 56) hx hb dX7_lowestTerms_28 (by decide) ?_
        refine lv_icmp_ge (tgt := 60) hx hb dX7_lowestTerms_30 (by decide) (fun c30 => ?_) (fun c30 => ?_)
        · rw [if_pos c30] at hf
          exact hx26 y26_5 y26_7 ls (lv_sub hl [0, 1, 2] rfl) hf
        · rw [if_neg c30] at hf
          refine lv_lload hx hb dX7_lowestTerms_33 (lv_at hl 1 rfl) ?_
          refine lv_lconst (v := 1) hx hb dX7_lowestTerms_35 (by decide) ?_
          refine lv_land hx hb dX7_lowestTerms_36 ?_
          refine lv_lconst (v := 0) hx hb dX7_lowestTerms_37 (by decide) ?_
          refine W.lcmp hx hb dX7_lowestTerms_38 ?_
          refine lv_if_ne (tgt := 60) hx hb dX7_lowestTerms_39 (by decide) (fun c39 => ?_) (fun c39 => ?_)
          · rw [if_neg c39] at hf
            exact hx26 y26_5 y26_7 ls (lv_sub hl [0, 1, 2] rfl) hf
          · rw [if_pos c39] at hf
            refine lv_lload hx hb dX7_lowestTerms_42 (lv_at hl 1 rfl) ?_
            refine lv_iconst (v := 1) hx hb dX7_lowestTerms_44 (by decide) ?_
            refine lv_lshr (v := (y26_5 >>> ((1 : Int32).toInt64 &&& 63))) hx hb dX7_lowestTerms_45 rfl ?_
            refine lv_lstore (lv' := [(5, .long (y26_5 >>> ((1 : Int32).toInt64 &&& 63))), (4, .int x4), (7, .long y26_7), (9, .int y26_9)]) hx hb dX7_lowestTerms_46 hl (by decide) rfl (fun ls hl => ?_)
            refine lv_lload hx hb dX7_lowestTerms_48 (lv_at hl 2 rfl) ?_
            refine lv_iconst (v := 1) hx hb dX7_lowestTerms_50 (by decide) ?_
            refine lv_lshr (v := (y26_7 >>> ((1 : Int32).toInt64 &&& 63))) hx hb dX7_lowestTerms_51 rfl ?_
            refine lv_lstore (lv' := [(7, .long (y26_7 >>> ((1 : Int32).toInt64 &&& 63))), (5, .long (y26_5 >>> ((1 : Int32).toInt64 &&& 63))), (4, .int x4), (9, .int y26_9)]) hx hb dX7_lowestTerms_52 hl (by decide) rfl (fun ls hl => ?_)
            refine lv_iinc (v := (y26_9 + 1)) (lv' := [(9, .int (y26_9 + 1)), (7, .long (y26_7 >>> ((1 : Int32).toInt64 &&& 63))), (5, .long (y26_5 >>> ((1 : Int32).toInt64 &&& 63))), (4, .int x4)]) hx hb dX7_lowestTerms_54 hl (k := 3) rfl rfl (by decide) rfl (fun ls hl => ?_)
            refine lv_goto (tgt := 26) hx hb dX7_lowestTerms_57 (by decide) ?_
            exact ih (y26_5 >>> ((1 : Int32).toInt64 &&& 63)) (y26_7 >>> ((1 : Int32).toInt64 &&& 63)) (y26_9 + 1) ls (lv_sub hl [3, 2, 1, 0] rfl) hf
    exact hL26 n x0 x2 0 ls (lv_sub hl [5, 2, 1, 0] rfl) hf
  · rw [if_pos c3] at hf
    refine lv_iload hx hb dX7_lowestTerms_6 (lv_at hl 2 rfl) ?_
    refine lv_if_ne (tgt := 15) hx hb dX7_lowestTerms_8 (by decide) (fun c8 => ?_) (fun c8 => ?_)
    · rw [if_neg c8] at hf
      refine lv_lconst (v := 1) hx hb dX7_lowestTerms_15 (by decide) ?_
      exact W.lret hx hb hr (fun t ht hW => ⟨_, rfl, Option.some.inj hf, ht⟩) (fun _ h => nomatch h) dX7_lowestTerms_16
    · rw [if_pos c8] at hf
      refine lv_lconst (v := 0) hx hb dX7_lowestTerms_11 (by decide) ?_
      refine lv_goto (tgt := 16) hx hb dX7_lowestTerms_12 (by decide) ?_
      exact W.lret hx hb hr (fun t ht hW => ⟨_, rfl, Option.some.inj hf, ht⟩) (fun _ h => nomatch h) dX7_lowestTerms_16

abbrev rm_X7_noHour : Room := { frames := 1, cells := 0, slots := 0, locals := 22 }
def f_X7_noHour (n : Nat) (x0 : Int32) : Option (Int32) := bd1_ (f_X7_outside n x0 0 1000000000) (fun (r5_1 : Int32) => some r5_1)
set_option maxHeartbeats 4000000 in
set_option maxRecDepth 100000 in
theorem c_X7_noHour (l : Launch) (dC : Nat → ClassId) (dI : Nat → Nat → Nat) (cI cZ cP cS : ClassId) (x0 : Int32) (n : Nat) (r : Int32) (hf : f_X7_noHour n x0 = some r) : Met l yX7_noHour wsX7_noHour rm_X7_noHour (RO (dC, dI) (TY cI cZ cP cS) [.int x0] ([] : va_W)) (vp_Si (fun x => x = r ∧ narrow .boolean (.int x) = .int x)) 0 0 NF := by
  refine Met.ofW (cc := cX7_noHour) (maxL := 1) (ret := (some .boolean)) (by decide) rfl ?_
  intro p e s m args below meth c s₁ B hml hv
  obtain ⟨rfl, hP, hK⟩ := hv
  have hx := B.exec
  have hb := B.bytes
  have hr := B.returns
  have hts := atoms_spec (ws := wsX7_noHour) B.pre
  have hown : s.vm.findClass RX7 = some m.cls := findClass_of_methodNamed B.named
  have hlocks := B.notSynchronized
  have hl := lv_entry ([.int x0]) (n := 1) (Nat.le_of_ble_eq_true rfl)
  rw [lg_entry_eq]
  generalize (lg_sl ([.int x0]) ++ List.replicate (1 - (lg_sl ([.int x0])).length) Slot.unset).toArray = ls at hl ⊢
  have hl : lv_has ls 1 [(0, .int x0)] := hl
  unfold f_X7_noHour at hf
  refine lv_iload_n hx hb dX7_noHour_0 rfl (lv_at hl 0 rfl) ?_
  refine lv_iconst (v := 0) hx hb dX7_noHour_1 (by decide) ?_
  refine lv_ldcw (v := 1000000000) hx hb hown (hts (.constant RX7 362 (1000000000)) (by decide +kernel)) dX7_noHour_2 ?_
  obtain ⟨r5_1, hc_2, hf⟩ := bd1_e hf
  refine vp_callSi (va_runS (As := [.int x0, .int 0, .int 1000000000]) (rest := []) ⟨hx, hb, hml, hown, hts⟩ (c_X7_outside l dC dI cI cZ cP cS   x0 0 1000000000 n r5_1 hc_2) (va_cwS 3 hts gX7_noHour_X7_outside rfl rfl rfl (by decide +kernel) ⟨Nat.le_of_ble_eq_true rfl, Nat.le_of_ble_eq_true rfl⟩) (ps_ro hK (hP.sub (ws' := ([] : va_W)) [] rfl)) rfl rfl hl.1 rfl (lv_room (Nat.le_of_ble_eq_true rfl)) dX7_noHour_5 ⟨Nat.zero_le _, Nat.zero_le _⟩).run (fun x e_3 => ?_)
  obtain ⟨e_3, hb_4⟩ := e_3
  rw [e_3] at hb_4 ⊢
  exact W.zret hx hb hr hb_4 (fun t ht hW => ⟨_, rfl, ⟨Option.some.inj hf, hb_4⟩, ht⟩) (fun _ h => nomatch h) dX7_noHour_8

abbrev rm_X7_mixed : Room := { frames := 0, cells := 0, slots := 0, locals := 0 }
def f_X7_mixed (n : Nat) (x0 : Int64) (x2 : Int64) : Option (Int64) := some ((31 * x0) + x2)
set_option maxHeartbeats 4000000 in
set_option maxRecDepth 100000 in
theorem c_X7_mixed (l : Launch) (dC : Nat → ClassId) (dI : Nat → Nat → Nat) (cI cZ cP cS : ClassId) (x0 : Int64) (x2 : Int64) (n : Nat) (r : Int64) (hf : f_X7_mixed n x0 x2 = some r) : Met l yX7_mixed wsX7_mixed rm_X7_mixed (RO (dC, dI) (TY cI cZ cP cS) [.long x0, .long x2] ([] : va_W)) (vp_Sl (fun x => x = r)) 0 0 NF := by
  refine Met.ofW (cc := cX7_mixed) (maxL := 4) (ret := (some .long)) (by decide) rfl ?_
  intro p e s m args below meth c s₁ B hml hv
  obtain ⟨rfl, hP, hK⟩ := hv
  have hx := B.exec
  have hb := B.bytes
  have hr := B.returns
  have hts := atoms_spec (ws := wsX7_mixed) B.pre
  have hown : s.vm.findClass RX7 = some m.cls := findClass_of_methodNamed B.named
  have hlocks := B.notSynchronized
  have hl := lv_entry ([.long x0, .long x2]) (n := 4) (Nat.le_of_ble_eq_true rfl)
  rw [lg_entry_eq]
  generalize (lg_sl ([.long x0, .long x2]) ++ List.replicate (4 - (lg_sl ([.long x0, .long x2])).length) Slot.unset).toArray = ls at hl ⊢
  have hl : lv_has ls 4 [(0, .long x0), (2, .long x2)] := hl
  unfold f_X7_mixed at hf
  refine lv_ldc2 (v := 31) hx hb hown (hts (.constantLong RX7 360 (31)) (by decide +kernel)) dX7_mixed_0 ?_
  refine lv_lload_n hx hb dX7_mixed_3 rfl (lv_at hl 0 rfl) ?_
  refine lv_lmul hx hb dX7_mixed_4 ?_
  refine lv_lload_n hx hb dX7_mixed_5 rfl (lv_at hl 1 rfl) ?_
  refine lv_ladd hx hb dX7_mixed_6 ?_
  exact W.lret hx hb hr (fun t ht hW => ⟨_, rfl, Option.some.inj hf, ht⟩) (fun _ h => nomatch h) dX7_mixed_7

abbrev rm_X7_noLight : Room := { frames := 1, cells := 0, slots := 0, locals := 22 }
def f_X7_noLight (n : Nat) (x0 : Int32) : Option (Int32) := bd1_ (f_X7_outside n x0 0 3) (fun (r3_1 : Int32) => some r3_1)
set_option maxHeartbeats 4000000 in
set_option maxRecDepth 100000 in
theorem c_X7_noLight (l : Launch) (dC : Nat → ClassId) (dI : Nat → Nat → Nat) (cI cZ cP cS : ClassId) (x0 : Int32) (n : Nat) (r : Int32) (hf : f_X7_noLight n x0 = some r) : Met l yX7_noLight wsX7_noLight rm_X7_noLight (RO (dC, dI) (TY cI cZ cP cS) [.int x0] ([] : va_W)) (vp_Si (fun x => x = r ∧ narrow .boolean (.int x) = .int x)) 0 0 NF := by
  refine Met.ofW (cc := cX7_noLight) (maxL := 1) (ret := (some .boolean)) (by decide) rfl ?_
  intro p e s m args below meth c s₁ B hml hv
  obtain ⟨rfl, hP, hK⟩ := hv
  have hx := B.exec
  have hb := B.bytes
  have hr := B.returns
  have hts := atoms_spec (ws := wsX7_noLight) B.pre
  have hown : s.vm.findClass RX7 = some m.cls := findClass_of_methodNamed B.named
  have hlocks := B.notSynchronized
  have hl := lv_entry ([.int x0]) (n := 1) (Nat.le_of_ble_eq_true rfl)
  rw [lg_entry_eq]
  generalize (lg_sl ([.int x0]) ++ List.replicate (1 - (lg_sl ([.int x0])).length) Slot.unset).toArray = ls at hl ⊢
  have hl : lv_has ls 1 [(0, .int x0)] := hl
  unfold f_X7_noLight at hf
  refine lv_iload_n hx hb dX7_noLight_0 rfl (lv_at hl 0 rfl) ?_
  refine lv_iconst (v := 0) hx hb dX7_noLight_1 (by decide) ?_
  refine lv_iconst (v := 3) hx hb dX7_noLight_2 (by decide) ?_
  obtain ⟨r3_1, hc_2, hf⟩ := bd1_e hf
  refine vp_callSi (va_runS (As := [.int x0, .int 0, .int 3]) (rest := []) ⟨hx, hb, hml, hown, hts⟩ (c_X7_outside l dC dI cI cZ cP cS   x0 0 3 n r3_1 hc_2) (va_cwS 3 hts gX7_noLight_X7_outside rfl rfl rfl (by decide +kernel) ⟨Nat.le_of_ble_eq_true rfl, Nat.le_of_ble_eq_true rfl⟩) (ps_ro hK (hP.sub (ws' := ([] : va_W)) [] rfl)) rfl rfl hl.1 rfl (lv_room (Nat.le_of_ble_eq_true rfl)) dX7_noLight_3 ⟨Nat.zero_le _, Nat.zero_le _⟩).run (fun x e_3 => ?_)
  obtain ⟨e_3, hb_4⟩ := e_3
  rw [e_3] at hb_4 ⊢
  exact W.zret hx hb hr hb_4 (fun t ht hW => ⟨_, rfl, ⟨Option.some.inj hf, hb_4⟩, ht⟩) (fun _ h => nomatch h) dX7_noLight_6

abbrev rm_X7_noForm : Room := { frames := 1, cells := 0, slots := 0, locals := 22 }
def f_X7_noForm (n : Nat) (x0 : Int32) : Option (Int32) := bd1_ (f_X7_outside n x0 0 2) (fun (r3_1 : Int32) => some r3_1)
set_option maxHeartbeats 4000000 in
set_option maxRecDepth 100000 in
theorem c_X7_noForm (l : Launch) (dC : Nat → ClassId) (dI : Nat → Nat → Nat) (cI cZ cP cS : ClassId) (x0 : Int32) (n : Nat) (r : Int32) (hf : f_X7_noForm n x0 = some r) : Met l yX7_noForm wsX7_noForm rm_X7_noForm (RO (dC, dI) (TY cI cZ cP cS) [.int x0] ([] : va_W)) (vp_Si (fun x => x = r ∧ narrow .boolean (.int x) = .int x)) 0 0 NF := by
  refine Met.ofW (cc := cX7_noForm) (maxL := 1) (ret := (some .boolean)) (by decide) rfl ?_
  intro p e s m args below meth c s₁ B hml hv
  obtain ⟨rfl, hP, hK⟩ := hv
  have hx := B.exec
  have hb := B.bytes
  have hr := B.returns
  have hts := atoms_spec (ws := wsX7_noForm) B.pre
  have hown : s.vm.findClass RX7 = some m.cls := findClass_of_methodNamed B.named
  have hlocks := B.notSynchronized
  have hl := lv_entry ([.int x0]) (n := 1) (Nat.le_of_ble_eq_true rfl)
  rw [lg_entry_eq]
  generalize (lg_sl ([.int x0]) ++ List.replicate (1 - (lg_sl ([.int x0])).length) Slot.unset).toArray = ls at hl ⊢
  have hl : lv_has ls 1 [(0, .int x0)] := hl
  unfold f_X7_noForm at hf
  refine lv_iload_n hx hb dX7_noForm_0 rfl (lv_at hl 0 rfl) ?_
  refine lv_iconst (v := 0) hx hb dX7_noForm_1 (by decide) ?_
  refine lv_iconst (v := 2) hx hb dX7_noForm_2 (by decide) ?_
  obtain ⟨r3_1, hc_2, hf⟩ := bd1_e hf
  refine vp_callSi (va_runS (As := [.int x0, .int 0, .int 2]) (rest := []) ⟨hx, hb, hml, hown, hts⟩ (c_X7_outside l dC dI cI cZ cP cS   x0 0 2 n r3_1 hc_2) (va_cwS 3 hts gX7_noForm_X7_outside rfl rfl rfl (by decide +kernel) ⟨Nat.le_of_ble_eq_true rfl, Nat.le_of_ble_eq_true rfl⟩) (ps_ro hK (hP.sub (ws' := ([] : va_W)) [] rfl)) rfl rfl hl.1 rfl (lv_room (Nat.le_of_ble_eq_true rfl)) dX7_noForm_3 ⟨Nat.zero_le _, Nat.zero_le _⟩).run (fun x e_3 => ?_)
  obtain ⟨e_3, hb_4⟩ := e_3
  rw [e_3] at hb_4 ⊢
  exact W.zret hx hb hr hb_4 (fun t ht hW => ⟨_, rfl, ⟨Option.some.inj hf, hb_4⟩, ht⟩) (fun _ h => nomatch h) dX7_noForm_6

abbrev rm_X7_noGrowth : Room := { frames := 1, cells := 0, slots := 0, locals := 22 }
def f_X7_noGrowth (n : Nat) (x0 : Int32) : Option (Int32) := bd1_ (f_X7_outside n x0 (-9) 9) (fun (r5_1 : Int32) => some r5_1)
set_option maxHeartbeats 4000000 in
set_option maxRecDepth 100000 in
theorem c_X7_noGrowth (l : Launch) (dC : Nat → ClassId) (dI : Nat → Nat → Nat) (cI cZ cP cS : ClassId) (x0 : Int32) (n : Nat) (r : Int32) (hf : f_X7_noGrowth n x0 = some r) : Met l yX7_noGrowth wsX7_noGrowth rm_X7_noGrowth (RO (dC, dI) (TY cI cZ cP cS) [.int x0] ([] : va_W)) (vp_Si (fun x => x = r ∧ narrow .boolean (.int x) = .int x)) 0 0 NF := by
  refine Met.ofW (cc := cX7_noGrowth) (maxL := 1) (ret := (some .boolean)) (by decide) rfl ?_
  intro p e s m args below meth c s₁ B hml hv
  obtain ⟨rfl, hP, hK⟩ := hv
  have hx := B.exec
  have hb := B.bytes
  have hr := B.returns
  have hts := atoms_spec (ws := wsX7_noGrowth) B.pre
  have hown : s.vm.findClass RX7 = some m.cls := findClass_of_methodNamed B.named
  have hlocks := B.notSynchronized
  have hl := lv_entry ([.int x0]) (n := 1) (Nat.le_of_ble_eq_true rfl)
  rw [lg_entry_eq]
  generalize (lg_sl ([.int x0]) ++ List.replicate (1 - (lg_sl ([.int x0])).length) Slot.unset).toArray = ls at hl ⊢
  have hl : lv_has ls 1 [(0, .int x0)] := hl
  unfold f_X7_noGrowth at hf
  refine lv_iload_n hx hb dX7_noGrowth_0 rfl (lv_at hl 0 rfl) ?_
  refine lv_bipush (v := (-9)) hx hb dX7_noGrowth_1 (by decide) ?_
  refine lv_bipush (v := 9) hx hb dX7_noGrowth_3 (by decide) ?_
  obtain ⟨r5_1, hc_2, hf⟩ := bd1_e hf
  refine vp_callSi (va_runS (As := [.int x0, .int (-9), .int 9]) (rest := []) ⟨hx, hb, hml, hown, hts⟩ (c_X7_outside l dC dI cI cZ cP cS   x0 (-9) 9 n r5_1 hc_2) (va_cwS 3 hts gX7_noGrowth_X7_outside rfl rfl rfl (by decide +kernel) ⟨Nat.le_of_ble_eq_true rfl, Nat.le_of_ble_eq_true rfl⟩) (ps_ro hK (hP.sub (ws' := ([] : va_W)) [] rfl)) rfl rfl hl.1 rfl (lv_room (Nat.le_of_ble_eq_true rfl)) dX7_noGrowth_5 ⟨Nat.zero_le _, Nat.zero_le _⟩).run (fun x e_3 => ?_)
  obtain ⟨e_3, hb_4⟩ := e_3
  rw [e_3] at hb_4 ⊢
  exact W.zret hx hb hr hb_4 (fun t ht hW => ⟨_, rfl, ⟨Option.some.inj hf, hb_4⟩, ht⟩) (fun _ h => nomatch h) dX7_noGrowth_8

theorem in4 {x : Int32} (h : ¬ x < 0) (h2 : x ≤ 3) : x = 0 ∨ x = 1 ∨ x = 2 ∨ x = 3 := by
  obtain ⟨j, hj, rfl⟩ := nI_of2 (M := 3) (n := 3) (by decide) h h2
  match j, hj with
  | 0, _ => exact Or.inl rfl
  | 1, _ => exact Or.inr (Or.inl rfl)
  | 2, _ => exact Or.inr (Or.inr (Or.inl rfl))
  | 3, _ => exact Or.inr (Or.inr (Or.inr rfl))
abbrev wd_X7_sunOf (cI cZ cP cS : ClassId) (h_t h_t_red h_t_blue h_t_sky h_t_diary h_t_calendar h_t_awakeIn h_t_worths h_t_plants h_t_sheets h_t_bestFrom : Nat) (v_latestFinding : Int32) : va_W := [(h_t, .inr (6, [.ref h_t_red, .ref h_t_blue, .ref h_t_sky, .ref h_t_diary, .ref h_t_calendar, .ref h_t_awakeIn, .ref h_t_worths, .ref h_t_plants, .ref h_t_sheets, .ref h_t_bestFrom, .int v_latestFinding]))]
abbrev rm_X7_sunOf : Room := { frames := 0, cells := 0, slots := 0, locals := 0 }
set_option maxHeartbeats 4000000 in
set_option maxRecDepth 100000 in
theorem c_X7_sunOf (l : Launch) (dC : Nat → ClassId) (dI : Nat → Nat → Nat) (cI cZ cP cS : ClassId) (h_t h_t_red h_t_blue h_t_sky h_t_diary h_t_calendar h_t_awakeIn h_t_worths h_t_plants h_t_sheets h_t_bestFrom : Nat) (v_latestFinding : Int32) (x1 : Int32) : Met l yX7_sunOf wsX7_sunOf rm_X7_sunOf (RO (dC, dI) (TY cI cZ cP cS) [.ref h_t, .int x1] (wd_X7_sunOf cI cZ cP cS h_t h_t_red h_t_blue h_t_sky h_t_diary h_t_calendar h_t_awakeIn h_t_worths h_t_plants h_t_sheets h_t_bestFrom v_latestFinding)) (va_Sq (fun r => r = if x1 = 0 then some h_t_red else if x1 = 1 then some h_t_blue else none)) 0 0 NF := by
  refine Met.ofW (cc := cX7_sunOf) (maxL := 2) (ret := (some (.object "SecondSunrise$Sun"))) (by decide) rfl ?_
  intro p e s m args below meth c s₁ B hml hv
  obtain ⟨rfl, hP, hK⟩ := hv
  have hx := B.exec
  have hb := B.bytes
  have hr := B.returns
  have hts := atoms_spec (ws := wsX7_sunOf) B.pre
  have hown : s.vm.findClass RX7 = some m.cls := findClass_of_methodNamed B.named
  have hlocks := B.notSynchronized
  have hinX7 : ∀ w ∈ wsX70, w ∈ wsX7_sunOf := by decide +kernel
  have hl := lv_entry ([.ref h_t, .int x1]) (n := 2) (Nat.le_of_ble_eq_true rfl)
  rw [lg_entry_eq]
  generalize (lg_sl ([.ref h_t, .int x1]) ++ List.replicate (2 - (lg_sl ([.ref h_t, .int x1])).length) Slot.unset).toArray = ls at hl ⊢
  have hl : lv_has ls 2 [(0, .ref h_t), (1, .int x1)] := hl
  refine lv_iload_n hx hb dX7_sunOf_0 rfl (lv_at hl 1 rfl) ?_
  refine lv_if_ne (tgt := 9) hx hb dX7_sunOf_1 (by decide) (fun c1 => ?_) (fun c1 => ?_)
  · refine lv_iload_n hx hb dX7_sunOf_9 rfl (lv_at hl 1 rfl) ?_
    refine lv_iconst (v := 1) hx hb dX7_sunOf_10 (by decide) ?_
    refine lv_icmp_ne (tgt := 21) hx hb dX7_sunOf_11 (by decide) (fun c11 => ?_) (fun c11 => ?_)
    · refine lv_null hx hb dX7_sunOf_21 ?_
      exact W.aret (v := .null) hx hb hr (Or.inl ⟨_, rfl⟩) (Or.inl rfl) (fun t ht hW => ⟨none, rfl, by rw [if_neg c1, if_neg c11], ht⟩) (fun _ h => nomatch h) dX7_sunOf_22
    · refine lv_aload_n hx hb dX7_sunOf_14 rfl (lv_at hl 0 rfl) ?_
      refine va_get (D := (dC, dI)) (ci := 6) (v := .ref h_t_blue) (C := RX7) (T := TX7) (N := 11) hx hb hts hinX7 hown hK hP 0 rfl rfl 1 (by decide) (hts (.fieldLink RX7 18 "SecondSunrise" "blue" "LSecondSunrise$Sun;") (by decide +kernel)) (fun _ h9 => h9) rfl dX7_sunOf_15 ?_
      refine lv_goto (tgt := 22) hx hb dX7_sunOf_18 (by decide) ?_
      exact W.aret (v := .ref h_t_blue) hx hb hr (Or.inl ⟨_, rfl⟩) (Or.inr ⟨_, rfl⟩) (fun t ht hW => ⟨some h_t_blue, rfl, by rw [if_neg c1, if_pos c11], ht⟩) (fun _ h => nomatch h) dX7_sunOf_22
  · refine lv_aload_n hx hb dX7_sunOf_4 rfl (lv_at hl 0 rfl) ?_
    refine va_get (D := (dC, dI)) (ci := 6) (v := .ref h_t_red) (C := RX7) (T := TX7) (N := 11) hx hb hts hinX7 hown hK hP 0 rfl rfl 0 (by decide) (hts (.fieldLink RX7 12 "SecondSunrise" "red" "LSecondSunrise$Sun;") (by decide +kernel)) (fun _ h9 => h9) rfl dX7_sunOf_5 ?_
    exact W.aret (v := .ref h_t_red) hx hb hr (Or.inl ⟨_, rfl⟩) (Or.inr ⟨_, rfl⟩) (fun t ht hW => ⟨some h_t_red, rfl, by rw [if_pos c1], ht⟩) (fun _ h => nomatch h) dX7_sunOf_8
abbrev wd_X7_textOf (cI cZ cP cS : ClassId) (h_t h_t_red h_t_blue h_t_sky h_t_diary h_t_calendar h_t_awakeIn h_t_worths h_t_plants h_t_sheets h_t_bestFrom : Nat) (v_latestFinding : Int32) : va_W := [(h_t, .inr (6, [.ref h_t_red, .ref h_t_blue, .ref h_t_sky, .ref h_t_diary, .ref h_t_calendar, .ref h_t_awakeIn, .ref h_t_worths, .ref h_t_plants, .ref h_t_sheets, .ref h_t_bestFrom, .int v_latestFinding]))]
abbrev rm_X7_textOf : Room := { frames := 0, cells := 0, slots := 0, locals := 0 }
set_option maxHeartbeats 4000000 in
set_option maxRecDepth 100000 in
theorem c_X7_textOf (l : Launch) (dC : Nat → ClassId) (dI : Nat → Nat → Nat) (cI cZ cP cS : ClassId) (h_t h_t_red h_t_blue h_t_sky h_t_diary h_t_calendar h_t_awakeIn h_t_worths h_t_plants h_t_sheets h_t_bestFrom : Nat) (v_latestFinding : Int32) (x1 : Int32) : Met l yX7_textOf wsX7_textOf rm_X7_textOf (RO (dC, dI) (TY cI cZ cP cS) [.ref h_t, .int x1] (wd_X7_textOf cI cZ cP cS h_t h_t_red h_t_blue h_t_sky h_t_diary h_t_calendar h_t_awakeIn h_t_worths h_t_plants h_t_sheets h_t_bestFrom v_latestFinding)) (va_Sq (fun r => r = if x1 = 0 then some h_t_diary else if x1 = 1 then some h_t_calendar else none)) 0 0 NF := by
  refine Met.ofW (cc := cX7_textOf) (maxL := 2) (ret := (some (.object "SecondSunrise$Text"))) (by decide) rfl ?_
  intro p e s m args below meth c s₁ B hml hv
  obtain ⟨rfl, hP, hK⟩ := hv
  have hx := B.exec
  have hb := B.bytes
  have hr := B.returns
  have hts := atoms_spec (ws := wsX7_textOf) B.pre
  have hown : s.vm.findClass RX7 = some m.cls := findClass_of_methodNamed B.named
  have hlocks := B.notSynchronized
  have hinX7 : ∀ w ∈ wsX70, w ∈ wsX7_textOf := by decide +kernel
  have hl := lv_entry ([.ref h_t, .int x1]) (n := 2) (Nat.le_of_ble_eq_true rfl)
  rw [lg_entry_eq]
  generalize (lg_sl ([.ref h_t, .int x1]) ++ List.replicate (2 - (lg_sl ([.ref h_t, .int x1])).length) Slot.unset).toArray = ls at hl ⊢
  have hl : lv_has ls 2 [(0, .ref h_t), (1, .int x1)] := hl
  refine lv_iload_n hx hb dX7_textOf_0 rfl (lv_at hl 1 rfl) ?_
  refine lv_if_ne (tgt := 9) hx hb dX7_textOf_1 (by decide) (fun c1 => ?_) (fun c1 => ?_)
  · refine lv_iload_n hx hb dX7_textOf_9 rfl (lv_at hl 1 rfl) ?_
    refine lv_iconst (v := 1) hx hb dX7_textOf_10 (by decide) ?_
    refine lv_icmp_ne (tgt := 21) hx hb dX7_textOf_11 (by decide) (fun c11 => ?_) (fun c11 => ?_)
    · refine lv_null hx hb dX7_textOf_21 ?_
      exact W.aret (v := .null) hx hb hr (Or.inl ⟨_, rfl⟩) (Or.inl rfl) (fun t ht hW => ⟨none, rfl, by rw [if_neg c1, if_neg c11], ht⟩) (fun _ h => nomatch h) dX7_textOf_22
    · refine lv_aload_n hx hb dX7_textOf_14 rfl (lv_at hl 0 rfl) ?_
      refine va_get (D := (dC, dI)) (ci := 6) (v := .ref h_t_calendar) (C := RX7) (T := TX7) (N := 11) hx hb hts hinX7 hown hK hP 0 rfl rfl 4 (by decide) (hts (.fieldLink RX7 40 "SecondSunrise" "calendar" "LSecondSunrise$Calendar;") (by decide +kernel)) (fun _ h9 => h9) rfl dX7_textOf_15 ?_
      refine lv_goto (tgt := 22) hx hb dX7_textOf_18 (by decide) ?_
      exact W.aret (v := .ref h_t_calendar) hx hb hr (Or.inl ⟨_, rfl⟩) (Or.inr ⟨_, rfl⟩) (fun t ht hW => ⟨some h_t_calendar, rfl, by rw [if_neg c1, if_pos c11], ht⟩) (fun _ h => nomatch h) dX7_textOf_22
  · refine lv_aload_n hx hb dX7_textOf_4 rfl (lv_at hl 0 rfl) ?_
    refine va_get (D := (dC, dI)) (ci := 6) (v := .ref h_t_diary) (C := RX7) (T := TX7) (N := 11) hx hb hts hinX7 hown hK hP 0 rfl rfl 3 (by decide) (hts (.fieldLink RX7 33 "SecondSunrise" "diary" "LSecondSunrise$Diary;") (by decide +kernel)) (fun _ h9 => h9) rfl dX7_textOf_5 ?_
    exact W.aret (v := .ref h_t_diary) hx hb hr (Or.inl ⟨_, rfl⟩) (Or.inr ⟨_, rfl⟩) (fun t ht hW => ⟨some h_t_diary, rfl, by rw [if_pos c1], ht⟩) (fun _ h => nomatch h) dX7_textOf_8
abbrev wd_X7_plantOf (cI cZ cP cS : ClassId) (h_t h_t_red h_t_blue h_t_sky h_t_diary h_t_calendar h_t_awakeIn h_t_worths h_t_plants h_t_sheets h_t_bestFrom h_t_p0 h_t_p1 h_t_p2 h_t_p3 : Nat) (v_latestFinding : Int32) : va_W := [(h_t, .inr (6, [.ref h_t_red, .ref h_t_blue, .ref h_t_sky, .ref h_t_diary, .ref h_t_calendar, .ref h_t_awakeIn, .ref h_t_worths, .ref h_t_plants, .ref h_t_sheets, .ref h_t_bestFrom, .int v_latestFinding])), (h_t_plants, .inl (cP, 4, .inr (.inr (.inr (.inr (ar4 h_t_p0 h_t_p1 h_t_p2 h_t_p3))))))]
abbrev rm_X7_plantOf : Room := { frames := 1, cells := 0, slots := 0, locals := 22 }
set_option maxHeartbeats 4000000 in
set_option maxRecDepth 100000 in
theorem c_X7_plantOf (l : Launch) (dC : Nat → ClassId) (dI : Nat → Nat → Nat) (cI cZ cP cS : ClassId) (h_t h_t_red h_t_blue h_t_sky h_t_diary h_t_calendar h_t_awakeIn h_t_worths h_t_plants h_t_sheets h_t_bestFrom h_t_p0 h_t_p1 h_t_p2 h_t_p3 : Nat) (v_latestFinding : Int32) (x1 : Int32) : Met l yX7_plantOf wsX7_plantOf rm_X7_plantOf (RO (dC, dI) (TY cI cZ cP cS) [.ref h_t, .int x1] (wd_X7_plantOf cI cZ cP cS h_t h_t_red h_t_blue h_t_sky h_t_diary h_t_calendar h_t_awakeIn h_t_worths h_t_plants h_t_sheets h_t_bestFrom h_t_p0 h_t_p1 h_t_p2 h_t_p3 v_latestFinding)) (va_Sq (fun r => r = if x1 = 0 then some h_t_p0 else if x1 = 1 then some h_t_p1 else if x1 = 2 then some h_t_p2 else if x1 = 3 then some h_t_p3 else none)) 0 0 NF := by
  refine Met.ofW (cc := cX7_plantOf) (maxL := 2) (ret := (some (.object "SecondSunrise$Plant"))) (by decide) rfl ?_
  intro p e s m args below meth c s₁ B hml hv
  obtain ⟨rfl, hP, hK⟩ := hv
  have hx := B.exec
  have hb := B.bytes
  have hr := B.returns
  have hts := atoms_spec (ws := wsX7_plantOf) B.pre
  have hown : s.vm.findClass RX7 = some m.cls := findClass_of_methodNamed B.named
  have hlocks := B.notSynchronized
  have hinX7 : ∀ w ∈ wsX70, w ∈ wsX7_plantOf := by decide +kernel
  have hl := lv_entry ([.ref h_t, .int x1]) (n := 2) (Nat.le_of_ble_eq_true rfl)
  rw [lg_entry_eq]
  generalize (lg_sl ([.ref h_t, .int x1]) ++ List.replicate (2 - (lg_sl ([.ref h_t, .int x1])).length) Slot.unset).toArray = ls at hl ⊢
  have hl : lv_has ls 2 [(0, .ref h_t), (1, .int x1)] := hl
  have hc : f_X7_outside 0 x1 0 3 = some (if x1 < 0 then 1 else if x1 ≤ 3 then 0 else 1) := by
    show (if x1 < 0 then some 1 else if x1 ≤ 3 then some 0 else some 1) = _
    split
    · rfl
    · split <;> rfl
  refine lv_iload_n hx hb dX7_plantOf_0 rfl (lv_at hl 1 rfl) ?_
  refine lv_iconst (v := 0) hx hb dX7_plantOf_1 (by decide) ?_
  refine lv_iconst (v := 3) hx hb dX7_plantOf_2 (by decide) ?_
  refine vp_callSi (va_runS (As := [.int x1, .int 0, .int 3]) (rest := []) ⟨hx, hb, hml, hown, hts⟩ (c_X7_outside l dC dI cI cZ cP cS x1 0 3 0 _ hc) (va_cwS 3 hts gX7_plantOf_X7_outside rfl rfl rfl (by decide +kernel) ⟨Nat.le_of_ble_eq_true rfl, Nat.le_of_ble_eq_true rfl⟩) (ps_ro hK (hP.sub (ws' := ([] : va_W)) [] rfl)) rfl rfl hl.1 rfl (lv_room (Nat.le_of_ble_eq_true rfl)) dX7_plantOf_3 ⟨Nat.zero_le _, Nat.zero_le _⟩).run (fun x ex => ?_)
  obtain ⟨ex, -⟩ := ex
  rw [ex]
  refine lv_if_eq (tgt := 13) hx hb dX7_plantOf_6 (by decide) (fun c6 => ?_) (fun c6 => ?_)
  · by_cases q1 : x1 < 0
    · rw [if_pos q1] at c6; exact absurd c6 (by decide)
    · rw [if_neg q1] at c6
      by_cases q2 : x1 ≤ 3
      · rcases in4 q1 q2 with rfl | rfl | rfl | rfl
        · refine lv_aload_n hx hb dX7_plantOf_13 rfl (lv_at hl 0 rfl) ?_
          refine va_get (D := (dC, dI)) (ci := 6) (v := .ref h_t_plants) (C := RX7) (T := TX7) (N := 11) hx hb hts hinX7 hown hK hP 0 rfl rfl 7 (by decide) (hts (.fieldLink RX7 53 "SecondSunrise" "plants" "[LSecondSunrise$Plant;") (by decide +kernel)) (fun _ h9 => h9) rfl dX7_plantOf_14 ?_
          refine lv_iload_n hx hb dX7_plantOf_17 rfl (lv_at hl 1 rfl) ?_
          refine va_aldq hx hb hK hP 1 2 rfl rfl (show vp_in 0 4 by unfold vp_in; decide) dX7_plantOf_18 ?_
          exact W.aret (v := .ref h_t_p0) hx hb hr (Or.inl ⟨_, rfl⟩) (Or.inr ⟨_, rfl⟩) (fun t ht hW => ⟨some h_t_p0, rfl, rfl, ht⟩) (fun _ h => nomatch h) dX7_plantOf_19
        · refine lv_aload_n hx hb dX7_plantOf_13 rfl (lv_at hl 0 rfl) ?_
          refine va_get (D := (dC, dI)) (ci := 6) (v := .ref h_t_plants) (C := RX7) (T := TX7) (N := 11) hx hb hts hinX7 hown hK hP 0 rfl rfl 7 (by decide) (hts (.fieldLink RX7 53 "SecondSunrise" "plants" "[LSecondSunrise$Plant;") (by decide +kernel)) (fun _ h9 => h9) rfl dX7_plantOf_14 ?_
          refine lv_iload_n hx hb dX7_plantOf_17 rfl (lv_at hl 1 rfl) ?_
          refine va_aldq hx hb hK hP 1 2 rfl rfl (show vp_in 1 4 by unfold vp_in; decide) dX7_plantOf_18 ?_
          exact W.aret (v := .ref h_t_p1) hx hb hr (Or.inl ⟨_, rfl⟩) (Or.inr ⟨_, rfl⟩) (fun t ht hW => ⟨some h_t_p1, rfl, rfl, ht⟩) (fun _ h => nomatch h) dX7_plantOf_19
        · refine lv_aload_n hx hb dX7_plantOf_13 rfl (lv_at hl 0 rfl) ?_
          refine va_get (D := (dC, dI)) (ci := 6) (v := .ref h_t_plants) (C := RX7) (T := TX7) (N := 11) hx hb hts hinX7 hown hK hP 0 rfl rfl 7 (by decide) (hts (.fieldLink RX7 53 "SecondSunrise" "plants" "[LSecondSunrise$Plant;") (by decide +kernel)) (fun _ h9 => h9) rfl dX7_plantOf_14 ?_
          refine lv_iload_n hx hb dX7_plantOf_17 rfl (lv_at hl 1 rfl) ?_
          refine va_aldq hx hb hK hP 1 2 rfl rfl (show vp_in 2 4 by unfold vp_in; decide) dX7_plantOf_18 ?_
          exact W.aret (v := .ref h_t_p2) hx hb hr (Or.inl ⟨_, rfl⟩) (Or.inr ⟨_, rfl⟩) (fun t ht hW => ⟨some h_t_p2, rfl, rfl, ht⟩) (fun _ h => nomatch h) dX7_plantOf_19
        · refine lv_aload_n hx hb dX7_plantOf_13 rfl (lv_at hl 0 rfl) ?_
          refine va_get (D := (dC, dI)) (ci := 6) (v := .ref h_t_plants) (C := RX7) (T := TX7) (N := 11) hx hb hts hinX7 hown hK hP 0 rfl rfl 7 (by decide) (hts (.fieldLink RX7 53 "SecondSunrise" "plants" "[LSecondSunrise$Plant;") (by decide +kernel)) (fun _ h9 => h9) rfl dX7_plantOf_14 ?_
          refine lv_iload_n hx hb dX7_plantOf_17 rfl (lv_at hl 1 rfl) ?_
          refine va_aldq hx hb hK hP 1 2 rfl rfl (show vp_in 3 4 by unfold vp_in; decide) dX7_plantOf_18 ?_
          exact W.aret (v := .ref h_t_p3) hx hb hr (Or.inl ⟨_, rfl⟩) (Or.inr ⟨_, rfl⟩) (fun t ht hW => ⟨some h_t_p3, rfl, rfl, ht⟩) (fun _ h => nomatch h) dX7_plantOf_19
      · rw [if_neg q2] at c6; exact absurd c6 (by decide)
  · refine lv_null hx hb dX7_plantOf_9 ?_
    refine lv_goto (tgt := 19) hx hb dX7_plantOf_10 (by decide) ?_
    have h0 : ∀ k : Int32, 0 ≤ k → k ≤ 3 → ¬ x1 = k := by
      intro k k0 k3 ek
      subst ek
      rw [if_neg (by rw [Int32.not_lt]; exact k0), if_pos k3] at c6
      exact c6 rfl
    exact W.aret (v := .null) hx hb hr (Or.inl ⟨_, rfl⟩) (Or.inl rfl) (fun t ht hW => ⟨none, rfl, by rw [if_neg (h0 0 (by decide) (by decide)), if_neg (h0 1 (by decide) (by decide)), if_neg (h0 2 (by decide) (by decide)), if_neg (h0 3 (by decide) (by decide))], ht⟩) (fun _ h => nomatch h) dX7_plantOf_19
abbrev wd_X7_sheetOf (cI cZ cP cS : ClassId) (h_t h_t_red h_t_blue h_t_sky h_t_diary h_t_calendar h_t_awakeIn h_t_worths h_t_plants h_t_sheets h_t_bestFrom h_t_s0 h_t_s1 h_t_s2 h_t_s3 : Nat) (v_latestFinding : Int32) : va_W := [(h_t, .inr (6, [.ref h_t_red, .ref h_t_blue, .ref h_t_sky, .ref h_t_diary, .ref h_t_calendar, .ref h_t_awakeIn, .ref h_t_worths, .ref h_t_plants, .ref h_t_sheets, .ref h_t_bestFrom, .int v_latestFinding])), (h_t_sheets, .inl (cS, 4, .inr (.inr (.inr (.inr (ar4 h_t_s0 h_t_s1 h_t_s2 h_t_s3))))))]
abbrev rm_X7_sheetOf : Room := { frames := 1, cells := 0, slots := 0, locals := 22 }
set_option maxHeartbeats 4000000 in
set_option maxRecDepth 100000 in
theorem c_X7_sheetOf (l : Launch) (dC : Nat → ClassId) (dI : Nat → Nat → Nat) (cI cZ cP cS : ClassId) (h_t h_t_red h_t_blue h_t_sky h_t_diary h_t_calendar h_t_awakeIn h_t_worths h_t_plants h_t_sheets h_t_bestFrom h_t_s0 h_t_s1 h_t_s2 h_t_s3 : Nat) (v_latestFinding : Int32) (x1 : Int32) : Met l yX7_sheetOf wsX7_sheetOf rm_X7_sheetOf (RO (dC, dI) (TY cI cZ cP cS) [.ref h_t, .int x1] (wd_X7_sheetOf cI cZ cP cS h_t h_t_red h_t_blue h_t_sky h_t_diary h_t_calendar h_t_awakeIn h_t_worths h_t_plants h_t_sheets h_t_bestFrom h_t_s0 h_t_s1 h_t_s2 h_t_s3 v_latestFinding)) (va_Sq (fun r => r = if x1 = 0 then some h_t_s0 else if x1 = 1 then some h_t_s1 else if x1 = 2 then some h_t_s2 else if x1 = 3 then some h_t_s3 else none)) 0 0 NF := by
  refine Met.ofW (cc := cX7_sheetOf) (maxL := 2) (ret := (some (.object "SecondSunrise$Sheet"))) (by decide) rfl ?_
  intro p e s m args below meth c s₁ B hml hv
  obtain ⟨rfl, hP, hK⟩ := hv
  have hx := B.exec
  have hb := B.bytes
  have hr := B.returns
  have hts := atoms_spec (ws := wsX7_sheetOf) B.pre
  have hown : s.vm.findClass RX7 = some m.cls := findClass_of_methodNamed B.named
  have hlocks := B.notSynchronized
  have hinX7 : ∀ w ∈ wsX70, w ∈ wsX7_sheetOf := by decide +kernel
  have hl := lv_entry ([.ref h_t, .int x1]) (n := 2) (Nat.le_of_ble_eq_true rfl)
  rw [lg_entry_eq]
  generalize (lg_sl ([.ref h_t, .int x1]) ++ List.replicate (2 - (lg_sl ([.ref h_t, .int x1])).length) Slot.unset).toArray = ls at hl ⊢
  have hl : lv_has ls 2 [(0, .ref h_t), (1, .int x1)] := hl
  have hc : f_X7_outside 0 x1 0 3 = some (if x1 < 0 then 1 else if x1 ≤ 3 then 0 else 1) := by
    show (if x1 < 0 then some 1 else if x1 ≤ 3 then some 0 else some 1) = _
    split
    · rfl
    · split <;> rfl
  refine lv_iload_n hx hb dX7_sheetOf_0 rfl (lv_at hl 1 rfl) ?_
  refine lv_iconst (v := 0) hx hb dX7_sheetOf_1 (by decide) ?_
  refine lv_iconst (v := 3) hx hb dX7_sheetOf_2 (by decide) ?_
  refine vp_callSi (va_runS (As := [.int x1, .int 0, .int 3]) (rest := []) ⟨hx, hb, hml, hown, hts⟩ (c_X7_outside l dC dI cI cZ cP cS x1 0 3 0 _ hc) (va_cwS 3 hts gX7_sheetOf_X7_outside rfl rfl rfl (by decide +kernel) ⟨Nat.le_of_ble_eq_true rfl, Nat.le_of_ble_eq_true rfl⟩) (ps_ro hK (hP.sub (ws' := ([] : va_W)) [] rfl)) rfl rfl hl.1 rfl (lv_room (Nat.le_of_ble_eq_true rfl)) dX7_sheetOf_3 ⟨Nat.zero_le _, Nat.zero_le _⟩).run (fun x ex => ?_)
  obtain ⟨ex, -⟩ := ex
  rw [ex]
  refine lv_if_eq (tgt := 13) hx hb dX7_sheetOf_6 (by decide) (fun c6 => ?_) (fun c6 => ?_)
  · by_cases q1 : x1 < 0
    · rw [if_pos q1] at c6; exact absurd c6 (by decide)
    · rw [if_neg q1] at c6
      by_cases q2 : x1 ≤ 3
      · rcases in4 q1 q2 with rfl | rfl | rfl | rfl
        · refine lv_aload_n hx hb dX7_sheetOf_13 rfl (lv_at hl 0 rfl) ?_
          refine va_get (D := (dC, dI)) (ci := 6) (v := .ref h_t_sheets) (C := RX7) (T := TX7) (N := 11) hx hb hts hinX7 hown hK hP 0 rfl rfl 8 (by decide) (hts (.fieldLink RX7 59 "SecondSunrise" "sheets" "[LSecondSunrise$Sheet;") (by decide +kernel)) (fun _ h9 => h9) rfl dX7_sheetOf_14 ?_
          refine lv_iload_n hx hb dX7_sheetOf_17 rfl (lv_at hl 1 rfl) ?_
          refine va_aldq hx hb hK hP 1 3 rfl rfl (show vp_in 0 4 by unfold vp_in; decide) dX7_sheetOf_18 ?_
          exact W.aret (v := .ref h_t_s0) hx hb hr (Or.inl ⟨_, rfl⟩) (Or.inr ⟨_, rfl⟩) (fun t ht hW => ⟨some h_t_s0, rfl, rfl, ht⟩) (fun _ h => nomatch h) dX7_sheetOf_19
        · refine lv_aload_n hx hb dX7_sheetOf_13 rfl (lv_at hl 0 rfl) ?_
          refine va_get (D := (dC, dI)) (ci := 6) (v := .ref h_t_sheets) (C := RX7) (T := TX7) (N := 11) hx hb hts hinX7 hown hK hP 0 rfl rfl 8 (by decide) (hts (.fieldLink RX7 59 "SecondSunrise" "sheets" "[LSecondSunrise$Sheet;") (by decide +kernel)) (fun _ h9 => h9) rfl dX7_sheetOf_14 ?_
          refine lv_iload_n hx hb dX7_sheetOf_17 rfl (lv_at hl 1 rfl) ?_
          refine va_aldq hx hb hK hP 1 3 rfl rfl (show vp_in 1 4 by unfold vp_in; decide) dX7_sheetOf_18 ?_
          exact W.aret (v := .ref h_t_s1) hx hb hr (Or.inl ⟨_, rfl⟩) (Or.inr ⟨_, rfl⟩) (fun t ht hW => ⟨some h_t_s1, rfl, rfl, ht⟩) (fun _ h => nomatch h) dX7_sheetOf_19
        · refine lv_aload_n hx hb dX7_sheetOf_13 rfl (lv_at hl 0 rfl) ?_
          refine va_get (D := (dC, dI)) (ci := 6) (v := .ref h_t_sheets) (C := RX7) (T := TX7) (N := 11) hx hb hts hinX7 hown hK hP 0 rfl rfl 8 (by decide) (hts (.fieldLink RX7 59 "SecondSunrise" "sheets" "[LSecondSunrise$Sheet;") (by decide +kernel)) (fun _ h9 => h9) rfl dX7_sheetOf_14 ?_
          refine lv_iload_n hx hb dX7_sheetOf_17 rfl (lv_at hl 1 rfl) ?_
          refine va_aldq hx hb hK hP 1 3 rfl rfl (show vp_in 2 4 by unfold vp_in; decide) dX7_sheetOf_18 ?_
          exact W.aret (v := .ref h_t_s2) hx hb hr (Or.inl ⟨_, rfl⟩) (Or.inr ⟨_, rfl⟩) (fun t ht hW => ⟨some h_t_s2, rfl, rfl, ht⟩) (fun _ h => nomatch h) dX7_sheetOf_19
        · refine lv_aload_n hx hb dX7_sheetOf_13 rfl (lv_at hl 0 rfl) ?_
          refine va_get (D := (dC, dI)) (ci := 6) (v := .ref h_t_sheets) (C := RX7) (T := TX7) (N := 11) hx hb hts hinX7 hown hK hP 0 rfl rfl 8 (by decide) (hts (.fieldLink RX7 59 "SecondSunrise" "sheets" "[LSecondSunrise$Sheet;") (by decide +kernel)) (fun _ h9 => h9) rfl dX7_sheetOf_14 ?_
          refine lv_iload_n hx hb dX7_sheetOf_17 rfl (lv_at hl 1 rfl) ?_
          refine va_aldq hx hb hK hP 1 3 rfl rfl (show vp_in 3 4 by unfold vp_in; decide) dX7_sheetOf_18 ?_
          exact W.aret (v := .ref h_t_s3) hx hb hr (Or.inl ⟨_, rfl⟩) (Or.inr ⟨_, rfl⟩) (fun t ht hW => ⟨some h_t_s3, rfl, rfl, ht⟩) (fun _ h => nomatch h) dX7_sheetOf_19
      · rw [if_neg q2] at c6; exact absurd c6 (by decide)
  · refine lv_null hx hb dX7_sheetOf_9 ?_
    refine lv_goto (tgt := 19) hx hb dX7_sheetOf_10 (by decide) ?_
    have h0 : ∀ k : Int32, 0 ≤ k → k ≤ 3 → ¬ x1 = k := by
      intro k k0 k3 ek
      subst ek
      rw [if_neg (by rw [Int32.not_lt]; exact k0), if_pos k3] at c6
      exact c6 rfl
    exact W.aret (v := .null) hx hb hr (Or.inl ⟨_, rfl⟩) (Or.inl rfl) (fun t ht hW => ⟨none, rfl, by rw [if_neg (h0 0 (by decide) (by decide)), if_neg (h0 1 (by decide) (by decide)), if_neg (h0 2 (by decide) (by decide)), if_neg (h0 3 (by decide) (by decide))], ht⟩) (fun _ h => nomatch h) dX7_sheetOf_19
