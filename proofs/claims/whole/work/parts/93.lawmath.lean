def REL (v_latestFinding : Int32) (v_turn : Nat → Int32) (v_phase : Nat → Int32) (v_up : Nat → Int32) (v_fitting : Nat → Nat → Int32) (v_worstLeft : Nat → Nat → Int32) (v_dsize : Int32) (v_dbytes : Nat → Int32) (v_csize : Int32) (v_cbytes : Nat → Int32) (v_awakeIn : Nat → Int32) (v_worths : Nat → Int32) (v_phours : Nat → Int32) (v_pgrowth : Nat → Nat → Int32) (v_sform : Nat → Int32) (v_ssize : Nat → Int32) (v_sitems : Nat → Nat → Int32) (v_bestFrom : Nat → Int32) (v_m_hours : Int32) (v_m_months : Int32) (v_m_fitMany : Int32) (v_m_fitFirst : Int32) (v_m_finding : Int32) (v_m_turns : Nat → Int32) (v_m_phases : Nat → Int32) (v_m_ups : Nat → Int32) (v_m_typed : Nat → Int32) (v_m_texts : Nat → Int32) (v_m_diary : Nat → Int32) (v_m_longs : Nat → Int32) (v_m_awakes : Nat → Int32) (v_m_fit : Nat → Int32) (v_m_counts : Nat → Int32) (v_m_worths : Nat → Int32) (v_m_ripes : Nat → Int32) (v_m_growths : Nat → Int32) (v_m_gains : Nat → Int32) (v_m_isThere : Nat → Int32) (v_m_forms : Nat → Int32) (v_m_sizes : Nat → Int32) (v_m_items : Nat → Int32) (v_m_moved : Nat → Int32) : Prop := v_latestFinding = v_m_finding ∧ RS v_turn v_phase v_up v_m_turns v_m_phases v_m_ups ∧ RD v_dsize v_dbytes v_csize v_cbytes v_m_typed v_m_texts ∧ RA v_awakeIn v_m_awakes ∧ RA v_worths v_m_worths ∧ RP v_phours v_pgrowth v_m_ripes v_m_growths ∧ RH v_sform v_ssize v_sitems v_m_isThere v_m_forms v_m_sizes v_m_items
theorem law_more {L j : Nat} (hL : L ≤ 384) (hj : j ≤ L) : ((Int32.ofNat L) - 6 < nI j) ↔ L < j + 6 := by
  have e1 := nI_toInt (n := L) (by omega)
  have e2 := nI_toInt (n := j) (by omega)
  have e6 : (6 : Int32).toInt = 6 := by decide
  have es : (nI L - 6).toInt = (L : Int) - 6 := by rw [fb_subI (by rw [e1, e6]; omega) (by rw [e1, e6]; omega), e1, e6]
  show nI L - 6 < nI j ↔ _
  rw [fa_lt, es, e2]
  omega
set_option maxHeartbeats 40000000 in
set_option maxRecDepth 100000 in
theorem LL_ok {n L : Nat} (hn : 4000 ≤ n) (hL : L ≤ 384) (xs : Nat → Int32) : ∀ (k j : Nat) (v_latestFinding : Int32) (v_turn : Nat → Int32) (v_phase : Nat → Int32) (v_up : Nat → Int32) (v_fitting : Nat → Nat → Int32) (v_worstLeft : Nat → Nat → Int32) (v_dsize : Int32) (v_dbytes : Nat → Int32) (v_csize : Int32) (v_cbytes : Nat → Int32) (v_awakeIn : Nat → Int32) (v_worths : Nat → Int32) (v_phours : Nat → Int32) (v_pgrowth : Nat → Nat → Int32) (v_sform : Nat → Int32) (v_ssize : Nat → Int32) (v_sitems : Nat → Nat → Int32) (v_bestFrom : Nat → Int32) (v_m_hours : Int32) (v_m_months : Int32) (v_m_fitMany : Int32) (v_m_fitFirst : Int32) (v_m_finding : Int32) (v_m_turns : Nat → Int32) (v_m_phases : Nat → Int32) (v_m_ups : Nat → Int32) (v_m_typed : Nat → Int32) (v_m_texts : Nat → Int32) (v_m_diary : Nat → Int32) (v_m_longs : Nat → Int32) (v_m_awakes : Nat → Int32) (v_m_fit : Nat → Int32) (v_m_counts : Nat → Int32) (v_m_worths : Nat → Int32) (v_m_ripes : Nat → Int32) (v_m_growths : Nat → Int32) (v_m_gains : Nat → Int32) (v_m_isThere : Nat → Int32) (v_m_forms : Nat → Int32) (v_m_sizes : Nat → Int32) (v_m_items : Nat → Int32) (v_m_moved : Nat → Int32), REL v_latestFinding v_turn v_phase v_up v_fitting v_worstLeft v_dsize v_dbytes v_csize v_cbytes v_awakeIn v_worths v_phours v_pgrowth v_sform v_ssize v_sitems v_bestFrom v_m_hours v_m_months v_m_fitMany v_m_fitFirst v_m_finding v_m_turns v_m_phases v_m_ups v_m_typed v_m_texts v_m_diary v_m_longs v_m_awakes v_m_fit v_m_counts v_m_worths v_m_ripes v_m_growths v_m_gains v_m_isThere v_m_forms v_m_sizes v_m_items v_m_moved → j ≤ L → L < 6 * k + j → LL n L xs k (nI j) v_latestFinding v_turn v_phase v_up v_fitting v_worstLeft v_dsize v_dbytes v_csize v_cbytes v_awakeIn v_worths v_phours v_pgrowth v_sform v_ssize v_sitems v_bestFrom v_m_hours v_m_months v_m_fitMany v_m_fitFirst v_m_finding v_m_turns v_m_phases v_m_ups v_m_typed v_m_texts v_m_diary v_m_longs v_m_awakes v_m_fit v_m_counts v_m_worths v_m_ripes v_m_growths v_m_gains v_m_isThere v_m_forms v_m_sizes v_m_items v_m_moved = some 1 := by
  intro k
  induction k with
  | zero =>
    intro j v_latestFinding v_turn v_phase v_up v_fitting v_worstLeft v_dsize v_dbytes v_csize v_cbytes v_awakeIn v_worths v_phours v_pgrowth v_sform v_ssize v_sitems v_bestFrom v_m_hours v_m_months v_m_fitMany v_m_fitFirst v_m_finding v_m_turns v_m_phases v_m_ups v_m_typed v_m_texts v_m_diary v_m_longs v_m_awakes v_m_fit v_m_counts v_m_worths v_m_ripes v_m_growths v_m_gains v_m_isThere v_m_forms v_m_sizes v_m_items v_m_moved hR h1 h2
    omega
  | succ k ih =>
    intro j v_latestFinding v_turn v_phase v_up v_fitting v_worstLeft v_dsize v_dbytes v_csize v_cbytes v_awakeIn v_worths v_phours v_pgrowth v_sform v_ssize v_sitems v_bestFrom v_m_hours v_m_months v_m_fitMany v_m_fitFirst v_m_finding v_m_turns v_m_phases v_m_ups v_m_typed v_m_texts v_m_diary v_m_longs v_m_awakes v_m_fit v_m_counts v_m_worths v_m_ripes v_m_growths v_m_gains v_m_isThere v_m_forms v_m_sizes v_m_items v_m_moved hR h1 h2
    rw [LL_s]
    by_cases more : L < j + 6
    · rw [if_pos ((law_more hL h1).mpr more)]
    · rw [if_neg (fun z => more ((law_more hL h1).mp z)), ix_in _ (vp_in_nI (show j < L by omega) (by omega)), nI_clamp (show j < 2 ^ 31 by omega)]
      obtain ⟨hl, hRS, hRD, hRA, hRW, hRP, hRH⟩ := hR
      have hRS0 := hRS
      obtain ⟨T, P, U, S, S2⟩ := hRS0
      have i1 : nI j + 1 = nI (j + 1) := nI_1 j
      have i2 : nI j + 2 = nI (j + 2) := nI_add j 2
      have i3 : nI j + 3 = nI (j + 3) := nI_add j 3
      have i4 : nI j + 4 = nI (j + 4) := nI_add j 4
      have i5 : nI j + 5 = nI (j + 5) := nI_add j 5
      have i6 : nI j + 6 = nI (j + 6) := nI_add j 6
      have x1 : ∀ {A : Type} (X : Option A), ix_ (nI (j + 1)) L X = X := fun X => ix_in X (vp_in_nI (by omega) (by omega))
      have q1 : (nI (j + 1)).toNatClampNeg = j + 1 := nI_clamp (by omega)
      have x2 : ∀ {A : Type} (X : Option A), ix_ (nI (j + 2)) L X = X := fun X => ix_in X (vp_in_nI (by omega) (by omega))
      have q2 : (nI (j + 2)).toNatClampNeg = j + 2 := nI_clamp (by omega)
      have x3 : ∀ {A : Type} (X : Option A), ix_ (nI (j + 3)) L X = X := fun X => ix_in X (vp_in_nI (by omega) (by omega))
      have q3 : (nI (j + 3)).toNatClampNeg = j + 3 := nI_clamp (by omega)
      have x4 : ∀ {A : Type} (X : Option A), ix_ (nI (j + 4)) L X = X := fun X => ix_in X (vp_in_nI (by omega) (by omega))
      have q4 : (nI (j + 4)).toNatClampNeg = j + 4 := nI_clamp (by omega)
      have x5 : ∀ {A : Type} (X : Option A), ix_ (nI (j + 5)) L X = X := fun X => ix_in X (vp_in_nI (by omega) (by omega))
      have q5 : (nI (j + 5)).toNatClampNeg = j + 5 := nI_clamp (by omega)
      generalize (xs j) &&& 63 = cc
      by_cases c0 : cc = 0
      · obtain ⟨r, a0, a1, a2, b0, b1, b2, e1, e2, hR2⟩ := e_sun (n := n) hRS (xs (j + 1)) (xs (j + 2)) (xs (j + 3))
        rw [if_pos c0, i1, i2, i3, x1, x2, x3, q1, q2, q3, e1, bd4_in, x1, x2, x3, e2, bd4_in, if_pos rfl, i6]
        exact ih (j + 6) v_latestFinding a0 a1 a2 v_fitting v_worstLeft v_dsize v_dbytes v_csize v_cbytes v_awakeIn v_worths v_phours v_pgrowth v_sform v_ssize v_sitems v_bestFrom v_m_hours v_m_months v_m_fitMany v_m_fitFirst v_m_finding b0 b1 b2 v_m_typed v_m_texts v_m_diary v_m_longs v_m_awakes v_m_fit v_m_counts v_m_worths v_m_ripes v_m_growths v_m_gains v_m_isThere v_m_forms v_m_sizes v_m_items v_m_moved ⟨hl, hR2, hRD, hRA, hRW, hRP, hRH⟩ (by omega) (by omega)
      rw [if_neg c0]
      by_cases c1 : cc = 1
      · obtain ⟨r, a0, a1, a2, a3, b0, b1, e1, e2, hR2⟩ := e_type (n := n) hRD (xs (j + 1)) (xs (j + 2))
        rw [if_pos c1, i1, i2, x1, x2, q1, q2, e1, bd5_in, x1, x2, e2, bd3_in, if_pos rfl, i6]
        exact ih (j + 6) v_latestFinding v_turn v_phase v_up v_fitting v_worstLeft a0 a1 a2 a3 v_awakeIn v_worths v_phours v_pgrowth v_sform v_ssize v_sitems v_bestFrom v_m_hours v_m_months v_m_fitMany v_m_fitFirst v_m_finding v_m_turns v_m_phases v_m_ups b0 b1 v_m_diary v_m_longs v_m_awakes v_m_fit v_m_counts v_m_worths v_m_ripes v_m_growths v_m_gains v_m_isThere v_m_forms v_m_sizes v_m_items v_m_moved ⟨hl, hRS, hR2, hRA, hRW, hRP, hRH⟩ (by omega) (by omega)
      rw [if_neg c1]
      by_cases c2 : cc = 2
      · obtain ⟨r, a0, a1, b0, e1, e2, hR2⟩ := e_wipe (n := n) hRD (xs (j + 1))
        rw [if_pos c2, i1, x1, q1, e1, bd3_in, x1, e2, bd2_in, if_pos rfl, i6]
        exact ih (j + 6) v_latestFinding v_turn v_phase v_up v_fitting v_worstLeft a0 v_dbytes a1 v_cbytes v_awakeIn v_worths v_phours v_pgrowth v_sform v_ssize v_sitems v_bestFrom v_m_hours v_m_months v_m_fitMany v_m_fitFirst v_m_finding v_m_turns v_m_phases v_m_ups b0 v_m_texts v_m_diary v_m_longs v_m_awakes v_m_fit v_m_counts v_m_worths v_m_ripes v_m_growths v_m_gains v_m_isThere v_m_forms v_m_sizes v_m_items v_m_moved ⟨hl, hRS, hR2, hRA, hRW, hRP, hRH⟩ (by omega) (by omega)
      rw [if_neg c2]
      by_cases c3 : cc = 3
      · obtain ⟨r, a0, a1, b0, e1, e2, hR2⟩ := e_undo (n := n) hRD (xs (j + 1))
        rw [if_pos c3, i1, x1, q1, e1, bd3_in, x1, e2, bd2_in, if_pos rfl, i6]
        exact ih (j + 6) v_latestFinding v_turn v_phase v_up v_fitting v_worstLeft a0 v_dbytes a1 v_cbytes v_awakeIn v_worths v_phours v_pgrowth v_sform v_ssize v_sitems v_bestFrom v_m_hours v_m_months v_m_fitMany v_m_fitFirst v_m_finding v_m_turns v_m_phases v_m_ups b0 v_m_texts v_m_diary v_m_longs v_m_awakes v_m_fit v_m_counts v_m_worths v_m_ripes v_m_growths v_m_gains v_m_isThere v_m_forms v_m_sizes v_m_items v_m_moved ⟨hl, hRS, hR2, hRA, hRW, hRP, hRH⟩ (by omega) (by omega)
      rw [if_neg c3]
      by_cases c4 : cc = 4
      · obtain ⟨r, b0, b1, b2, b3, e1, e2⟩ := e_fault hn (mh := v_m_hours) (mm := v_m_months) (dy := v_m_diary) (lo := v_m_longs) hRD (xs (j + 1))
        rw [if_pos c4, i1, x1, q1, e1, bd1_in, x1, e2, bd5_in, if_pos rfl, i6]
        exact ih (j + 6) v_latestFinding v_turn v_phase v_up v_fitting v_worstLeft v_dsize v_dbytes v_csize v_cbytes v_awakeIn v_worths v_phours v_pgrowth v_sform v_ssize v_sitems v_bestFrom b0 b1 v_m_fitMany v_m_fitFirst v_m_finding v_m_turns v_m_phases v_m_ups v_m_typed v_m_texts b2 b3 v_m_awakes v_m_fit v_m_counts v_m_worths v_m_ripes v_m_growths v_m_gains v_m_isThere v_m_forms v_m_sizes v_m_items v_m_moved ⟨hl, hRS, hRD, hRA, hRW, hRP, hRH⟩ (by omega) (by omega)
      rw [if_neg c4]
      by_cases c5 : cc = 5
      · obtain ⟨r, e1, e2⟩ := e_light S S2 n (xs (j + 1))
        rw [if_pos c5, i1, x1, q1, e1, bd1_in, x1, e2, bd1_in, if_pos rfl, i6]
        exact ih (j + 6) v_latestFinding v_turn v_phase v_up v_fitting v_worstLeft v_dsize v_dbytes v_csize v_cbytes v_awakeIn v_worths v_phours v_pgrowth v_sform v_ssize v_sitems v_bestFrom v_m_hours v_m_months v_m_fitMany v_m_fitFirst v_m_finding v_m_turns v_m_phases v_m_ups v_m_typed v_m_texts v_m_diary v_m_longs v_m_awakes v_m_fit v_m_counts v_m_worths v_m_ripes v_m_growths v_m_gains v_m_isThere v_m_forms v_m_sizes v_m_items v_m_moved ⟨hl, hRS, hRD, hRA, hRW, hRP, hRH⟩ (by omega) (by omega)
      rw [if_neg c5]
      by_cases c6 : cc = 6
      · obtain ⟨r, e1, e2⟩ := e_place S S2 n (xs (j + 1)) (xs (j + 2))
        rw [if_pos c6, i1, i2, x1, x2, q1, q2, e1, bd1_in, x1, x2, e2, bd1_in, if_pos rfl, i6]
        exact ih (j + 6) v_latestFinding v_turn v_phase v_up v_fitting v_worstLeft v_dsize v_dbytes v_csize v_cbytes v_awakeIn v_worths v_phours v_pgrowth v_sform v_ssize v_sitems v_bestFrom v_m_hours v_m_months v_m_fitMany v_m_fitFirst v_m_finding v_m_turns v_m_phases v_m_ups v_m_typed v_m_texts v_m_diary v_m_longs v_m_awakes v_m_fit v_m_counts v_m_worths v_m_ripes v_m_growths v_m_gains v_m_isThere v_m_forms v_m_sizes v_m_items v_m_moved ⟨hl, hRS, hRD, hRA, hRW, hRP, hRH⟩ (by omega) (by omega)
      rw [if_neg c6]
      by_cases c7 : cc = 7
      · obtain ⟨r, e1, e2⟩ := e_round S S2 hn 
        rw [if_pos c7, e1, bd1_in, e2, bd1_in, if_pos rfl, i6]
        exact ih (j + 6) v_latestFinding v_turn v_phase v_up v_fitting v_worstLeft v_dsize v_dbytes v_csize v_cbytes v_awakeIn v_worths v_phours v_pgrowth v_sform v_ssize v_sitems v_bestFrom v_m_hours v_m_months v_m_fitMany v_m_fitFirst v_m_finding v_m_turns v_m_phases v_m_ups v_m_typed v_m_texts v_m_diary v_m_longs v_m_awakes v_m_fit v_m_counts v_m_worths v_m_ripes v_m_growths v_m_gains v_m_isThere v_m_forms v_m_sizes v_m_items v_m_moved ⟨hl, hRS, hRD, hRA, hRW, hRP, hRH⟩ (by omega) (by omega)
      rw [if_neg c7]
      by_cases c8 : cc = 8
      · obtain ⟨r, e1, e2⟩ := e_next S S2 hn (xs (j + 1)) (xs (j + 2))
        rw [if_pos c8, i1, i2, x1, x2, q1, q2, e1, bd1_in, x1, x2, e2, bd1_in, if_pos rfl, i6]
        exact ih (j + 6) v_latestFinding v_turn v_phase v_up v_fitting v_worstLeft v_dsize v_dbytes v_csize v_cbytes v_awakeIn v_worths v_phours v_pgrowth v_sform v_ssize v_sitems v_bestFrom v_m_hours v_m_months v_m_fitMany v_m_fitFirst v_m_finding v_m_turns v_m_phases v_m_ups v_m_typed v_m_texts v_m_diary v_m_longs v_m_awakes v_m_fit v_m_counts v_m_worths v_m_ripes v_m_growths v_m_gains v_m_isThere v_m_forms v_m_sizes v_m_items v_m_moved ⟨hl, hRS, hRD, hRA, hRW, hRP, hRH⟩ (by omega) (by omega)
      rw [if_neg c8]
      by_cases c9 : cc = 9
      · obtain ⟨r, e1, e2⟩ := e_lasts S S2 hn (xs (j + 1))
        rw [if_pos c9, i1, x1, q1, e1, bd1_in, x1, e2, bd1_in, if_pos rfl, i6]
        exact ih (j + 6) v_latestFinding v_turn v_phase v_up v_fitting v_worstLeft v_dsize v_dbytes v_csize v_cbytes v_awakeIn v_worths v_phours v_pgrowth v_sform v_ssize v_sitems v_bestFrom v_m_hours v_m_months v_m_fitMany v_m_fitFirst v_m_finding v_m_turns v_m_phases v_m_ups v_m_typed v_m_texts v_m_diary v_m_longs v_m_awakes v_m_fit v_m_counts v_m_worths v_m_ripes v_m_growths v_m_gains v_m_isThere v_m_forms v_m_sizes v_m_items v_m_moved ⟨hl, hRS, hRD, hRA, hRW, hRP, hRH⟩ (by omega) (by omega)
      rw [if_neg c9]
      by_cases c10 : cc = 10
      · obtain ⟨r, e1, e2⟩ := e_spells S S2 hn (xs (j + 1)) (xs (j + 2))
        rw [if_pos c10, i1, i2, x1, x2, q1, q2, e1, bd1_in, x1, x2, e2, bd1_in, if_pos rfl, i6]
        exact ih (j + 6) v_latestFinding v_turn v_phase v_up v_fitting v_worstLeft v_dsize v_dbytes v_csize v_cbytes v_awakeIn v_worths v_phours v_pgrowth v_sform v_ssize v_sitems v_bestFrom v_m_hours v_m_months v_m_fitMany v_m_fitFirst v_m_finding v_m_turns v_m_phases v_m_ups v_m_typed v_m_texts v_m_diary v_m_longs v_m_awakes v_m_fit v_m_counts v_m_worths v_m_ripes v_m_growths v_m_gains v_m_isThere v_m_forms v_m_sizes v_m_items v_m_moved ⟨hl, hRS, hRD, hRA, hRW, hRP, hRH⟩ (by omega) (by omega)
      rw [if_neg c10]
      by_cases c11 : cc = 11
      · obtain ⟨r, e1, e2⟩ := e_without S S2 hn (xs (j + 1))
        rw [if_pos c11, i1, x1, q1, e1, bd1_in, x1, e2, bd1_in, if_pos rfl, i6]
        exact ih (j + 6) v_latestFinding v_turn v_phase v_up v_fitting v_worstLeft v_dsize v_dbytes v_csize v_cbytes v_awakeIn v_worths v_phours v_pgrowth v_sform v_ssize v_sitems v_bestFrom v_m_hours v_m_months v_m_fitMany v_m_fitFirst v_m_finding v_m_turns v_m_phases v_m_ups v_m_typed v_m_texts v_m_diary v_m_longs v_m_awakes v_m_fit v_m_counts v_m_worths v_m_ripes v_m_growths v_m_gains v_m_isThere v_m_forms v_m_sizes v_m_items v_m_moved ⟨hl, hRS, hRD, hRA, hRW, hRP, hRH⟩ (by omega) (by omega)
      rw [if_neg c11]
      by_cases c12 : cc = 12
      · obtain ⟨r, b0, b1, b2, b3, e1, e2⟩ := e_month hn (mh := v_m_hours) (mm := v_m_months) (dy := v_m_diary) (lo := v_m_longs) hRD (xs (j + 1))
        rw [if_pos c12, i1, x1, q1, e1, bd1_in, x1, e2, bd5_in, if_pos rfl, i6]
        exact ih (j + 6) v_latestFinding v_turn v_phase v_up v_fitting v_worstLeft v_dsize v_dbytes v_csize v_cbytes v_awakeIn v_worths v_phours v_pgrowth v_sform v_ssize v_sitems v_bestFrom b0 b1 v_m_fitMany v_m_fitFirst v_m_finding v_m_turns v_m_phases v_m_ups v_m_typed v_m_texts b2 b3 v_m_awakes v_m_fit v_m_counts v_m_worths v_m_ripes v_m_growths v_m_gains v_m_isThere v_m_forms v_m_sizes v_m_items v_m_moved ⟨hl, hRS, hRD, hRA, hRW, hRP, hRH⟩ (by omega) (by omega)
      rw [if_neg c12]
      by_cases c13 : cc = 13
      · obtain ⟨r, b0, b1, b2, b3, e1, e2⟩ := e_drift S S2 hn (mh := v_m_hours) (mm := v_m_months) (dy := v_m_diary) (lo := v_m_longs) hRD (xs (j + 1)) (xs (j + 2))
        rw [if_pos c13, i1, i2, x1, x2, q1, q2, e1, bd1_in, x1, x2, e2, bd5_in, if_pos rfl, i6]
        exact ih (j + 6) v_latestFinding v_turn v_phase v_up v_fitting v_worstLeft v_dsize v_dbytes v_csize v_cbytes v_awakeIn v_worths v_phours v_pgrowth v_sform v_ssize v_sitems v_bestFrom b0 b1 v_m_fitMany v_m_fitFirst v_m_finding v_m_turns v_m_phases v_m_ups v_m_typed v_m_texts b2 b3 v_m_awakes v_m_fit v_m_counts v_m_worths v_m_ripes v_m_growths v_m_gains v_m_isThere v_m_forms v_m_sizes v_m_items v_m_moved ⟨hl, hRS, hRD, hRA, hRW, hRP, hRH⟩ (by omega) (by omega)
      rw [if_neg c13]
      by_cases c14 : cc = 14
      · obtain ⟨r, e1, e2⟩ := e_shortest S S2 hn (xs (j + 1)) (xs (j + 2)) (xs (j + 3)) (xs (j + 4))
        rw [if_pos c14, i1, i2, i3, i4, x1, x2, x3, x4, q1, q2, q3, q4, e1, bd1_in, x1, x2, x3, x4, e2, bd1_in, if_pos rfl, i6]
        exact ih (j + 6) v_latestFinding v_turn v_phase v_up v_fitting v_worstLeft v_dsize v_dbytes v_csize v_cbytes v_awakeIn v_worths v_phours v_pgrowth v_sform v_ssize v_sitems v_bestFrom v_m_hours v_m_months v_m_fitMany v_m_fitFirst v_m_finding v_m_turns v_m_phases v_m_ups v_m_typed v_m_texts v_m_diary v_m_longs v_m_awakes v_m_fit v_m_counts v_m_worths v_m_ripes v_m_growths v_m_gains v_m_isThere v_m_forms v_m_sizes v_m_items v_m_moved ⟨hl, hRS, hRD, hRA, hRW, hRP, hRH⟩ (by omega) (by omega)
      rw [if_neg c14]
      by_cases c15 : cc = 15
      · obtain ⟨r, a0, b0, e1, e2, hR2⟩ := e_awake (n := n) hRA (xs (j + 1)) (xs (j + 2))
        rw [if_pos c15, i1, i2, x1, x2, q1, q2, e1, bd2_in, x1, x2, e2, bd2_in, if_pos rfl, i6]
        exact ih (j + 6) v_latestFinding v_turn v_phase v_up v_fitting v_worstLeft v_dsize v_dbytes v_csize v_cbytes a0 v_worths v_phours v_pgrowth v_sform v_ssize v_sitems v_bestFrom v_m_hours v_m_months v_m_fitMany v_m_fitFirst v_m_finding v_m_turns v_m_phases v_m_ups v_m_typed v_m_texts v_m_diary v_m_longs b0 v_m_fit v_m_counts v_m_worths v_m_ripes v_m_growths v_m_gains v_m_isThere v_m_forms v_m_sizes v_m_items v_m_moved ⟨hl, hRS, hRD, hR2, hRW, hRP, hRH⟩ (by omega) (by omega)
      rw [if_neg c15]
      by_cases c16 : cc = 16
      · obtain ⟨r, e1, e2⟩ := e_together S S2 hn hRA (xs (j + 1)) (xs (j + 2)) (xs (j + 3)) (xs (j + 4))
        rw [if_pos c16, i1, i2, i3, i4, x1, x2, x3, x4, q1, q2, q3, q4, e1, bd1_in, x1, x2, x3, x4, e2, bd1_in, if_pos rfl, i6]
        exact ih (j + 6) v_latestFinding v_turn v_phase v_up v_fitting v_worstLeft v_dsize v_dbytes v_csize v_cbytes v_awakeIn v_worths v_phours v_pgrowth v_sform v_ssize v_sitems v_bestFrom v_m_hours v_m_months v_m_fitMany v_m_fitFirst v_m_finding v_m_turns v_m_phases v_m_ups v_m_typed v_m_texts v_m_diary v_m_longs v_m_awakes v_m_fit v_m_counts v_m_worths v_m_ripes v_m_growths v_m_gains v_m_isThere v_m_forms v_m_sizes v_m_items v_m_moved ⟨hl, hRS, hRD, hRA, hRW, hRP, hRH⟩ (by omega) (by omega)
      rw [if_neg c16]
      by_cases c17 : cc = 17
      · obtain ⟨r, e1, e2⟩ := e_dials S S2 hn (xs (j + 1)) (xs (j + 2)) (xs (j + 3))
        rw [if_pos c17, i1, i2, i3, x1, x2, x3, q1, q2, q3, e1, bd1_in, x1, x2, x3, e2, bd1_in, if_pos rfl, i6]
        exact ih (j + 6) v_latestFinding v_turn v_phase v_up v_fitting v_worstLeft v_dsize v_dbytes v_csize v_cbytes v_awakeIn v_worths v_phours v_pgrowth v_sform v_ssize v_sitems v_bestFrom v_m_hours v_m_months v_m_fitMany v_m_fitFirst v_m_finding v_m_turns v_m_phases v_m_ups v_m_typed v_m_texts v_m_diary v_m_longs v_m_awakes v_m_fit v_m_counts v_m_worths v_m_ripes v_m_growths v_m_gains v_m_isThere v_m_forms v_m_sizes v_m_items v_m_moved ⟨hl, hRS, hRD, hRA, hRW, hRP, hRH⟩ (by omega) (by omega)
      rw [if_neg c17]
      by_cases c18 : cc = 18
      · obtain ⟨r, a0, b0, b1, b2, b3, b4, b5, b6, e1, e2⟩ := e_fits S S2 hn (mh := v_m_hours) (mm := v_m_months) (dy := v_m_diary) (lo := v_m_longs) (fm := v_m_fitMany) (fi := v_m_fitFirst) (ft := v_m_fit) hRD v_fitting (xs (j + 1))
        rw [if_pos c18, i1, x1, q1, e1, bd2_in, x1, e2, bd8_in, if_pos rfl, i6]
        exact ih (j + 6) v_latestFinding v_turn v_phase v_up a0 v_worstLeft v_dsize v_dbytes v_csize v_cbytes v_awakeIn v_worths v_phours v_pgrowth v_sform v_ssize v_sitems v_bestFrom b0 b1 b2 b3 v_m_finding v_m_turns v_m_phases v_m_ups v_m_typed v_m_texts b4 b5 v_m_awakes b6 v_m_counts v_m_worths v_m_ripes v_m_growths v_m_gains v_m_isThere v_m_forms v_m_sizes v_m_items v_m_moved ⟨hl, hRS, hRD, hRA, hRW, hRP, hRH⟩ (by omega) (by omega)
      rw [if_neg c18]
      by_cases c19 : cc = 19
      · obtain ⟨r, a0, a1, b0, b1, b2, b3, b4, b5, b6, b7, e1, e2⟩ := e_watch S S2 hn (mh := v_m_hours) (mm := v_m_months) (dy := v_m_diary) (lo := v_m_longs) (fm := v_m_fitMany) (fi := v_m_fitFirst) (ft := v_m_fit) (ct := v_m_counts) hRD v_fitting v_worstLeft (xs (j + 1))
        rw [if_pos c19, i1, x1, q1, e1, bd3_in, x1, e2, bd9_in, if_pos rfl, i6]
        exact ih (j + 6) v_latestFinding v_turn v_phase v_up a0 a1 v_dsize v_dbytes v_csize v_cbytes v_awakeIn v_worths v_phours v_pgrowth v_sform v_ssize v_sitems v_bestFrom b0 b1 b2 b3 v_m_finding v_m_turns v_m_phases v_m_ups v_m_typed v_m_texts b4 b5 v_m_awakes b6 b7 v_m_worths v_m_ripes v_m_growths v_m_gains v_m_isThere v_m_forms v_m_sizes v_m_items v_m_moved ⟨hl, hRS, hRD, hRA, hRW, hRP, hRH⟩ (by omega) (by omega)
      rw [if_neg c19]
      by_cases c20 : cc = 20
      · obtain ⟨r, a0, b0, e1, e2, hR2⟩ := e_worth (n := n) hRW (xs (j + 1)) (xs (j + 2))
        rw [if_pos c20, i1, i2, x1, x2, q1, q2, e1, bd2_in, x1, x2, e2, bd2_in, if_pos rfl, i6]
        exact ih (j + 6) v_latestFinding v_turn v_phase v_up v_fitting v_worstLeft v_dsize v_dbytes v_csize v_cbytes v_awakeIn a0 v_phours v_pgrowth v_sform v_ssize v_sitems v_bestFrom v_m_hours v_m_months v_m_fitMany v_m_fitFirst v_m_finding v_m_turns v_m_phases v_m_ups v_m_typed v_m_texts v_m_diary v_m_longs v_m_awakes v_m_fit v_m_counts b0 v_m_ripes v_m_growths v_m_gains v_m_isThere v_m_forms v_m_sizes v_m_items v_m_moved ⟨hl, hRS, hRD, hRA, hR2, hRP, hRH⟩ (by omega) (by omega)
      rw [if_neg c20]
      by_cases c21 : cc = 21
      · obtain ⟨r, e1, e2⟩ := e_price hn hRA hRW (xs (j + 1))
        rw [if_pos c21, i1, x1, q1, e1, bd1_in, x1, e2, bd1_in, if_pos rfl, i6]
        exact ih (j + 6) v_latestFinding v_turn v_phase v_up v_fitting v_worstLeft v_dsize v_dbytes v_csize v_cbytes v_awakeIn v_worths v_phours v_pgrowth v_sform v_ssize v_sitems v_bestFrom v_m_hours v_m_months v_m_fitMany v_m_fitFirst v_m_finding v_m_turns v_m_phases v_m_ups v_m_typed v_m_texts v_m_diary v_m_longs v_m_awakes v_m_fit v_m_counts v_m_worths v_m_ripes v_m_growths v_m_gains v_m_isThere v_m_forms v_m_sizes v_m_items v_m_moved ⟨hl, hRS, hRD, hRA, hRW, hRP, hRH⟩ (by omega) (by omega)
      rw [if_neg c21]
      by_cases c22 : cc = 22
      · obtain ⟨r, a0, b0, e1, e2, hR2⟩ := e_plant (n := n) hRP (xs (j + 1)) (xs (j + 2))
        rw [if_pos c22, i1, i2, x1, x2, q1, q2, e1, bd2_in, x1, x2, e2, bd2_in, if_pos rfl, i6]
        exact ih (j + 6) v_latestFinding v_turn v_phase v_up v_fitting v_worstLeft v_dsize v_dbytes v_csize v_cbytes v_awakeIn v_worths a0 v_pgrowth v_sform v_ssize v_sitems v_bestFrom v_m_hours v_m_months v_m_fitMany v_m_fitFirst v_m_finding v_m_turns v_m_phases v_m_ups v_m_typed v_m_texts v_m_diary v_m_longs v_m_awakes v_m_fit v_m_counts v_m_worths b0 v_m_growths v_m_gains v_m_isThere v_m_forms v_m_sizes v_m_items v_m_moved ⟨hl, hRS, hRD, hRA, hRW, hR2, hRH⟩ (by omega) (by omega)
      rw [if_neg c22]
      by_cases c23 : cc = 23
      · obtain ⟨r, a0, b0, e1, e2, hR2⟩ := e_grows (n := n) hRP (xs (j + 1)) (xs (j + 2)) (xs (j + 3))
        rw [if_pos c23, i1, i2, i3, x1, x2, x3, q1, q2, q3, e1, bd2_in, x1, x2, x3, e2, bd2_in, if_pos rfl, i6]
        exact ih (j + 6) v_latestFinding v_turn v_phase v_up v_fitting v_worstLeft v_dsize v_dbytes v_csize v_cbytes v_awakeIn v_worths v_phours a0 v_sform v_ssize v_sitems v_bestFrom v_m_hours v_m_months v_m_fitMany v_m_fitFirst v_m_finding v_m_turns v_m_phases v_m_ups v_m_typed v_m_texts v_m_diary v_m_longs v_m_awakes v_m_fit v_m_counts v_m_worths v_m_ripes b0 v_m_gains v_m_isThere v_m_forms v_m_sizes v_m_items v_m_moved ⟨hl, hRS, hRD, hRA, hRW, hR2, hRH⟩ (by omega) (by omega)
      rw [if_neg c23]
      by_cases c24 : cc = 24
      · obtain ⟨r, a0, a1, b0, b1, e1, e2, hl2, hR2⟩ := e_read hn hl hRH hRP (xs (j + 1)) (xs (j + 2))
        rw [if_pos c24, i1, i2, x1, x2, q1, q2, e1, bd3_in, x1, x2, e2, bd3_in, if_pos rfl, i6]
        exact ih (j + 6) a0 v_turn v_phase v_up v_fitting v_worstLeft v_dsize v_dbytes v_csize v_cbytes v_awakeIn v_worths v_phours a1 v_sform v_ssize v_sitems v_bestFrom v_m_hours v_m_months v_m_fitMany v_m_fitFirst b0 v_m_turns v_m_phases v_m_ups v_m_typed v_m_texts v_m_diary v_m_longs v_m_awakes v_m_fit v_m_counts v_m_worths v_m_ripes b1 v_m_gains v_m_isThere v_m_forms v_m_sizes v_m_items v_m_moved ⟨hl2, hRS, hRD, hRA, hRW, hR2, hRH⟩ (by omega) (by omega)
      rw [if_neg c24]
      by_cases c25 : cc = 25
      · obtain ⟨r, e1, e2⟩ := e_crop S S2 hn hRP (xs (j + 1)) (xs (j + 2))
        rw [if_pos c25, i1, i2, x1, x2, q1, q2, e1, bd1_in, x1, x2, e2, bd1_in, if_pos rfl, i6]
        exact ih (j + 6) v_latestFinding v_turn v_phase v_up v_fitting v_worstLeft v_dsize v_dbytes v_csize v_cbytes v_awakeIn v_worths v_phours v_pgrowth v_sform v_ssize v_sitems v_bestFrom v_m_hours v_m_months v_m_fitMany v_m_fitFirst v_m_finding v_m_turns v_m_phases v_m_ups v_m_typed v_m_texts v_m_diary v_m_longs v_m_awakes v_m_fit v_m_counts v_m_worths v_m_ripes v_m_growths v_m_gains v_m_isThere v_m_forms v_m_sizes v_m_items v_m_moved ⟨hl, hRS, hRD, hRA, hRW, hRP, hRH⟩ (by omega) (by omega)
      rw [if_neg c25]
      by_cases c26 : cc = 26
      · obtain ⟨r, a0, b0, e1, e2⟩ := e_planting S S2 hn hRP v_bestFrom v_m_gains (xs (j + 1)) (xs (j + 2)) (xs (j + 3))
        rw [if_pos c26, i1, i2, i3, x1, x2, x3, q1, q2, q3, e1, bd2_in, x1, x2, x3, e2, bd2_in, if_pos rfl, i6]
        exact ih (j + 6) v_latestFinding v_turn v_phase v_up v_fitting v_worstLeft v_dsize v_dbytes v_csize v_cbytes v_awakeIn v_worths v_phours v_pgrowth v_sform v_ssize v_sitems a0 v_m_hours v_m_months v_m_fitMany v_m_fitFirst v_m_finding v_m_turns v_m_phases v_m_ups v_m_typed v_m_texts v_m_diary v_m_longs v_m_awakes v_m_fit v_m_counts v_m_worths v_m_ripes v_m_growths b0 v_m_isThere v_m_forms v_m_sizes v_m_items v_m_moved ⟨hl, hRS, hRD, hRA, hRW, hRP, hRH⟩ (by omega) (by omega)
      rw [if_neg c26]
      by_cases c27 : cc = 27
      · obtain ⟨r, e1, e2⟩ := e_clouds S S2 hn (xs (j + 1)) (xs (j + 2)) (xs (j + 3)) (xs (j + 4)) (xs (j + 5))
        rw [if_pos c27, i1, i2, i3, i4, i5, x1, x2, x3, x4, x5, q1, q2, q3, q4, q5, e1, bd1_in, x1, x2, x3, x4, x5, e2, bd1_in, if_pos ((lg_cmp_eq _ _).mpr rfl), i6]
        exact ih (j + 6) v_latestFinding v_turn v_phase v_up v_fitting v_worstLeft v_dsize v_dbytes v_csize v_cbytes v_awakeIn v_worths v_phours v_pgrowth v_sform v_ssize v_sitems v_bestFrom v_m_hours v_m_months v_m_fitMany v_m_fitFirst v_m_finding v_m_turns v_m_phases v_m_ups v_m_typed v_m_texts v_m_diary v_m_longs v_m_awakes v_m_fit v_m_counts v_m_worths v_m_ripes v_m_growths v_m_gains v_m_isThere v_m_forms v_m_sizes v_m_items v_m_moved ⟨hl, hRS, hRD, hRA, hRW, hRP, hRH⟩ (by omega) (by omega)
      rw [if_neg c27]
      by_cases c28 : cc = 28
      · obtain ⟨r, a0, a1, a2, a3, b0, b1, b2, b3, b4, e1, e2, hl2, hR2⟩ := e_sheet hn hl hRH (xs (j + 1)) (xs (j + 2)) (xs (j + 3))
        rw [if_pos c28, i1, i2, i3, x1, x2, x3, q1, q2, q3, e1, bd5_in, x1, x2, x3, e2, bd6_in, if_pos rfl, i6]
        exact ih (j + 6) a0 v_turn v_phase v_up v_fitting v_worstLeft v_dsize v_dbytes v_csize v_cbytes v_awakeIn v_worths v_phours v_pgrowth a1 a2 a3 v_bestFrom v_m_hours v_m_months v_m_fitMany v_m_fitFirst b0 v_m_turns v_m_phases v_m_ups v_m_typed v_m_texts v_m_diary v_m_longs v_m_awakes v_m_fit v_m_counts v_m_worths v_m_ripes v_m_growths v_m_gains b1 b2 b3 b4 v_m_moved ⟨hl2, hRS, hRD, hRA, hRW, hRP, hR2⟩ (by omega) (by omega)
      rw [if_neg c28]
      by_cases c29 : cc = 29
      · obtain ⟨r, a0, a1, b0, b1, e1, e2, hl2, hR2⟩ := e_lose (n := n) hl hRH (xs (j + 1))
        rw [if_pos c29, i1, x1, q1, e1, bd3_in, x1, e2, bd3_in, if_pos rfl, i6]
        exact ih (j + 6) a0 v_turn v_phase v_up v_fitting v_worstLeft v_dsize v_dbytes v_csize v_cbytes v_awakeIn v_worths v_phours v_pgrowth a1 v_ssize v_sitems v_bestFrom v_m_hours v_m_months v_m_fitMany v_m_fitFirst b0 v_m_turns v_m_phases v_m_ups v_m_typed v_m_texts v_m_diary v_m_longs v_m_awakes v_m_fit v_m_counts v_m_worths v_m_ripes v_m_growths v_m_gains b1 v_m_forms v_m_sizes v_m_items v_m_moved ⟨hl2, hRS, hRD, hRA, hRW, hRP, hR2⟩ (by omega) (by omega)
      rw [if_neg c29]
      by_cases c30 : cc = 30
      · obtain ⟨r, a0, a1, b0, b1, e1, e2, hl2, hR2⟩ := e_put (n := n) hl hRH (xs (j + 1)) (xs (j + 2)) (xs (j + 3)) (xs (j + 4))
        rw [if_pos c30, i1, i2, i3, i4, x1, x2, x3, x4, q1, q2, q3, q4, e1, bd3_in, x1, x2, x3, x4, e2, bd3_in, if_pos rfl, i6]
        exact ih (j + 6) a0 v_turn v_phase v_up v_fitting v_worstLeft v_dsize v_dbytes v_csize v_cbytes v_awakeIn v_worths v_phours v_pgrowth v_sform v_ssize a1 v_bestFrom v_m_hours v_m_months v_m_fitMany v_m_fitFirst b0 v_m_turns v_m_phases v_m_ups v_m_typed v_m_texts v_m_diary v_m_longs v_m_awakes v_m_fit v_m_counts v_m_worths v_m_ripes v_m_growths v_m_gains v_m_isThere v_m_forms v_m_sizes b1 v_m_moved ⟨hl2, hRS, hRD, hRA, hRW, hRP, hR2⟩ (by omega) (by omega)
      rw [if_neg c30]
      by_cases c31 : cc = 31
      · obtain ⟨r, a0, b0, e1, e2, hl2⟩ := e_get (n := n) hl hRH (xs (j + 1)) (xs (j + 2)) (xs (j + 3))
        rw [if_pos c31, i1, i2, i3, x1, x2, x3, q1, q2, q3, e1, bd2_in, x1, x2, x3, e2, bd2_in, if_pos rfl, i6]
        exact ih (j + 6) a0 v_turn v_phase v_up v_fitting v_worstLeft v_dsize v_dbytes v_csize v_cbytes v_awakeIn v_worths v_phours v_pgrowth v_sform v_ssize v_sitems v_bestFrom v_m_hours v_m_months v_m_fitMany v_m_fitFirst b0 v_m_turns v_m_phases v_m_ups v_m_typed v_m_texts v_m_diary v_m_longs v_m_awakes v_m_fit v_m_counts v_m_worths v_m_ripes v_m_growths v_m_gains v_m_isThere v_m_forms v_m_sizes v_m_items v_m_moved ⟨hl2, hRS, hRD, hRA, hRW, hRP, hRH⟩ (by omega) (by omega)
      rw [if_neg c31]
      by_cases c32 : cc = 32
      · obtain ⟨r, a0, a1, b0, b1, b2, e1, e2, hl2, hR2⟩ := e_copy hn (mo := v_m_moved) hl hRH (xs (j + 1)) (xs (j + 2)) (xs (j + 3)) (xs (j + 4)) (xs (j + 5))
        rw [if_pos c32, i1, i2, i3, i4, i5, x1, x2, x3, x4, x5, q1, q2, q3, q4, q5, e1, bd3_in, x1, x2, x3, x4, x5, e2, bd4_in, if_pos rfl, i6]
        exact ih (j + 6) a0 v_turn v_phase v_up v_fitting v_worstLeft v_dsize v_dbytes v_csize v_cbytes v_awakeIn v_worths v_phours v_pgrowth v_sform v_ssize a1 v_bestFrom v_m_hours v_m_months v_m_fitMany v_m_fitFirst b0 v_m_turns v_m_phases v_m_ups v_m_typed v_m_texts v_m_diary v_m_longs v_m_awakes v_m_fit v_m_counts v_m_worths v_m_ripes v_m_growths v_m_gains v_m_isThere v_m_forms v_m_sizes b1 b2 ⟨hl2, hRS, hRD, hRA, hRW, hRP, hR2⟩ (by omega) (by omega)
      rw [if_neg c32]
      by_cases c33 : cc = 33
      · obtain ⟨r, a0, a1, b0, b1, e1, e2, hl2, hR2⟩ := e_write S S2 hn hl hRH (xs (j + 1)) (xs (j + 2))
        rw [if_pos c33, i1, i2, x1, x2, q1, q2, e1, bd3_in, x1, x2, e2, bd3_in, if_pos rfl, i6]
        exact ih (j + 6) a0 v_turn v_phase v_up v_fitting v_worstLeft v_dsize v_dbytes v_csize v_cbytes v_awakeIn v_worths v_phours v_pgrowth v_sform v_ssize a1 v_bestFrom v_m_hours v_m_months v_m_fitMany v_m_fitFirst b0 v_m_turns v_m_phases v_m_ups v_m_typed v_m_texts v_m_diary v_m_longs v_m_awakes v_m_fit v_m_counts v_m_worths v_m_ripes v_m_growths v_m_gains v_m_isThere v_m_forms v_m_sizes b1 v_m_moved ⟨hl2, hRS, hRD, hRA, hRW, hRP, hR2⟩ (by omega) (by omega)
      rw [if_neg c33]
      by_cases c34 : cc = 34
      · obtain ⟨r, b0, b1, b2, b3, e1, e2⟩ := e_count S S2 hn (mh := v_m_hours) (mm := v_m_months) (dy := v_m_diary) (lo := v_m_longs) hl hRD hRW (xs (j + 1))
        rw [if_pos c34, i1, x1, q1, e1, bd1_in, x1, e2, bd5_in, if_pos rfl, i6]
        exact ih (j + 6) v_latestFinding v_turn v_phase v_up v_fitting v_worstLeft v_dsize v_dbytes v_csize v_cbytes v_awakeIn v_worths v_phours v_pgrowth v_sform v_ssize v_sitems v_bestFrom b0 b1 v_m_fitMany v_m_fitFirst v_m_finding v_m_turns v_m_phases v_m_ups v_m_typed v_m_texts b2 b3 v_m_awakes v_m_fit v_m_counts v_m_worths v_m_ripes v_m_growths v_m_gains v_m_isThere v_m_forms v_m_sizes v_m_items v_m_moved ⟨hl, hRS, hRD, hRA, hRW, hRP, hRH⟩ (by omega) (by omega)
      rw [if_neg c34]
      by_cases c35 : cc = 35
      · obtain ⟨r, a0, a1, a2, b0, b1, b2, b3, b4, b5, b6, b7, b8, e1, e2⟩ := e_digest S S2 hn (mh := v_m_hours) (mm := v_m_months) (dy := v_m_diary) (lo := v_m_longs) (fm := v_m_fitMany) (fi := v_m_fitFirst) (ft := v_m_fit) (ct := v_m_counts) (gn := v_m_gains) (bf := v_bestFrom) (fit := v_fitting) (wl2 := v_worstLeft) hl hRD hRW hRA hRP 
        rw [if_pos c35, e1, bd4_in, e2, bd10_in, if_pos ((lg_cmp_eq _ _).mpr rfl), i6]
        exact ih (j + 6) v_latestFinding v_turn v_phase v_up a0 a1 v_dsize v_dbytes v_csize v_cbytes v_awakeIn v_worths v_phours v_pgrowth v_sform v_ssize v_sitems a2 b0 b1 b2 b3 v_m_finding v_m_turns v_m_phases v_m_ups v_m_typed v_m_texts b4 b5 v_m_awakes b6 b7 v_m_worths v_m_ripes v_m_growths b8 v_m_isThere v_m_forms v_m_sizes v_m_items v_m_moved ⟨hl, hRS, hRD, hRA, hRW, hRP, hRH⟩ (by omega) (by omega)
      rw [if_neg c35]
      rw [i6]
      exact ih (j + 6) v_latestFinding v_turn v_phase v_up v_fitting v_worstLeft v_dsize v_dbytes v_csize v_cbytes v_awakeIn v_worths v_phours v_pgrowth v_sform v_ssize v_sitems v_bestFrom v_m_hours v_m_months v_m_fitMany v_m_fitFirst v_m_finding v_m_turns v_m_phases v_m_ups v_m_typed v_m_texts v_m_diary v_m_longs v_m_awakes v_m_fit v_m_counts v_m_worths v_m_ripes v_m_growths v_m_gains v_m_isThere v_m_forms v_m_sizes v_m_items v_m_moved ⟨hl, hRS, hRD, hRA, hRW, hRP, hRH⟩ (by omega) (by omega)
