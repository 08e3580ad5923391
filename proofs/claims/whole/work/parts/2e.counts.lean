/-! what the texts say, through both sides -/
theorem reads_v {n d c : Nat} (hn : 4000 ≤ n) {mh mm : Int32} {ty tx dy lo : Nat → Int32} (hd : d ≤ 60) (hc : c ≤ 20) (t0 : ty 0 = nI d) (t1 : ty 1 = nI c) (x : Int32) : ∃ w1 w2, f_X8_faultOf n mh mm ty tx dy lo x = some (if x = 0 then dfault tx d else cfault (fun i => tx (60 + i)) c, nI (dhours tx d), nI (cmon (fun i => tx (60 + i)) c), w1, w2) ∧ f_X8_reads n mh mm ty tx dy lo = some (nI (dhours tx d), nI (cmon (fun i => tx (60 + i)) c), w1, w2) ∧ (∀ i, i < dhours tx d → w1 i = seen (tx i)) ∧ ∀ m, m < cmon (fun i => tx (60 + i)) c → w2 m = clen (fun i => tx (60 + i)) m := by
  obtain ⟨w1, a1, a2⟩ := readsDiary_v hn (h0 := mh) (tx := tx) (dy := dy) hd t0
  obtain ⟨w2, b1, b2⟩ := readsCalendar_v hn (m0 := mm) (tx := tx) (lo := lo) hc t1
  refine ⟨w1, w2, ?_, ?_, a2, b2⟩
  · unfold f_X8_faultOf
    rw [a1, bd3_in, b1, bd3_in]
    by_cases q : x = 0
    · rw [if_pos q, if_pos q]
    · rw [if_neg q, if_neg q]
  · unfold f_X8_reads f_X8_faultOf
    rw [a1, bd3_in, b1, bd3_in, if_pos rfl, bd5_in]
theorem RD_same {ds cs : Int32} {db cb ty tx : Nat → Int32} (R : RD ds db cs cb ty tx) : ∃ d c : Nat, d ≤ 60 ∧ c ≤ 20 ∧ ds = nI d ∧ cs = nI c ∧ ty 0 = nI d ∧ ty 1 = nI c ∧ dfault db d = dfault tx d ∧ dhours db d = dhours tx d ∧ cfault cb c = cfault (fun i => tx (60 + i)) c ∧ cmon cb c = cmon (fun i => tx (60 + i)) c ∧ (∀ i, i < d → db i = tx i) ∧ ∀ i, i < c → cb i = tx (60 + i) := by
  obtain ⟨d, c, hd, hc, e1, e2, t0, t1, R1, R2⟩ := R
  refine ⟨d, c, hd, hc, e1, e2, t0, t1, ?_, ?_, cfault_cong R2, cmon_cong R2, R1, R2⟩
  · unfold dfault; rw [pbad_cong R1]
  · unfold dhours; rw [pbad_cong R1]
theorem e_fault {n : Nat} (hn : 4000 ≤ n) {ds cs mh mm : Int32} {db cb ty tx dy lo : Nat → Int32} (R : RD ds db cs cb ty tx) (x : Int32) : ∃ r h2 m2 d2 l2, f_X7_fault n ds db cs cb x = some r ∧ f_X8_fault n mh mm ty tx dy lo x = some (r, h2, m2, d2, l2) := by
  obtain ⟨d, c, hd, hc, rfl, rfl, t0, t1, s1, s2, s3, s4, R1, R2⟩ := RD_same R
  obtain ⟨w1, w2, q1, -, -⟩ := reads_v hn (mh := mh) (mm := mm) (tx := tx) (dy := dy) (lo := lo) hd hc t0 t1 x
  simp only [f_X8_fault, in_v, bd1_in, bz_neg, q1, bd5_in]
  simp only [f_X7_fault, firstFault_D hn hd, firstFault_C hn hc, bd1_in, s1, s3]
  by_cases c : x < 0 ∨ (1 : Int32) < x
  · rw [if_pos c, if_neg (ne2 c).1, if_neg (ne2 c).2]; exact ⟨_, _, _, _, _, rfl, rfl⟩
  · rw [if_neg c]
    rcases in2 c with rfl | rfl
    · exact ⟨_, _, _, _, _, rfl, rfl⟩
    · exact ⟨_, _, _, _, _, rfl, rfl⟩
theorem clen_cong {a b : Nat → Int32} {c m : Nat} (h : ∀ i, i < c → a i = b i) (hm : 3 * m + 1 < c) : clen a m = clen b m := by unfold clen; rw [h _ (by omega), h _ hm]
theorem e_month {n : Nat} (hn : 4000 ≤ n) {ds cs mh mm : Int32} {db cb ty tx dy lo : Nat → Int32} (R : RD ds db cs cb ty tx) (x : Int32) : ∃ r h2 m2 d2 l2, f_X7_month n cs cb x = some r ∧ f_X8_month n mh mm ty tx dy lo x = some (r, h2, m2, d2, l2) := by
  obtain ⟨d, c, hd, hc, rfl, rfl, t0, t1, s1, s2, s3, s4, R1, R2⟩ := RD_same R
  obtain ⟨w1, w2, -, q1, q2, q3⟩ := reads_v hn (mh := mh) (mm := mm) (tx := tx) (dy := dy) (lo := lo) hd hc t0 t1 0
  obtain ⟨h6, hlt⟩ := cmon_facts (b := cb) hc
  simp only [f_X8_month, f_X8_monthOf, q1, bd4_in, in_v, bd1_in, bz_neg]
  simp only [f_X7_month, months_C hn hc, bd1_in, outside_v, bz_pos, bd1_id, s4]
  rw [s4] at h6 hlt
  by_cases e : x < 0 ∨ nI (cmon (fun i => tx (60 + i)) c) - 1 < x
  · rw [if_pos e, if_pos e, bd5_in]; exact ⟨_, _, _, _, _, rfl, rfl⟩
  · rw [if_neg e, if_neg e]
    have e2 : ¬ (x < 0 ∨ ¬ x < nI (cmon (fun i => tx (60 + i)) c)) := fun q => e ((size_out (by omega) x).mpr q)
    obtain ⟨m, hm, rfl⟩ := nI_of (fun q => e2 (Or.inl q))
    have hm2 : m < cmon (fun i => tx (60 + i)) c := (nI_ltI hm (by omega)).mp (Classical.byContradiction (fun q => e2 (Or.inr q)))
    rw [lengthOf_C hc (hlt m hm2), ix_in _ (vp_in_nI (show m < 7 by omega) (by omega)), nI_clamp hm, q3 m hm2, bd5_in, clen_cong R2 (hlt m hm2)]
    exact ⟨_, _, _, _, _, rfl, rfl⟩
/-! counts -/
def wsum (w : Nat → Int32) (m : Nat) : Int32 := fo (fun i (s : Int32) => s + w i) 0 m 0
theorem wsum_s (w : Nat → Int32) (m : Nat) : wsum w (m + 1) = wsum w m + w m := by unfold wsum; rw [fo_last, Nat.zero_add]
theorem csum_s (b : Nat → Int32) (m : Nat) : csum b (m + 1) = csum b m + clen b m := by unfold csum; rw [fo_last, Nat.zero_add]
theorem allWorths_v {n : Nat} (hn : 4000 ≤ n) (w : Nat → Int32) : f_X7_allWorths n w = some (wsum w 6) := by
  unfold f_X7_allWorths
  refine jn1_i (fun kx hkx => ?_)
  refine (lp_fo (fun k i s => L_X7_allWorths_4 w kx k s (nI i)) 6 kx (fun i (s : Int32) => s + w i)
    (fun k s => by rw [L_X7_allWorths_4_s, if_pos (show (6 : Int32) ≤ nI 6 by decide)])
    (fun k i s hi => by rw [L_X7_allWorths_4_s, if_neg (show ¬ (6 : Int32) ≤ nI i from nI_ge (b := 6) hi (by omega)), ix_in _ (vp_in_nI hi (by omega)), nI_clamp (by omega), nI_1]) 6 n 0 0 (by omega) (by omega)).trans ?_
  rw [hkx]; rfl
theorem wsum_cong {a b : Nat → Int32} (h : RA a b) : wsum a 6 = wsum b 6 := fo_cong 6 0 0 (fun j _ hj s => by rw [h j (by omega)])
theorem i_zero (x : Int32) : x + 0 = x := by rw [Int32.add_zero]
theorem sumOf_v {n H M : Nat} (hn : 4000 ≤ n) {x : Int32} (hx : x = 3 ∨ x = 5 ∨ x = 7) {mw w1 w2 : Nat → Int32} {b t : Nat → Int32} (hH : H ≤ 60) (hM : M ≤ 6) (h1 : ∀ i, i < H → w1 i = seen (t i)) (h2 : ∀ m, m < M → w2 m = clen b m) (kx : Int32 → Option (Int32 × Int32 × Int32 × (Nat → Int32) × (Nat → Int32))) : L_X8_sumOf_8 mw x (nI H) (nI M) w1 w2 kx n 0 0 = kx (if x = 3 then nI (fb_ct (plook t) H) else if x = 5 then csum b M else wsum mw 6) := by
  have key : ∀ st : Nat → Int32, st 0 = 0 → (∀ i, i < 60 → st (i + 1) = (if x = 3 then (if i < H ∧ plook t i = true then st i + 1 else st i) else if x = 5 then (if i < M then st i + clen b i else st i) else (if i < 6 then st i + mw i else st i))) → L_X8_sumOf_8 mw x (nI H) (nI M) w1 w2 kx n 0 0 = kx (st 60) := by
    intro st s0 hs
    refine Eq.trans ?_ (lp_st (fun k i s => L_X8_sumOf_8 mw x (nI H) (nI M) w1 w2 kx k s (nI i)) 60 kx st
      (fun k => by rw [L_X8_sumOf_8_s, if_pos (show (60 : Int32) ≤ nI 60 by decide)])
      (fun k i hi => by
        rw [L_X8_sumOf_8_s, if_neg (show ¬ (60 : Int32) ≤ nI i from nI_ge (b := 60) hi (by omega)), hs i hi]
        simp only [jn0_, jn1_, nI_1, nI_clamp (show i < 2 ^ 31 by omega), ix_in _ (vp_in_nI hi (show 60 < 2 ^ 31 by omega))]
        rcases hx with rfl | rfl | rfl
        · rw [if_pos rfl, if_neg (show ¬ (3 : Int32) = 5 by decide), if_neg (show ¬ (3 : Int32) = 7 by decide), if_pos rfl]
          rcases Nat.lt_or_ge i H with q | q
          · rw [if_neg (nI_ge q (by omega)), h1 i q]
            unfold plook
            by_cases e : seen (t i) = -1
            · simp [e]
            · simp [e, q]
          · rw [if_pos (nI_le q (by omega)), if_neg (fun z => by omega)]
            simp
        · rw [if_neg (show ¬ (5 : Int32) = 3 by decide), if_pos rfl, if_neg (show ¬ (5 : Int32) = 7 by decide), if_neg (show ¬ (5 : Int32) = 3 by decide), if_pos rfl]
          rcases Nat.lt_or_ge i M with q | q
          · rw [if_neg (nI_ge q (by omega)), ix_in _ (vp_in_nI (show i < 7 by omega) (by omega)), h2 i q, if_pos q]
            simp
          · rw [if_pos (nI_le q (by omega)), if_neg (by omega)]
            simp
        · rw [if_neg (show ¬ (7 : Int32) = 3 by decide), if_neg (show ¬ (7 : Int32) = 5 by decide), if_pos rfl, if_neg (show ¬ (7 : Int32) = 3 by decide), if_neg (show ¬ (7 : Int32) = 5 by decide)]
          rcases Nat.lt_or_ge i 6 with q | q
          · rw [if_neg (show ¬ (6 : Int32) ≤ nI i from nI_ge (b := 6) q (by omega)), ix_in _ (vp_in_nI q (by omega)), if_pos q]
            simp
          · rw [if_pos (show (6 : Int32) ≤ nI i from nI_le (a := 6) q (by omega)), if_neg (by omega)]
            simp)
      60 n 0 (by omega) (by omega))
    rw [s0]; rfl
  rcases hx with rfl | rfl | rfl
  · rw [key (fun i => nI (fb_ct (plook t) (min i H))) (by simp [fb_ct]; rfl) (fun i hi => by
      rw [if_pos rfl]
      rcases Nat.lt_or_ge i H with q | q
      · rw [Nat.min_eq_left (by omega), Nat.min_eq_left (by omega), fb_ct_succ, nI_if]
        by_cases e : plook t i = true
        · rw [if_pos e, if_pos ⟨q, e⟩]
        · rw [if_neg e, if_neg (fun z => e z.2)]
      · rw [Nat.min_eq_right (by omega), Nat.min_eq_right (by omega), if_neg (fun z => by omega)]), Nat.min_eq_right hH, if_pos rfl]
  · rw [key (fun i => csum b (min i M)) (by simp [csum, fo]) (fun i hi => by
      rw [if_neg (by decide), if_pos rfl]
      rcases Nat.lt_or_ge i M with q | q
      · rw [Nat.min_eq_left (by omega), Nat.min_eq_left (by omega), if_pos q, csum_s]
      · rw [Nat.min_eq_right (by omega), Nat.min_eq_right (by omega), if_neg (by omega)]), Nat.min_eq_right (by omega), if_neg (by decide), if_pos rfl]
  · rw [key (fun i => wsum mw (min i 6)) (by simp [wsum, fo]) (fun i hi => by
      rw [if_neg (by decide), if_neg (by decide)]
      rcases Nat.lt_or_ge i 6 with q | q
      · rw [Nat.min_eq_left (by omega), Nat.min_eq_left (by omega), if_pos q, wsum_s]
      · rw [Nat.min_eq_right (by omega), Nat.min_eq_right (by omega), if_neg (by omega)]), Nat.min_eq_right (by omega), if_neg (by decide), if_neg (by decide)]
theorem sumOf_k {n : Nat} (hn : 4000 ≤ n) {mw w1 w2 : Nat → Int32} {a b x : Int32} (hx : x = 2 ∨ x = 4) (kx : Int32 → Option (Int32 × Int32 × Int32 × (Nat → Int32) × (Nat → Int32))) : ∀ (m k i : Nat) (s : Int32), i + m = 60 → m < k → ∃ s2, L_X8_sumOf_8 mw x a b w1 w2 kx k s (nI i) = kx s2 := by
  intro m
  induction m with
  | zero =>
    intro k i s h1 h2
    obtain ⟨k, rfl⟩ : ∃ q, k = q + 1 := ⟨k - 1, by omega⟩
    exact ⟨s, by rw [L_X8_sumOf_8_s, if_pos (show (60 : Int32) ≤ nI i from nI_le (a := 60) (by omega) (by omega))]⟩
  | succ m ih =>
    intro k i s h1 h2
    obtain ⟨k, rfl⟩ : ∃ q, k = q + 1 := ⟨k - 1, by omega⟩
    obtain ⟨s2, e⟩ := ih k (i + 1) (s + 0 + 0 + 0) (by omega) (by omega)
    refine ⟨s2, ?_⟩
    rw [L_X8_sumOf_8_s, if_neg (show ¬ (60 : Int32) ≤ nI i from nI_ge (b := 60) (by omega) (by omega))]
    simp only [jn0_, jn1_, nI_1]
    rw [if_neg (show ¬ x = 3 by rcases hx with rfl | rfl <;> decide), if_neg (show ¬ x = 5 by rcases hx with rfl | rfl <;> decide), if_neg (show ¬ x = 7 by rcases hx with rfl | rfl <;> decide)]
    exact e

theorem sumOf_n {n : Nat} (hn : 4000 ≤ n) {mw w1 w2 : Nat → Int32} {a b x : Int32} (hx : x = 2 ∨ x = 4) : L_X8_sumOf_8 mw x a b w1 w2 (fun z8_2 => if x = 2 then some (a, a, b, w1, w2) else if x = 4 then some (b, a, b, w1, w2) else some (z8_2, a, b, w1, w2)) n 0 0 = some (if x = 2 then a else b, a, b, w1, w2) := by
  obtain ⟨s2, e⟩ := sumOf_k hn (mw := mw) (w1 := w1) (w2 := w2) (a := a) (b := b) hx (fun z8_2 => if x = 2 then some (a, a, b, w1, w2) else if x = 4 then some (b, a, b, w1, w2) else some (z8_2, a, b, w1, w2)) 60 n 0 0 (by omega) (by omega)
  have e2 : (nI 0) = 0 := by decide
  rw [e2] at e
  rw [e]
  rcases hx with rfl | rfl
  · rw [if_pos rfl, if_pos rfl]
  · rw [if_neg (show ¬ (4 : Int32) = 2 by decide), if_neg (show ¬ (4 : Int32) = 2 by decide), if_pos rfl]

set_option maxRecDepth 100000 in
theorem e_count {T P U : Nat → Nat} {turn phase up mt mp mu : Nat → Int32} (S : Sn T P U turn phase up) (S2 : Sn T P U mt mp mu) {n : Nat} (hn : 4000 ≤ n) {lf mfd ds cs mh mm : Int32} {db cb ty tx dy lo w mw : Nat → Int32} (hl : lf = mfd) (R : RD ds db cs cb ty tx) (RW2 : RA w mw) (x : Int32) : ∃ r h2 m2 d2 l2, f_X7_count n lf turn ds db cs cb w x = some r ∧ f_X8_count n mh mm mfd mt ty tx dy lo mw x = some (r, h2, m2, d2, l2) := by
  subst hl
  obtain ⟨d, c, hd, hc, rfl, rfl, t0, t1, s1, s2, s3, s4, R1, R2⟩ := RD_same R
  obtain ⟨w1, w2, -, q1, q2, q3⟩ := reads_v hn (mh := mh) (mm := mm) (tx := tx) (dy := dy) (lo := lo) hd hc t0 t1 0
  obtain ⟨h6, hlt⟩ := cmon_facts (b := cb) hc
  have hdh := dhours_le tx d
  have hsum : ∀ x : Int32, (x = 3 ∨ x = 5 ∨ x = 7) → f_X8_sumOf n mh mm ty tx dy lo mw x = some (if x = 3 then nI (fb_ct (plook tx) (dhours tx d)) else if x = 5 then csum (fun i => tx (60 + i)) (cmon (fun i => tx (60 + i)) c) else wsum mw 6, nI (dhours tx d), nI (cmon (fun i => tx (60 + i)) c), w1, w2) := fun x hx => by
    unfold f_X8_sumOf
    rw [q1, bd4_in, jn1_, sumOf_v hn hx (by omega) (by rw [← s4]; exact h6) q2 q3]
    rcases hx with rfl | rfl | rfl <;> rfl
  have hsum24 : ∀ x : Int32, (x = 2 ∨ x = 4) → f_X8_sumOf n mh mm ty tx dy lo mw x = some (if x = 2 then nI (dhours tx d) else nI (cmon (fun i => tx (60 + i)) c), nI (dhours tx d), nI (cmon (fun i => tx (60 + i)) c), w1, w2) := fun x hx => by
    unfold f_X8_sumOf
    rw [q1, bd4_in, jn1_]
    exact sumOf_n hn hx
  have hsum2 := hsum24 2 (Or.inl rfl)
  have hsum4 := hsum24 4 (Or.inr rfl)
  rw [if_pos rfl] at hsum2
  rw [if_neg (show ¬ (4 : Int32) = 2 by decide)] at hsum4
  have hcs : csum cb (cmon (fun i => tx (60 + i)) c) = csum (fun i => tx (60 + i)) (cmon (fun i => tx (60 + i)) c) := fo_cong _ 0 0 (fun j _ hj s => by
    rw [clen_cong R2 (hlt j (by rw [s4]; omega))])
  have hpl : fb_ct (plook db) (dhours tx d) = fb_ct (plook tx) (dhours tx d) := fb_ct_cong (fun k hk => by unfold plook; rw [R1 k (by omega)])
  simp only [f_X7_count, f_X8_count, hours_D hn hd, hoursLooked_D hn hd, months_C hn hc, hoursOfAll_C hn hc, hoursOfRound_S S hn, roundNow_S S2 hn, allWorths_v hn, bd1_in, s2, s4, hcs, hpl, wsum_cong RW2]
  by_cases c0 : x = 0
  · subst c0
    simp only [if_true, ix_in _ (show vp_in 0 2 by unfold vp_in; decide), cl0, t0]; exact ⟨_, _, _, _, _, rfl, rfl⟩
  by_cases c1 : x = 1
  · subst c1
    simp only [if_true, ix_in _ (show vp_in 1 2 by unfold vp_in; decide), cl1, t1, if_neg c0]; exact ⟨_, _, _, _, _, rfl, rfl⟩
  by_cases c2 : x = 2
  · subst c2
    simp only [if_true, if_neg c0, if_neg c1, hsum2, bd5_in]; exact ⟨_, _, _, _, _, rfl, rfl⟩
  by_cases c3 : x = 3
  · subst c3
    simp only [if_true, if_neg c0, if_neg c1, if_neg c2, hsum 3 (Or.inl rfl), bd5_in]; exact ⟨_, _, _, _, _, rfl, rfl⟩
  by_cases c4 : x = 4
  · subst c4
    simp only [if_true, if_neg c0, if_neg c1, if_neg c2, if_neg c3, hsum4, bd5_in]; exact ⟨_, _, _, _, _, rfl, rfl⟩
  by_cases c5 : x = 5
  · subst c5
    simp only [if_true, if_neg c0, if_neg c1, if_neg c2, if_neg c3, if_neg c4, hsum 5 (Or.inr (Or.inl rfl)), bd5_in]; exact ⟨_, _, _, _, _, rfl, rfl⟩
  by_cases c6 : x = 6
  · subst c6
    simp only [if_true, if_neg c0, if_neg c1, if_neg c2, if_neg c3, if_neg c4, if_neg c5]; exact ⟨_, _, _, _, _, rfl, rfl⟩
  by_cases c7 : x = 7
  · subst c7
    simp only [if_true, if_neg c0, if_neg c1, if_neg c2, if_neg c3, if_neg c4, if_neg c5, if_neg c6, hsum 7 (Or.inr (Or.inr rfl)), bd5_in]; exact ⟨_, _, _, _, _, rfl, rfl⟩
  by_cases c8 : x = 8
  · subst c8
    simp only [if_true, if_neg c0, if_neg c1, if_neg c2, if_neg c3, if_neg c4, if_neg c5, if_neg c6, if_neg c7]; exact ⟨_, _, _, _, _, rfl, rfl⟩
  simp only [if_neg c0, if_neg c1, if_neg c2, if_neg c3, if_neg c4, if_neg c5, if_neg c6, if_neg c7, if_neg c8]; exact ⟨_, _, _, _, _, rfl, rfl⟩
