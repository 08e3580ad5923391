/-! the digest -/
theorem mixed_v (n : Nat) (a b : Int64) : f_X7_mixed n a b = some (31 * a + b) := rfl
theorem dg_count {T P U : Nat → Nat} {turn phase up mt mp mu : Nat → Int32} (S : Sn T P U turn phase up) (S2 : Sn T P U mt mp mu) {n : Nat} (hn : 4000 ≤ n) {lf mfd ds cs : Int32} {db cb ty tx w mw : Nat → Int32} (hl : lf = mfd) (R : RD ds db cs cb ty tx) (RW2 : RA w mw) : ∀ (m k i : Nat) (y : Int64) (mh mm : Int32) (dy lo : Nat → Int32), i + m = 8 → m < k → ∃ z h2 m2 d2 l2, (∀ kx, L_X7_digest_6 n lf turn ds db cs cb w kx k y (nI i) = kx z) ∧ ∀ kx, L_X8_digest_6 n mfd mt ty tx mw kx k y (nI i) mh mm dy lo = kx z h2 m2 d2 l2 := by
  intro m
  induction m with
  | zero =>
    intro k i y mh mm dy lo h1 h2
    obtain ⟨k, rfl⟩ : ∃ q, k = q + 1 := ⟨k - 1, by omega⟩
    have : i = 8 := by omega
    subst this
    exact ⟨y, mh, mm, dy, lo, fun kx => by rw [L_X7_digest_6_s, if_pos (by decide)], fun kx => by rw [L_X8_digest_6_s, if_pos (by decide)]⟩
  | succ m ih =>
    intro k i y mh mm dy lo h1 h2
    obtain ⟨k, rfl⟩ : ∃ q, k = q + 1 := ⟨k - 1, by omega⟩
    obtain ⟨r, a1, a2, a3, a4, e1, e2⟩ := e_count S S2 hn (mh := mh) (mm := mm) (dy := dy) (lo := lo) hl R RW2 (nI i)
    obtain ⟨z, b1, b2, b3, b4, g1, g2⟩ := ih k (i + 1) (31 * y + r.toInt64) a1 a2 a3 a4 (by omega) (by omega)
    refine ⟨z, b1, b2, b3, b4, fun kx => ?_, fun kx => ?_⟩
    · rw [L_X7_digest_6_s, if_neg (show ¬ (7 : Int32) < nI i from nI_nlt (a := 7) (by omega) (by omega)), e1, bd1_in, mixed_v, bd1_in, nI_1, g1]
    · rw [L_X8_digest_6_s, if_neg (show ¬ (8 : Int32) ≤ nI i from nI_ge (b := 8) (by omega) (by omega)), e2, bd5_in, nI_1, g2]
theorem light_S {T P U : Nat → Nat} {turn phase up : Nat → Int32} (S : Sn T P U turn phase up) (n : Nat) {h : Nat} (hh : h ≤ 1000000000) : f_X7_light n turn phase up (nI h) = some (nI (lgt T P U h)) := by
  simp only [f_X7_light, noHour_v, bd1_in, bz_pos, bd1_id]
  rw [if_neg (show ¬ (nI h < 0 ∨ (1000000000 : Int32) < nI h) from rng_in (a := 1000000000) (by omega) hh), lightIn_S S n (by omega)]
theorem lasts_S {T P U : Nat → Nat} {turn phase up : Nat → Int32} (S : Sn T P U turn phase up) {n : Nat} (hn : 4000 ≤ n) {h : Nat} (hh : h ≤ 1000000000) : f_X7_lasts n turn phase up (nI h) = some (nI (sp_lasts T P U h)) := by
  simp only [f_X7_lasts, noHour_v, bd1_in, bz_pos, bd1_id]
  rw [if_neg (show ¬ (nI h < 0 ∨ (1000000000 : Int32) < nI h) from rng_in (a := 1000000000) (by omega) hh), unchangedFrom_S S hn hh]
theorem next_S {T P U : Nat → Nat} {turn phase up : Nat → Int32} (S : Sn T P U turn phase up) {n : Nat} (hn : 4000 ≤ n) {h : Nat} (hh : h ≤ 1000000000) {l : Int32} (hl : ¬ (l < 0 ∨ (3 : Int32) < l)) : f_X7_next n turn phase up (nI h) l = some (sp_next T P U h l) := by
  simp only [f_X7_next, noHour_v, noLight_v, bd1_in, bz_pos, bd1_id, jn0_]
  rw [if_neg (show ¬ (nI h < 0 ∨ (1000000000 : Int32) < nI h) from rng_in (a := 1000000000) (by omega) hh), if_neg hl, firstWith_S S hn hh]
theorem place_S {T P U : Nat → Nat} {turn phase up : Nat → Int32} (S : Sn T P U turn phase up) (n : Nat) {q h : Nat} (hq : q < 2) (hh : h ≤ 1000000000) : f_X7_place n turn phase (nI q) (nI h) = some (nI (pla T P q h)) := by
  simp only [f_X7_place, noHour_v, bd1_in, bz_pos, bd1_id]
  rw [if_neg (show ¬ (nI h < 0 ∨ (1000000000 : Int32) < nI h) from rng_in (a := 1000000000) (by omega) hh), if_neg (show ¬ (nI h < 0 ∨ (1000000000 : Int32) < nI h) from rng_in (a := 1000000000) (by omega) hh)]
  match q, hq with
  | 0, _ => rw [if_pos (show nI 0 = 0 from rfl)]; exact placeIn_S S n (k := 0) (by omega) (by omega)
  | 1, _ => rw [if_neg (show ¬ nI 1 = 0 by decide), if_pos (show nI 1 = 1 from rfl)]; exact placeIn_S S n (k := 1) (by omega) (by omega)
theorem dg_spells {T P U : Nat → Nat} {turn phase up mt mp mu : Nat → Int32} (S : Sn T P U turn phase up) (S2 : Sn T P U mt mp mu) {n : Nat} (hn : 4000 ≤ n) {l : Nat} (hl : l < 4) : ∀ (m k i : Nat) (y : Int64), i + m = 3 → m < k → ∃ z, (∀ kx, L_X7_mixedLights_28 n turn phase up (nI l) kx k y (nI i) = kx z) ∧ ∀ kx, L_X8_digest_138 n mt mp mu (nI l) kx k y (nI i) = kx z := by
  intro m
  induction m with
  | zero =>
    intro k i y h1 h2
    obtain ⟨k, rfl⟩ : ∃ q, k = q + 1 := ⟨k - 1, by omega⟩
    have : i = 3 := by omega
    subst this
    exact ⟨y, fun kx => by rw [L_X7_mixedLights_28_s, if_pos (by decide)], fun kx => by rw [L_X8_digest_138_s, if_pos (by decide)]⟩
  | succ m ih =>
    intro k i y h1 h2
    obtain ⟨k, rfl⟩ : ∃ q, k = q + 1 := ⟨k - 1, by omega⟩
    have hi : nI i = 0 ∨ nI i = 1 ∨ nI i = 2 := in3 (show ¬ (nI i < 0 ∨ (2 : Int32) < nI i) from rng_in (a := 2) (by omega) (by omega))
    obtain ⟨z, g1, g2⟩ := ih k (i + 1) (31 * y + (sp_spells T P U (nI l) (nI i)).toInt64) (by omega) (by omega)
    refine ⟨z, fun kx => ?_, fun kx => ?_⟩
    · rw [L_X7_mixedLights_28_s, if_neg (show ¬ (2 : Int32) < nI i from nI_nlt (a := 2) (by omega) (by omega)), spells_S S hn (show ¬ (nI l < 0 ∨ (3 : Int32) < nI l) from rng_in (a := 3) (by omega) (by omega)) hi, bd1_in, mixed_v, bd1_in, nI_1, g1]
    · rw [L_X8_digest_138_s, if_neg (show ¬ (3 : Int32) ≤ nI i from nI_ge (b := 3) (by omega) (by omega)), spellsOf_S S2 hn, bd1_in, nI_1, g2]
theorem dg_lights {T P U : Nat → Nat} {turn phase up mt mp mu : Nat → Int32} (S : Sn T P U turn phase up) (S2 : Sn T P U mt mp mu) {n : Nat} (hn : 4000 ≤ n) : ∀ (m k i : Nat) (y : Int64), i + m = 4 → m < k → ∃ z, (∀ kx, L_X7_mixedLights_5 n turn phase up kx k y (nI i) = kx z) ∧ ∀ kx, L_X8_digest_115 n mt mp mu kx k y (nI i) = kx z := by
  intro m
  induction m with
  | zero =>
    intro k i y h1 h2
    obtain ⟨k, rfl⟩ : ∃ q, k = q + 1 := ⟨k - 1, by omega⟩
    have : i = 4 := by omega
    subst this
    exact ⟨y, fun kx => by rw [L_X7_mixedLights_5_s, if_pos (by decide)], fun kx => by rw [L_X8_digest_115_s, if_pos (by decide)]⟩
  | succ m ih =>
    intro k i y h1 h2
    obtain ⟨k, rfl⟩ : ∃ q, k = q + 1 := ⟨k - 1, by omega⟩
    obtain ⟨z0, f1, f2⟩ := dg_spells S S2 hn (l := i) (by omega) 3 n 0 (31 * y + (sp_next T P U 50 (nI i)).toInt64) (by omega) (by omega)
    obtain ⟨z, g1, g2⟩ := ih k (i + 1) z0 (by omega) (by omega)
    have e7 : f_X7_next n turn phase up 50 (nI i) = some (sp_next T P U 50 (nI i)) := next_S S hn (h := 50) (by omega) (show ¬ (nI i < 0 ∨ (3 : Int32) < nI i) from rng_in (a := 3) (by omega) (by omega))
    have e8 : f_X8_nextOf n mt mp mu 50 (nI i) = some (sp_next T P U 50 (nI i)) := nextOf_S S2 hn (h := 50) (by omega) _
    refine ⟨z, fun kx => ?_, fun kx => ?_⟩
    · rw [L_X7_mixedLights_5_s, if_neg (show ¬ (4 : Int32) ≤ nI i from nI_ge (b := 4) (by omega) (by omega)), e7, bd1_in, mixed_v, bd1_in, jn1_]
      refine (f1 _).trans ?_
      rw [nI_1]
      exact g1 kx
    · rw [L_X8_digest_115_s, if_neg (show ¬ (4 : Int32) ≤ nI i from nI_ge (b := 4) (by omega) (by omega)), e8, bd1_in, jn1_]
      refine (f2 _).trans ?_
      rw [nI_1]
      exact g2 kx
theorem dr_same {T P U : Nat → Nat} {cb tx : Nat → Int32} {c q x : Nat} (hc : c ≤ 20) (R2 : ∀ i, i < c → cb i = tx (60 + i)) (s4 : cmon cb c = cmon (fun i => tx (60 + i)) c) : dr_v T P U q (fun i => tx (60 + i)) (cmon (fun i => tx (60 + i)) c) x = dr_v T P U q cb (cmon cb c) x := by
  rw [← s4]
  unfold dr_v
  by_cases z : U q = 0 ∨ cmon cb c = 0
  · rw [if_pos z, if_pos z]
  · rw [if_neg z, if_neg z, sp_drift_cong (a := cb) R2 (by omega) (cmon_facts (b := cb) hc).2]
theorem dg_suns {T P U : Nat → Nat} {turn phase up mt mp mu : Nat → Int32} (S : Sn T P U turn phase up) (S2 : Sn T P U mt mp mu) {n : Nat} (hn : 4000 ≤ n) {d c : Nat} {cb ty tx : Nat → Int32} (hd : d ≤ 60) (hc : c ≤ 20) (t0 : ty 0 = nI d) (t1 : ty 1 = nI c) (R2 : ∀ i, i < c → cb i = tx (60 + i)) (s4 : cmon cb c = cmon (fun i => tx (60 + i)) c) : ∀ (m k i : Nat) (y : Int64) (mh mm : Int32) (dy lo : Nat → Int32), i + m = 2 → m < k → ∃ z h2 m2 d2 l2, (∀ kx, L_X7_mixedSuns_5 n turn phase up (nI c) cb kx k y (nI i) = kx z) ∧ ∀ kx, L_X8_digest_173 n mt mp mu ty tx kx k y (nI i) mh mm dy lo = kx z h2 m2 d2 l2 := by
  intro m
  induction m with
  | zero =>
    intro k i y mh mm dy lo h1 h2
    obtain ⟨k, rfl⟩ : ∃ q, k = q + 1 := ⟨k - 1, by omega⟩
    have : i = 2 := by omega
    subst this
    exact ⟨y, mh, mm, dy, lo, fun kx => by rw [L_X7_mixedSuns_5_s, if_pos (by decide)], fun kx => by rw [L_X8_digest_173_s, if_pos (by decide)]⟩
  | succ m ih =>
    intro k i y mh mm dy lo h1 h2
    obtain ⟨k, rfl⟩ : ∃ q, k = q + 1 := ⟨k - 1, by omega⟩
    have hi : i < 2 := by omega
    have p7 : f_X7_place n turn phase (nI i) 77 = some (nI (pla T P i 77)) := place_S S n (h := 77) hi (by omega)
    have p8 : f_X8_placeOf n mt mp (nI i) 77 = some (nI (pla T P i 77)) := placeOf_S S2 n (h := 77) hi (by omega)
    have r7 : f_X7_drift n turn phase up (nI c) cb (nI i) 9 = some (dr_v T P U i cb (cmon cb c) 9) := drift_S S hn (x := 9) hi hc (by omega) (by omega)
    obtain ⟨w1, w2, r8⟩ := driftOf_S S2 hn (q := i) (x := 9) (mh := mh) (mm := mm) (tx := tx) (dy := dy) (lo := lo) hi hd hc t0 t1 (by omega)
    have r8' : f_X8_driftOf n mh mm mt mp mu ty tx dy lo (nI i) 9 = some (dr_v T P U i cb (cmon cb c) 9, nI (dhours tx d), nI (cmon (fun i => tx (60 + i)) c), w1, w2) := by rw [← dr_same hc R2 s4]; exact r8
    have s70 : f_X7_shortest n turn phase up (nI i) 4 20 0 = some (sp_short T P U i 4 20 0) := shortest_S S hn (x := 4) (h := 20) hi (by omega) (by omega) (by omega) (Or.inl rfl)
    have s71 : f_X7_shortest n turn phase up (nI i) 4 20 1 = some (sp_short T P U i 4 20 1) := shortest_S S hn (x := 4) (h := 20) hi (by omega) (by omega) (by omega) (Or.inr rfl)
    have s80 : f_X8_shortestOf n mt mp mu (nI i) 4 20 0 = some (sp_short T P U i 4 20 0) := shortestOf_S S2 hn (x := 4) (h := 20) hi (by omega) (by omega) (by omega) 0
    have s81 : f_X8_shortestOf n mt mp mu (nI i) 4 20 1 = some (sp_short T P U i 4 20 1) := shortestOf_S S2 hn (x := 4) (h := 20) hi (by omega) (by omega) (by omega) 1
    have c70 : f_X7_clouds n turn phase up (nI i) 3 5 4 0 = some (sp_clouds T P U i 3 5 4 0) := clouds_S S (h := 3) (m := 5) (X := 4) hn hi (by omega) (by omega) (by omega) (Or.inl rfl)
    have c71 : f_X7_clouds n turn phase up (nI i) 3 5 4 1 = some (sp_clouds T P U i 3 5 4 1) := clouds_S S (h := 3) (m := 5) (X := 4) hn hi (by omega) (by omega) (by omega) (Or.inr rfl)
    have c80 : f_X8_cloudsOf n mt mp mu (nI i) 3 5 4 0 = some (sp_clouds T P U i 3 5 4 0) := cloudsOf_S S2 (h := 3) (m := 5) (X := 4) hn hi (by omega) (by omega) (by omega) 0
    have c81 : f_X8_cloudsOf n mt mp mu (nI i) 3 5 4 1 = some (sp_clouds T P U i 3 5 4 1) := cloudsOf_S S2 (h := 3) (m := 5) (X := 4) hn hi (by omega) (by omega) (by omega) 1
    obtain ⟨z, b1, b2, b3, b4, g1, g2⟩ := ih k (i + 1) (31 * (31 * (31 * (31 * (31 * (31 * (31 * y + (sp_without T U i).toInt64) + (nI (pla T P i 77)).toInt64) + (dr_v T P U i cb (cmon cb c) 9).toInt64) + (sp_short T P U i 4 20 0).toInt64) + (sp_short T P U i 4 20 1).toInt64) + sp_clouds T P U i 3 5 4 0) + sp_clouds T P U i 3 5 4 1) (nI (dhours tx d)) (nI (cmon (fun i => tx (60 + i)) c)) w1 w2 (by omega) (by omega)
    refine ⟨z, b1, b2, b3, b4, fun kx => ?_, fun kx => ?_⟩
    · rw [L_X7_mixedSuns_5_s, if_neg (show ¬ (1 : Int32) < nI i from nI_nlt (a := 1) (by omega) (by omega)), without_S S hn hi, bd1_in, mixed_v, bd1_in, p7, bd1_in, mixed_v, bd1_in, r7, bd1_in, mixed_v, bd1_in, s70, bd1_in, mixed_v, bd1_in, s71, bd1_in, mixed_v, bd1_in, c70, bd1_in, mixed_v, bd1_in, c71, bd1_in, mixed_v, bd1_in, nI_1]
      exact g1 kx
    · rw [L_X8_digest_173_s, if_neg (show ¬ (2 : Int32) ≤ nI i from nI_ge (b := 2) (by omega) (by omega)), withoutOf_S S2 hn hi, bd1_in, p8, bd1_in, r8', bd5_in, s80, bd1_in, s81, bd1_in, c80, bd1_in, c81, bd1_in, nI_1]
      exact g2 kx
theorem dg_crops {T P U : Nat → Nat} {turn phase up mt mp mu : Nat → Int32} (S : Sn T P U turn phase up) (S2 : Sn T P U mt mp mu) {n : Nat} (hn : 4000 ≤ n) {ph : Nat → Int32} {pg : Nat → Nat → Int32} {rp gr : Nat → Int32} (R : RP ph pg rp gr) : ∀ (m k i : Nat) (y : Int64), i + m = 4 → m < k → ∃ z, (∀ kx, L_X7_digest_227 n turn phase up ph pg kx k y (nI i) = kx z) ∧ ∀ kx, L_X8_digest_426 n mt mp mu rp gr kx k y (nI i) = kx z := by
  intro m
  induction m with
  | zero =>
    intro k i y h1 h2
    obtain ⟨k, rfl⟩ : ∃ q, k = q + 1 := ⟨k - 1, by omega⟩
    have : i = 4 := by omega
    subst this
    exact ⟨y, fun kx => by rw [L_X7_digest_227_s, if_pos (by decide)], fun kx => by rw [L_X8_digest_426_s, if_pos (by decide)]⟩
  | succ m ih =>
    intro k i y h1 h2
    obtain ⟨k, rfl⟩ : ∃ q, k = q + 1 := ⟨k - 1, by omega⟩
    obtain ⟨r, e1, e2⟩ := crop_S S S2 hn R (k := i) (h := 5) (by omega) (by omega)
    have e1' : f_X7_crop n turn phase up ph pg (nI i) 5 = some r := by
      rw [crop_v n turn phase up ph pg (by omega), if_neg (by decide)]; exact e1
    have e2' : f_X8_cropOf n mt mp mu rp gr (nI i) 5 = some r := e2
    obtain ⟨z, g1, g2⟩ := ih k (i + 1) (31 * y + r.toInt64) (by omega) (by omega)
    refine ⟨z, fun kx => ?_, fun kx => ?_⟩
    · rw [L_X7_digest_227_s, if_neg (show ¬ (4 : Int32) ≤ nI i from nI_ge (b := 4) (by omega) (by omega)), e1', bd1_in, mixed_v, bd1_in, nI_1, g1]
    · rw [L_X8_digest_426_s, if_neg (show ¬ (4 : Int32) ≤ nI i from nI_ge (b := 4) (by omega) (by omega)), e2', bd1_in, nI_1, g2]
theorem i01 : (0 : Int32) + 1 = 1 := rfl
theorem i12 : (1 : Int32) + 1 = 2 := rfl
theorem e_digest {T P U : Nat → Nat} {turn phase up mt mp mu : Nat → Int32} (S : Sn T P U turn phase up) (S2 : Sn T P U mt mp mu) {n : Nat} (hn : 4000 ≤ n) {lf mfd ds cs mh mm fm fi : Int32} {db cb ty tx dy lo w mw aw maw ft ct gn bf : Nat → Int32} {fit wl2 : Nat → Nat → Int32} {ph : Nat → Int32} {pg : Nat → Nat → Int32} {rp gr : Nat → Int32} (hl : lf = mfd) (R : RD ds db cs cb ty tx) (RW2 : RA w mw) (RA2 : RA aw maw) (RPl : RP ph pg rp gr) : ∃ r o1 o2 o3 h2 m2 a2 b2 w1 w2 g2 c2 n2, f_X7_digest n lf turn phase up fit wl2 ds db cs cb aw w ph pg bf = some (r, o1, o2, o3) ∧ f_X8_digest n mh mm fm fi mfd mt mp mu ty tx dy lo maw ft ct mw rp gr gn = some (r, h2, m2, a2, b2, w1, w2, g2, c2, n2) := by
  obtain ⟨za, ah, am, ad, al, A1, A2⟩ := dg_count S S2 hn hl R RW2 8 n 0 17 mh mm dy lo (by omega) (by omega)
  obtain ⟨d, c, hd, hc, rfl, rfl, t0, t1, s1, s2, s3, s4, R1, R2⟩ := RD_same R
  have A1' : ∀ kx, L_X7_digest_6 n lf turn (nI d) db (nI c) cb w kx n 17 0 = kx za := A1
  have A2' : ∀ kx, L_X8_digest_6 n mfd mt ty tx mw kx n 17 0 mh mm dy lo = kx za ah am ad al := A2
  have F70 : f_X7_fault n (nI d) db (nI c) cb 0 = some (dfault db d) := by
    simp only [f_X7_fault, firstFault_D hn hd, bd1_in]; rfl
  have F71 : f_X7_fault n (nI d) db (nI c) cb 1 = some (cfault cb c) := by
    simp only [f_X7_fault, firstFault_C hn hc, bd1_in]; rfl
  obtain ⟨w1, w2, F80, -, -⟩ := reads_v hn (mh := ah) (mm := am) (tx := tx) (dy := ad) (lo := al) hd hc t0 t1 0
  obtain ⟨w3, w4, F81, -, -⟩ := reads_v hn (mh := nI (dhours tx d)) (mm := nI (cmon (fun i => tx (60 + i)) c)) (tx := tx) (dy := w1) (lo := w2) hd hc t0 t1 1
  rw [if_pos rfl] at F80
  rw [if_neg (by decide)] at F81
  have L0 : f_X7_light n turn phase up 0 = some (nI (lgt T P U 0)) := light_S S n (h := 0) (by omega)
  have L7 : f_X7_light n turn phase up 7 = some (nI (lgt T P U 7)) := light_S S n (h := 7) (by omega)
  have L9 : f_X7_light n turn phase up 999 = some (nI (lgt T P U 999)) := light_S S n (h := 999) (by omega)
  have M0 : f_X8_lightOf n mt mp mu 0 = some (nI (lgt T P U 0)) := lightOf_S S2 n (h := 0) (by omega)
  have M7 : f_X8_lightOf n mt mp mu 7 = some (nI (lgt T P U 7)) := lightOf_S S2 n (h := 7) (by omega)
  have M9 : f_X8_lightOf n mt mp mu 999 = some (nI (lgt T P U 999)) := lightOf_S S2 n (h := 999) (by omega)
  have Q7 : f_X7_lasts n turn phase up 7 = some (nI (sp_lasts T P U 7)) := lasts_S S hn (h := 7) (by omega)
  have Q8 : f_X8_lastsOf n mt mp mu 7 = some (nI (sp_lasts T P U 7)) := lastsOf_S S2 hn (h := 7) (by omega)
  obtain ⟨zb, B1, B2⟩ := dg_lights S S2 hn 4 n 0 (31 * (31 * (31 * (31 * (31 * (31 * za + (dfault db d).toInt64) + (cfault cb c).toInt64) + (nI (lgt T P U 0)).toInt64) + (nI (lgt T P U 7)).toInt64) + (nI (lgt T P U 999)).toInt64) + (nI (sp_lasts T P U 7)).toInt64) (by omega) (by omega)
  have B1' : f_X7_mixedLights n turn phase up (31 * (31 * (31 * (31 * (31 * (31 * za + (dfault db d).toInt64) + (cfault cb c).toInt64) + (nI (lgt T P U 0)).toInt64) + (nI (lgt T P U 7)).toInt64) + (nI (lgt T P U 999)).toInt64) + (nI (sp_lasts T P U 7)).toInt64) = some zb := B1 _
  obtain ⟨zc, ch, cm, cd, cl2, C1, C2⟩ := dg_suns S S2 hn hd hc t0 t1 R2 s4 2 n 0 zb (nI (dhours tx d)) (nI (cmon (fun i => tx (60 + i)) c)) w3 w4 (by omega) (by omega)
  have C1' : f_X7_mixedSuns n turn phase up (nI c) cb zb = some zc := C1 _
  have T7 : ∀ v, (v = 0 ∨ v = 1) → f_X7_together n turn phase up aw 7 2 9 v = some (if v = 0 then sp_aw T P U (sp_lights aw 7) 2 9 else sp_best T P U (sp_lights aw 7) 2 9) := fun v hv => together_S S hn aw (x := 7) (by decide) (h := 2) (m := 9) (by omega) (by omega) (by omega) hv
  have T8 : ∀ v, (v = 0 ∨ v = 1) → f_X8_togetherOf n mt mp mu maw 7 2 9 v = some (if v = 0 then sp_aw T P U (sp_lights aw 7) 2 9 else sp_best T P U (sp_lights aw 7) 2 9) := fun v hv => by
    rw [sp_lights_cong (a := aw) (b := maw) RA2]
    exact togetherOf_S S2 hn maw 7 (h := 2) (m := 9) (by omega) (by omega) (by omega) hv
  have D7 : ∀ v, (v = 0 ∨ v = 1) → f_X7_dials n turn phase up 1 2 v = some (sp_dials T P U 1 2 v) := fun v hv => dials_S S hn (by decide) (by decide) hv
  have D8 : ∀ v, f_X8_dialsOf n mt mp mu 1 2 v = some (sp_dials T P U 1 2 v) := fun v => dialsOf_S S2 hn 1 2 v
  obtain ⟨fo1, G70⟩ := fits_S S hn (b := db) hd fit (Or.inl rfl)
  obtain ⟨fo2, G71⟩ := fits_S S hn (b := db) hd fo1 (Or.inr rfl)
  obtain ⟨h1, m1, a1, b1, u1, u2, g1, G80⟩ := fitsOf_S S2 hn (mh := ch) (mm := cm) (fm := fm) (fi := fi) (tx := tx) (dy := cd) (lo := cl2) (ft := ft) hd hc t0 t1 0
  obtain ⟨h2, m2, a2, b2, u3, u4, g2, G81⟩ := fitsOf_S S2 hn (mh := h1) (mm := m1) (fm := a1) (fi := b1) (tx := tx) (dy := u1) (lo := u2) (ft := g1) hd hc t0 t1 1
  have hdh := dhours_le tx d
  have sq : ∀ i, i < dhours tx d → seen (db i) = seen (tx i) := fun i hi => by rw [R1 i (by omega)]
  rw [s2, sp_fits_cong sq] at G70 G71
  obtain ⟨wo1, wp1, W70⟩ := watch_S S hn (b := db) hd fo2 wl2 (Or.inl rfl)
  obtain ⟨wo2, wp2, W71⟩ := watch_S S hn (b := db) hd wo1 wp1 (Or.inr rfl)
  rw [s2, sp_watch_cong sq] at W70 W71
  obtain ⟨h3, m3, a3, b3, u5, u6, g3, k3, W80⟩ := watchOf_S S2 hn (mh := h2) (mm := m2) (fm := a2) (fi := b2) (tx := tx) (dy := u3) (lo := u4) (ft := g2) (ct := ct) hd hc t0 t1 0
  obtain ⟨h4, m4, a4, b4, u7, u8, g4, k4, W81⟩ := watchOf_S S2 hn (mh := h3) (mm := m3) (fm := a3) (fi := b3) (tx := tx) (dy := u5) (lo := u6) (ft := g3) (ct := k3) hd hc t0 t1 1
  have P7 : f_X7_price n aw w 2 = some (sp_price aw w 2) := price_S hn aw w (x := 2) (by omega)
  have P8 : f_X8_priceOf n maw mw 2 = some (sp_price aw w 2) := priceOf_S hn RA2 RW2 (x := 2) (by omega)
  have tw : ∀ {X : Type} (a b : X), (if (0 : Int32) = 0 then a else b) = a := fun a b => if_pos rfl
  obtain ⟨zd, E1, E2⟩ := dg_crops S S2 hn RPl 4 n 0 (31 * (31 * (31 * (31 * (31 * (31 * (31 * (31 * (31 * zc + (sp_aw T P U (sp_lights aw 7) 2 9).toInt64) + (sp_best T P U (sp_lights aw 7) 2 9).toInt64) + (sp_dials T P U 1 2 0).toInt64) + (sp_dials T P U 1 2 1).toInt64) + (sp_fits T U (fun i => seen (tx i)) (dhours tx d) 0).toInt64) + (sp_fits T U (fun i => seen (tx i)) (dhours tx d) 1).toInt64) + (sp_watch T U (fun i => seen (tx i)) (dhours tx d) 0).toInt64) + (sp_watch T U (fun i => seen (tx i)) (dhours tx d) 1).toInt64) + (sp_price aw w 2).toInt64) (by omega) (by omega)
  obtain ⟨r1, po1, qo1, X70, X80⟩ := planting_S S S2 hn RPl (h := 1) (m := 12) (by omega) (by omega) (Or.inl rfl) bf gn
  obtain ⟨r2, po2, qo2, X71, X81⟩ := planting_S S S2 hn RPl (h := 1) (m := 12) (by omega) (by omega) (Or.inr rfl) po1 qo1
  have U113 : ∀ kx, L_X7_digest_113 n turn phase up aw kx n zc 0 = kx (31 * (31 * zc + (sp_aw T P U (sp_lights aw 7) 2 9).toInt64) + (sp_best T P U (sp_lights aw 7) 2 9).toInt64) := fun kx => by
    have t0' := T7 0 (Or.inl rfl)
    have t1' := T7 1 (Or.inr rfl)
    obtain ⟨n3, e⟩ : ∃ q, n = q + 3 := ⟨n - 3, by omega⟩
    have gen : ∀ N, L_X7_digest_113 n turn phase up aw kx (N + 3) zc 0 = kx (31 * (31 * zc + (sp_aw T P U (sp_lights aw 7) 2 9).toInt64) + (sp_best T P U (sp_lights aw 7) 2 9).toInt64) := fun N => by
      rw [L_X7_digest_113_s, if_neg (by decide), t0', bd1_in, mixed_v, bd1_in, i01, L_X7_digest_113_s, if_neg (by decide), t1', bd1_in, mixed_v, bd1_in, i12, L_X7_digest_113_s, if_pos (by decide)]
      rfl
    have := gen n3
    rw [← e] at this
    exact this
  have U142 : ∀ y kx, L_X7_digest_142 n turn phase up kx n y 0 = kx (31 * (31 * y + (sp_dials T P U 1 2 0).toInt64) + (sp_dials T P U 1 2 1).toInt64) := fun y kx => by
    have t0' := D7 0 (Or.inl rfl)
    have t1' := D7 1 (Or.inr rfl)
    obtain ⟨n3, e⟩ : ∃ q, n = q + 3 := ⟨n - 3, by omega⟩
    have gen : ∀ N, L_X7_digest_142 n turn phase up kx (N + 3) y 0 = kx (31 * (31 * y + (sp_dials T P U 1 2 0).toInt64) + (sp_dials T P U 1 2 1).toInt64) := fun N => by
      rw [L_X7_digest_142_s, if_neg (by decide), t0', bd1_in, mixed_v, bd1_in, i01, L_X7_digest_142_s, if_neg (by decide), t1', bd1_in, mixed_v, bd1_in, i12, L_X7_digest_142_s, if_pos (by decide)]
    have := gen n3
    rw [← e] at this
    exact this
  have U168 : ∀ y kx, L_X7_digest_168 n turn up (nI d) db kx n y 0 fit = kx (31 * (31 * y + (sp_fits T U (fun i => seen (tx i)) (dhours tx d) 0).toInt64) + (sp_fits T U (fun i => seen (tx i)) (dhours tx d) 1).toInt64) fo2 := fun y kx => by
    obtain ⟨n3, e⟩ : ∃ q, n = q + 3 := ⟨n - 3, by omega⟩
    have gen : ∀ N, L_X7_digest_168 n turn up (nI d) db kx (N + 3) y 0 fit = kx (31 * (31 * y + (sp_fits T U (fun i => seen (tx i)) (dhours tx d) 0).toInt64) + (sp_fits T U (fun i => seen (tx i)) (dhours tx d) 1).toInt64) fo2 := fun N => by
      rw [L_X7_digest_168_s, if_neg (by decide), G70, bd2_in, mixed_v, bd1_in, i01, L_X7_digest_168_s, if_neg (by decide), G71, bd2_in, mixed_v, bd1_in, i12, L_X7_digest_168_s, if_pos (by decide)]
    have := gen n3
    rw [← e] at this
    exact this
  have U192 : ∀ y kx, L_X7_digest_192 n turn up (nI d) db kx n y 0 fo2 wl2 = kx (31 * (31 * y + (sp_watch T U (fun i => seen (tx i)) (dhours tx d) 0).toInt64) + (sp_watch T U (fun i => seen (tx i)) (dhours tx d) 1).toInt64) wo2 wp2 := fun y kx => by
    obtain ⟨n3, e⟩ : ∃ q, n = q + 3 := ⟨n - 3, by omega⟩
    have gen : ∀ N, L_X7_digest_192 n turn up (nI d) db kx (N + 3) y 0 fo2 wl2 = kx (31 * (31 * y + (sp_watch T U (fun i => seen (tx i)) (dhours tx d) 0).toInt64) + (sp_watch T U (fun i => seen (tx i)) (dhours tx d) 1).toInt64) wo2 wp2 := fun N => by
      rw [L_X7_digest_192_s, if_neg (by decide), W70, bd3_in, mixed_v, bd1_in, i01, L_X7_digest_192_s, if_neg (by decide), W71, bd3_in, mixed_v, bd1_in, i12, L_X7_digest_192_s, if_pos (by decide)]
    have := gen n3
    rw [← e] at this
    exact this
  have X70' : f_X7_planting n turn phase up ph pg bf 1 12 0 = some (r1, po1) := X70
  have X71' : f_X7_planting n turn phase up ph pg po1 1 12 1 = some (r2, po2) := X71
  have X80' : f_X8_plantingOf n mt mp mu rp gr gn 1 12 0 = some (r1, qo1) := X80
  have X81' : f_X8_plantingOf n mt mp mu rp gr qo1 1 12 1 = some (r2, qo2) := X81
  have U252 : ∀ kx, L_X7_digest_252 n turn phase up ph pg kx n zd 0 bf = kx (31 * (31 * zd + r1.toInt64) + r2.toInt64) po2 := fun kx => by
    obtain ⟨n3, e⟩ : ∃ q, n = q + 3 := ⟨n - 3, by omega⟩
    have gen : ∀ N, L_X7_digest_252 n turn phase up ph pg kx (N + 3) zd 0 bf = kx (31 * (31 * zd + r1.toInt64) + r2.toInt64) po2 := fun N => by
      rw [L_X7_digest_252_s, if_neg (by decide), X70', bd2_in, mixed_v, bd1_in, i01, L_X7_digest_252_s, if_neg (by decide), X71', bd2_in, mixed_v, bd1_in, i12, L_X7_digest_252_s, if_pos (by decide)]
    have := gen n3
    rw [← e] at this
    exact this
  have E1' : ∀ kx, L_X7_digest_227 n turn phase up ph pg kx n (31 * (31 * (31 * (31 * (31 * (31 * (31 * (31 * (31 * zc + (sp_aw T P U (sp_lights aw 7) 2 9).toInt64) + (sp_best T P U (sp_lights aw 7) 2 9).toInt64) + (sp_dials T P U 1 2 0).toInt64) + (sp_dials T P U 1 2 1).toInt64) + (sp_fits T U (fun i => seen (tx i)) (dhours tx d) 0).toInt64) + (sp_fits T U (fun i => seen (tx i)) (dhours tx d) 1).toInt64) + (sp_watch T U (fun i => seen (tx i)) (dhours tx d) 0).toInt64) + (sp_watch T U (fun i => seen (tx i)) (dhours tx d) 1).toInt64) + (sp_price aw w 2).toInt64) 0 = kx zd := E1
  have E2' : ∀ kx, L_X8_digest_426 n mt mp mu rp gr kx n (31 * (31 * (31 * (31 * (31 * (31 * (31 * (31 * (31 * zc + (sp_aw T P U (sp_lights aw 7) 2 9).toInt64) + (sp_best T P U (sp_lights aw 7) 2 9).toInt64) + (sp_dials T P U 1 2 0).toInt64) + (sp_dials T P U 1 2 1).toInt64) + (sp_fits T U (fun i => seen (tx i)) (dhours tx d) 0).toInt64) + (sp_fits T U (fun i => seen (tx i)) (dhours tx d) 1).toInt64) + (sp_watch T U (fun i => seen (tx i)) (dhours tx d) 0).toInt64) + (sp_watch T U (fun i => seen (tx i)) (dhours tx d) 1).toInt64) + (sp_price aw w 2).toInt64) 0 = kx zd := E2
  refine ⟨31 * (31 * zd + r1.toInt64) + r2.toInt64, wo2, wp2, po2, h4, m4, a4, b4, u7, u8, g4, k4, qo2, ?_, ?_⟩
  · unfold f_X7_digest
    rw [jn1_, A1', F70, bd1_in, mixed_v, bd1_in, F71, bd1_in, mixed_v, bd1_in, L0, bd1_in, mixed_v, bd1_in, L7, bd1_in, mixed_v, bd1_in, L9, bd1_in, mixed_v, bd1_in, Q7, bd1_in, mixed_v, bd1_in, B1', bd1_in, C1', bd1_in, jn1_, U113, jn1_, U142, jn2_, U168, jn3_, U192, P7, bd1_in, mixed_v, bd1_in, jn1_, E1', jn2_, U252]
  · unfold f_X8_digest
    rw [jn5_, A2', F80, bd5_in, F81, bd5_in, M0, bd1_in, M7, bd1_in, M9, bd1_in, Q8, bd1_in, jn1_, ← s1, ← s3]
    refine (B2 _).trans ?_
    rw [jn5_]
    refine (C2 _).trans ?_
    have T80 := T8 0 (Or.inl rfl)
    have T81 := T8 1 (Or.inr rfl)
    rw [if_pos rfl] at T80
    rw [if_neg (by decide)] at T81
    rw [T80, bd1_in, T81, bd1_in, D8, bd1_in, D8, bd1_in, G80, bd8_in, G81, bd8_in, W80, bd9_in, W81, bd9_in, P8, bd1_in, jn1_, E2', X80', bd2_in, X81', bd2_in]
