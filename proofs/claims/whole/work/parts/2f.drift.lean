/-! drift: the worst of a row -/
def mxs (A : Nat → Nat) : Nat → Nat
  | 0 => 0
  | k + 1 => max (mxs A k) (A k)
theorem mxs_s (A : Nat → Nat) (k : Nat) : mxs A (k + 1) = max (mxs A k) (A k) := rfl
theorem mxs_le {A : Nat → Nat} {c : Nat} : ∀ k, (∀ j, j < k → A j ≤ c) → mxs A k ≤ c
  | 0, _ => Nat.zero_le c
  | k + 1, h => Nat.max_le.mpr ⟨mxs_le k (fun j hj => h j (by omega)), h k (by omega)⟩
theorem mxs_cong {A B : Nat → Nat} : ∀ k, (∀ j, j < k → A j = B j) → mxs A k = mxs B k
  | 0, _ => rfl
  | k + 1, h => by rw [mxs_s, mxs_s, mxs_cong k (fun j hj => h j (by omega)), h k (by omega)]
theorem mx_lt {a b : Nat} (ha : a < 2 ^ 31) (hb : b < 2 ^ 31) : (if nI a < nI b then nI b else nI a) = nI (max a b) := by
  by_cases c : a < b
  · rw [if_pos (nI_lt c hb), Nat.max_eq_right (by omega)]
  · rw [if_neg (nI_nlt (by omega) ha), Nat.max_eq_left (by omega)]
theorem mx_le {a b : Nat} (ha : a < 2 ^ 31) (hb : b < 2 ^ 31) : (if nI b ≤ nI a then nI a else nI b) = nI (max a b) := by
  by_cases c : b ≤ a
  · rw [if_pos (nI_le c ha), Nat.max_eq_left (by omega)]
  · rw [if_neg (nI_ge (by omega) hb), Nat.max_eq_right (by omega)]
def awy (T P : Nat → Nat) (q h : Nat) : Nat := min (pla T P q h) (T q - pla T P q h)
theorem awy_le {T P U : Nat → Nat} {turn phase up : Nat → Int32} (S : Sn T P U turn phase up) {q : Nat} (hq : q < 2) (h : Nat) : awy T P q h ≤ 40 := by
  obtain ⟨h1, h2, h3, h4, h5, h6, h7⟩ := S q hq
  unfold awy; omega
theorem away_A {T P U : Nat → Nat} {turn phase up : Nat → Int32} (S : Sn T P U turn phase up) (n : Nat) {k h : Nat} (hk : k < 2) (hh : h < 2147483000) : f_X5_awayFromRise n (turn k) (phase k) (nI h) = some (nI (awy T P k h)) := away_S S n hk hh
theorem awayOf_A {T P U : Nat → Nat} {turn phase up : Nat → Int32} (S : Sn T P U turn phase up) (n : Nat) {k h : Nat} (hk : k < 2) (hh : h < 2147483000) : f_X8_awayOf n turn phase (nI k) (nI h) = some (nI (awy T P k h)) := awayOf_S S n hk hh
theorem clen_val {b : Nat → Int32} {c m : Nat} (hc : c ≤ 20) (hm : m < cmon b c) : ∃ v, v ≤ 99 ∧ clen b m = nI v := by
  have hlt := (cmon_facts (b := b) hc).2 m hm
  have hg : ∀ i, i < c → go3 b i = true := by
    unfold cmon at hm
    by_cases d : ff (cbad b) 0 c = none ∧ (c = 0 ∨ c % 3 = 2)
    · intro i hi
      have := ff_none d.1 i (by omega) (by omega)
      unfold cbad at this
      cases g : go3 b i with
      | true => rfl
      | false => rw [g] at this; simp at this
    · rw [if_neg d] at hm; omega
  have g0 := hg (3 * m) (by omega)
  have g1 := hg (3 * m + 1) (by omega)
  rw [go_0] at g0
  rw [go_1] at g1
  obtain ⟨v0, l0, e0, b0⟩ := fg_val g0
  obtain ⟨v1, l1, e1, b1⟩ := fg_val (b := b (3 * m + 1)) (by
    cases f : fg (b (3 * m + 1)) with
    | true => rfl
    | false => rw [f] at g1; simp at g1)
  refine ⟨10 * v0 + v1, by omega, ?_⟩
  unfold clen
  rw [e0, b1, show (10 : Int32) = nI 10 from rfl, pk_mul, nI_add, show nI (10 * v0 + (v1 + 48)) - 48 = nI (10 * v0 + (v1 + 48) - 48) from pk_sub (b := 48) (by omega)]
  congr 1
def cl (b : Nat → Int32) (m : Nat) : Nat := (clen b m).toNatClampNeg
theorem cl_val {b : Nat → Int32} {c m : Nat} (hc : c ≤ 20) (hm : m < cmon b c) : cl b m ≤ 99 ∧ clen b m = nI (cl b m) := by
  obtain ⟨v, h1, h2⟩ := clen_val hc hm
  unfold cl
  rw [h2, nI_clamp (by omega)]
  exact ⟨h1, rfl⟩
def dh (b : Nat → Int32) (M k : Nat) : Nat := fb_sm (fun j => cl b (j % M)) k
theorem dh_le {b : Nat → Int32} {c : Nat} (hc : c ≤ 20) (h1 : 1 ≤ cmon b c) (k : Nat) : dh b (cmon b c) k ≤ k * 99 := fb_sm_bound (fun j _ => (cl_val hc (Nat.mod_lt _ (by omega))).1)
def sp_drift (T P : Nat → Nat) (q : Nat) (b : Nat → Int32) (M x : Nat) : Nat := mxs (fun k => awy T P q (dh b M k)) x
theorem sp_drift_le {T P U : Nat → Nat} {turn phase up : Nat → Int32} (S : Sn T P U turn phase up) {q : Nat} (hq : q < 2) (b : Nat → Int32) (M x : Nat) : sp_drift T P q b M x ≤ 40 := mxs_le x (fun j _ => awy_le S hq _)
theorem md_next {i M : Nat} (hM : 1 ≤ M) (hM2 : M ≤ 6) : (if nI M ≤ nI (i % M) + 1 then (0 : Int32) else nI (i % M) + 1) = nI ((i + 1) % M) := by
  have hm := Nat.mod_lt i (show 0 < M by omega)
  rw [nI_1]
  by_cases c : i % M + 1 = M
  · rw [if_pos (nI_le (by omega) (by omega))]
    have h2 := Nat.div_add_mod i M
    have this : (i + 1) % M = 0 := by rw [show i + 1 = M * (i / M + 1) by rw [Nat.mul_add]; omega]; exact Nat.mul_mod_right _ _
    rw [this]; rfl
  · rw [if_neg (nI_ge (by omega) (by omega))]
    congr 1
    have h2 := Nat.div_add_mod i M
    have h3 : (i + 1) % M = (M * (i / M) + (i % M + 1)) % M := by congr 1; omega
    rw [h3, Nat.mul_add_mod, Nat.mod_eq_of_lt (a := i % M + 1) (by omega)]
theorem driftCal_S {T P U : Nat → Nat} {turn phase up : Nat → Int32} (S : Sn T P U turn phase up) {n : Nat} (hn : 4000 ≤ n) {q c x : Nat} (hq : q < 2) {b : Nat → Int32} (hc : c ≤ 20) (hx : x ≤ 60) (hM : 1 ≤ cmon b c) : f_X7_driftByCalendar n (nI c) b (turn q) (phase q) (nI x) (nI (cmon b c)) = some (nI (sp_drift T P q b (cmon b c) x)) := by
  obtain ⟨h6, hlt⟩ := cmon_facts (b := b) hc
  have hdw : ∀ k, sp_drift T P q b (cmon b c) k ≤ 40 := fun k => sp_drift_le S hq b _ k
  unfold f_X7_driftByCalendar
  refine jn1_i (fun kx hkx => ?_)
  refine (lp_st (fun k i (s : Int32 × Int32 × Int32) => L_X7_driftByCalendar_12 n (nI c) b (turn q) (phase q) (nI x) (nI (cmon b c)) kx k s.1 s.2.1 s.2.2 (nI i)) x (fun s => kx s.1) (fun i => (nI (sp_drift T P q b (cmon b c) i), nI (dh b (cmon b c) i), nI (i % cmon b c)))
    (fun k => by rw [L_X7_driftByCalendar_12_s, if_pos (nI_le (Nat.le_refl _) (by omega))])
    (fun k i hi => by
      have h1 := dh_le hc hM i
      have h2 := cl_val hc (Nat.mod_lt i (show 0 < cmon b c by omega))
      have h3 := awy_le S hq (dh b (cmon b c) i)
      have h4 := hdw i
      rw [L_X7_driftByCalendar_12_s, if_neg (nI_ge hi (by omega)), away_A S n hq (by omega), bd1_in, lengthOf_C hc (hlt _ (Nat.mod_lt i (by omega))), bd1_in, h2.2]
      simp only [lt_]
      rw [mx_lt (by omega) (by omega), md_next hM h6, nI_add, nI_1]
      rfl)
    x n 0 (by omega) (by omega)).trans ?_
  rw [hkx]
theorem driftLoop_S {T P U : Nat → Nat} {turn phase up : Nat → Int32} (S : Sn T P U turn phase up) {n : Nat} (hn : 4000 ≤ n) {q c x : Nat} (hq : q < 2) {b lo : Nat → Int32} (hc : c ≤ 20) (hx : x ≤ 60) (hM : 1 ≤ cmon b c) (hl : ∀ m, m < cmon b c → lo m = clen b m) (kx : Int32 → Option (Int32 × Int32 × Int32 × (Nat → Int32) × (Nat → Int32))) : L_X8_driftOf_31 n turn phase (nI q) (nI x) (nI (cmon b c)) lo kx n 0 0 0 = kx (nI (sp_drift T P q b (cmon b c) x)) := by
  obtain ⟨h6, hlt⟩ := cmon_facts (b := b) hc
  have hdw : ∀ k, sp_drift T P q b (cmon b c) k ≤ 40 := fun k => sp_drift_le S hq b _ k
  exact lp_st (fun k i (s : Int32 × Int32) => L_X8_driftOf_31 n turn phase (nI q) (nI x) (nI (cmon b c)) lo kx k s.1 s.2 (nI i)) x (fun s => kx s.1) (fun i => (nI (sp_drift T P q b (cmon b c) i), nI (dh b (cmon b c) i)))
    (fun k => by rw [L_X8_driftOf_31_s, if_pos (nI_le (Nat.le_refl _) (by omega))])
    (fun k i hi => by
      have h1 := dh_le hc hM i
      have hm := Nat.mod_lt i (show 0 < cmon b c by omega)
      have h2 := cl_val hc hm
      have h3 := awy_le S hq (dh b (cmon b c) i)
      have h4 := hdw i
      rw [L_X8_driftOf_31_s, if_neg (nI_ge hi (by omega)), awayOf_A S n hq (by omega), bd1_in, lt_, nz_in _ (nI_ne0 (by omega) (by omega)), pk_rem (by omega) (by omega) (by omega), ix_in _ (vp_in_nI (show i % cmon b c < 7 by omega) (by omega)), nI_clamp (by omega), hl _ hm, h2.2, mx_le (by omega) (by omega), nI_add, nI_1]
      rfl)
    x n 0 (by omega) (by omega)
theorem sp_drift_cong {T P : Nat → Nat} {q : Nat} {a b : Nat → Int32} {c M x : Nat} (h : ∀ i, i < c → a i = b i) (hM : 1 ≤ M) (hlt : ∀ m, m < M → 3 * m + 1 < c) : sp_drift T P q a M x = sp_drift T P q b M x := mxs_cong x (fun j _ => by
  have e : dh a M j = dh b M j := fb_sm_cong (fun k _ => by unfold cl; rw [clen_cong h (hlt _ (Nat.mod_lt k (by omega)))])
  show awy T P q (dh a M j) = awy T P q (dh b M j)
  rw [e])
def dr_v (T P U : Nat → Nat) (q : Nat) (b : Nat → Int32) (M x : Nat) : Int32 := if U q = 0 ∨ M = 0 then -3 else nI (sp_drift T P q b M x)
theorem up_z {T P U : Nat → Nat} {turn phase up : Nat → Int32} (S : Sn T P U turn phase up) {q : Nat} (hq : q < 2) : (up q = 0) ↔ U q = 0 := by
  obtain ⟨h1, h2, h3, h4, h5, h6, h7⟩ := S q hq
  rw [h3]; exact nI_eq (b := 0) (by omega) (by omega)
theorem drift_q {T P U : Nat → Nat} {turn phase up : Nat → Int32} (S : Sn T P U turn phase up) {n : Nat} (hn : 4000 ≤ n) {q c x : Nat} (hq : q < 2) {b : Nat → Int32} (hc : c ≤ 20) (hx : x ≤ 60) : (jn0_ (some (-3)) (fun k45 => if (up q) = 0 then k45 else if (1 : Int32) ≤ nI (cmon b c) then bd1_ (f_X7_driftByCalendar n (nI c) b (turn q) (phase q) (nI x) (nI (cmon b c))) (fun (r : Int32) => some r) else k45) : Option Int32) = some (dr_v T P U q b (cmon b c) x) := by
  obtain ⟨h6, -⟩ := cmon_facts (b := b) hc
  rw [jn0_, bd1_id]
  unfold dr_v
  by_cases c1 : U q = 0
  · rw [if_pos ((up_z S hq).mpr c1), if_pos (Or.inl c1)]
  · rw [if_neg (fun z => c1 ((up_z S hq).mp z))]
    by_cases c2 : cmon b c = 0
    · rw [c2, if_neg (show ¬ (1 : Int32) ≤ nI 0 by decide), if_pos (Or.inr rfl)]
    · rw [if_pos (show (1 : Int32) ≤ nI (cmon b c) from nI_le (a := 1) (by omega) (by omega)), driftCal_S S hn hq hc hx (by omega), if_neg (by omega)]
theorem drift_S {T P U : Nat → Nat} {turn phase up : Nat → Int32} (S : Sn T P U turn phase up) {n : Nat} (hn : 4000 ≤ n) {q c x : Nat} (hq : q < 2) {b : Nat → Int32} (hc : c ≤ 20) (hx : x ≤ 60) (hx1 : 1 ≤ x) : f_X7_drift n turn phase up (nI c) b (nI q) (nI x) = some (dr_v T P U q b (cmon b c) x) := by
  have ho : f_X7_outside n (nI x) 1 60 = some 0 := by rw [outside_v, if_neg (show ¬ (nI x < 1 ∨ (60 : Int32) < nI x) from rng1_in (a := 1) (b := 60) (by omega) hx1 hx)]
  unfold f_X7_drift
  match q, hq with
  | 0, _ =>
    rw [if_pos (show nI 0 = 0 from rfl), ho, bd1_in, if_pos rfl, months_C hn hc, bd1_in]
    exact drift_q S hn (q := 0) (by omega) hc hx
  | 1, _ =>
    rw [if_neg (show ¬ nI 1 = 0 by decide), if_pos (show nI 1 = 1 from rfl), ho, bd1_in, if_pos rfl, months_C hn hc, bd1_in]
    exact drift_q S hn (q := 1) (by omega) hc hx
theorem driftOf_S {T P U : Nat → Nat} {turn phase up : Nat → Int32} (S : Sn T P U turn phase up) {n : Nat} (hn : 4000 ≤ n) {q d c x : Nat} (hq : q < 2) {ty tx dy lo : Nat → Int32} {mh mm : Int32} (hd : d ≤ 60) (hc : c ≤ 20) (t0 : ty 0 = nI d) (t1 : ty 1 = nI c) (hx : x ≤ 60) : ∃ w1 w2, f_X8_driftOf n mh mm turn phase up ty tx dy lo (nI q) (nI x) = some (dr_v T P U q (fun i => tx (60 + i)) (cmon (fun i => tx (60 + i)) c) x, nI (dhours tx d), nI (cmon (fun i => tx (60 + i)) c), w1, w2) := by
  obtain ⟨w1, w2, -, q1, q2, q3⟩ := reads_v hn (mh := mh) (mm := mm) (tx := tx) (dy := dy) (lo := lo) hd hc t0 t1 0
  obtain ⟨h6, -⟩ := cmon_facts (b := fun i => tx (60 + i)) hc
  refine ⟨w1, w2, ?_⟩
  unfold f_X8_driftOf dr_v
  rw [q1, bd4_in, ix_in _ (vp_in_nI hq (by omega)), nI_clamp (by omega)]
  by_cases c2 : cmon (fun i => tx (60 + i)) c = 0
  · rw [c2, if_pos (show nI 0 = 0 from rfl), if_pos (Or.inr rfl)]
  · rw [if_neg (nI_ne0 (by omega) (by omega))]
    by_cases c1 : U q = 0
    · rw [if_pos ((up_z S hq).mpr c1), if_pos (Or.inl c1)]
    · rw [if_neg (fun z => c1 ((up_z S hq).mp z)), if_neg (by omega), jn1_, driftLoop_S S hn hq hc hx (by omega) q3]
theorem e_drift {T P U : Nat → Nat} {turn phase up mt mp mu : Nat → Int32} (S : Sn T P U turn phase up) (S2 : Sn T P U mt mp mu) {n : Nat} (hn : 4000 ≤ n) {ds cs mh mm : Int32} {db cb ty tx dy lo : Nat → Int32} (R : RD ds db cs cb ty tx) (x y : Int32) : ∃ r h2 m2 d2 l2, f_X7_drift n turn phase up cs cb x y = some r ∧ f_X8_drift n mh mm mt mp mu ty tx dy lo x y = some (r, h2, m2, d2, l2) := by
  obtain ⟨d, c, hd, hc, rfl, rfl, t0, t1, s1, s2, s3, s4, R1, R2⟩ := RD_same R
  obtain ⟨h6, hlt⟩ := cmon_facts (b := cb) hc
  by_cases c1 : x < 0 ∨ (1 : Int32) < x
  · refine ⟨-2, mh, mm, dy, lo, ?_, ?_⟩
    · unfold f_X7_drift; rw [if_neg (ne2 c1).1, if_neg (ne2 c1).2]
    · unfold f_X8_drift; rw [isSun_v, bd1_in, jn0_, bz_neg, if_pos c1]
  · obtain ⟨q, hq, rfl⟩ := rng (a := 1) (by omega) c1
    by_cases c2 : y < 1 ∨ (60 : Int32) < y
    · refine ⟨-2, mh, mm, dy, lo, ?_, ?_⟩
      · unfold f_X7_drift; rw [outside_v, if_pos c2]
        match q, hq with
        | 0, _ => rfl
        | 1, _ => rfl
      · unfold f_X8_drift; rw [isSun_v, bd1_in, jn0_, bz_neg, if_neg c1, in_v, bd1_in, bz_neg, if_pos c2]
    · obtain ⟨v, hv1, hv2, rfl⟩ := rng1 (a := 1) (b := 60) (by omega) (by omega) c2
      obtain ⟨w1, w2, e⟩ := driftOf_S S2 hn (q := q) (x := v) (mh := mh) (mm := mm) (tx := tx) (dy := dy) (lo := lo) (by omega) hd hc t0 t1 hv2
      refine ⟨_, nI (dhours tx d), nI (cmon (fun i => tx (60 + i)) c), w1, w2, drift_S S hn (by omega) hc hv2 hv1, ?_⟩
      unfold f_X8_drift
      rw [isSun_v, bd1_in, jn0_, bz_neg, if_neg c1, in_v, bd1_in, bz_neg, if_neg c2, e, bd5_in]
      have : dr_v T P U q (fun i => tx (60 + i)) (cmon (fun i => tx (60 + i)) c) v = dr_v T P U q cb (cmon cb c) v := by
        rw [← s4]
        unfold dr_v
        by_cases z : U q = 0 ∨ cmon cb c = 0
        · rw [if_pos z, if_pos z]
        · rw [if_neg z, if_neg z, sp_drift_cong (a := cb) R2 (by omega) hlt]
      rw [this]
