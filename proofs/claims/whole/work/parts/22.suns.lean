/-! suns: places, lights, the round -/
def Sn (T P U : Nat → Nat) (turn phase up : Nat → Int32) : Prop := ∀ k, k < 2 → turn k = nI (T k) ∧ phase k = nI (P k) ∧ up k = nI (U k) ∧ 2 ≤ T k ∧ T k ≤ 40 ∧ P k < T k ∧ U k ≤ T k
def pla (T P : Nat → Nat) (k h : Nat) : Nat := (h + P k) % T k
def lgt (T P U : Nat → Nat) (h : Nat) : Nat := (if pla T P 0 h < U 0 then 1 else 0) + (if pla T P 1 h < U 1 then 2 else 0)
theorem lgt_lt (T P U : Nat → Nat) (h : Nat) : lgt T P U h < 4 := by
  unfold lgt; split <;> split <;> omega
theorem placeIn_v {t p h : Nat} (n : Nat) (ht : 2 ≤ t) (ht2 : t ≤ 40) (hp : p < t) (hh : h < 2147483000) : f_X5_placeIn n (nI t) (nI p) (nI h) = some (nI ((h + p) % t)) := by
  unfold f_X5_placeIn
  rw [if_pos (show (2 : Int32) ≤ nI t from nI_le (a := 2) ht (by omega)), nz_in _ (nI_ne0 (by omega) (by omega)), nI_add, pk_rem (by omega) (by omega) (by omega)]
theorem placeBy_v {t p h : Nat} (n : Nat) (ht : 2 ≤ t) (ht2 : t ≤ 40) (hp : p ≤ 40) (hh : h < 2147483000) : f_X5_placeBy n (nI t) (nI p) (nI h) = some (nI ((h + p) % t)) := by
  unfold f_X5_placeBy
  rw [if_pos (show (2 : Int32) ≤ nI t from nI_le (a := 2) ht (by omega)), nz_in _ (nI_ne0 (by omega) (by omega)), nI_add, pk_rem (by omega) (by omega) (by omega)]
theorem placeIn_S {T P U : Nat → Nat} {turn phase up : Nat → Int32} (S : Sn T P U turn phase up) (n : Nat) {k h : Nat} (hk : k < 2) (hh : h < 2147483000) : f_X5_placeIn n (turn k) (phase k) (nI h) = some (nI (pla T P k h)) := by
  obtain ⟨h1, h2, h3, h4, h5, h6, h7⟩ := S k hk
  rw [h1, h2, placeIn_v n h4 h5 h6 hh, pla]
theorem placeOf_S {T P U : Nat → Nat} {turn phase up : Nat → Int32} (S : Sn T P U turn phase up) (n : Nat) {k h : Nat} (hk : k < 2) (hh : h < 2147483000) : f_X8_placeOf n turn phase (nI k) (nI h) = some (nI (pla T P k h)) := by
  obtain ⟨h1, h2, h3, h4, h5, h6, h7⟩ := S k hk
  unfold f_X8_placeOf
  rw [ix_in _ (vp_in_nI hk (by omega)), ix_in _ (vp_in_nI hk (by omega)), nI_clamp (by omega), h1, h2, nz_in _ (nI_ne0 (by omega) (by omega)), nI_add, pk_rem (by omega) (by omega) (by omega), pla]
theorem pla_lt {T P U : Nat → Nat} {turn phase up : Nat → Int32} (S : Sn T P U turn phase up) {k : Nat} (hk : k < 2) (h : Nat) : pla T P k h < T k := Nat.mod_lt _ (by have := S k hk; omega)
theorem up_le {T P U : Nat → Nat} {turn phase up : Nat → Int32} (S : Sn T P U turn phase up) {k : Nat} (hk : k < 2) (h : Nat) {A : Type} (a b : A) : (if up k ≤ nI (pla T P k h) then a else b) = if pla T P k h < U k then b else a := by
  obtain ⟨h1, h2, h3, h4, h5, h6, h7⟩ := S k hk
  have hp := pla_lt S hk h
  rw [h3]
  by_cases c : pla T P k h < U k
  · rw [if_pos c, if_neg (nI_ge c (by omega))]
  · rw [if_neg c, if_pos (nI_le (by omega) (by omega))]
theorem isUpIn_S {T P U : Nat → Nat} {turn phase up : Nat → Int32} (S : Sn T P U turn phase up) (n : Nat) {k h : Nat} (hk : k < 2) (hh : h < 2147483000) : f_X5_isUpIn n (turn k) (phase k) (up k) (nI h) = some (if pla T P k h < U k then 1 else 0) := by
  unfold f_X5_isUpIn
  rw [placeIn_S S n hk hh, bd1_in, up_le S hk h]
  split <;> rfl
theorem isUp_S {T P U : Nat → Nat} {turn phase up : Nat → Int32} (S : Sn T P U turn phase up) (n : Nat) {k h : Nat} (hk : k < 2) (hh : h < 2147483000) : f_X8_isUp n turn phase up (nI k) (nI h) = some (if pla T P k h < U k then 1 else 0) := by
  unfold f_X8_isUp
  rw [placeOf_S S n hk hh, bd1_in, ix_in _ (vp_in_nI hk (by omega)), nI_clamp (by omega), up_le S hk h]
  split <;> rfl
theorem shownIn_S {T P U : Nat → Nat} {turn phase up : Nat → Int32} (S : Sn T P U turn phase up) (n : Nat) {k h : Nat} (hk : k < 2) (hh : h < 2147483000) : f_X5_shownIn n (turn k) (phase k) (up k) (nI h) = some (if pla T P k h < U k then nI (pla T P k h) else -1) := by
  unfold f_X5_shownIn
  rw [placeIn_S S n hk hh, bd1_in, up_le S hk h]
  split <;> rfl
theorem dialOf_S {T P U : Nat → Nat} {turn phase up : Nat → Int32} (S : Sn T P U turn phase up) (n : Nat) {k h : Nat} (hk : k < 2) (hh : h < 2147483000) : f_X8_dialOf n turn phase up (nI k) (nI h) = some (if pla T P k h < U k then nI (pla T P k h) else -1) := by
  unfold f_X8_dialOf
  rw [isUp_S S n hk hh, bd1_in, placeOf_S S n hk hh]
  by_cases c : pla T P k h < U k
  · rw [if_pos c, if_pos c]; rfl
  · rw [if_neg c, if_neg c]; rfl
theorem lightIn_S {T P U : Nat → Nat} {turn phase up : Nat → Int32} (S : Sn T P U turn phase up) (n : Nat) {h : Nat} (hh : h < 2147483000) : f_X4_lightIn n turn phase up (nI h) = some (nI (lgt T P U h)) := by
  unfold f_X4_lightIn
  rw [placeIn_S S n (k := 0) (by omega) hh, bd1_in, up_le S (k := 0) (by omega) h, placeIn_S S n (k := 1) (by omega) hh]
  show (if up 1 ≤ nI (pla T P 1 h) then some ((if pla T P 0 h < U 0 then (1 : Int32) else 0) + 0) else some ((if pla T P 0 h < U 0 then (1 : Int32) else 0) + 2)) = _
  rw [up_le S (k := 1) (by omega) h]
  unfold lgt
  by_cases c : pla T P 0 h < U 0
  · rw [if_pos c, if_pos c]
    by_cases d : pla T P 1 h < U 1
    · rw [if_pos d, if_pos d]; rfl
    · rw [if_neg d, if_neg d]; rfl
  · rw [if_neg c, if_neg c]
    by_cases d : pla T P 1 h < U 1
    · rw [if_pos d, if_pos d]; rfl
    · rw [if_neg d, if_neg d]; rfl
theorem lightOf_S {T P U : Nat → Nat} {turn phase up : Nat → Int32} (S : Sn T P U turn phase up) (n : Nat) {h : Nat} (hh : h < 2147483000) : f_X8_lightOf n turn phase up (nI h) = some (nI (lgt T P U h)) := by
  unfold f_X8_lightOf
  rw [show (0 : Int32) = nI 0 from rfl, show (1 : Int32) = nI 1 from rfl, isUp_S S n (k := 0) (by omega) hh, bd1_in, isUp_S S n (k := 1) (by omega) hh]
  unfold lgt
  by_cases c : pla T P 0 h < U 0
  · rw [if_pos c, if_pos c]
    by_cases d : pla T P 1 h < U 1
    · rw [if_pos d, if_pos d]; rfl
    · rw [if_neg d, if_neg d]; rfl
  · rw [if_neg c, if_neg c]
    by_cases d : pla T P 1 h < U 1
    · rw [if_pos d, if_pos d]; rfl
    · rw [if_neg d, if_neg d]; rfl
theorem away_S {T P U : Nat → Nat} {turn phase up : Nat → Int32} (S : Sn T P U turn phase up) (n : Nat) {k h : Nat} (hk : k < 2) (hh : h < 2147483000) : f_X5_awayFromRise n (turn k) (phase k) (nI h) = some (nI (min (pla T P k h) (T k - pla T P k h))) := by
  obtain ⟨h1, h2, h3, h4, h5, h6, h7⟩ := S k hk
  have hp := pla_lt S hk h
  unfold f_X5_awayFromRise
  rw [placeIn_S S n hk hh, bd1_in, h1, pk_sub (by omega)]
  by_cases c : T k - pla T P k h < pla T P k h
  · rw [if_pos (nI_lt c (by omega)), Nat.min_eq_right (by omega)]
  · rw [if_neg (nI_nlt (by omega) (by omega)), Nat.min_eq_left (by omega)]
theorem awayOf_S {T P U : Nat → Nat} {turn phase up : Nat → Int32} (S : Sn T P U turn phase up) (n : Nat) {k h : Nat} (hk : k < 2) (hh : h < 2147483000) : f_X8_awayOf n turn phase (nI k) (nI h) = some (nI (min (pla T P k h) (T k - pla T P k h))) := by
  obtain ⟨h1, h2, h3, h4, h5, h6, h7⟩ := S k hk
  have hp := pla_lt S hk h
  unfold f_X8_awayOf
  rw [placeOf_S S n hk hh, bd1_in, ix_in _ (vp_in_nI hk (by omega)), ix_in _ (vp_in_nI hk (by omega)), nI_clamp (by omega), h1, pk_sub (by omega)]
  by_cases c : T k - pla T P k h ≤ pla T P k h
  · rw [if_pos (nI_le c (by omega)), Nat.min_eq_right (by omega)]
  · rw [if_neg (nI_ge (by omega) (by omega)), Nat.min_eq_left (by omega)]
/-! the round -/
def rd (T : Nat → Nat) : Nat := Nat.lcm (T 0) (T 1)
theorem rd_facts {T P U : Nat → Nat} {turn phase up : Nat → Int32} (S : Sn T P U turn phase up) : 0 < rd T ∧ rd T ≤ 1600 ∧ T 0 ∣ rd T ∧ T 1 ∣ rd T ∧ rd T / T 0 * T 0 = rd T ∧ 1 ≤ rd T / T 0 ∧ rd T / T 0 ≤ T 1 ∧ ∀ j, 1 ≤ j → j < rd T / T 0 → ¬ (j * T 0) % T 1 = 0 := by
  obtain ⟨-, -, -, a4, a5, -, -⟩ := S 0 (by omega)
  obtain ⟨-, -, -, b4, b5, -, -⟩ := S 1 (by omega)
  have hpos : 0 < rd T := Nat.lcm_pos (by omega) (by omega)
  have d0 : T 0 ∣ rd T := Nat.dvd_lcm_left _ _
  have d1 : T 1 ∣ rd T := Nat.dvd_lcm_right _ _
  have hle : rd T ≤ T 0 * T 1 := Nat.le_of_dvd (Nat.mul_pos (by omega) (by omega)) (Nat.lcm_dvd (Nat.dvd_mul_right _ _) (Nat.dvd_mul_left _ _))
  have hm : T 0 * T 1 ≤ 40 * 40 := Nat.mul_le_mul a5 b5
  have hc : rd T / T 0 * T 0 = rd T := Nat.div_mul_cancel d0
  refine ⟨hpos, by omega, d0, d1, hc, ?_, ?_, ?_⟩
  · exact (Nat.one_le_div_iff (by omega)).mpr (Nat.le_of_dvd hpos d0)
  · exact Nat.div_le_of_le_mul hle
  · intro j h1 h2 h3
    have q : rd T ∣ j * T 0 := Nat.lcm_dvd (Nat.dvd_mul_left _ _) (Nat.dvd_of_mod_eq_zero h3)
    have q2 := Nat.le_of_dvd (Nat.mul_pos (by omega) (by omega)) q
    have q3 : j * T 0 < rd T / T 0 * T 0 := Nat.mul_lt_mul_of_pos_right h2 (by omega)
    omega
theorem hoursOfRound_S {T P U : Nat → Nat} {turn phase up : Nat → Int32} (S : Sn T P U turn phase up) {n : Nat} (hn : 4000 ≤ n) : f_X4_hoursOfRound n turn = some (nI (rd T)) := by
  obtain ⟨r1, r2, r3, r4, r5, r6, r7, r8⟩ := rd_facts S
  obtain ⟨a1, -, -, a4, a5, -, -⟩ := S 0 (by omega)
  obtain ⟨b1, -, -, b4, b5, -, -⟩ := S 1 (by omega)
  have key : ∀ (kx : Int32 → Option Int32) (m k j : Nat), j + m = rd T / T 0 → 1 ≤ j → m < k → L_X4_hoursOfRound_10 turn kx k (nI (j * T 0)) (nI j) = kx (nI (rd T)) := by
    intro kx m
    induction m with
    | zero =>
      intro k j hj h1 hk
      obtain ⟨k, rfl⟩ : ∃ q, k = q + 1 := ⟨k - 1, by omega⟩
      rw [L_X4_hoursOfRound_10_s, a1, b1, show j * T 0 = rd T by rw [← r5]; congr 1]
      by_cases c : 40 ≤ j
      · rw [if_pos (show (40 : Int32) ≤ nI j from nI_le c (by omega))]
      · rw [if_neg (show ¬ (40 : Int32) ≤ nI j from nI_ge (a := j) (b := 40) (by omega) (by omega)), if_neg (show ¬ nI (T 1) ≤ 0 from nI_nle (by omega) (by omega)), nz_in _ (nI_ne0 (by omega) (by omega)), pk_rem (by omega) (by omega) (by omega), Nat.mod_eq_zero_of_dvd r4, if_pos (show nI 0 = 0 from rfl)]
    | succ m ih =>
      intro k j hj h1 hk
      obtain ⟨k, rfl⟩ : ∃ q, k = q + 1 := ⟨k - 1, by omega⟩
      have hmod := r8 j h1 (by omega)
      have hmul : j * T 0 ≤ 40 * 40 := Nat.mul_le_mul (by omega) a5
      rw [L_X4_hoursOfRound_10_s, a1, b1, if_neg (show ¬ (40 : Int32) ≤ nI j from nI_ge (a := j) (b := 40) (by omega) (by omega)), if_neg (show ¬ nI (T 1) ≤ 0 from nI_nle (by omega) (by omega)), nz_in _ (nI_ne0 (by omega) (by omega)), pk_rem (by omega) (by omega) (by omega), if_neg (nI_ne0 (Nat.pos_of_ne_zero hmod) (by have := Nat.mod_lt (j * T 0) (show 0 < T 1 by omega); omega)), nI_add, nI_1, show j * T 0 + T 0 = (j + 1) * T 0 by rw [Nat.add_mul, Nat.one_mul]]
      exact ih k (j + 1) (by omega) (by omega) (by omega)
  unfold f_X4_hoursOfRound
  show L_X4_hoursOfRound_10 turn (fun z => some z) n (turn 0) 1 = _
  rw [show turn 0 = nI (1 * T 0) by rw [a1, Nat.one_mul]]
  exact key _ (rd T / T 0 - 1) n 1 (by omega) (by omega) (by omega)
theorem roundNow_S {T P U : Nat → Nat} {turn phase up : Nat → Int32} (S : Sn T P U turn phase up) {n : Nat} (hn : 4000 ≤ n) : f_X8_roundNow n turn = some (nI (rd T)) := by
  obtain ⟨r1, r2, r3, r4, r5, r6, r7, r8⟩ := rd_facts S
  obtain ⟨a1, -, -, a4, a5, -, -⟩ := S 0 (by omega)
  obtain ⟨b1, -, -, b4, b5, -, -⟩ := S 1 (by omega)
  have key : ∀ (kx : Int32 → Option Int32) (m k j : Nat), j + m = rd T / T 0 → 1 ≤ j → m < k → L_X8_roundNow_7 turn kx k (nI (j * T 0)) = kx (nI (rd T)) := by
    intro kx m
    induction m with
    | zero =>
      intro k j hj h1 hk
      obtain ⟨k, rfl⟩ : ∃ q, k = q + 1 := ⟨k - 1, by omega⟩
      rw [L_X8_roundNow_7_s, cl1, cl0, a1, b1, show j * T 0 = rd T by rw [← r5]; congr 1]
      rw [nz_in _ (nI_ne0 (by omega) (by omega)), pk_rem (by omega) (by omega) (by omega), Nat.mod_eq_zero_of_dvd r4, if_pos (show nI 0 = 0 from rfl)]
    | succ m ih =>
      intro k j hj h1 hk
      obtain ⟨k, rfl⟩ : ∃ q, k = q + 1 := ⟨k - 1, by omega⟩
      have hmod := r8 j h1 (by omega)
      have hmul : j * T 0 ≤ 40 * 40 := Nat.mul_le_mul (by omega) a5
      rw [L_X8_roundNow_7_s, cl1, cl0, a1, b1, nz_in _ (nI_ne0 (by omega) (by omega)), pk_rem (by omega) (by omega) (by omega), if_neg (nI_ne0 (Nat.pos_of_ne_zero hmod) (by have := Nat.mod_lt (j * T 0) (show 0 < T 1 by omega); omega)), nI_add, show j * T 0 + T 0 = (j + 1) * T 0 by rw [Nat.add_mul, Nat.one_mul]]
      exact ih k (j + 1) (by omega) (by omega) (by omega)
  unfold f_X8_roundNow
  show L_X8_roundNow_7 turn (fun z => some z) n (turn 0) = _
  rw [show turn 0 = nI (1 * T 0) by rw [a1, Nat.one_mul]]
  exact key _ (rd T / T 0 - 1) n 1 (by omega) (by omega) (by omega)
