/-- a loop whose state is known at each step -/
theorem lp_st {S R : Type} (L : Nat → Nat → S → Option R) (b : Nat) (kx : S → Option R) (st : Nat → S) (hx : ∀ k, L (k + 1) b (st b) = kx (st b)) (hs : ∀ k i, i < b → L (k + 1) i (st i) = L k (i + 1) (st (i + 1))) : ∀ (m k i : Nat), i + m = b → m < k → L k i (st i) = kx (st b) := by
  intro m
  induction m with
  | zero =>
    intro k i h hk
    obtain ⟨k, rfl⟩ : ∃ j, k = j + 1 := ⟨k - 1, by omega⟩
    have e : i = b := by omega
    subst e
    exact hx k
  | succ m ih =>
    intro k i h hk
    obtain ⟨k, rfl⟩ : ∃ j, k = j + 1 := ⟨k - 1, by omega⟩
    rw [hs k i (by omega)]
    exact ih k (i + 1) (by omega) (by omega)
theorem jn0_i {R : Type} {K : R} {t : R → R} {r : R} (h : ∀ k, k = K → t k = r) : jn0_ K t = r := h K rfl
theorem jn1_i {A0 R : Type} {K : A0 → R} {t : (A0 → R) → R} {r : R} (h : ∀ k, (∀ a0, k a0 = K a0) → t k = r) : jn1_ K t = r := h K (fun _ => rfl)
theorem jn2_i {A0 A1 R : Type} {K : A0 → A1 → R} {t : (A0 → A1 → R) → R} {r : R} (h : ∀ k, (∀ a0 a1, k a0 a1 = K a0 a1) → t k = r) : jn2_ K t = r := h K (fun _ _ => rfl)
theorem jn3_i {A0 A1 A2 R : Type} {K : A0 → A1 → A2 → R} {t : (A0 → A1 → A2 → R) → R} {r : R} (h : ∀ k, (∀ a0 a1 a2, k a0 a1 a2 = K a0 a1 a2) → t k = r) : jn3_ K t = r := h K (fun _ _ _ => rfl)
theorem jn5_i {A0 A1 A2 A3 A4 R : Type} {K : A0 → A1 → A2 → A3 → A4 → R} {t : (A0 → A1 → A2 → A3 → A4 → R) → R} {r : R} (h : ∀ k, (∀ a0 a1 a2 a3 a4, k a0 a1 a2 a3 a4 = K a0 a1 a2 a3 a4) → t k = r) : jn5_ K t = r := h K (fun _ _ _ _ _ => rfl)
def isl (T P U : Nat → Nat) (l : Int32) (h : Nat) : Bool := decide (nI (lgt T P U h) = l)
theorem isl_per {T P U : Nat → Nat} {turn phase up : Nat → Int32} (S : Sn T P U turn phase up) (l : Int32) (h : Nat) : isl T P U l (h + rd T) = isl T P U l h := by
  obtain ⟨r1, r2, r3, r4, -⟩ := rd_facts S
  have e : ∀ k, T k ∣ rd T → pla T P k (h + rd T) = pla T P k h := fun k d => by
    unfold pla
    obtain ⟨q, hq⟩ := d
    rw [hq, Nat.add_right_comm, Nat.add_mul_mod_self_left]
  unfold isl lgt
  rw [e 0 r3, e 1 r4]
theorem isl_t {T P U : Nat → Nat} {l : Int32} {h : Nat} : isl T P U l h = true ↔ nI (lgt T P U h) = l := by unfold isl; simp
theorem isl_if {T P U : Nat → Nat} {l : Int32} {h : Nat} {A : Type} (a b : A) : (if nI (lgt T P U h) = l then a else b) = if isl T P U l h = true then a else b := by
  by_cases c : nI (lgt T P U h) = l
  · rw [if_pos c, if_pos (isl_t.mpr c)]
  · rw [if_neg c, if_neg (fun q => c (isl_t.mp q))]
theorem nI_if {c : Prop} [Decidable c] (a : Nat) : nI (a + if c then 1 else 0) = if c then nI a + 1 else nI a := by
  by_cases h : c
  · rw [if_pos h, if_pos h, nI_1]
  · rw [if_neg h, if_neg h, Nat.add_zero]
theorem hoursWith_S {T P U : Nat → Nat} {turn phase up : Nat → Int32} (S : Sn T P U turn phase up) {n : Nat} (hn : 4000 ≤ n) (l : Int32) : f_X4_hoursWith n turn phase up l = some (nI (fb_ct (isl T P U l) (rd T))) := by
  obtain ⟨r1, r2, -⟩ := rd_facts S
  unfold f_X4_hoursWith
  rw [hoursOfRound_S S hn, bd1_in]
  exact lp_st (fun k i s => L_X4_hoursWith_10 n turn phase up l (nI (rd T)) (fun z => some z) k s (nI i)) (rd T) (fun s => some s) (fun i => nI (fb_ct (isl T P U l) i))
    (fun k => by rw [L_X4_hoursWith_10_s, if_pos (nI_le (Nat.le_refl _) (by omega))])
    (fun k i hi => by
      rw [L_X4_hoursWith_10_s, if_neg (nI_ge hi (by omega)), lightIn_S S n (by omega), bd1_in, lt_, isl_if, fb_ct_succ, nI_if]
      simp only [nI_1])
    (rd T) n 0 (by omega) (by omega)
theorem rowsOf_S {T P U : Nat → Nat} {turn phase up : Nat → Int32} (S : Sn T P U turn phase up) {n : Nat} (hn : 4000 ≤ n) (l : Int32) : f_X4_rowsOf n turn phase up l = some (nI (if fb_ct (sl_en (isl T P U l)) (rd T) = 0 ∧ isl T P U l 0 = true then 1 else fb_ct (sl_en (isl T P U l)) (rd T))) := by
  obtain ⟨r1, r2, -⟩ := rd_facts S
  have hle := fb_ct_le (sl_en (isl T P U l)) (rd T)
  unfold f_X4_rowsOf
  rw [hoursOfRound_S S hn, bd1_in]
  refine jn1_i (fun kx hkx => ?_)
  refine (lp_st (fun k i s => L_X4_rowsOf_10 n turn phase up l (nI (rd T)) kx k s (nI i)) (rd T) kx (fun i => nI (fb_ct (sl_en (isl T P U l)) i))
    (fun k => by rw [L_X4_rowsOf_10_s, if_pos (nI_le (Nat.le_refl _) (by omega))])
    (fun k i hi => by
      rw [L_X4_rowsOf_10_s, if_neg (nI_ge hi (by omega)), lightIn_S S n (by omega), bd1_in, jn1_, isl_if, nI_1, lightIn_S S n (by omega), bd1_in, isl_if, fb_ct_succ, nI_if]
      unfold sl_en
      cases c : isl T P U l i <;> cases d : isl T P U l (i + 1) <;> simp)
    (rd T) n 0 (by omega) (by omega)).trans ?_
  rw [hkx]
  rw [show (0 : Int32) = nI 0 from rfl, lightIn_S S n (by omega)]
  simp only [bd1_in, jn0_, isl_if]
  by_cases c : fb_ct (sl_en (isl T P U l)) (rd T) = 0
  · rw [c, if_pos rfl]
    by_cases d : isl T P U l 0 = true
    · rw [if_pos d, if_pos ⟨rfl, d⟩]; rfl
    · rw [if_neg d, if_neg (fun q => d q.2)]
  · rw [if_neg (fun q => c ((nI_eq (by omega) (by omega)).mp q)), if_neg (fun q => c q.1)]
theorem longestRowOf_S {T P U : Nat → Nat} {turn phase up : Nat → Int32} (S : Sn T P U turn phase up) {n : Nat} (hn : 4000 ≤ n) (l : Int32) : f_X4_longestRowOf n turn phase up l = some (nI (min (sl_max (isl T P U l) (2 * rd T)) (rd T))) := by
  obtain ⟨r1, r2, -⟩ := rd_facts S
  have hmx : ∀ m, sl_max (isl T P U l) m ≤ m := fun m => by
    obtain ⟨h, h1, h2⟩ := sl_max_at (isl T P U l) m
    have := sl_run_le (isl T P U l) h
    omega
  unfold f_X4_longestRowOf
  rw [hoursOfRound_S S hn, bd1_in]
  refine jn1_i (fun kx hkx => ?_)
  refine (lp_st (fun k i (s : Int32 × Int32) => L_X4_longestRowOf_13 n turn phase up l (nI (rd T)) kx k s.1 s.2 (nI i)) (2 * rd T) (fun s => kx s.1) (fun i => (nI (sl_max (isl T P U l) i), nI (sl_run (isl T P U l) i)))
    (fun k => by rw [L_X4_longestRowOf_13_s, show (2 : Int32) * nI (rd T) = nI (2 * rd T) from pk_mul 2 (rd T), if_pos (nI_le (Nat.le_refl _) (by omega))])
    (fun k i hi => by
      have h1 := hmx i
      have h2 := sl_run_le (isl T P U l) i
      rw [L_X4_longestRowOf_13_s, show (2 : Int32) * nI (rd T) = nI (2 * rd T) from pk_mul 2 (rd T), if_neg (nI_ge hi (by omega)), lightIn_S S n (by omega), bd1_in, lt_, isl_if, nI_1, nI_1, sl_max, sl_run]
      by_cases c : isl T P U l i = true
      · rw [if_pos c, if_pos c]
        by_cases d : sl_max (isl T P U l) i < sl_run (isl T P U l) i + 1
        · rw [if_pos (nI_lt d (by omega)), Nat.max_eq_right (by omega)]
        · rw [if_neg (nI_nlt (by omega) (by omega)), Nat.max_eq_left (by omega)]
      · rw [if_neg c, if_neg c, if_neg (show ¬ nI (sl_max (isl T P U l) i) < 0 from nI_pos (by omega)), Nat.max_eq_left (by omega)]; rfl)
    (2 * rd T) n 0 (by omega) (by omega)).trans ?_
  rw [hkx]
  show some (if nI (rd T) < nI (sl_max (isl T P U l) (2 * rd T)) then nI (rd T) else nI (sl_max (isl T P U l) (2 * rd T))) = _
  have h1 := hmx (2 * rd T)
  by_cases c : rd T < sl_max (isl T P U l) (2 * rd T)
  · rw [if_pos (nI_lt c (by omega)), Nat.min_eq_right (by omega)]
  · rw [if_neg (nI_nlt (by omega) (by omega)), Nat.min_eq_left (by omega)]
def sp_spells (T P U : Nat → Nat) (l : Int32) (w : Int32) : Int32 := if w = 0 then nI (fb_ct (isl T P U l) (rd T)) else if w = 1 then nI (if fb_ct (isl T P U l) (rd T) = rd T then 1 else fb_ct (sl_be (isl T P U l) (rd T)) (rd T)) else nI (if fb_ct (isl T P U l) (rd T) = rd T then rd T else sl_mb (isl T P U l) (rd T) (rd T))
theorem sl_mb_leR (f : Nat → Bool) {R : Nat} (hR : 0 < R) (m : Nat) : sl_mb f R m ≤ R := sl_mb_le f R R m (fun h _ _ => (sl_la_spec f hR h).1)
theorem spellsOf_S {T P U : Nat → Nat} {turn phase up : Nat → Int32} (S : Sn T P U turn phase up) {n : Nat} (hn : 4000 ≤ n) (l : Int32) (w : Int32) : f_X8_spellsOf n turn phase up l w = some (sp_spells T P U l w) := by
  obtain ⟨r1, r2, -⟩ := rd_facts S
  unfold f_X8_spellsOf
  rw [roundNow_S S hn, bd1_in]
  refine jn3_i (fun kx hkx => ?_)
  refine (lp_st (fun k i (s : Int32 × Int32 × Int32) => L_X8_spellsOf_17 n turn phase up l (nI (rd T)) kx k s.1 s.2.1 s.2.2 (nI i)) (rd T) (fun s => kx s.1 s.2.1 s.2.2) (fun i => (nI (fb_ct (isl T P U l) i), nI (fb_ct (sl_be (isl T P U l) (rd T)) i), nI (sl_mb (isl T P U l) (rd T) i)))
    (fun k => by rw [L_X8_spellsOf_17_s, if_pos (nI_le (Nat.le_refl _) (by omega))])
    (fun k i hi => by
      have hmb := sl_mb_leR (isl T P U l) r1 i
      have hla := (sl_la_spec (isl T P U l) r1 i).1
      rw [L_X8_spellsOf_17_s, if_neg (nI_ge hi (by omega)), lightOf_S S n (by omega), bd1_in, nI_add, show nI (i + rd T) - 1 = nI (i + rd T - 1) from pk_sub (b := 1) (by omega), lightOf_S S n (by omega), lastsOf_S S hn (by omega)]
      simp only [bd1_in, lt_, jn1_, jn0_, isl_if, nI_1]
      have hbe : sl_be (isl T P U l) (rd T) i = (isl T P U l i && !isl T P U l (i + rd T - 1)) := rfl
      have h0 : (0 : Int32) ≤ nI (sl_mb (isl T P U l) (rd T) i) := nI_pos' (by omega)
      by_cases c : isl T P U l i = true
      · have hl : sp_lasts T P U i = sl_la (isl T P U l) (rd T) i := by
          have e1 : ff (fun j => decide (¬ nI (lgt T P U (i + j)) = nI (lgt T P U i))) 1 (rd T - 1) = ff (fun j => !isl T P U l (i + j)) 1 (rd T - 1) := ff_cong _ _ (fun j _ _ => by
            unfold isl; rw [isl_t.mp c]; simp)
          unfold sp_lasts sl_la
          rw [e1]
          cases ff (fun j => !isl T P U l (i + j)) 1 (rd T - 1) <;> rfl
        by_cases d : isl T P U l (i + rd T - 1) = true
        · simp [c, d, hbe, fb_ct_succ, sl_mb, h0, nI_1]
        · have d' : isl T P U l (i + rd T - 1) = false := by simpa using d
          rw [hl]
          by_cases z : sl_la (isl T P U l) (rd T) i ≤ sl_mb (isl T P U l) (rd T) i
          · simp [c, d', hbe, fb_ct_succ, sl_mb, nI_le z (by omega), nI_1, Nat.max_eq_left z]
          · simp [c, d', hbe, fb_ct_succ, sl_mb, nI_ge (Nat.lt_of_not_le z) (by omega), nI_1, Nat.max_eq_right (Nat.le_of_lt (Nat.lt_of_not_le z))]
      · have c' : isl T P U l i = false := by simpa using c
        simp [c', hbe, fb_ct_succ, sl_mb, h0])
    (rd T) n 0 (by omega) (by omega)).trans ?_
  rw [hkx]
  have hle := fb_ct_le (isl T P U l) (rd T)
  unfold sp_spells
  by_cases w0 : w = 0
  · rw [if_pos w0, if_pos w0]
  · rw [if_neg w0, if_neg w0]
    by_cases c : fb_ct (isl T P U l) (rd T) = rd T
    · rw [if_pos (show nI (fb_ct (isl T P U l) (rd T)) = nI (rd T) by rw [c]), if_pos c, if_pos c]
      by_cases w1 : w = 1
      · rw [if_pos w1, if_pos w1]; rfl
      · rw [if_neg w1, if_neg w1]
    · rw [if_neg (show ¬ nI (fb_ct (isl T P U l) (rd T)) = nI (rd T) from fun q => c ((nI_eq (by omega) (by omega)).mp q)), if_neg c, if_neg c]
      by_cases w1 : w = 1
      · rw [if_pos w1, if_pos w1]
      · rw [if_neg w1, if_neg w1]
theorem spells_S {T P U : Nat → Nat} {turn phase up : Nat → Int32} (S : Sn T P U turn phase up) {n : Nat} (hn : 4000 ≤ n) {l : Int32} (hl : ¬ (l < 0 ∨ (3 : Int32) < l)) {w : Int32} (hw : w = 0 ∨ w = 1 ∨ w = 2) : f_X7_spells n turn phase up l w = some (sp_spells T P U l w) := by
  obtain ⟨r1, r2, -⟩ := rd_facts S
  simp only [f_X7_spells, noLight_v, bd1_in, bz_pos, bd1_id]
  rw [if_neg hl]
  unfold sp_spells
  rcases hw with rfl | rfl | rfl
  · rw [if_pos rfl, if_pos rfl, hoursWith_S S hn]
  · rw [if_neg (by decide), if_pos rfl, if_neg (by decide), if_pos rfl, rowsOf_S S hn, sl_spells r1 (isl_per S l)]
  · rw [if_neg (by decide), if_neg (by decide), if_pos rfl, if_neg (by decide), if_neg (by decide), longestRowOf_S S hn, sl_long r1 (isl_per S l)]
theorem in3 {x : Int32} (h : ¬ (x < 0 ∨ (2 : Int32) < x)) : x = 0 ∨ x = 1 ∨ x = 2 := by
  obtain ⟨j, hj, rfl⟩ := rng (a := 2) (by decide) h
  match j, hj with
  | 0, _ => exact Or.inl rfl
  | 1, _ => exact Or.inr (Or.inl rfl)
  | 2, _ => exact Or.inr (Or.inr rfl)
theorem ne3 {x : Int32} (h : x < 0 ∨ (2 : Int32) < x) : ¬ x = 0 ∧ ¬ x = 1 ∧ ¬ x = 2 := by
  refine ⟨?_, ?_, ?_⟩ <;> (intro e; subst e; revert h; decide)
theorem e_spells {T P U : Nat → Nat} {turn phase up mt mp mu : Nat → Int32} (S : Sn T P U turn phase up) (S2 : Sn T P U mt mp mu) {n : Nat} (hn : 4000 ≤ n) (x y : Int32) : ∃ r, f_X7_spells n turn phase up x y = some r ∧ f_X8_spells n mt mp mu x y = some r := by
  by_cases c : x < 0 ∨ (3 : Int32) < x
  · refine ⟨-2, ?_, ?_⟩
    · simp only [f_X7_spells, noLight_v, bd1_in, bz_pos]; rw [if_pos c]
    · simp only [f_X8_spells, isLight_v, bd1_in, bz_neg, jn0_]; rw [if_pos c]
  · by_cases d : y < 0 ∨ (2 : Int32) < y
    · refine ⟨-2, ?_, ?_⟩
      · simp only [f_X7_spells, noLight_v, bd1_in, bz_pos]; rw [if_neg c, if_neg (ne3 d).1, if_neg (ne3 d).2.1, if_neg (ne3 d).2.2]
      · simp only [f_X8_spells, isLight_v, in_v, bd1_in, bz_neg, jn0_]; rw [if_neg c, if_pos d]
    · refine ⟨_, spells_S S hn c (in3 d), ?_⟩
      simp only [f_X8_spells, isLight_v, in_v, bd1_in, bz_neg, jn0_, bd1_id]
      rw [if_neg c, if_neg d, spellsOf_S S2 hn]
