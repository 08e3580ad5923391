/-! how the two states belong together, by kinds -/
def RD (dsize : Int32) (dbytes : Nat → Int32) (csize : Int32) (cbytes : Nat → Int32) (typed texts : Nat → Int32) : Prop := ∃ d c : Nat, d ≤ 60 ∧ c ≤ 20 ∧ dsize = nI d ∧ csize = nI c ∧ typed 0 = nI d ∧ typed 1 = nI c ∧ (∀ i, i < d → dbytes i = texts i) ∧ ∀ i, i < c → cbytes i = texts (60 + i)
def RA (a b : Nat → Int32) : Prop := ∀ k, k < 6 → a k = b k
def RP (phours : Nat → Int32) (pgrowth : Nat → Nat → Int32) (ripes growths : Nat → Int32) : Prop := ∀ k, k < 4 → (∃ h, 1 ≤ h ∧ h ≤ 20 ∧ phours k = nI h ∧ ripes k = nI h) ∧ ∀ i, i < 4 → pgrowth k i = growths (4 * k + i) ∧ -9 ≤ (pgrowth k i).toInt ∧ (pgrowth k i).toInt ≤ 9
theorem RA_upd {a b : Nat → Int32} (h : RA a b) (j : Nat) (x : Int32) : RA (upd a j x) (upd b j x) := fun k hk => by
  unfold upd; split
  · rfl
  · exact h k hk
theorem e_awake {n : Nat} {a b : Nat → Int32} (h : RA a b) (x y : Int32) : ∃ r a2 b2, f_X7_awake n a x y = some (r, a2) ∧ f_X8_awake n b x y = some (r, b2) ∧ RA a2 b2 := by
  simp only [f_X7_awake, f_X8_awake, noPerson_v, isPerson_v, outside_v, in_v, bd1_in, bz_pos, bz_neg]
  by_cases c : x < 0 ∨ (5 : Int32) < x
  · simp only [if_pos c]; exact ⟨_, _, _, rfl, rfl, h⟩
  · simp only [if_neg c]
    by_cases d : y < 0 ∨ (15 : Int32) < y
    · simp only [if_pos d]; exact ⟨_, _, _, rfl, rfl, h⟩
    · simp only [if_neg d]
      obtain ⟨j, hj, rfl⟩ := rng (a := 5) (by decide) c
      simp only [ix_in _ (vp_in_nI (show j < 6 by omega) (by omega)), nI_clamp (show j < 2 ^ 31 by omega)]
      exact ⟨_, _, _, rfl, by rw [h j (by omega)], RA_upd h j y⟩
theorem e_worth {n : Nat} {a b : Nat → Int32} (h : RA a b) (x y : Int32) : ∃ r a2 b2, f_X7_worth n a x y = some (r, a2) ∧ f_X8_worth n b x y = some (r, b2) ∧ RA a2 b2 := by
  simp only [f_X7_worth, f_X8_worth, noPerson_v, isPerson_v, outside_v, in_v, bd1_in, bz_pos, bz_neg]
  by_cases c : x < 0 ∨ (5 : Int32) < x
  · simp only [if_pos c]; exact ⟨_, _, _, rfl, rfl, h⟩
  · simp only [if_neg c]
    by_cases d : y < 0 ∨ (99 : Int32) < y
    · simp only [if_pos d]; exact ⟨_, _, _, rfl, rfl, h⟩
    · simp only [if_neg d]
      obtain ⟨j, hj, rfl⟩ := rng (a := 5) (by decide) c
      simp only [ix_in _ (vp_in_nI (show j < 6 by omega) (by omega)), nI_clamp (show j < 2 ^ 31 by omega)]
      exact ⟨_, _, _, rfl, by rw [h j (by omega)], RA_upd h j y⟩
theorem plant_v (n : Nat) (ph : Nat → Int32) {k : Nat} (hk : k < 4) (y : Int32) : f_X7_plant n ph (nI k) y = if y < 1 ∨ (20 : Int32) < y then some (-2, ph) else some (ph k, upd ph k y) := by
  simp only [f_X7_plant, outside_v, bd1_in, bz_pos]
  match k, hk with
  | 0, _ => rw [if_pos (show nI 0 = 0 from rfl)]
  | 1, _ => rw [if_neg (show ¬ nI 1 = 0 by decide), if_pos (show nI 1 = 1 from rfl)]
  | 2, _ => rw [if_neg (show ¬ nI 2 = 0 by decide), if_neg (show ¬ nI 2 = 1 by decide), if_pos (show nI 2 = 2 from rfl)]
  | 3, _ => rw [if_neg (show ¬ nI 3 = 0 by decide), if_neg (show ¬ nI 3 = 1 by decide), if_neg (show ¬ nI 3 = 2 by decide), if_pos (show nI 3 = 3 from rfl)]
theorem rng1 {x : Int32} {a b : Nat} (ha : a < 2 ^ 31) (hb : b < 2 ^ 31) (h : ¬ (x < nI a ∨ nI b < x)) : ∃ j, a ≤ j ∧ j ≤ b ∧ x = nI j := by
  have h1 : ¬ x < nI a := fun w => h (Or.inl w)
  have h2 : ¬ nI b < x := fun w => h (Or.inr w)
  have h3 : ¬ (x < 0 ∨ nI b < x) := fun q => q.elim (fun z => h1 (by
    rw [fa_lt] at z ⊢
    have e0 : (0 : Int32).toInt = 0 := rfl
    rw [nI_toInt ha]; omega)) h2
  obtain ⟨j, hj, rfl⟩ := rng hb h3
  refine ⟨j, ?_, hj, rfl⟩
  rcases Nat.lt_or_ge j a with q | q
  · exact absurd (nI_lt q ha) h1
  · exact q
theorem rng1_in {j a b : Nat} (hb : b < 2 ^ 31) (h1 : a ≤ j) (h2 : j ≤ b) : ¬ (nI j < nI a ∨ nI b < nI j) := fun q => q.elim (fun z => nI_nlt h1 (by omega) z) (fun z => nI_nlt h2 hb z)
theorem e_plant {n : Nat} {ph : Nat → Int32} {pg : Nat → Nat → Int32} {rp gr : Nat → Int32} (R : RP ph pg rp gr) (x y : Int32) : ∃ r a2 b2, f_X7_plant n ph x y = some (r, a2) ∧ f_X8_plant n rp x y = some (r, b2) ∧ RP a2 pg b2 gr := by
  by_cases c : x < 0 ∨ (3 : Int32) < x
  · obtain ⟨n0, n1, n2, n3⟩ := ne4 c
    refine ⟨-2, ph, rp, ?_, ?_, R⟩
    · unfold f_X7_plant; rw [if_neg n0, if_neg n1, if_neg n2, if_neg n3]
    · simp only [f_X8_plant, isPlant_v, bd1_in, bz_neg]; rw [if_pos c]
  · obtain ⟨k, hk, rfl⟩ := rng (a := 3) (by decide) c
    rw [plant_v n ph (by omega)]
    simp only [f_X8_plant, isPlant_v, in_v, bd1_in, bz_neg]
    rw [if_neg c]
    by_cases d : y < 1 ∨ (20 : Int32) < y
    · rw [if_pos d, if_pos d]; exact ⟨_, _, _, rfl, rfl, R⟩
    · rw [if_neg d, if_neg d, ix_in _ (vp_in_nI (show k < 4 by omega) (by omega)), ix_in _ (vp_in_nI (show k < 4 by omega) (by omega)), nI_clamp (show k < 2 ^ 31 by omega)]
      obtain ⟨j, j1, j2, rfl⟩ := rng1 (a := 1) (b := 20) (by decide) (by decide) d
      obtain ⟨⟨h, h1, h2, h3, h4⟩, -⟩ := R k (by omega)
      refine ⟨_, _, _, rfl, by rw [h3, h4], fun q hq => ⟨?_, (R q hq).2⟩⟩
      unfold upd
      by_cases e : q = k
      · exact ⟨j, j1, j2, by rw [if_pos e], by rw [if_pos e]⟩
      · rw [if_neg e, if_neg e]; exact (R q hq).1
theorem grows_v (n : Nat) (pg : Nat → Nat → Int32) {k : Nat} (hk : k < 4) (y z : Int32) : f_X7_grows n pg (nI k) y z = if y < 0 ∨ (3 : Int32) < y then some (-2, pg) else if z < (-9) ∨ (9 : Int32) < z then some (-2, pg) else ix_ y 4 (ix_ y 4 (some ((pg k) y.toNatClampNeg + 10, va_up pg k (upd (pg k) y.toNatClampNeg z)))) := by
  simp only [f_X7_grows, noLight_v, noGrowth_v, bd1_in, bz_pos]
  match k, hk with
  | 0, _ => rw [if_pos (show nI 0 = 0 from rfl)]
  | 1, _ => rw [if_neg (show ¬ nI 1 = 0 by decide), if_pos (show nI 1 = 1 from rfl)]
  | 2, _ => rw [if_neg (show ¬ nI 2 = 0 by decide), if_neg (show ¬ nI 2 = 1 by decide), if_pos (show nI 2 = 2 from rfl)]
  | 3, _ => rw [if_neg (show ¬ nI 3 = 0 by decide), if_neg (show ¬ nI 3 = 1 by decide), if_neg (show ¬ nI 3 = 2 by decide), if_pos (show nI 3 = 3 from rfl)]
theorem gr_bnd {z : Int32} (h : ¬ (z < (-9) ∨ (9 : Int32) < z)) : -9 ≤ z.toInt ∧ z.toInt ≤ 9 := by
  have h1 : ¬ z < (-9) := fun q => h (Or.inl q)
  have h2 : ¬ (9 : Int32) < z := fun q => h (Or.inr q)
  rw [fa_lt] at h1 h2
  have e1 : (-9 : Int32).toInt = -9 := by decide
  have e2 : (9 : Int32).toInt = 9 := by decide
  omega
theorem four_mul (k i : Nat) : (4 : Int32) * nI k + nI i = nI (4 * k + i) := by rw [show (4 : Int32) = nI 4 from rfl, pk_mul, nI_add]
theorem e_grows {n : Nat} {ph : Nat → Int32} {pg : Nat → Nat → Int32} {rp gr : Nat → Int32} (R : RP ph pg rp gr) (x y z : Int32) : ∃ r a2 b2, f_X7_grows n pg x y z = some (r, a2) ∧ f_X8_grows n gr x y z = some (r, b2) ∧ RP ph a2 rp b2 := by
  by_cases c : x < 0 ∨ (3 : Int32) < x
  · obtain ⟨n0, n1, n2, n3⟩ := ne4 c
    refine ⟨-2, pg, gr, ?_, ?_, R⟩
    · unfold f_X7_grows; rw [if_neg n0, if_neg n1, if_neg n2, if_neg n3]
    · simp only [f_X8_grows, isPlant_v, bd1_in, bz_neg]; rw [if_pos c]
  · obtain ⟨k, hk, rfl⟩ := rng (a := 3) (by decide) c
    rw [grows_v n pg (by omega)]
    simp only [f_X8_grows, isPlant_v, isLight_v, in_v, bd1_in, bz_neg]
    rw [if_neg c]
    by_cases d : y < 0 ∨ (3 : Int32) < y
    · rw [if_pos d, if_pos d]; exact ⟨_, _, _, rfl, rfl, R⟩
    · rw [if_neg d, if_neg d]
      by_cases e : z < (-9) ∨ (9 : Int32) < z
      · rw [if_pos e, if_pos e]; exact ⟨_, _, _, rfl, rfl, R⟩
      · rw [if_neg e, if_neg e]
        obtain ⟨i, hi, rfl⟩ := rng (a := 3) (by decide) d
        rw [four_mul, ix_in _ (vp_in_nI (show i < 4 by omega) (by omega)), ix_in _ (vp_in_nI (show i < 4 by omega) (by omega)), ix_in _ (vp_in_nI (show 4 * k + i < 16 by omega) (by omega)), ix_in _ (vp_in_nI (show 4 * k + i < 16 by omega) (by omega)), nI_clamp (show i < 2 ^ 31 by omega), nI_clamp (show 4 * k + i < 2 ^ 31 by omega)]
        refine ⟨_, _, _, rfl, by rw [((R k (by omega)).2 i (by omega)).1], fun q hq => ⟨(R q hq).1, fun p hp => ?_⟩⟩
        have Rq := (R q hq).2 p hp
        unfold va_up upd
        by_cases w : q = k
        · subst w
          rw [if_pos rfl]
          by_cases v : p = i
          · subst v
            rw [if_pos rfl, if_pos rfl]; exact ⟨rfl, gr_bnd e⟩
          · rw [if_neg v, if_neg (by omega)]; exact Rq
        · rw [if_neg w, if_neg (by omega)]; exact Rq
theorem e_wipe {n : Nat} {ds cs : Int32} {db cb ty tx : Nat → Int32} (R : RD ds db cs cb ty tx) (x : Int32) : ∃ r d2 c2 t2, f_X7_wipe n ds cs x = some (r, d2, c2) ∧ f_X8_wipe n ty x = some (r, t2) ∧ RD d2 db c2 cb t2 tx := by
  obtain ⟨d, c, hd, hc, rfl, rfl, t0, t1, R1, R2⟩ := R
  simp only [f_X8_wipe, in_v, bd1_in, bz_neg]
  unfold f_X7_wipe
  by_cases q : x < 0 ∨ (1 : Int32) < x
  · rw [if_pos q, if_neg (ne2 q).1, if_neg (ne2 q).2]
    exact ⟨_, _, _, _, rfl, rfl, d, c, hd, hc, rfl, rfl, t0, t1, R1, R2⟩
  · rw [if_neg q]
    rcases in2 q with rfl | rfl
    · rw [if_pos rfl, ix_in _ (show vp_in 0 2 by unfold vp_in; decide), ix_in _ (show vp_in 0 2 by unfold vp_in; decide), cl0]
      exact ⟨nI d, 0, nI c, upd ty 0 0, rfl, by rw [t0], 0, c, by omega, hc, rfl, rfl, rfl, t1, fun i hi => by omega, R2⟩
    · rw [if_neg (by decide), if_pos rfl, ix_in _ (show vp_in 1 2 by unfold vp_in; decide), ix_in _ (show vp_in 1 2 by unfold vp_in; decide), cl1]
      exact ⟨nI c, nI d, 0, upd ty 1 0, rfl, by rw [t1], d, 0, hd, by omega, rfl, rfl, t0, rfl, R1, fun i hi => by omega⟩
theorem e_undo {n : Nat} {ds cs : Int32} {db cb ty tx : Nat → Int32} (R : RD ds db cs cb ty tx) (x : Int32) : ∃ r d2 c2 t2, f_X7_undo n ds cs x = some (r, d2, c2) ∧ f_X8_undo n ty x = some (r, t2) ∧ RD d2 db c2 cb t2 tx := by
  obtain ⟨d, c, hd, hc, rfl, rfl, t0, t1, R1, R2⟩ := R
  simp only [f_X8_undo, in_v, bd1_in, bz_neg]
  unfold f_X7_undo
  by_cases q : x < 0 ∨ (1 : Int32) < x
  · rw [if_pos q, if_neg (ne2 q).1, if_neg (ne2 q).2]
    exact ⟨_, _, _, _, rfl, rfl, d, c, hd, hc, rfl, rfl, t0, t1, R1, R2⟩
  · rw [if_neg q]
    rcases in2 q with rfl | rfl
    · simp only [ix_in _ (show vp_in 0 2 by unfold vp_in; decide), cl0, t0, if_true]
      by_cases z : d = 0
      · subst z
        rw [if_pos (show nI 0 = 0 from rfl), if_pos (show nI 0 = 0 from rfl)]
        exact ⟨_, _, _, _, rfl, rfl, 0, c, by omega, hc, rfl, rfl, t0, t1, R1, R2⟩
      · rw [if_neg (nI_ne0 (by omega) (by omega)), if_neg (nI_ne0 (by omega) (by omega)), show nI d - 1 = nI (d - 1) from pk_sub (b := 1) (by omega)]
        exact ⟨_, _, _, _, rfl, rfl, d - 1, c, by omega, hc, rfl, rfl, rfl, t1, fun i hi => R1 i (by omega), R2⟩
    · simp only [ix_in _ (show vp_in 1 2 by unfold vp_in; decide), cl1, t1, if_true, show ¬ (1 : Int32) = 0 by decide, if_false]
      by_cases z : c = 0
      · subst z
        rw [if_pos (show nI 0 = 0 from rfl), if_pos (show nI 0 = 0 from rfl)]
        exact ⟨_, _, _, _, rfl, rfl, d, 0, hd, by omega, rfl, rfl, t0, t1, R1, R2⟩
      · rw [if_neg (nI_ne0 (by omega) (by omega)), if_neg (nI_ne0 (by omega) (by omega)), show nI c - 1 = nI (c - 1) from pk_sub (b := 1) (by omega)]
        exact ⟨_, _, _, _, rfl, rfl, d, c - 1, hd, by omega, rfl, rfl, t0, rfl, R1, fun i hi => R2 i (by omega)⟩
theorem e_type {n : Nat} {ds cs : Int32} {db cb ty tx : Nat → Int32} (R : RD ds db cs cb ty tx) (x y : Int32) : ∃ r d2 e2 c2 g2 t2 u2, f_X7_type n ds db cs cb x y = some (r, d2, e2, c2, g2) ∧ f_X8_type n ty tx x y = some (r, t2, u2) ∧ RD d2 e2 c2 g2 t2 u2 := by
  obtain ⟨d, c, hd, hc, rfl, rfl, t0, t1, R1, R2⟩ := R
  simp only [f_X8_type, in_v, bd1_in, bz_neg]
  simp only [f_X7_type, outside_v, bd1_in, bz_pos]
  by_cases q : x < 0 ∨ (1 : Int32) < x
  · rw [if_pos q, if_neg (ne2 q).1, if_neg (ne2 q).2]
    exact ⟨_, _, _, _, _, _, _, rfl, rfl, d, c, hd, hc, rfl, rfl, t0, t1, R1, R2⟩
  · rw [if_neg q]
    by_cases v : y < 0 ∨ (255 : Int32) < y
    · simp only [if_pos v]
      rcases in2 q with rfl | rfl
      · exact ⟨_, _, _, _, _, _, _, rfl, rfl, d, c, hd, hc, rfl, rfl, t0, t1, R1, R2⟩
      · exact ⟨_, _, _, _, _, _, _, rfl, rfl, d, c, hd, hc, rfl, rfl, t0, t1, R1, R2⟩
    · simp only [if_neg v]
      rcases in2 q with rfl | rfl
      · simp only [ix_in _ (show vp_in 0 2 by unfold vp_in; decide), cl0, t0, lt_, if_true, f_X6_append_D]
        rw [if_neg (nI_pos (by omega)), show (60 : Int32) * 0 + nI d = nI d by rw [show (60 : Int32) * 0 = nI 0 from rfl, nI_add, Nat.zero_add], show (60 : Int32) = nI 60 from rfl]
        rcases Nat.lt_or_ge d 60 with z | z
        · rw [if_pos (nI_lt z (by omega)), ix_in _ (vp_in_nI z (by omega)), bd3_in, if_neg (by decide), if_neg (fun w => by have := (nI_eq (a := d) (b := 60) (by omega) (by omega)).mp w; omega), ix_in _ (vp_in_nI (show d < 120 by omega) (by omega)), nI_clamp (show d < 2 ^ 31 by omega), nI_1]
          refine ⟨_, _, _, _, _, _, _, rfl, rfl, d + 1, c, by omega, hc, rfl, rfl, rfl, t1, fun i hi => ?_, fun i hi => ?_⟩
          · unfold upd
            by_cases w : i = d
            · rw [if_pos w, if_pos w]
            · rw [if_neg w, if_neg w]; exact R1 i (by omega)
          · unfold upd
            rw [if_neg (by omega)]; exact R2 i hi
        · rw [if_neg (nI_nlt z (by omega)), bd3_in, if_pos rfl, if_pos (by rw [show d = 60 by omega])]
          exact ⟨_, _, _, _, _, _, _, rfl, rfl, d, c, hd, hc, rfl, rfl, t0, t1, R1, R2⟩
      · simp only [ix_in _ (show vp_in 1 2 by unfold vp_in; decide), cl1, t1, lt_, f_X6_append_C, if_true, show ¬ (1 : Int32) = 0 by decide, if_false]
        rw [if_neg (nI_pos (by omega)), show (60 : Int32) * 1 + nI c = nI (60 + c) by rw [show (60 : Int32) * 1 = nI 60 from rfl, nI_add], show (20 : Int32) = nI 20 from rfl]
        rcases Nat.lt_or_ge c 20 with z | z
        · rw [if_pos (nI_lt z (by omega)), ix_in _ (vp_in_nI z (by omega)), bd3_in, if_neg (by decide), if_neg (fun w => by have := (nI_eq (a := c) (b := 20) (by omega) (by omega)).mp w; omega), ix_in _ (vp_in_nI (show 60 + c < 120 by omega) (by omega)), nI_clamp (show c < 2 ^ 31 by omega), nI_clamp (show 60 + c < 2 ^ 31 by omega), nI_1]
          refine ⟨_, _, _, _, _, _, _, rfl, rfl, d, c + 1, hd, by omega, rfl, rfl, t0, rfl, fun i hi => ?_, fun i hi => ?_⟩
          · unfold upd
            rw [if_neg (by omega)]; exact R1 i hi
          · unfold upd
            by_cases w : i = c
            · rw [if_pos w, if_pos (by omega)]
            · rw [if_neg w, if_neg (by omega)]; exact R2 i (by omega)
        · rw [if_neg (nI_nlt z (by omega)), bd3_in, if_pos rfl, if_pos (by rw [show c = 20 by omega])]
          exact ⟨_, _, _, _, _, _, _, rfl, rfl, d, c, hd, hc, rfl, rfl, t0, t1, R1, R2⟩
