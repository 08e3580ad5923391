/-! dials -/
theorem ff_last (p : Nat → Bool) : ∀ (m i : Nat), ff p i (m + 1) = match ff p i m with | some j => some j | none => if p (i + m) = true then some (i + m) else none
  | 0, i => by rw [ff_s, ff_0, ff_0]; rfl
  | m + 1, i => by
    rw [ff_s, ff_last p m (i + 1), ff_s]
    by_cases c : p i = true
    · rw [if_pos c, if_pos c]
    · rw [if_neg c, if_neg c, show i + 1 + m = i + (m + 1) by omega]
theorem ff_ct (p : Nat → Bool) (m : Nat) : ff p 0 m = none ↔ fb_ct p m = 0 := by
  constructor
  · intro h
    exact fb_ct_zero.mpr (fun k hk => ff_none h k (Nat.zero_le k) (by omega))
  · intro h
    cases e : ff p 0 m with
    | none => rfl
    | some j =>
      have := ff_some e
      have q := (fb_ct_zero.mp h) j (by omega)
      rw [this.2.2.1] at q
      cases q
def shw (T P U : Nat → Nat) (k h : Nat) : Int32 := if pla T P k h < U k then nI (pla T P k h) else -1
def pdl (T P U : Nat → Nat) (a b : Int32) (h : Nat) : Bool := decide (shw T P U 0 h = a ∧ shw T P U 1 h = b)
theorem dialsShow_S {T P U : Nat → Nat} {turn phase up : Nat → Int32} (S : Sn T P U turn phase up) (n : Nat) (a b : Int32) {h : Nat} (hh : h < 2147483000) : f_X4_dialsShow n turn phase up a b (nI h) = some (if pdl T P U a b h = true then 1 else 0) := by
  unfold f_X4_dialsShow
  rw [shownIn_S S n (k := 0) (by omega) hh, bd1_in, shownIn_S S n (k := 1) (by omega) hh]
  simp only [bd1_in, jn0_]
  unfold pdl shw
  by_cases c : (if pla T P 0 h < U 0 then nI (pla T P 0 h) else -1) = a
  · by_cases d : (if pla T P 1 h < U 1 then nI (pla T P 1 h) else -1) = b
    · simp [c, d]
    · simp [c, d]
  · simp [c]
def ffI (o : Option Nat) : Int32 := match o with
  | some j => nI j
  | none => -1
def sp_dials (T P U : Nat → Nat) (a b w : Int32) : Int32 := if w = 0 then nI (fb_ct (pdl T P U a b) (rd T)) else ffI (ff (pdl T P U a b) 0 (rd T))
theorem bone {c : Prop} [Decidable c] {A : Type} (a b : A) : (if (if c then (1 : Int32) else 0) = 0 then a else b) = if c then b else a := bz_pos a b
theorem hoursByDials_S {T P U : Nat → Nat} {turn phase up : Nat → Int32} (S : Sn T P U turn phase up) {n : Nat} (hn : 4000 ≤ n) (a b : Int32) : f_X4_hoursByDials n turn phase up a b = some (nI (fb_ct (pdl T P U a b) (rd T))) := by
  obtain ⟨r1, r2, -⟩ := rd_facts S
  unfold f_X4_hoursByDials
  rw [hoursOfRound_S S hn, bd1_in]
  refine jn1_i (fun kx hkx => ?_)
  refine (lp_st (fun k i s => L_X4_hoursByDials_11 n turn phase up a b (nI (rd T)) kx k s (nI i)) (rd T) kx (fun i => nI (fb_ct (pdl T P U a b) i))
    (fun k => by rw [L_X4_hoursByDials_11_s, if_pos (nI_le (Nat.le_refl _) (by omega))])
    (fun k i hi => by rw [L_X4_hoursByDials_11_s, if_neg (nI_ge hi (by omega)), dialsShow_S S n a b (by omega), bd1_in, lt_, bone, fb_ct_succ, nI_if]; simp only [nI_1])
    (rd T) n 0 (by omega) (by omega)).trans ?_
  rw [hkx]
theorem firstByDials_S {T P U : Nat → Nat} {turn phase up : Nat → Int32} (S : Sn T P U turn phase up) {n : Nat} (hn : 4000 ≤ n) (a b : Int32) : f_X4_firstByDials n turn phase up a b = some (ffI (ff (pdl T P U a b) 0 (rd T))) := by
  obtain ⟨r1, r2, -⟩ := rd_facts S
  unfold f_X4_firstByDials
  rw [hoursOfRound_S S hn, bd1_in, jn0_]
  refine (lp_ff (fun k i => L_X4_firstByDials_8 n turn phase up a b (nI (rd T)) (some (-1)) k (nI i)) (rd T) (some (-1)) (pdl T P U a b) (fun i => some (nI i))
    (fun k => by rw [L_X4_firstByDials_8_s, if_pos (nI_le (Nat.le_refl _) (by omega))])
    (fun k i hi => by rw [L_X4_firstByDials_8_s, if_neg (nI_ge hi (by omega)), dialsShow_S S n a b (by omega), bd1_in, bone, nI_1])
    (rd T) n 0 (by omega) (by omega)).trans ?_
  cases ff (pdl T P U a b) 0 (rd T) <;> rfl
theorem dialsOf_S {T P U : Nat → Nat} {turn phase up : Nat → Int32} (S : Sn T P U turn phase up) {n : Nat} (hn : 4000 ≤ n) (a b w : Int32) : f_X8_dialsOf n turn phase up a b w = some (sp_dials T P U a b w) := by
  obtain ⟨r1, r2, -⟩ := rd_facts S
  unfold f_X8_dialsOf
  rw [roundNow_S S hn, bd1_in]
  refine jn2_i (fun kx hkx => ?_)
  refine (lp_st (fun k i (s : Int32 × Int32) => L_X8_dialsOf_15 n turn phase up a b (nI (rd T)) kx k s.1 s.2 (nI i)) (rd T) (fun s => kx s.1 s.2) (fun i => (nI (fb_ct (pdl T P U a b) i), ffI (ff (pdl T P U a b) 0 i)))
    (fun k => by rw [L_X8_dialsOf_15_s, if_pos (nI_le (Nat.le_refl _) (by omega))])
    (fun k i hi => by
      have hct := fb_ct_le (pdl T P U a b) i
      rw [L_X8_dialsOf_15_s, if_neg (nI_ge hi (by omega)), show (0 : Int32) = nI 0 from rfl, dialOf_S S n (k := 0) (by omega) (by omega), show (1 : Int32) = nI 1 from rfl, dialOf_S S n (k := 1) (by omega) (by omega)]
      simp only [bd1_in, jn1_, jn0_, lt_]
      rw [show nI 0 = 0 from rfl, show nI 1 = 1 from rfl, nI_1, fb_ct_succ, ff_last, Nat.zero_add]
      have hz : (nI (fb_ct (pdl T P U a b) i) = 0) ↔ ff (pdl T P U a b) 0 i = none := by
        rw [ff_ct]
        exact ⟨fun q => (nI_eq (a := fb_ct (pdl T P U a b) i) (b := 0) (by omega) (by omega)).mp q, fun q => by rw [q]; rfl⟩
      have hp : pdl T P U a b i = true ↔ (shw T P U 0 i = a ∧ shw T P U 1 i = b) := by unfold pdl; simp
      change (if shw T P U 0 i = a then if shw T P U 1 i = b then _ else _ else _) = _
      by_cases c : shw T P U 0 i = a
      · by_cases d : shw T P U 1 i = b
        · have hpt := hp.mpr ⟨c, d⟩
          rw [if_pos c, if_pos d, if_pos hpt, if_pos hpt]
          cases e : ff (pdl T P U a b) 0 i with
          | none =>
            simp [hz.mpr e, nI_1, ffI]
            rw [(ff_ct _ _).mp e]
            rfl
          | some j =>
            have hne : ¬ nI (fb_ct (pdl T P U a b) i) = 0 := fun q => by rw [hz.mp q] at e; cases e
            simp [hne, nI_1, ffI]
        · have hpf : ¬ pdl T P U a b i = true := fun q => d (hp.mp q).2
          rw [if_pos c, if_neg d, if_neg hpf, if_neg hpf]
          cases e : ff (pdl T P U a b) 0 i <;> simp [ffI]
      · have hpf : ¬ pdl T P U a b i = true := fun q => c (hp.mp q).1
        rw [if_neg c, if_neg hpf, if_neg hpf]
        cases e : ff (pdl T P U a b) 0 i <;> simp [ffI])
    (rd T) n 0 (by omega) (by omega)).trans ?_
  rw [hkx]
  unfold sp_dials
  by_cases c : w = 0
  · rw [if_pos c, if_pos c]
  · rw [if_neg c, if_neg c]
theorem dials_S {T P U : Nat → Nat} {turn phase up : Nat → Int32} (S : Sn T P U turn phase up) {n : Nat} (hn : 4000 ≤ n) {a b w : Int32} (ha : ¬ (a < (-1) ∨ (39 : Int32) < a)) (hb : ¬ (b < (-1) ∨ (39 : Int32) < b)) (hw : w = 0 ∨ w = 1) : f_X7_dials n turn phase up a b w = some (sp_dials T P U a b w) := by
  simp only [f_X7_dials, outside_v, bd1_in, bz_pos, bd1_id]
  rw [if_neg ha, if_neg hb, if_neg (show ¬ (w < 0 ∨ (1 : Int32) < w) by rcases hw with rfl | rfl <;> decide), hoursByDials_S S hn, firstByDials_S S hn]
  unfold sp_dials
  rcases hw with rfl | rfl <;> rfl
theorem e_dials {T P U : Nat → Nat} {turn phase up mt mp mu : Nat → Int32} (S : Sn T P U turn phase up) (S2 : Sn T P U mt mp mu) {n : Nat} (hn : 4000 ≤ n) (a b w : Int32) : ∃ r, f_X7_dials n turn phase up a b w = some r ∧ f_X8_dials n mt mp mu a b w = some r := by
  by_cases c1 : a < (-1) ∨ (39 : Int32) < a
  · refine ⟨-2, ?_, ?_⟩
    · simp only [f_X7_dials, outside_v, bd1_in, bz_pos]; rw [if_pos c1]
    · simp only [f_X8_dials, in_v, bd1_in, bz_neg, jn0_]; rw [if_pos c1]
  by_cases c2 : b < (-1) ∨ (39 : Int32) < b
  · refine ⟨-2, ?_, ?_⟩
    · simp only [f_X7_dials, outside_v, bd1_in, bz_pos]; rw [if_neg c1, if_pos c2]
    · simp only [f_X8_dials, in_v, bd1_in, bz_neg, jn0_]; rw [if_neg c1, if_pos c2]
  by_cases c3 : w < 0 ∨ (1 : Int32) < w
  · refine ⟨-2, ?_, ?_⟩
    · simp only [f_X7_dials, outside_v, bd1_in, bz_pos]; rw [if_neg c1, if_neg c2, if_pos c3]
    · simp only [f_X8_dials, in_v, bd1_in, bz_neg, jn0_]; rw [if_neg c1, if_neg c2, if_pos c3]
  refine ⟨_, dials_S S hn c1 c2 (in2 c3), ?_⟩
  simp only [f_X8_dials, in_v, bd1_in, bz_neg, jn0_, bd1_id]
  rw [if_neg c1, if_neg c2, if_neg c3, dialsOf_S S2 hn]
