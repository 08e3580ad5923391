/-! the shortest -/
def h2t (a b : Nat) (k : Nat) : Nat := fb_sm (fun j => if j % 2 = 0 then a else b) k
theorem h2t_le {a b : Nat} (ha : a ≤ 80) (hb : b ≤ 80) (k : Nat) : h2t a b k ≤ k * 80 := fb_sm_bound (fun j _ => by split <;> omega)
def sp_by (T P : Nat → Nat) (q a b : Nat) : Nat := mxs (fun k => awy T P q (h2t a b k)) 24
theorem sp_by_le {T P U : Nat → Nat} {turn phase up : Nat → Int32} (S : Sn T P U turn phase up) {q : Nat} (hq : q < 2) (a b : Nat) : sp_by T P q a b ≤ 40 := mxs_le 24 (fun j _ => awy_le S hq _)
theorem and1 (i : Nat) : (nI i &&& 1 : Int32) = nI (i % 2) := fa_mask i 1
theorem two_if {i a b : Nat} : (if nI (i % 2) = 0 then nI a else nI b) = nI (if i % 2 = 0 then a else b) := by
  by_cases c : i % 2 = 0
  · rw [c, if_pos (show nI 0 = 0 from rfl), if_pos rfl]
  · rw [if_neg (nI_ne0 (by omega) (by omega)), if_neg c]
theorem driftByTwo_S {T P U : Nat → Nat} {turn phase up : Nat → Int32} (S : Sn T P U turn phase up) {n : Nat} (hn : 4000 ≤ n) {q a b : Nat} (hq : q < 2) (ha : a ≤ 80) (hb : b ≤ 80) : f_X7_driftByTwo n (turn q) (phase q) (nI a) (nI b) = some (nI (sp_by T P q a b)) := by
  have hdw : ∀ k, mxs (fun k => awy T P q (h2t a b k)) k ≤ 40 := fun k => mxs_le k (fun j _ => awy_le S hq _)
  unfold f_X7_driftByTwo
  refine jn1_i (fun kx hkx => ?_)
  refine (lp_st (fun k i (s : Int32 × Int32) => L_X7_driftByTwo_8 n (turn q) (phase q) (nI a) (nI b) kx k s.1 s.2 (nI i)) 24 (fun s => kx s.1) (fun i => (nI (mxs (fun k => awy T P q (h2t a b k)) i), nI (h2t a b i)))
    (fun k => by rw [L_X7_driftByTwo_8_s, if_pos (show (24 : Int32) ≤ nI 24 by decide)])
    (fun k i hi => by
      have h1 := h2t_le ha hb i
      have h3 := awy_le S hq (h2t a b i)
      have h4 := hdw i
      rw [L_X7_driftByTwo_8_s, if_neg (show ¬ (24 : Int32) ≤ nI i from nI_ge (b := 24) hi (by omega)), away_A S n hq (by omega), bd1_in, lt_, and1, two_if, mx_lt (by omega) (by omega), nI_add, nI_1]
      rfl)
    24 n 0 (by omega) (by omega)).trans ?_
  rw [hkx]; rfl
theorem driftBy_S {T P U : Nat → Nat} {turn phase up : Nat → Int32} (S : Sn T P U turn phase up) {n : Nat} (hn : 4000 ≤ n) {q a b : Nat} (hq : q < 2) (ha : a ≤ 80) (hb : b ≤ 80) : f_X8_driftBy n turn phase (nI q) (nI a) (nI b) = some (nI (sp_by T P q a b)) := by
  have hdw : ∀ k, mxs (fun k => awy T P q (h2t a b k)) k ≤ 40 := fun k => mxs_le k (fun j _ => awy_le S hq _)
  unfold f_X8_driftBy
  refine jn1_i (fun kx hkx => ?_)
  refine (lp_st (fun k i (s : Int32 × Int32) => L_X8_driftBy_9 n turn phase (nI q) (nI a) (nI b) kx k s.1 s.2 (nI i)) 24 (fun s => kx s.1) (fun i => (nI (mxs (fun k => awy T P q (h2t a b k)) i), nI (h2t a b i)))
    (fun k => by rw [L_X8_driftBy_9_s, if_pos (show (24 : Int32) ≤ nI 24 by decide)])
    (fun k i hi => by
      have h1 := h2t_le ha hb i
      have h3 := awy_le S hq (h2t a b i)
      have h4 := hdw i
      rw [L_X8_driftBy_9_s, if_neg (show ¬ (24 : Int32) ≤ nI i from nI_ge (b := 24) hi (by omega)), awayOf_A S n hq (by omega), bd1_in, lt_, lt_, show nI i - nI i / 2 * 2 = nI (i % 2) from pk_rem (d := 2) (by omega) (by omega) (by omega), two_if, mx_le (by omega) (by omega), nI_add, nI_1]
      rfl)
    24 n 0 (by omega) (by omega)).trans ?_
  rw [hkx]; rfl
/-- which first of two does: of those whose other is in the row too -/
def p2 (T P : Nat → Nat) (q x h : Nat) (i : Nat) : Bool := decide (1 ≤ h - i ∧ h - i ≤ 40) && decide (sp_by T P q i (h - i) ≤ x)
theorem ff_skip {p : Nat → Bool} {m : Nat} : ∀ (a i : Nat), (∀ j, i ≤ j → j < i + a → p j = false) → ff p i (a + m) = ff p (i + a) m
  | 0, i, _ => by rw [Nat.zero_add, Nat.add_zero]
  | a + 1, i, h => by
    rw [show a + 1 + m = a + m + 1 by omega, ff_s, if_neg (by rw [h i (Nat.le_refl i) (by omega)]; decide), ff_skip a (i + 1) (fun j h1 h2 => h j (by omega) (by omega)), show i + 1 + a = i + (a + 1) by omega]
theorem ff_no {p : Nat → Bool} : ∀ (m i : Nat), (∀ j, i ≤ j → j < i + m → p j = false) → ff p i m = none
  | 0, i, _ => rfl
  | m + 1, i, h => by rw [ff_s, if_neg (by rw [h i (Nat.le_refl i) (by omega)]; decide), ff_no m (i + 1) (fun j h1 h2 => h j (by omega) (by omega))]
theorem ff_trim {p : Nat → Bool} {c : Nat} : ∀ (m i : Nat), (∀ j, i + m ≤ j → j < i + m + c → p j = false) → ff p i (m + c) = ff p i m
  | 0, i, h => by rw [Nat.zero_add, ff_0]; exact ff_no c i (fun j h1 h2 => h j (by omega) (by omega))
  | m + 1, i, h => by rw [show m + 1 + c = m + c + 1 by omega, ff_s, ff_s, ff_trim m (i + 1) (fun j h1 h2 => h j (by omega) (by omega))]
theorem ff_window {p : Nat → Bool} {i m a b : Nat} (h1 : i ≤ a) (h2 : a ≤ b) (h3 : b ≤ i + m) (ha : ∀ j, i ≤ j → j < a → p j = false) (hb : ∀ j, b ≤ j → j < i + m → p j = false) : ff p i m = ff p a (b - a) := by
  rw [show m = (a - i) + (m - (a - i)) by omega, ff_skip (a - i) i (fun j q1 q2 => ha j q1 (by omega)), show i + (a - i) = a by omega, show m - (a - i) = (b - a) + (i + m - b) by omega, ff_trim (b - a) a (fun j q1 q2 => hb j (by omega) (by omega))]
theorem p2_out {T P : Nat → Nat} {q x h i : Nat} (c : ¬ (1 ≤ h - i ∧ h - i ≤ 40)) : p2 T P q x h i = false := by unfold p2; rw [decide_eq_false c, Bool.false_and]
theorem p2_in {T P : Nat → Nat} {q x h i : Nat} (c : 1 ≤ h - i ∧ h - i ≤ 40) : p2 T P q x h i = decide (sp_by T P q i (h - i) ≤ x) := by unfold p2; rw [decide_eq_true c, Bool.true_and]
theorem firstOfTwo_S {T P U : Nat → Nat} {turn phase up : Nat → Int32} (S : Sn T P U turn phase up) {n : Nat} (hn : 4000 ≤ n) {q x h : Nat} (hq : q < 2) (hx : x ≤ 20) (hh : h ≤ 80) (h2 : 2 ≤ h) : f_X7_firstOfTwo n (turn q) (phase q) (nI x) (nI h) = some (ffI (ff (p2 T P q x h) 1 40)) := by
  have elo : (if (1 : Int32) < nI h - 40 then nI h - 40 else 1) = nI (max 1 (h - 40)) := by
    rcases Nat.lt_or_ge h 40 with c | c
    · have e40 : (40 : Int32).toInt = 40 := by decide
      have e1 : (1 : Int32).toInt = 1 := by decide
      have eh := nI_toInt (n := h) (by omega)
      rw [if_neg (fun z => by
        rw [fa_lt, fb_subI (by rw [eh, e40]; omega) (by rw [eh, e40]; omega), eh, e40, e1] at z
        omega), Nat.max_eq_left (by omega)]
      rfl
    · rw [show nI h - 40 = nI (h - 40) from pk_sub (b := 40) c]
      exact mx_lt (a := 1) (by omega) (by omega)
  have ehi : (if nI h - 1 < 40 then nI h - 1 else 40) = nI (min 40 (h - 1)) := by
    rw [show nI h - 1 = nI (h - 1) from pk_sub (b := 1) (by omega)]
    by_cases c : h - 1 < 40
    · rw [if_pos (show nI (h - 1) < 40 from nI_lt (b := 40) c (by omega)), Nat.min_eq_right (by omega)]
    · rw [if_neg (show ¬ nI (h - 1) < 40 from nI_nlt (b := 40) (by omega) (by omega)), Nat.min_eq_left (by omega)]; rfl
  have hw : ff (p2 T P q x h) 1 40 = ff (fun i => decide (sp_by T P q i (h - i) ≤ x)) (max 1 (h - 40)) (min 40 (h - 1) + 1 - max 1 (h - 40)) := by
    rw [ff_window (a := max 1 (h - 40)) (b := min 40 (h - 1) + 1) (by omega) (by omega) (by omega) (fun j h1 h2 => p2_out (by omega)) (fun j h1 h2 => p2_out (by omega))]
    exact ff_cong _ _ (fun j h1 h2 => p2_in (by omega))
  unfold f_X7_firstOfTwo
  rw [elo]
  refine jn0_i (fun kx hkx => ?_)
  refine (lp_ff (fun k i => L_X7_firstOfTwo_22 n (turn q) (phase q) (nI x) (nI h) kx k (nI i)) (min 40 (h - 1) + 1) kx (fun i => decide (sp_by T P q i (h - i) ≤ x)) (fun i => some (nI i))
    (fun k => by rw [L_X7_firstOfTwo_22_s, ehi, if_pos (nI_lt (by omega) (by omega))])
    (fun k i hi => by
      have hle := sp_by_le S hq i (h - i)
      rw [L_X7_firstOfTwo_22_s, ehi, if_neg (nI_nlt (by omega) (by omega)), pk_sub (show i ≤ h by omega), driftByTwo_S S hn hq (by omega) (by omega), bd1_in, nI_1]
      by_cases c : sp_by T P q i (h - i) ≤ x
      · rw [if_neg (nI_nlt c (by omega)), if_pos (decide_eq_true c)]
      · rw [if_pos (nI_lt (by omega) (by omega)), if_neg (by simpa using c)])
    (min 40 (h - 1) + 1 - max 1 (h - 40)) n (max 1 (h - 40)) (by omega) (by omega)).trans ?_
  rw [hw]
  cases ff (fun i => decide (sp_by T P q i (h - i) ≤ x)) (max 1 (h - 40)) (min 40 (h - 1) + 1 - max 1 (h - 40)) with
  | none => rw [hkx]; rfl
  | some j => rfl
def sp_short (T P U : Nat → Nat) (q x h : Nat) (w : Int32) : Int32 := if U q = 0 then -3 else if sp_by T P q h h ≤ x then (if w = 0 then nI h else 0) else match ff (p2 T P q x h) 1 40 with
  | none => -1
  | some j => if w = 0 then nI j else nI h - nI j
theorem shortest_q {T P U : Nat → Nat} {turn phase up : Nat → Int32} (S : Sn T P U turn phase up) {n : Nat} (hn : 4000 ≤ n) {q x h : Nat} (hq : q < 2) (hx : x ≤ 20) (hh : h ≤ 80) (h2 : 2 ≤ h) (w : Int32) : ((if (up q) = 0 then some (-3) else bd1_ (f_X7_driftByTwo n (turn q) (phase q) (nI h) (nI h)) (fun (r60_14 : Int32) => if (nI x) < r60_14 then bd1_ (f_X7_firstOfTwo n (turn q) (phase q) (nI x) (nI h)) (fun (r82_17 : Int32) => jn0_ (some r82_17) (fun k98 => if r82_17 = (-1) then k98 else if w = 0 then k98 else some ((nI h) - r82_17))) else if w = 0 then some (nI h) else some 0)) : Option Int32) = some (sp_short T P U q x h w) := by
  have hle := sp_by_le S hq h h
  unfold sp_short
  by_cases c1 : U q = 0
  · rw [if_pos ((up_z S hq).mpr c1), if_pos c1]
  · rw [if_neg (fun z => c1 ((up_z S hq).mp z)), if_neg c1, driftByTwo_S S hn hq hh hh, bd1_in]
    by_cases c : sp_by T P q h h ≤ x
    · rw [if_neg (nI_nlt c (by omega)), if_pos c]
      split <;> rfl
    · rw [if_pos (nI_lt (by omega) (by omega)), if_neg c, firstOfTwo_S S hn hq hx hh h2, bd1_in]
      cases e : ff (p2 T P q x h) 1 40 with
      | none => rfl
      | some j =>
        have hj := ff_some e
        have hne : ¬ nI j = -1 := fun z => nI_pos (n := j) (by omega) (by rw [z]; decide)
        show ((if nI j = -1 then some (nI j) else if w = 0 then some (nI j) else some (nI h - nI j)) : Option Int32) = _
        rw [if_neg hne]
        dsimp only
        split <;> rfl
theorem shortest_S {T P U : Nat → Nat} {turn phase up : Nat → Int32} (S : Sn T P U turn phase up) {n : Nat} (hn : 4000 ≤ n) {q x h : Nat} (hq : q < 2) (hx : x ≤ 20) (hh : h ≤ 80) (h2 : 2 ≤ h) {w : Int32} (hw : w = 0 ∨ w = 1) : f_X7_shortest n turn phase up (nI q) (nI x) (nI h) w = some (sp_short T P U q x h w) := by
  have o1 : f_X7_outside n (nI x) 0 20 = some 0 := by rw [outside_v, if_neg (show ¬ (nI x < 0 ∨ (20 : Int32) < nI x) from rng1_in (a := 0) (b := 20) (by omega) (by omega) hx)]
  have o2 : f_X7_outside n (nI h) 2 80 = some 0 := by rw [outside_v, if_neg (show ¬ (nI h < 2 ∨ (80 : Int32) < nI h) from rng1_in (a := 2) (b := 80) (by omega) h2 hh)]
  have o3 : f_X7_outside n w 0 1 = some 0 := by rcases hw with rfl | rfl <;> rfl
  unfold f_X7_shortest
  rw [o1, o2, o3]
  match q, hq with
  | 0, _ => exact shortest_q S hn (q := 0) (by omega) hx hh h2 w
  | 1, _ => exact shortest_q S hn (q := 1) (by omega) hx hh h2 w
theorem shortestOf_S {T P U : Nat → Nat} {turn phase up : Nat → Int32} (S : Sn T P U turn phase up) {n : Nat} (hn : 4000 ≤ n) {q x h : Nat} (hq : q < 2) (hx : x ≤ 20) (hh : h ≤ 80) (h2 : 2 ≤ h) (w : Int32) : f_X8_shortestOf n turn phase up (nI q) (nI x) (nI h) w = some (sp_short T P U q x h w) := by
  have hle := sp_by_le S hq h h
  have eh := nI_toInt (n := h) (by omega)
  unfold f_X8_shortestOf sp_short
  rw [ix_in _ (vp_in_nI hq (by omega)), nI_clamp (by omega)]
  by_cases c1 : U q = 0
  · rw [if_pos ((up_z S hq).mpr c1), if_pos c1]
  · rw [if_neg (fun z => c1 ((up_z S hq).mp z)), if_neg c1, driftBy_S S hn hq hh hh, bd1_in]
    by_cases c : sp_by T P q h h ≤ x
    · rw [if_neg (nI_nlt c (by omega)), if_pos c]
      split <;> rfl
    · rw [if_pos (nI_lt (by omega) (by omega)), if_neg c]
      refine jn0_i (fun kx hkx => ?_)
      refine (lp_ff (fun k i => L_X8_shortestOf_37 n turn phase (nI q) (nI x) (nI h) w kx k (nI i)) 41 kx (fun i => p2 T P q x h i) (fun i => if w = 0 then some (nI i) else some (nI h - nI i))
        (fun k => by rw [L_X8_shortestOf_37_s, if_pos (show (41 : Int32) ≤ nI 41 by decide)])
        (fun k i hi => by
          have hle2 := sp_by_le S hq i (h - i)
          have ei := nI_toInt (n := i) (by omega)
          rw [L_X8_shortestOf_37_s, if_neg (show ¬ (41 : Int32) ≤ nI i from nI_ge (b := 41) hi (by omega)), in_v, bd1_in, nI_1, jn0_, bz_neg]
          by_cases d : 1 ≤ h - i ∧ h - i ≤ 40
          · rw [pk_sub (show i ≤ h by omega), if_neg (show ¬ (nI (h - i) < 1 ∨ (40 : Int32) < nI (h - i)) from rng1_in (a := 1) (b := 40) (by omega) d.1 d.2), driftBy_S S hn hq (by omega) (by omega), bd1_in, p2_in d]
            by_cases c : sp_by T P q i (h - i) ≤ x
            · rw [if_neg (nI_nlt c (by omega)), if_pos (decide_eq_true c)]
            · rw [if_pos (nI_lt (by omega) (by omega)), if_neg (by simpa using c)]
          · rw [p2_out d, if_pos]
            · rfl
            · rw [fa_lt, fa_lt, fb_subI (by rw [eh, ei]; omega) (by rw [eh, ei]; omega), eh, ei, show (1 : Int32).toInt = 1 by decide, show (40 : Int32).toInt = 40 by decide]
              omega)
        40 n 1 (by omega) (by omega)).trans ?_
      cases ff (p2 T P q x h) 1 40 with
      | none => exact hkx
      | some j =>
        show (if w = 0 then some (nI j) else some (nI h - nI j)) = some (if w = 0 then nI j else nI h - nI j)
        split <;> rfl
theorem e_shortest {T P U : Nat → Nat} {turn phase up mt mp mu : Nat → Int32} (S : Sn T P U turn phase up) (S2 : Sn T P U mt mp mu) {n : Nat} (hn : 4000 ≤ n) (x y z w : Int32) : ∃ r, f_X7_shortest n turn phase up x y z w = some r ∧ f_X8_shortest n mt mp mu x y z w = some r := by
  by_cases c1 : x < 0 ∨ (1 : Int32) < x
  · refine ⟨-2, ?_, ?_⟩
    · unfold f_X7_shortest; rw [if_neg (ne2 c1).1, if_neg (ne2 c1).2]
    · unfold f_X8_shortest; rw [isSun_v, bd1_in, jn0_, bz_neg, if_pos c1]
  · obtain ⟨q, hq, rfl⟩ := rng (a := 1) (by omega) c1
    by_cases c2 : y < 0 ∨ (20 : Int32) < y
    · refine ⟨-2, ?_, ?_⟩
      · unfold f_X7_shortest; rw [outside_v n y, if_pos c2]
        match q, hq with
        | 0, _ => rfl
        | 1, _ => rfl
      · unfold f_X8_shortest; rw [isSun_v, bd1_in, jn0_, bz_neg, if_neg c1, in_v, bd1_in, bz_neg, if_pos c2]
    · by_cases c3 : z < 2 ∨ (80 : Int32) < z
      · refine ⟨-2, ?_, ?_⟩
        · unfold f_X7_shortest; rw [outside_v n y, if_neg c2, outside_v n z, if_pos c3]
          match q, hq with
          | 0, _ => rfl
          | 1, _ => rfl
        · unfold f_X8_shortest; rw [isSun_v, bd1_in, jn0_, bz_neg, if_neg c1, in_v, bd1_in, bz_neg, if_neg c2, in_v, bd1_in, bz_neg, if_pos c3]
      · by_cases c4 : w < 0 ∨ (1 : Int32) < w
        · refine ⟨-2, ?_, ?_⟩
          · unfold f_X7_shortest; rw [outside_v n y, if_neg c2, outside_v n z, if_neg c3, outside_v n w, if_pos c4]
            match q, hq with
            | 0, _ => rfl
            | 1, _ => rfl
          · unfold f_X8_shortest; rw [isSun_v, bd1_in, jn0_, bz_neg, if_neg c1, in_v, bd1_in, bz_neg, if_neg c2, in_v, bd1_in, bz_neg, if_neg c3, in_v, bd1_in, bz_neg, if_pos c4]
        · obtain ⟨y, hy, rfl⟩ := rng (a := 20) (by omega) c2
          obtain ⟨z, hz1, hz2, rfl⟩ := rng1 (a := 2) (b := 80) (by omega) (by omega) c3
          refine ⟨_, shortest_S S hn (by omega) hy hz2 hz1 (in2 c4), ?_⟩
          unfold f_X8_shortest
          rw [isSun_v, bd1_in, jn0_, bz_neg, if_neg c1, in_v, bd1_in, bz_neg, if_neg c2, in_v, bd1_in, bz_neg, if_neg c3, in_v, bd1_in, bz_neg, if_neg c4, shortestOf_S S2 hn (by omega) hy hz2 hz1, bd1_in]
