/-! loops by fuel: a count from i, m times; the first of a row -/
def fo {S : Type} (g : Nat → S → S) : Nat → Nat → S → S
  | _, 0, s => s
  | i, m + 1, s => fo g (i + 1) m (g i s)
def ff (p : Nat → Bool) : Nat → Nat → Option Nat
  | _, 0 => none
  | i, m + 1 => if p i = true then some i else ff p (i + 1) m
theorem fo_0 {S : Type} (g : Nat → S → S) (i : Nat) (s : S) : fo g i 0 s = s := rfl
theorem fo_s {S : Type} (g : Nat → S → S) (i m : Nat) (s : S) : fo g i (m + 1) s = fo g (i + 1) m (g i s) := rfl
theorem ff_0 (p : Nat → Bool) (i : Nat) : ff p i 0 = none := rfl
theorem ff_s (p : Nat → Bool) (i m : Nat) : ff p i (m + 1) = if p i = true then some i else ff p (i + 1) m := rfl
theorem fo_last {S : Type} (g : Nat → S → S) : ∀ (m i : Nat) (s : S), fo g i (m + 1) s = g (i + m) (fo g i m s)
  | 0, i, s => rfl
  | m + 1, i, s => by rw [fo_s, fo_last g m (i + 1) (g i s), fo_s, show i + 1 + m = i + (m + 1) by omega]
theorem fo_cong {S : Type} {g h : Nat → S → S} : ∀ (m i : Nat) (s : S), (∀ j, i ≤ j → j < i + m → ∀ s, g j s = h j s) → fo g i m s = fo h i m s
  | 0, i, s, _ => rfl
  | m + 1, i, s, e => by rw [fo_s, fo_s, e i (Nat.le_refl i) (by omega) s, fo_cong m (i + 1) (h i s) (fun j h1 h2 s => e j (by omega) (by omega) s)]
theorem ff_cong {p q : Nat → Bool} : ∀ (m i : Nat), (∀ j, i ≤ j → j < i + m → p j = q j) → ff p i m = ff q i m
  | 0, i, _ => rfl
  | m + 1, i, e => by rw [ff_s, ff_s, e i (Nat.le_refl i) (by omega), ff_cong m (i + 1) (fun j h1 h2 => e j (by omega) (by omega))]
theorem ff_some {p : Nat → Bool} : ∀ {m i j : Nat}, ff p i m = some j → i ≤ j ∧ j < i + m ∧ p j = true ∧ ∀ k, i ≤ k → k < j → p k = false
  | 0, i, j, h => by cases h
  | m + 1, i, j, h => by
    rw [ff_s] at h
    by_cases c : p i = true
    · rw [if_pos c] at h
      cases h
      exact ⟨Nat.le_refl i, by omega, c, fun k h1 h2 => by omega⟩
    · rw [if_neg c] at h
      obtain ⟨h1, h2, h3, h4⟩ := ff_some h
      refine ⟨by omega, by omega, h3, fun k g1 g2 => ?_⟩
      rcases Nat.eq_or_lt_of_le g1 with e | e
      · subst e; exact Bool.eq_false_iff.mpr c
      · exact h4 k e g2
theorem ff_none {p : Nat → Bool} : ∀ {m i : Nat}, ff p i m = none → ∀ k, i ≤ k → k < i + m → p k = false
  | 0, i, _, k, h1, h2 => by omega
  | m + 1, i, h, k, h1, h2 => by
    rw [ff_s] at h
    by_cases c : p i = true
    · rw [if_pos c] at h; cases h
    · rw [if_neg c] at h
      rcases Nat.eq_or_lt_of_le h1 with e | e
      · subst e; exact Bool.eq_false_iff.mpr c
      · exact ff_none h k e (by omega)
/-- a loop that goes to its end -/
theorem lp_fo {S R : Type} (L : Nat → Nat → S → Option R) (b : Nat) (kx : S → Option R) (g : Nat → S → S) (hx : ∀ k s, L (k + 1) b s = kx s) (hs : ∀ k i s, i < b → L (k + 1) i s = L k (i + 1) (g i s)) : ∀ (m k i : Nat) (s : S), i + m = b → m < k → L k i s = kx (fo g i m s) := by
  intro m
  induction m with
  | zero =>
    intro k i s h hk
    obtain ⟨k, rfl⟩ : ∃ j, k = j + 1 := ⟨k - 1, by omega⟩
    have e : i = b := by omega
    subst e
    exact hx k s
  | succ m ih =>
    intro k i s h hk
    obtain ⟨k, rfl⟩ : ∃ j, k = j + 1 := ⟨k - 1, by omega⟩
    rw [hs k i s (by omega), ih k (i + 1) _ (by omega) (by omega), fo_s]
/-- the same with what holds of the state on the way -/
theorem lp_fi {S R : Type} (L : Nat → Nat → S → Option R) (b : Nat) (kx : S → Option R) (g : Nat → S → S) (I : Nat → S → Prop) (hx : ∀ k s, I b s → L (k + 1) b s = kx s) (hs : ∀ k i s, i < b → I i s → L (k + 1) i s = L k (i + 1) (g i s)) (hI : ∀ i s, i < b → I i s → I (i + 1) (g i s)) : ∀ (m k i : Nat) (s : S), i + m = b → m < k → I i s → L k i s = kx (fo g i m s) ∧ I b (fo g i m s) := by
  intro m
  induction m with
  | zero =>
    intro k i s h hk hi
    obtain ⟨k, rfl⟩ : ∃ j, k = j + 1 := ⟨k - 1, by omega⟩
    have e : i = b := by omega
    subst e
    exact ⟨hx k s hi, hi⟩
  | succ m ih =>
    intro k i s h hk hi
    obtain ⟨k, rfl⟩ : ∃ j, k = j + 1 := ⟨k - 1, by omega⟩
    rw [hs k i s (by omega) hi, fo_s]
    exact ih k (i + 1) _ (by omega) (by omega) (hI i s (by omega) hi)
/-- a loop that looks for the first -/
theorem lp_ff {R : Type} (L : Nat → Nat → Option R) (b : Nat) (kx : Option R) (p : Nat → Bool) (v : Nat → Option R) (hx : ∀ k, L (k + 1) b = kx) (hs : ∀ k i, i < b → L (k + 1) i = if p i = true then v i else L k (i + 1)) : ∀ (m k i : Nat), i + m = b → m < k → L k i = match ff p i m with | some j => v j | none => kx := by
  intro m
  induction m with
  | zero =>
    intro k i h hk
    obtain ⟨k, rfl⟩ : ∃ j, k = j + 1 := ⟨k - 1, by omega⟩
    have e : i = b := by omega
    subst e
    exact hx k
  | succ m ih =>
    intro k i h hk
    obtain ⟨k, rfl⟩ : ∃ j, k = j + 1 := ⟨k - 1, by omega⟩
    rw [hs k i (by omega), ff_s]
    by_cases c : p i = true
    · rw [if_pos c, if_pos c]
    · rw [if_neg c, if_neg c]
      exact ih k (i + 1) (by omega) (by omega)
/-! in range or not -/
theorem rng {x : Int32} {a : Nat} (ha : a < 2 ^ 31) (h : ¬ (x < 0 ∨ nI a < x)) : ∃ j, j ≤ a ∧ x = nI j := by
  have h1 : ¬ x < 0 := fun q => h (Or.inl q)
  obtain ⟨j, hj, rfl⟩ := nI_of h1
  refine ⟨j, ?_, rfl⟩
  rcases Nat.lt_or_ge a j with q | q
  · exact absurd (nI_lt q hj) (fun z => h (Or.inr z))
  · exact q
theorem rng_in {j a : Nat} (ha : a < 2 ^ 31) (h : j ≤ a) : ¬ (nI j < 0 ∨ nI a < nI j) := by
  rintro (q | q)
  · exact nI_pos (by omega) q
  · exact nI_nlt h ha q
theorem outside_v (n : Nat) (x a b : Int32) : f_X7_outside n x a b = some (if x < a ∨ b < x then 1 else 0) := by
  show (if x < a then some 1 else if x ≤ b then some 0 else some 1) = _
  by_cases h1 : x < a
  · rw [if_pos h1, if_pos (Or.inl h1)]
  · rw [if_neg h1]
    by_cases h2 : x ≤ b
    · rw [if_pos h2, if_neg (fun q => q.elim h1 (fun z => by rw [fa_lt] at z; rw [fa_le] at h2; omega))]
    · rw [if_neg h2, if_pos (Or.inr (by rw [fa_lt]; rw [fa_le] at h2; omega))]
theorem in_v (n : Nat) (x a b : Int32) : f_X8_in n x a b = some (if x < a ∨ b < x then 0 else 1) := by
  show (if x < a then some 0 else if b < x then some 0 else some 1) = _
  by_cases h1 : x < a
  · rw [if_pos h1, if_pos (Or.inl h1)]
  · rw [if_neg h1]
    by_cases h2 : b < x
    · rw [if_pos h2, if_pos (Or.inr h2)]
    · rw [if_neg h2, if_neg (fun q => q.elim h1 h2)]
theorem noHour_v (n : Nat) (x : Int32) : f_X7_noHour n x = some (if x < 0 ∨ (1000000000 : Int32) < x then 1 else 0) := by unfold f_X7_noHour; rw [outside_v, bd1_in]
theorem noLight_v (n : Nat) (x : Int32) : f_X7_noLight n x = some (if x < 0 ∨ (3 : Int32) < x then 1 else 0) := by unfold f_X7_noLight; rw [outside_v, bd1_in]
theorem noPerson_v (n : Nat) (x : Int32) : f_X7_noPerson n x = some (if x < 0 ∨ (5 : Int32) < x then 1 else 0) := by unfold f_X7_noPerson; rw [outside_v, bd1_in]
theorem noGrowth_v (n : Nat) (x : Int32) : f_X7_noGrowth n x = some (if x < (-9) ∨ (9 : Int32) < x then 1 else 0) := by unfold f_X7_noGrowth; rw [outside_v, bd1_in]
theorem noForm_v (n : Nat) (x : Int32) : f_X7_noForm n x = some (if x < 0 ∨ (2 : Int32) < x then 1 else 0) := by unfold f_X7_noForm; rw [outside_v, bd1_in]
theorem isHour_v (n : Nat) (x : Int32) : f_X8_isHour n x = some (if x < 0 ∨ (1000000000 : Int32) < x then 0 else 1) := by unfold f_X8_isHour; rw [in_v, bd1_in]
theorem isSun_v (n : Nat) (x : Int32) : f_X8_isSun n x = some (if x < 0 ∨ (1 : Int32) < x then 0 else 1) := by unfold f_X8_isSun; rw [in_v, bd1_in]
theorem isLight_v (n : Nat) (x : Int32) : f_X8_isLight n x = some (if x < 0 ∨ (3 : Int32) < x then 0 else 1) := by unfold f_X8_isLight; rw [in_v, bd1_in]
theorem isPerson_v (n : Nat) (x : Int32) : f_X8_isPerson n x = some (if x < 0 ∨ (5 : Int32) < x then 0 else 1) := by unfold f_X8_isPerson; rw [in_v, bd1_in]
theorem isPlant_v (n : Nat) (x : Int32) : f_X8_isPlant n x = some (if x < 0 ∨ (3 : Int32) < x then 0 else 1) := by unfold f_X8_isPlant; rw [in_v, bd1_in]
theorem isSheet_v (n : Nat) (x : Int32) : f_X8_isSheet n x = some (if x < 0 ∨ (3 : Int32) < x then 0 else 1) := by unfold f_X8_isSheet; rw [in_v, bd1_in]
theorem in2 {x : Int32} (h : ¬ (x < 0 ∨ (1 : Int32) < x)) : x = 0 ∨ x = 1 := by
  obtain ⟨j, hj, rfl⟩ := rng (a := 1) (by decide) h
  match j, hj with
  | 0, _ => exact Or.inl rfl
  | 1, _ => exact Or.inr rfl
theorem ne2 {x : Int32} (h : x < 0 ∨ (1 : Int32) < x) : ¬ x = 0 ∧ ¬ x = 1 := by
  constructor <;> (intro e; subst e; revert h; decide)
theorem ne4 {x : Int32} (h : x < 0 ∨ (3 : Int32) < x) : ¬ x = 0 ∧ ¬ x = 1 ∧ ¬ x = 2 ∧ ¬ x = 3 := by
  refine ⟨?_, ?_, ?_, ?_⟩ <;> (intro e; subst e; revert h; decide)
theorem cl0 : (0 : Int32).toNatClampNeg = 0 := rfl
theorem cl1 : (1 : Int32).toNatClampNeg = 1 := rfl
theorem cl2 : (2 : Int32).toNatClampNeg = 2 := rfl
theorem cl3 : (3 : Int32).toNatClampNeg = 3 := rfl
