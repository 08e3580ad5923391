/-! sheets -/
def RH (sf sz : Nat → Int32) (si : Nat → Nat → Int32) (mi mf ms mit : Nat → Int32) : Prop := ∀ k, k < 4 → ((mi k = 0 ∧ sf k = -1) ∨ (mi k = 1 ∧ sf k = mf k ∧ (mf k = 0 ∨ mf k = 1 ∨ mf k = 2))) ∧ (∃ z, z ≤ 48 ∧ sz k = nI z ∧ ms k = nI z) ∧ ∀ i, i < 48 → si k i = mit (48 * k + i)
theorem found_v (n : Nat) (l c : Int32) : f_X7_found n l c = some (-10 - c, c) := rfl
theorem meets_v (n : Nat) (l c : Int32) : f_X8_meets n l c = some (-10 - c, c) := rfl
theorem fe_mul (k i : Nat) : (48 : Int32) * nI k + nI i = nI (48 * k + i) := by rw [show (48 : Int32) = nI 48 from rfl, pk_mul, nI_add]
theorem nar0 : vp_nar .boolean 0 = 0 := by decide
theorem nar1 : vp_nar .boolean 1 = 1 := by decide
theorem lose_v (n : Nat) (lf : Int32) (sf sz : Nat → Int32) {k : Nat} (hk : k < 4) : f_X7_lose n lf sf sz (nI k) = if sf k = -1 then some (-11, 1, sf) else some (sz k, lf, upd sf k (-1)) := by
  simp only [f_X7_lose, found_v, bd2_in]
  match k, hk with
  | 0, _ => rw [if_pos (show nI 0 = 0 from rfl)]; rfl
  | 1, _ => rw [if_neg (show ¬ nI 1 = 0 by decide), if_pos (show nI 1 = 1 from rfl)]; rfl
  | 2, _ => rw [if_neg (show ¬ nI 2 = 0 by decide), if_neg (show ¬ nI 2 = 1 by decide), if_pos (show nI 2 = 2 from rfl)]; rfl
  | 3, _ => rw [if_neg (show ¬ nI 3 = 0 by decide), if_neg (show ¬ nI 3 = 1 by decide), if_neg (show ¬ nI 3 = 2 by decide), if_pos (show nI 3 = 3 from rfl)]; rfl
theorem e_lose {n : Nat} {lf mfd : Int32} {sf sz : Nat → Int32} {si : Nat → Nat → Int32} {mi mf ms mit : Nat → Int32} (hl : lf = mfd) (R : RH sf sz si mi mf ms mit) (x : Int32) : ∃ r l2 s2 l3 m2, f_X7_lose n lf sf sz x = some (r, l2, s2) ∧ f_X8_lose n mfd mi ms x = some (r, l3, m2) ∧ l2 = l3 ∧ RH s2 sz si m2 mf ms mit := by
  subst hl
  simp only [f_X8_lose, isSheet_v, bd1_in, bz_neg, meets_v, bd2_in]
  by_cases c : x < 0 ∨ (3 : Int32) < x
  · obtain ⟨n0, n1, n2, n3⟩ := ne4 c
    rw [if_pos c]
    refine ⟨-2, lf, sf, lf, mi, ?_, rfl, rfl, R⟩
    unfold f_X7_lose; rw [if_neg n0, if_neg n1, if_neg n2, if_neg n3]
  · obtain ⟨k, hk, rfl⟩ := rng (a := 3) (by decide) c
    rw [if_neg c, lose_v n lf sf sz (by omega)]
    simp only [ix_in _ (vp_in_nI (show k < 4 by omega) (by omega)), nI_clamp (show k < 2 ^ 31 by omega), nar0]
    obtain ⟨h1, ⟨z, z1, z2, z3⟩, h3⟩ := R k (by omega)
    rcases h1 with ⟨a, b⟩ | ⟨a, b, d⟩
    · rw [if_pos b, if_pos a]; exact ⟨_, _, _, _, _, rfl, rfl, rfl, R⟩
    · rw [if_neg (by rw [b]; rcases d with e | e | e <;> rw [e] <;> decide), if_neg (by rw [a]; decide)]
      refine ⟨_, _, _, _, _, rfl, by rw [z2, z3], rfl, fun q hq => ⟨?_, (R q hq).2⟩⟩
      unfold upd
      by_cases w : q = k
      · rw [if_pos w, if_pos w]; exact Or.inl ⟨rfl, rfl⟩
      · rw [if_neg w, if_neg w]; exact (R q hq).1
theorem size_out {z : Nat} (hz : z ≤ 48) (x : Int32) : (x < 0 ∨ nI z - 1 < x) ↔ (x < 0 ∨ ¬ x < nI z) := by
  have h1 : (nI z - 1).toInt = (z : Int) - 1 := pk_sub_toInt (b := 1) (by omega) (by omega)
  have h2 : (nI z).toInt = (z : Int) := nI_toInt (by omega)
  have h3 : (0 : Int32).toInt = 0 := rfl
  simp only [fa_lt, h1, h2, h3]
  omega
/-- what stands against it -/
def fnd (there : Prop) [Decidable there] (f x2 x3 : Int32) (z : Nat) : Int32 := if there then (if f = x2 then (if x3 < 0 ∨ ¬ x3 < nI z then 2 else 0) else 3) else 1
theorem findingOf_v (n : Nat) {f : Int32} {z : Nat} (x2 x3 : Int32) : f_X3_findingOf n f (nI z) x2 x3 = some (fnd (¬ f = -1) f x2 x3 z) := by
  unfold f_X3_findingOf fnd
  simp only [jn0_]
  by_cases a : f = -1
  · simp [a]
  · rw [if_neg a, if_pos a]
    by_cases b : f = x2
    · rw [if_pos b, if_pos b]
      by_cases c : x3 < 0
      · rw [if_pos c, if_pos (Or.inl c)]
      · rw [if_neg c]
        by_cases d : x3 < nI z
        · rw [if_pos d, if_neg (fun q => q.elim c (fun q => q d))]
        · rw [if_neg d, if_pos (Or.inr d)]
    · rw [if_neg b, if_neg b]
theorem lacks_v (n : Nat) {mi mf ms : Nat → Int32} {k z : Nat} (hk : k < 4) (hz : z ≤ 48) (h : ms k = nI z) (x2 x3 : Int32) : f_X8_lacks n mi mf ms (nI k) x2 x3 = some (fnd (¬ mi k = 0) (mf k) x2 x3 z) := by
  unfold f_X8_lacks fnd
  simp only [ix_in _ (vp_in_nI (show k < 4 by omega) (by omega)), nI_clamp (show k < 2 ^ 31 by omega), h, in_v, bd1_in, bz_neg]
  by_cases a : mi k = 0
  · simp [a]
  · rw [if_neg a, if_pos a]
    by_cases b : mf k = x2
    · rw [if_pos b, if_pos b]
      by_cases c : x3 < 0 ∨ nI z - 1 < x3
      · rw [if_pos c, if_pos ((size_out hz x3).mp c)]
      · rw [if_neg c, if_neg (fun q => c ((size_out hz x3).mpr q))]
    · rw [if_neg b, if_neg b]
theorem fnd_eq {sf sz : Nat → Int32} {si : Nat → Nat → Int32} {mi mf ms mit : Nat → Int32} (R : RH sf sz si mi mf ms mit) {k : Nat} (hk : k < 4) (x2 x3 : Int32) (z : Nat) : fnd (¬ sf k = -1) (sf k) x2 x3 z = fnd (¬ mi k = 0) (mf k) x2 x3 z := by
  obtain ⟨h1, -⟩ := R k hk
  unfold fnd
  rcases h1 with ⟨a, b⟩ | ⟨a, b, d⟩
  · rw [if_neg (fun q => q b), if_neg (fun q => q a)]
  · have t1 : ¬ sf k = -1 := by rw [b]; rcases d with e | e | e <;> rw [e] <;> decide
    have t2 : ¬ mi k = 0 := by rw [a]; decide
    rw [if_pos t1, if_pos t2, b]
theorem fnd_0 {there : Prop} [Decidable there] {f x2 x3 : Int32} {z : Nat} (hz : z ≤ 48) (h : fnd there f x2 x3 z = 0) : there ∧ f = x2 ∧ ∃ i, i < z ∧ x3 = nI i := by
  unfold fnd at h
  by_cases a : there
  · rw [if_pos a] at h
    by_cases b : f = x2
    · rw [if_pos b] at h
      by_cases c : x3 < 0 ∨ ¬ x3 < nI z
      · rw [if_pos c] at h; exact absurd h (by decide)
      · refine ⟨a, b, ?_⟩
        have c1 : ¬ x3 < 0 := fun q => c (Or.inl q)
        have c2 : x3 < nI z := Classical.byContradiction (fun q => c (Or.inr q))
        obtain ⟨i, hi, rfl⟩ := nI_of c1
        exact ⟨i, (nI_ltI hi (by omega)).mp c2, rfl⟩
    · rw [if_neg b] at h; exact absurd h (by decide)
  · rw [if_neg a] at h; exact absurd h (by decide)
theorem fnd_pos {there : Prop} [Decidable there] {f x2 x3 : Int32} {z : Nat} : (fnd there f x2 x3 z ≤ 0) ↔ fnd there f x2 x3 z = 0 := by
  unfold fnd
  split
  · split
    · split <;> decide
    · decide
  · decide
theorem put_v (n : Nat) (lf : Int32) (sf sz : Nat → Int32) (si : Nat → Nat → Int32) {k : Nat} (hk : k < 4) (x2 x3 x4 : Int32) : f_X7_put n lf sf sz si (nI k) x2 x3 x4 = if x2 < 0 ∨ (2 : Int32) < x2 then some (-2, lf, si) else bd1_ (f_X3_findingOf n (sf k) (sz k) x2 x3) (fun r => if r = 0 then bd1_ (f_X3_lowestBits n (sf k) x4) (fun v => ix_ x3 48 (some (1, lf, va_up si k (upd (si k) x3.toNatClampNeg v)))) else some (-10 - r, r, si)) := by
  simp only [f_X7_put, noForm_v, bd1_in, bz_pos, found_v, bd2_in]
  match k, hk with
  | 0, _ => rw [if_pos (show nI 0 = 0 from rfl)]
  | 1, _ => rw [if_neg (show ¬ nI 1 = 0 by decide), if_pos (show nI 1 = 1 from rfl)]
  | 2, _ => rw [if_neg (show ¬ nI 2 = 0 by decide), if_neg (show ¬ nI 2 = 1 by decide), if_pos (show nI 2 = 2 from rfl)]
  | 3, _ => rw [if_neg (show ¬ nI 3 = 0 by decide), if_neg (show ¬ nI 3 = 1 by decide), if_neg (show ¬ nI 3 = 2 by decide), if_pos (show nI 3 = 3 from rfl)]
theorem get_v (n : Nat) (lf : Int32) (sf sz : Nat → Int32) (si : Nat → Nat → Int32) {k : Nat} (hk : k < 4) (x2 x3 : Int32) : f_X7_get n lf sf sz si (nI k) x2 x3 = if x2 < 0 ∨ (2 : Int32) < x2 then some (-2147483648, lf) else bd1_ (f_X3_findingOf n (sf k) (sz k) x2 x3) (fun r => if r = 0 then ix_ x3 48 (some ((si k) x3.toNatClampNeg, lf)) else some (-2147483648, r)) := by
  simp only [f_X7_get, noForm_v, bd1_in, bz_pos, found_v, bd2_in]
  match k, hk with
  | 0, _ => rw [if_pos (show nI 0 = 0 from rfl)]
  | 1, _ => rw [if_neg (show ¬ nI 1 = 0 by decide), if_pos (show nI 1 = 1 from rfl)]
  | 2, _ => rw [if_neg (show ¬ nI 2 = 0 by decide), if_neg (show ¬ nI 2 = 1 by decide), if_pos (show nI 2 = 2 from rfl)]
  | 3, _ => rw [if_neg (show ¬ nI 3 = 0 by decide), if_neg (show ¬ nI 3 = 1 by decide), if_neg (show ¬ nI 3 = 2 by decide), if_pos (show nI 3 = 3 from rfl)]
theorem e_get {n : Nat} {lf mfd : Int32} {sf sz : Nat → Int32} {si : Nat → Nat → Int32} {mi mf ms mit : Nat → Int32} (hl : lf = mfd) (R : RH sf sz si mi mf ms mit) (x x2 x3 : Int32) : ∃ r l2 l3, f_X7_get n lf sf sz si x x2 x3 = some (r, l2) ∧ f_X8_get n mfd mi mf ms mit x x2 x3 = some (r, l3) ∧ l2 = l3 := by
  subst hl
  simp only [f_X8_get, isSheet_v, in_v, bd1_in, bz_neg]
  by_cases c : x < 0 ∨ (3 : Int32) < x
  · obtain ⟨n0, n1, n2, n3⟩ := ne4 c
    rw [if_pos c]
    refine ⟨-2147483648, lf, lf, ?_, rfl, rfl⟩
    unfold f_X7_get; rw [if_neg n0, if_neg n1, if_neg n2, if_neg n3]
  · obtain ⟨k, hk, rfl⟩ := rng (a := 3) (by decide) c
    rw [if_neg c, get_v n lf sf sz si (by omega)]
    by_cases d : x2 < 0 ∨ (2 : Int32) < x2
    · rw [if_pos d, if_pos d]; exact ⟨_, _, _, rfl, rfl, rfl⟩
    · rw [if_neg d, if_neg d]
      obtain ⟨-, ⟨z, z1, z2, z3⟩, h3⟩ := R k (by omega)
      rw [z2, findingOf_v, bd1_in, lacks_v n (by omega) z1 z3, bd1_in, fnd_eq R (by omega)]
      by_cases e : fnd (¬ mi k = 0) (mf k) x2 x3 z = 0
      · obtain ⟨-, -, i, hi, rfl⟩ := fnd_0 z1 e
        rw [if_pos e, if_pos (fnd_pos.mpr e), fe_mul, ix_in _ (vp_in_nI (show i < 48 by omega) (by omega)), ix_in _ (vp_in_nI (show 48 * k + i < 192 by omega) (by omega)), nI_clamp (show i < 2 ^ 31 by omega), nI_clamp (show 48 * k + i < 2 ^ 31 by omega)]
        exact ⟨_, _, _, rfl, by rw [h3 i (by omega)], rfl⟩
      · rw [if_neg e, if_neg (fun q => e (fnd_pos.mp q))]; exact ⟨_, _, _, rfl, rfl, rfl⟩
theorem RH_item {sf sz : Nat → Int32} {si : Nat → Nat → Int32} {mi mf ms mit : Nat → Int32} (R : RH sf sz si mi mf ms mit) {k i : Nat} (hi : i < 48) (v : Int32) : RH sf sz (va_up si k (upd (si k) i v)) mi mf ms (upd mit (48 * k + i) v) := fun q hq => by
  obtain ⟨a, b, c⟩ := R q hq
  refine ⟨a, b, fun p hp => ?_⟩
  unfold va_up upd
  by_cases w : q = k
  · subst w
    rw [if_pos rfl]
    by_cases u : p = i
    · rw [if_pos u, if_pos (by omega)]
    · rw [if_neg u, if_neg (by omega)]; exact c p hp
  · rw [if_neg w, if_neg (by omega)]; exact c p hp
def cut (f v : Int32) : Int32 := if f = 0 then v.toInt8.toInt32 else if f = 1 then v.toInt16.toInt32 else v
theorem lowestBits_v (n : Nat) (f v : Int32) : f_X3_lowestBits n f v = some (cut f v) := by
  unfold f_X3_lowestBits cut
  split
  · rfl
  · split <;> rfl
theorem keep_v (n : Nat) (mf mit : Nat → Int32) {k i : Nat} (hk : k < 4) (hi : i < 48) (v : Int32) : f_X8_keep n mf mit (nI k) (nI i) v = some (upd mit (48 * k + i) (cut (mf k) v)) := by
  unfold f_X8_keep cut
  simp only [fe_mul, ix_in _ (vp_in_nI hk (show 4 < 2 ^ 31 by omega)), ix_in _ (vp_in_nI (show 48 * k + i < 192 by omega) (by omega)), nI_clamp (show k < 2 ^ 31 by omega), nI_clamp (show 48 * k + i < 2 ^ 31 by omega)]
  split
  · rfl
  · split <;> rfl
theorem e_put {n : Nat} {lf mfd : Int32} {sf sz : Nat → Int32} {si : Nat → Nat → Int32} {mi mf ms mit : Nat → Int32} (hl : lf = mfd) (R : RH sf sz si mi mf ms mit) (x x2 x3 x4 : Int32) : ∃ r l2 s2 l3 m2, f_X7_put n lf sf sz si x x2 x3 x4 = some (r, l2, s2) ∧ f_X8_put n mfd mi mf ms mit x x2 x3 x4 = some (r, l3, m2) ∧ l2 = l3 ∧ RH sf sz s2 mi mf ms m2 := by
  subst hl
  simp only [f_X8_put, isSheet_v, in_v, bd1_in, bz_neg, meets_v, bd2_in]
  by_cases c : x < 0 ∨ (3 : Int32) < x
  · obtain ⟨n0, n1, n2, n3⟩ := ne4 c
    rw [if_pos c]
    refine ⟨-2, lf, si, lf, mit, ?_, rfl, rfl, R⟩
    unfold f_X7_put; rw [if_neg n0, if_neg n1, if_neg n2, if_neg n3]
  · obtain ⟨k, hk, rfl⟩ := rng (a := 3) (by decide) c
    rw [if_neg c, put_v n lf sf sz si (by omega)]
    by_cases d : x2 < 0 ∨ (2 : Int32) < x2
    · rw [if_pos d, if_pos d]; exact ⟨_, _, _, _, _, rfl, rfl, rfl, R⟩
    · rw [if_neg d, if_neg d]
      obtain ⟨h1, ⟨z, z1, z2, z3⟩, h3⟩ := R k (by omega)
      rw [z2, findingOf_v, bd1_in, lacks_v n (by omega) z1 z3, bd1_in, fnd_eq R (by omega)]
      by_cases e : fnd (¬ mi k = 0) (mf k) x2 x3 z = 0
      · obtain ⟨e1, -, i, hi, rfl⟩ := fnd_0 z1 e
        have hs : sf k = mf k := by
          rcases h1 with ⟨a, b⟩ | ⟨a, b, d⟩
          · exact absurd a e1
          · exact b
        rw [if_pos e, if_pos (fnd_pos.mpr e), lowestBits_v, bd1_in, keep_v n mf mit (by omega) (by omega), bd1_in, ix_in _ (vp_in_nI (show i < 48 by omega) (by omega)), nI_clamp (show i < 2 ^ 31 by omega), hs]
        exact ⟨_, _, _, _, _, rfl, rfl, rfl, RH_item R (by omega) _⟩
      · rw [if_neg e, if_neg (fun q => e (fnd_pos.mp q))]; exact ⟨_, _, _, _, _, rfl, rfl, rfl, R⟩
/-! a new sheet -/
theorem begin_v {n : Nat} (hn : 4000 ≤ n) (f z : Int32) (it : Nat → Int32) (a b : Int32) : f_X3_begin n f z it a b = some (a, b, fun i => if i < 48 then 0 else it i) := by
  unfold f_X3_begin
  refine jn1_i (fun kx hkx => ?_)
  refine Eq.trans ?_ ((lp_st (fun k i s => L_X3_begin_12 kx k (nI i) s) 48 kx (fun m i => if i < m then 0 else it i)
    (fun k => by rw [L_X3_begin_12_s, if_pos (show (48 : Int32) ≤ nI 48 by decide)])
    (fun k i hi => by
      rw [L_X3_begin_12_s, if_neg (show ¬ (48 : Int32) ≤ nI i from nI_ge (b := 48) hi (by omega)), ix_in _ (vp_in_nI hi (by omega)), nI_clamp (by omega), nI_1]
      congr 1
      funext j
      unfold upd
      dsimp only
      by_cases c : j = i
      · rw [if_pos c, if_pos (by omega)]
      · rw [if_neg c]
        by_cases d : j < i
        · rw [if_pos d, if_pos (by omega)]
        · rw [if_neg d, if_neg (by omega)])
    48 n 0 (by omega) (by omega)).trans (hkx _))
  congr 1
theorem wiped_v {n : Nat} (hn : 4000 ≤ n) {k : Nat} (hk : k < 4) (kx : (Nat → Int32) → Option (Int32 × Int32 × (Nat → Int32) × (Nat → Int32) × (Nat → Int32) × (Nat → Int32))) (it : Nat → Int32) : L_X8_sheet_59 (nI k) kx n 0 it = kx (fun j => if 48 * k ≤ j ∧ j < 48 * k + 48 then 0 else it j) := by
  refine Eq.trans ?_ (lp_st (fun q i s => L_X8_sheet_59 (nI k) kx q (nI i) s) 48 kx (fun m j => if 48 * k ≤ j ∧ j < 48 * k + m then 0 else it j)
    (fun q => by rw [L_X8_sheet_59_s, if_pos (show (48 : Int32) ≤ nI 48 by decide)])
    (fun q i hi => by
      rw [L_X8_sheet_59_s, if_neg (show ¬ (48 : Int32) ≤ nI i from nI_ge (b := 48) hi (by omega)), fe_mul, ix_in _ (vp_in_nI (show 48 * k + i < 192 by omega) (by omega)), nI_clamp (by omega), nI_1]
      congr 1
      funext j
      unfold upd
      dsimp only
      by_cases c : j = 48 * k + i
      · rw [if_pos c, if_pos (by omega)]
      · rw [if_neg c]
        by_cases d : 48 * k ≤ j ∧ j < 48 * k + i
        · rw [if_pos d, if_pos (by omega)]
        · rw [if_neg d, if_neg (by omega)])
    48 n 0 (by omega) (by omega))
  congr 1
  funext j
  rw [if_neg (by omega)]
theorem sheet_v (n : Nat) (lf : Int32) (sf sz : Nat → Int32) (si : Nat → Nat → Int32) {k : Nat} (hk : k < 4) (x2 x3 : Int32) : f_X7_sheet n lf sf sz si (nI k) x2 x3 = if x2 < 0 ∨ (2 : Int32) < x2 then some (-2, lf, sf, sz, si) else if x3 ≤ 48 then (if (0 : Int32) ≤ x3 then bd3_ (f_X3_begin n (sf k) (sz k) (si k) x2 x3) (fun a b c => some (x3, lf, upd sf k a, upd sz k b, va_up si k c)) else some (-15, 5, sf, sz, si)) else some (-2, lf, sf, sz, si) := by
  simp only [f_X7_sheet, noForm_v, bd1_in, bz_pos, found_v, bd2_in]
  match k, hk with
  | 0, _ => rw [if_pos (show nI 0 = 0 from rfl)]; rfl
  | 1, _ => rw [if_neg (show ¬ nI 1 = 0 by decide), if_pos (show nI 1 = 1 from rfl)]; rfl
  | 2, _ => rw [if_neg (show ¬ nI 2 = 0 by decide), if_neg (show ¬ nI 2 = 1 by decide), if_pos (show nI 2 = 2 from rfl)]; rfl
  | 3, _ => rw [if_neg (show ¬ nI 3 = 0 by decide), if_neg (show ¬ nI 3 = 1 by decide), if_neg (show ¬ nI 3 = 2 by decide), if_pos (show nI 3 = 3 from rfl)]; rfl
theorem e_sheet {n : Nat} (hn : 4000 ≤ n) {lf mfd : Int32} {sf sz : Nat → Int32} {si : Nat → Nat → Int32} {mi mf ms mit : Nat → Int32} (hl : lf = mfd) (R : RH sf sz si mi mf ms mit) (x x2 x3 : Int32) : ∃ r l2 a2 b2 c2 l3 d3 e3 g3 h3, f_X7_sheet n lf sf sz si x x2 x3 = some (r, l2, a2, b2, c2) ∧ f_X8_sheet n mfd mi mf ms mit x x2 x3 = some (r, l3, d3, e3, g3, h3) ∧ l2 = l3 ∧ RH a2 b2 c2 d3 e3 g3 h3 := by
  subst hl
  simp only [f_X8_sheet, isSheet_v, in_v, bd1_in, bz_neg, meets_v, bd2_in]
  by_cases c : x < 0 ∨ (3 : Int32) < x
  · obtain ⟨n0, n1, n2, n3⟩ := ne4 c
    rw [if_pos c]
    refine ⟨-2, lf, sf, sz, si, _, _, _, _, _, ?_, rfl, rfl, R⟩
    unfold f_X7_sheet; rw [if_neg n0, if_neg n1, if_neg n2, if_neg n3]
  · obtain ⟨k, hk, rfl⟩ := rng (a := 3) (by decide) c
    rw [if_neg c, sheet_v n lf sf sz si (by omega)]
    by_cases d : x2 < 0 ∨ (2 : Int32) < x2
    · rw [if_pos d, if_pos d]; exact ⟨_, _, _, _, _, _, _, _, _, _, rfl, rfl, rfl, R⟩
    · rw [if_neg d, if_neg d]
      by_cases e : x3 ≤ 48
      · rw [if_pos e, if_pos e]
        by_cases g : (0 : Int32) ≤ x3
        · rw [if_pos g, if_pos g, begin_v hn, bd3_in]
          simp only [ix_in _ (vp_in_nI (show k < 4 by omega) (show 4 < 2 ^ 31 by omega)), nI_clamp (show k < 2 ^ 31 by omega), jn1_, wiped_v hn (show k < 4 by omega), nar1]
          obtain ⟨z, hz, rfl⟩ := nI_of2 (M := 48) (n := 48) (by decide) (by rw [fa_lt]; rw [fa_le] at g; omega) e
          refine ⟨_, _, _, _, _, _, _, _, _, _, rfl, rfl, rfl, fun q hq => ?_⟩
          obtain ⟨a, b, c4⟩ := R q hq
          unfold va_up upd
          by_cases w : q = k
          · subst w
            simp only [if_true]
            refine ⟨Or.inr ⟨trivial, trivial, in3 d⟩, ⟨z, hz, rfl, rfl⟩, fun p hp => ?_⟩
            rw [if_pos hp, if_pos (by omega)]
          · simp only [if_neg w]
            refine ⟨a, b, fun p hp => ?_⟩
            rw [if_neg (by omega)]; exact c4 p hp
        · rw [if_neg g, if_neg g]; exact ⟨_, _, _, _, _, _, _, _, _, _, rfl, rfl, rfl, R⟩
      · rw [if_neg e, if_neg e]; exact ⟨_, _, _, _, _, _, _, _, _, _, rfl, rfl, rfl, R⟩
