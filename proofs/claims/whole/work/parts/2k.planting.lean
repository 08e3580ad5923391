/-! what to plant, one behind the other -/
section
variable (c : Nat → Nat → Int32) (hr : Nat → Nat) (m : Nat)
def pr (a : Nat → Int32) (y p : Nat) : Int32 := if y + hr p ≤ m then c p y + a (y + hr p) else -1
def cv (a : Nat → Int32) (y : Nat) : Nat → Int32
  | 0 => a (y + 1)
  | p + 1 => if cv a y p < pr c hr m a y p then pr c hr m a y p else cv a y p
def mv (b : Nat → Int32) (y : Nat) : Nat → Int32
  | 0 => b (y + 1)
  | p + 1 => if y + hr p ≤ m then (if c p y + b (y + hr p) ≤ mv b y p then mv b y p else c p y + b (y + hr p)) else mv b y p
def fs (b : Nat → Int32) (y : Nat) : Nat → Int32
  | 0 => -1
  | p + 1 => if y + hr p ≤ m then (if c p y + b (y + hr p) ≤ mv c hr m b y p then fs b y p else nI p) else fs b y p
def carr : Nat → (Nat → Int32) → Nat → Int32
  | 0, a => a
  | j + 1, a => carr j (upd a j (cv c hr m a j 4))
def marr : Nat → Int32 → (Nat → Int32) → Int32 × (Nat → Int32)
  | 0, f, b => (f, b)
  | j + 1, _, b => marr j (fs c hr m b j 4) (upd b j (mv c hr m b j 4))
end
def agr (m j : Nat) (a b : Nat → Int32) : Prop := ∀ i, j ≤ i → i ≤ m → a i = b i ∧ 0 ≤ (a i).toInt
theorem i32_m1 : (-1 : Int32).toInt = -1 := by decide
theorem cv_mv {c : Nat → Nat → Int32} {hr : Nat → Nat} {m y : Nat} {a b : Nat → Int32} (hh : ∀ p, p < 4 → 1 ≤ hr p) (hy : y < m) (h : agr m (y + 1) a b) : ∀ p, p ≤ 4 → cv c hr m a y p = mv c hr m b y p ∧ 0 ≤ (cv c hr m a y p).toInt
  | 0, _ => h (y + 1) (by omega) (by omega)
  | p + 1, hp => by
    obtain ⟨e1, e2⟩ := cv_mv hh hy h p (by omega)
    show (if cv c hr m a y p < pr c hr m a y p then pr c hr m a y p else cv c hr m a y p) = (if y + hr p ≤ m then (if c p y + b (y + hr p) ≤ mv c hr m b y p then mv c hr m b y p else c p y + b (y + hr p)) else mv c hr m b y p) ∧ 0 ≤ (if cv c hr m a y p < pr c hr m a y p then pr c hr m a y p else cv c hr m a y p).toInt
    unfold pr
    have h1 := hh p (by omega)
    by_cases d : y + hr p ≤ m
    · have ea := (h (y + hr p) (by omega) d).1
      simp only [if_pos d]
      rw [← e1, ← ea]
      by_cases q : cv c hr m a y p < c p y + a (y + hr p)
      · rw [if_pos q, if_neg (fun z => by rw [fa_lt] at q; rw [fa_le] at z; omega)]
        rw [fa_lt] at q
        exact ⟨rfl, by omega⟩
      · rw [if_neg q, if_pos (by rw [fa_lt] at q; rw [fa_le]; omega)]
        exact ⟨rfl, e2⟩
    · simp only [if_neg d]
      rw [if_neg (fun z => by rw [fa_lt, i32_m1] at z; omega)]
      exact ⟨e1, e2⟩
theorem agr_step {c : Nat → Nat → Int32} {hr : Nat → Nat} {m y : Nat} {a b : Nat → Int32} (hh : ∀ p, p < 4 → 1 ≤ hr p) (hy : y < m) (h : agr m (y + 1) a b) : agr m y (upd a y (cv c hr m a y 4)) (upd b y (mv c hr m b y 4)) := fun i h1 h2 => by
  unfold upd
  by_cases z : i = y
  · rw [if_pos z, if_pos z]; exact cv_mv hh hy h 4 (by omega)
  · rw [if_neg z, if_neg z]; exact h i (by omega) h2
theorem arr_last {c : Nat → Nat → Int32} {hr : Nat → Nat} {m : Nat} (hh : ∀ p, p < 4 → 1 ≤ hr p) : ∀ (j : Nat) (f : Int32) (a b : Nat → Int32), j + 1 ≤ m → agr m (j + 1) a b → ∃ a1 b1, agr m 1 a1 b1 ∧ carr c hr m (j + 1) a = upd a1 0 (cv c hr m a1 0 4) ∧ marr c hr m (j + 1) f b = (fs c hr m b1 0 4, upd b1 0 (mv c hr m b1 0 4))
  | 0, f, a, b, _, h => ⟨a, b, h, rfl, rfl⟩
  | j + 1, f, a, b, hj, h => by
    obtain ⟨a1, b1, q1, q2, q3⟩ := arr_last (c := c) hh j (fs c hr m b (j + 1) 4) (upd a (j + 1) (cv c hr m a (j + 1) 4)) (upd b (j + 1) (mv c hr m b (j + 1) 4)) (by omega) (agr_step hh (by omega) h)
    exact ⟨a1, b1, q1, q2, q3⟩
/-- the first of the best, by both ways -/
theorem fs_first {c : Nat → Nat → Int32} {hr : Nat → Nat} {m : Nat} {a b : Nat → Int32} (hh : ∀ p, p < 4 → 1 ≤ hr p) (hm : 0 < m) (h : agr m 1 a b) : ∀ p, p ≤ 4 → ((cv c hr m a 0 0).toInt ≤ (cv c hr m a 0 p).toInt ∧ ∀ q, q < p → (pr c hr m a 0 q).toInt ≤ (cv c hr m a 0 p).toInt) ∧ ((fs c hr m b 0 p = -1 ∧ cv c hr m a 0 p = cv c hr m a 0 0) ∨ ((cv c hr m a 0 0).toInt < (cv c hr m a 0 p).toInt ∧ ∃ q, q < p ∧ fs c hr m b 0 p = nI q ∧ pr c hr m a 0 q = cv c hr m a 0 p ∧ ∀ q2, q2 < q → (pr c hr m a 0 q2).toInt < (cv c hr m a 0 p).toInt))
  | 0, _ => ⟨⟨Int.le_refl _, fun q hq => by omega⟩, Or.inl ⟨rfl, rfl⟩⟩
  | p + 1, hp => by
    obtain ⟨⟨i1, i2⟩, i3⟩ := fs_first (c := c) hh hm h p (by omega)
    obtain ⟨e1, e2⟩ := cv_mv (c := c) hh hm h p (by omega)
    have h1 := hh p (by omega)
    have ecv : cv c hr m a 0 (p + 1) = if cv c hr m a 0 p < pr c hr m a 0 p then pr c hr m a 0 p else cv c hr m a 0 p := rfl
    have efs : fs c hr m b 0 (p + 1) = if 0 + hr p ≤ m then (if c p 0 + b (0 + hr p) ≤ mv c hr m b 0 p then fs c hr m b 0 p else nI p) else fs c hr m b 0 p := rfl
    by_cases q : cv c hr m a 0 p < pr c hr m a 0 p
    · have d : 0 + hr p ≤ m := by
        rcases Nat.lt_or_ge m (0 + hr p) with z | z
        · unfold pr at q; rw [if_neg (by omega), fa_lt, i32_m1] at q; omega
        · exact z
      have ep : pr c hr m a 0 p = c p 0 + b (0 + hr p) := by unfold pr; rw [if_pos d, (h (0 + hr p) (by omega) d).1]
      have qi := (fa_lt _ _).mp q
      rw [ecv, if_pos q, efs, if_pos d, ← e1, ← ep, if_neg (fun z => by rw [fa_le] at z; omega)]
      refine ⟨⟨by omega, fun k hk => ?_⟩, Or.inr ⟨by omega, p, by omega, rfl, rfl, fun k hk => ?_⟩⟩
      · rcases Nat.lt_or_ge k p with z | z
        · have := i2 k z; omega
        · rw [show k = p by omega]; exact Int.le_refl _
      · have := i2 k hk; omega
    · have qi : ¬ (cv c hr m a 0 p).toInt < (pr c hr m a 0 p).toInt := fun z => q ((fa_lt _ _).mpr z)
      have efs2 : fs c hr m b 0 (p + 1) = fs c hr m b 0 p := by
        rw [efs]
        by_cases d : 0 + hr p ≤ m
        · have ep : pr c hr m a 0 p = c p 0 + b (0 + hr p) := by unfold pr; rw [if_pos d, (h (0 + hr p) (by omega) d).1]
          rw [if_pos d, ← e1, ← ep, if_pos (by rw [fa_le]; omega)]
        · rw [if_neg d]
      rw [ecv, if_neg q, efs2]
      refine ⟨⟨i1, fun k hk => ?_⟩, ?_⟩
      · rcases Nat.lt_or_ge k p with z | z
        · exact i2 k z
        · rw [show k = p by omega]; omega
      · rcases i3 with z | ⟨z1, k, z2, z3, z4, z5⟩
        · exact Or.inl z
        · exact Or.inr ⟨z1, k, by omega, z3, z4, z5⟩
/-! the two programs -/
theorem bestWith_v {n h m y p : Nat} {turn phase up ph w : Nat → Int32} {pg : Nat → Nat → Int32} {c : Nat → Nat → Int32} {hr : Nat → Nat} (hp : p < 4) (hph : ∀ p, p < 4 → 1 ≤ hr p ∧ hr p ≤ 20 ∧ ph p = nI (hr p)) (hY : ∀ p, p < 4 → ∀ y, y ≤ 60 → f_X2_yieldFrom n (ph p) (pg p) turn phase up (nI (h + y)) = some (c p y)) (hm : m ≤ 60) (hy : y ≤ 60) : f_X7_bestWith n turn phase up ph pg w (nI p) (nI h) (nI y) (nI m) = some (pr c hr m w y p) := by
  have key : (if nI y + ph p ≤ nI m then bd1_ (f_X2_yieldFrom n (ph p) (pg p) turn phase up (nI h + nI y)) (fun (r : Int32) => ix_ (nI y + ph p) 61 (some (r + (w (nI y + ph p).toNatClampNeg)))) else some (-1)) = some (pr c hr m w y p) := by
    obtain ⟨q1, q2, q3⟩ := hph p hp
    rw [nI_add, hY p hp y hy, bd1_in, q3, nI_add]
    unfold pr
    by_cases d : y + hr p ≤ m
    · rw [if_pos (nI_le d (by omega)), if_pos d, ix_in _ (vp_in_nI (show y + hr p < 61 by omega) (by omega)), nI_clamp (by omega)]
    · rw [if_neg (nI_ge (by omega) (by omega)), if_neg d]
  unfold f_X7_bestWith
  match p, hp with
  | 0, _ => exact key
  | 1, _ => exact key
  | 2, _ => exact key
  | 3, _ => exact key
theorem ym_next {j : Nat} : nI (j + 1) - 1 = nI j := nI_pred j
theorem i_m1 (x : Int32) : x + (-1) = x - 1 := by rw [Int32.sub_eq_add_neg]
theorem findBest_v {n h m : Nat} (hn : 4000 ≤ n) {turn phase up ph w : Nat → Int32} {pg : Nat → Nat → Int32} {c : Nat → Nat → Int32} {hr : Nat → Nat} (hph : ∀ p, p < 4 → 1 ≤ hr p ∧ hr p ≤ 20 ∧ ph p = nI (hr p)) (hY : ∀ p, p < 4 → ∀ y, y ≤ 60 → f_X2_yieldFrom n (ph p) (pg p) turn phase up (nI (h + y)) = some (c p y)) (hm : m ≤ 60) : f_X7_findBest n turn phase up ph pg w (nI h) (nI m) = some (carr c hr m m (upd w m 0)) := by
  have inner : ∀ (kx : Int32 → Option (Nat → Int32)) (a : Nat → Int32) (y : Nat), y ≤ 60 → L_X7_findBest_28 n turn phase up ph pg (nI h) (nI m) (nI y) a kx n (a (y + 1)) 0 = kx (cv c hr m a y 4) := fun kx a y hy =>
    lp_st (fun k p (s : Int32) => L_X7_findBest_28 n turn phase up ph pg (nI h) (nI m) (nI y) a kx k s (nI p)) 4 kx (fun p => cv c hr m a y p)
      (fun k => by rw [L_X7_findBest_28_s, if_pos (show (4 : Int32) ≤ nI 4 by decide)])
      (fun k p hp => by rw [L_X7_findBest_28_s, if_neg (show ¬ (4 : Int32) ≤ nI p from nI_ge (b := 4) hp (by omega)), bestWith_v hp hph hY hm hy, bd1_in, nI_1]; rfl)
      4 n 0 (by omega) (by omega)
  have outer : ∀ (kx : (Nat → Int32) → Option (Nat → Int32)) (j k : Nat) (a : Nat → Int32), j ≤ 60 → j < k → L_X7_findBest_11 n turn phase up ph pg (nI h) (nI m) kx k (nI j - 1) a = kx (carr c hr m j a) := by
    intro kx j
    induction j with
    | zero =>
      intro k a _ hk
      obtain ⟨k, rfl⟩ : ∃ q, k = q + 1 := ⟨k - 1, by omega⟩
      rw [L_X7_findBest_11_s, if_pos (by decide)]; rfl
    | succ j ih =>
      intro k a hj hk
      obtain ⟨k, rfl⟩ : ∃ q, k = q + 1 := ⟨k - 1, by omega⟩
      rw [ym_next, L_X7_findBest_11_s, if_neg (nI_pos (by omega)), nI_1, ix_in _ (vp_in_nI (show j + 1 < 61 by omega) (by omega)), jn1_, nI_clamp (show j + 1 < 2 ^ 31 by omega), nI_clamp (show j < 2 ^ 31 by omega), inner _ a j (by omega), ix_in _ (vp_in_nI (show j < 61 by omega) (by omega)), i_m1]
      exact ih k _ (by omega) (by omega)
  unfold f_X7_findBest
  rw [ix_in _ (vp_in_nI (show m < 61 by omega) (by omega)), nI_clamp (by omega), jn1_, outer _ m n _ hm (by omega)]
theorem plantingOf_v {n h m : Nat} (hn : 4000 ≤ n) {turn phase up rp gr w : Nat → Int32} {c : Nat → Nat → Int32} {hr : Nat → Nat} (hph : ∀ p, p < 4 → 1 ≤ hr p ∧ hr p ≤ 20 ∧ rp p = nI (hr p)) (hY : ∀ p, p < 4 → ∀ y, y ≤ 60 → f_X8_cropOf n turn phase up rp gr (nI p) (nI (h + y)) = some (c p y)) (hm : m ≤ 60) (x : Int32) : f_X8_plantingOf n turn phase up rp gr w (nI h) (nI m) x = some (if x = 0 then (marr c hr m m (-1) (upd w m 0)).2 0 else (marr c hr m m (-1) (upd w m 0)).1, (marr c hr m m (-1) (upd w m 0)).2) := by
  have inner : ∀ (kx : Int32 → (Nat → Int32) → Option (Int32 × (Nat → Int32))) (b : Nat → Int32) (y : Nat), y ≤ 60 → L_X8_plantingOf_42 n turn phase up rp gr (nI h) (nI m) (nI y) kx n (-1) 0 (upd b y (b (y + 1))) = kx (fs c hr m b y 4) (upd b y (mv c hr m b y 4)) := fun kx b y hy =>
    lp_st (fun k p (s : Int32 × (Nat → Int32)) => L_X8_plantingOf_42 n turn phase up rp gr (nI h) (nI m) (nI y) kx k s.1 (nI p) s.2) 4 (fun s => kx s.1 s.2) (fun p => (fs c hr m b y p, upd b y (mv c hr m b y p)))
      (fun k => by rw [L_X8_plantingOf_42_s, if_pos (show (4 : Int32) ≤ nI 4 by decide)])
      (fun k p hp => by
        obtain ⟨q1, q2, q3⟩ := hph p hp
        have efs : fs c hr m b y (p + 1) = if y + hr p ≤ m then (if c p y + b (y + hr p) ≤ mv c hr m b y p then fs c hr m b y p else nI p) else fs c hr m b y p := rfl
        have emv : mv c hr m b y (p + 1) = if y + hr p ≤ m then (if c p y + b (y + hr p) ≤ mv c hr m b y p then mv c hr m b y p else c p y + b (y + hr p)) else mv c hr m b y p := rfl
        rw [L_X8_plantingOf_42_s, if_neg (show ¬ (4 : Int32) ≤ nI p from nI_ge (b := 4) hp (by omega)), ix_in _ (vp_in_nI hp (by omega)), nI_clamp (show p < 2 ^ 31 by omega), q3, nI_add, nI_add, hY p hp y hy, jn2_, bd1_in, nI_1, ix_in _ (vp_in_nI hp (by omega)), nI_clamp (show y < 2 ^ 31 by omega)]
        dsimp only
        simp only [pk_us]
        rw [efs, emv]
        by_cases d : y + hr p ≤ m
        · rw [if_neg (nI_nlt d (by omega)), if_pos d, if_pos d, ix_in _ (vp_in_nI (show y + hr p < 62 by omega) (by omega)), nI_clamp (show y + hr p < 2 ^ 31 by omega), pk_un (show y + hr p ≠ y by omega)]
          simp only [lt_, jn1_, ix_in _ (vp_in_nI (show y < 62 by omega) (show 62 < 2 ^ 31 by omega)), fa_upd_twice]
          by_cases e : c p y + b (y + hr p) ≤ mv c hr m b y p
          · simp only [if_pos e]
          · simp only [if_neg e]
        · rw [if_pos (nI_lt (by omega) (by omega)), if_neg d, if_neg d])
      4 n 0 (by omega) (by omega)
  have outer : ∀ (kx : Int32 → (Nat → Int32) → Option (Int32 × (Nat → Int32))) (j k : Nat) (f : Int32) (b : Nat → Int32), j ≤ 60 → j < k → L_X8_plantingOf_15 n turn phase up rp gr (nI h) (nI m) kx k f (nI j - 1) b = kx (marr c hr m j f b).1 (marr c hr m j f b).2 := by
    intro kx j
    induction j with
    | zero =>
      intro k f b _ hk
      obtain ⟨k, rfl⟩ : ∃ q, k = q + 1 := ⟨k - 1, by omega⟩
      rw [L_X8_plantingOf_15_s, if_pos (by decide)]; rfl
    | succ j ih =>
      intro k f b hj hk
      obtain ⟨k, rfl⟩ : ∃ q, k = q + 1 := ⟨k - 1, by omega⟩
      rw [ym_next, L_X8_plantingOf_15_s, if_neg (nI_pos (by omega)), nI_1, ix_in _ (vp_in_nI (show j + 1 < 62 by omega) (by omega)), ix_in _ (vp_in_nI (show j < 62 by omega) (by omega)), jn2_, nI_clamp (show j < 2 ^ 31 by omega), nI_clamp (show j + 1 < 2 ^ 31 by omega), inner _ b j (by omega), i_m1]
      exact ih k _ _ (by omega) (by omega)
  unfold f_X8_plantingOf
  rw [ix_in _ (vp_in_nI (show m < 62 by omega) (by omega)), nI_clamp (show m < 2 ^ 31 by omega), jn2_, outer _ m n _ _ hm (by omega), cl0]
  split <;> rfl
theorem planting_S {T P U : Nat → Nat} {turn phase up mt mp mu : Nat → Int32} (S : Sn T P U turn phase up) (S2 : Sn T P U mt mp mu) {n : Nat} (hn : 4000 ≤ n) {ph : Nat → Int32} {pg : Nat → Nat → Int32} {rp gr : Nat → Int32} (R : RP ph pg rp gr) {h m : Nat} (hh : h ≤ 1000000000) (hm : m ≤ 60) {w : Int32} (hw : w = 0 ∨ w = 1) (v v2 : Nat → Int32) : ∃ r o o2, f_X7_planting n turn phase up ph pg v (nI h) (nI m) w = some (r, o) ∧ f_X8_plantingOf n mt mp mu rp gr v2 (nI h) (nI m) w = some (r, o2) := by
  have hph : ∃ hr : Nat → Nat, (∀ p, p < 4 → 1 ≤ hr p ∧ hr p ≤ 20 ∧ ph p = nI (hr p)) ∧ ∀ p, p < 4 → 1 ≤ hr p ∧ hr p ≤ 20 ∧ rp p = nI (hr p) := by
    refine ⟨fun p => (ph p).toNatClampNeg, fun p hp => ?_, fun p hp => ?_⟩ <;> (obtain ⟨⟨q, q1, q2, q3, q4⟩, -⟩ := R p hp; dsimp only; rw [q3, nI_clamp (by omega)])
    · exact ⟨q1, q2, rfl⟩
    · exact ⟨q1, q2, q4⟩
  obtain ⟨hr, h1, h2⟩ := hph
  have hY : ∃ c : Nat → Nat → Int32, (∀ p, p < 4 → ∀ y, y ≤ 60 → f_X2_yieldFrom n (ph p) (pg p) turn phase up (nI (h + y)) = some (c p y)) ∧ ∀ p, p < 4 → ∀ y, y ≤ 60 → f_X8_cropOf n mt mp mu rp gr (nI p) (nI (h + y)) = some (c p y) := by
    refine ⟨fun p y => (f_X2_yieldFrom n (ph p) (pg p) turn phase up (nI (h + y))).getD 0, fun p hp y hy => ?_, fun p hp y hy => ?_⟩ <;> obtain ⟨r, e1, e2⟩ := crop_S S S2 hn R hp (show h + y ≤ 1000000100 by omega)
    · dsimp only; rw [e1]; rfl
    · dsimp only; rw [e2, e1]; rfl
  obtain ⟨c, y1, y2⟩ := hY
  have o1 : f_X7_noHour n (nI h) = some 0 := by rw [noHour_v, if_neg (show ¬ (nI h < 0 ∨ (1000000000 : Int32) < nI h) from rng_in (a := 1000000000) (by omega) hh)]
  have o2 : f_X7_outside n (nI m) 0 60 = some 0 := by rw [outside_v, if_neg (show ¬ (nI m < 0 ∨ (60 : Int32) < nI m) from rng_in (a := 60) (by omega) hm)]
  have o3 : f_X7_outside n w 0 1 = some 0 := by rcases hw with rfl | rfl <;> rfl
  have hh1 : ∀ p, p < 4 → 1 ≤ hr p := fun p hp => (h1 p hp).1
  have ag0 : agr m m (upd v m 0) (upd v2 m 0) := fun i i1 i2 => by
    have : i = m := by omega
    subst this
    rw [pk_us, pk_us]; exact ⟨rfl, by decide⟩
  have e8 := plantingOf_v hn (w := v2) h2 y2 hm w
  rcases Nat.eq_zero_or_pos m with z | z
  · subst z
    refine ⟨if w = 0 then 0 else -1, upd v 0 0, upd v2 0 0, ?_, ?_⟩
    · unfold f_X7_planting
      rw [o1, bd1_in, if_pos rfl, o2, bd1_in, if_pos rfl, o3, bd1_in, if_pos rfl, findBest_v hn h1 y1 hm, bd1_in]
      rcases hw with rfl | rfl
      · rfl
      · rfl
    · rw [e8]
      rcases hw with rfl | rfl
      · rfl
      · rfl
  · obtain ⟨j, rfl⟩ : ∃ j, m = j + 1 := ⟨m - 1, by omega⟩
    obtain ⟨a1, b1, g1, g2, g3⟩ := arr_last (c := c) hh1 j (-1) (upd v (j + 1) 0) (upd v2 (j + 1) 0) (by omega) ag0
    obtain ⟨k1, k2⟩ := cv_mv (c := c) hh1 z g1 4 (by omega)
    rw [g3] at e8
    refine ⟨_, upd a1 0 (cv c hr (j + 1) a1 0 4), _, ?_, e8⟩
    · unfold f_X7_planting
      rw [o1, bd1_in, if_pos rfl, o2, bd1_in, if_pos rfl, o3, bd1_in, if_pos rfl, findBest_v hn h1 y1 hm, bd1_in, g2, cl0, pk_us]
      rcases hw with rfl | rfl
      · rw [if_pos rfl, if_pos rfl, k1]
        dsimp only
        rw [pk_us]
      · rw [if_neg (show ¬ (1 : Int32) = 0 by decide), if_neg (show ¬ (1 : Int32) = 0 by decide)]
        have hf : f_X7_firstToPlant n turn phase up ph pg (upd a1 0 (cv c hr (j + 1) a1 0 4)) (nI h) (nI (j + 1)) = some (fs c hr (j + 1) b1 0 4) := by
          unfold f_X7_firstToPlant
          rw [if_neg (nI_ne0 (by omega) (by omega)), cl0, cl1, pk_us, pk_un (show 1 ≠ 0 by decide)]
          obtain ⟨⟨i1, i2⟩, i3⟩ := fs_first (c := c) hh1 z g1 4 (by omega)
          have e01 : cv c hr (j + 1) a1 0 0 = a1 1 := rfl
          rcases i3 with ⟨u1, u2⟩ | ⟨u1, q, u2, u3, u4, u5⟩
          · rw [if_pos (by rw [u2, e01]), u1]
          · rw [if_neg (fun z => by rw [← e01] at z; rw [z] at u1; omega), jn0_]
            have epr : ∀ p, p < 4 → pr c hr (j + 1) (upd a1 0 (cv c hr (j + 1) a1 0 4)) 0 p = pr c hr (j + 1) a1 0 p := fun p hp => by
              unfold pr
              have := hh1 p hp
              rw [pk_un (show 0 + hr p ≠ 0 by omega)]
            have key := lp_ff (fun k p => L_X7_firstToPlant_23 n turn phase up ph pg (upd a1 0 (cv c hr (j + 1) a1 0 4)) (nI h) (nI (j + 1)) (some (-1)) k (nI p)) 4 (some (-1)) (fun p => decide (pr c hr (j + 1) a1 0 p = cv c hr (j + 1) a1 0 4)) (fun p => some (nI p))
              (fun k => by rw [L_X7_firstToPlant_23_s, if_pos (show (4 : Int32) ≤ nI 4 by decide)])
              (fun k p hp => by
                have eb := bestWith_v (w := upd a1 0 (cv c hr (j + 1) a1 0 4)) (y := 0) hp h1 y1 hm (by omega)
                rw [epr p hp] at eb
                rw [L_X7_firstToPlant_23_s, if_neg (show ¬ (4 : Int32) ≤ nI p from nI_ge (b := 4) hp (by omega)), show (0 : Int32) = nI 0 from rfl, eb, bd1_in, nI_1, nI_clamp (by omega), pk_us]
                by_cases d : pr c hr (j + 1) a1 0 p = cv c hr (j + 1) a1 0 4
                · rw [if_pos d, if_pos (decide_eq_true d)]
                · rw [if_neg d, if_neg (by simpa using d)])
              4 n 0 (by omega) (by omega)
            refine key.trans ?_
            rw [ff_at (p := fun p => decide (pr c hr (j + 1) a1 0 p = cv c hr (j + 1) a1 0 4)) (j := q) (m := 4) (fun i hi => decide_eq_false (fun e => by have := u5 i hi; rw [e] at this; omega)) (decide_eq_true u4) u2, u3]
        rw [hf, bd1_in]
theorem e_planting {T P U : Nat → Nat} {turn phase up mt mp mu : Nat → Int32} (S : Sn T P U turn phase up) (S2 : Sn T P U mt mp mu) {n : Nat} (hn : 4000 ≤ n) {ph : Nat → Int32} {pg : Nat → Nat → Int32} {rp gr : Nat → Int32} (R : RP ph pg rp gr) (v v2 : Nat → Int32) (x y w : Int32) : ∃ r o o2, f_X7_planting n turn phase up ph pg v x y w = some (r, o) ∧ f_X8_planting n mt mp mu rp gr v2 x y w = some (r, o2) := by
  by_cases c1 : x < 0 ∨ (1000000000 : Int32) < x
  · refine ⟨-2, v, v2, ?_, ?_⟩
    · unfold f_X7_planting; rw [noHour_v, if_pos c1]; rfl
    · unfold f_X8_planting; rw [isHour_v, if_pos c1]; rfl
  · by_cases c2 : y < 0 ∨ (60 : Int32) < y
    · refine ⟨-2, v, v2, ?_, ?_⟩
      · unfold f_X7_planting; rw [noHour_v, if_neg c1, outside_v n y, if_pos c2]; rfl
      · unfold f_X8_planting; rw [isHour_v, if_neg c1, in_v n y, if_pos c2]; rfl
    · by_cases c3 : w < 0 ∨ (1 : Int32) < w
      · refine ⟨-2, v, v2, ?_, ?_⟩
        · unfold f_X7_planting; rw [noHour_v, if_neg c1, outside_v n y, if_neg c2, outside_v n w, if_pos c3]; rfl
        · unfold f_X8_planting; rw [isHour_v, if_neg c1, in_v n y, if_neg c2, in_v n w, if_pos c3]; rfl
      · obtain ⟨h, hh, rfl⟩ := rng (a := 1000000000) (by omega) c1
        obtain ⟨m, hm, rfl⟩ := rng (a := 60) (by omega) c2
        obtain ⟨r, o, o2, e1, e2⟩ := planting_S S S2 hn R hh hm (in2 c3) v v2
        refine ⟨r, o, o2, e1, ?_⟩
        unfold f_X8_planting
        rw [isHour_v, if_neg c1, in_v, if_neg c2, in_v, if_neg c3, e2]
        rfl
