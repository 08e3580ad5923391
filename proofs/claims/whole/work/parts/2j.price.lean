/-! the price of a dark room -/
theorem ct_lt {p q : Nat → Bool} {n j : Nat} (h : ∀ k, k < n → p k = true → q k = true) (hj : j < n) (h1 : q j = true) (h2 : p j = false) : fb_ct p n < fb_ct q n := by
  have a := fb_ct_upd p true hj
  have b := fb_ct_sub (p := fun k => if k = j then true else p k) (q := q) (n := n) (fun k hk z => by
    by_cases c : k = j
    · rw [c]; exact h1
    · rw [if_neg c] at z; exact h k hk z)
  rw [h2] at a
  simp only [Bool.false_eq_true, if_false, if_true] at a
  omega
theorem ct_one {p : Nat → Bool} : ∀ {n : Nat}, (∀ i j, i < n → j < n → p i = true → p j = true → i = j) → fb_ct p n ≤ 1
  | 0, _ => Nat.zero_le 1
  | n + 1, h => by
    rw [fb_ct_succ]
    cases e : p n with
    | false => have := ct_one (p := p) (n := n) (fun i j hi hj => h i j (by omega) (by omega)); simpa using this
    | true =>
      have : fb_ct p n = 0 := fb_ct_zero.mpr (fun k hk => by
        cases e2 : p k with
        | false => rfl
        | true => have := h k n (by omega) (by omega) e2 e; omega)
      rw [this]; decide
theorem and1_01 (x : Int32) : x &&& 1 = 0 ∨ x &&& 1 = 1 := by
  have h : (x &&& 1).toBitVec = (if x.toBitVec.getLsbD 0 = true then 1#32 else 0#32) := by
    rw [Int32.toBitVec_and]
    apply BitVec.eq_of_getLsbD_eq
    intro i hi
    rw [BitVec.getLsbD_and]
    match i with
    | 0 => cases x.toBitVec.getLsbD 0 <;> rfl
    | i + 1 =>
      have e : (1 : Int32).toBitVec.getLsbD (i + 1) = false := by
        show (1#32).getLsbD (i + 1) = false
        rw [BitVec.getLsbD_one]; simp
      rw [e, Bool.and_false]
      cases x.toBitVec.getLsbD 0
      · simp
      · rw [if_pos rfl, BitVec.getLsbD_one]; simp
  cases e : x.toBitVec.getLsbD 0 with
  | true => rw [e, if_pos rfl] at h; exact Or.inr (Int32.toBitVec_inj.mp h)
  | false => rw [e, if_neg (by decide)] at h; exact Or.inl (Int32.toBitVec_inj.mp h)
def dk (aw : Nat → Int32) (i : Nat) : Bool := !bitof (aw i) 3
def bfr (w : Nat → Int32) (j i : Nat) : Bool := decide ((w i).toInt < (w j).toInt ∨ ((w j).toInt = (w i).toInt ∧ j < i))
def rk (aw w : Nat → Int32) (i : Nat) : Nat := fb_ct (fun j => dk aw j && bfr w j i) 6
theorem bfr_t {w : Nat → Int32} {j i : Nat} : bfr w j i = true ↔ ((w i).toInt < (w j).toInt ∨ ((w j).toInt = (w i).toInt ∧ j < i)) := by unfold bfr; simp
theorem rk_lt {aw w : Nat → Int32} {j i : Nat} (hj : j < 6) (hd : dk aw j = true) (hb : bfr w j i = true) : rk aw w j < rk aw w i := by
  refine ct_lt (j := j) (fun k _ z => ?_) hj (by rw [hd, hb]; rfl) ?_
  · rw [Bool.and_eq_true] at z ⊢
    refine ⟨z.1, ?_⟩
    have a := bfr_t.mp z.2
    have b := bfr_t.mp hb
    exact bfr_t.mpr (by omega)
  · have : ¬ bfr w j j = true := fun z => by have := bfr_t.mp z; omega
    rw [hd, Bool.true_and]; exact Bool.eq_false_iff.mpr this
theorem bfr_tot {w : Nat → Int32} {j i : Nat} (h : ¬ j = i) : bfr w j i = true ∨ bfr w i j = true := by
  rw [bfr_t, bfr_t]; omega
theorem bfr_asym {w : Nat → Int32} {j i : Nat} (h : bfr w j i = true) : ¬ bfr w i j = true := by
  rw [bfr_t] at *; omega
theorem rk_inj {aw w : Nat → Int32} {j i : Nat} (hj : j < 6) (hi : i < 6) (dj : dk aw j = true) (di : dk aw i = true) (e : rk aw w j = rk aw w i) : j = i := by
  rcases Nat.decEq j i with c | c
  · rcases bfr_tot (w := w) c with z | z
    · have := rk_lt hj dj z; omega
    · have := rk_lt hi di z; omega
  · exact c
theorem rk_ct (aw w : Nat → Int32) : ∀ y, fb_ct (fun k => dk aw k && decide (rk aw w k < y)) 6 ≤ y
  | 0 => by
    rw [show fb_ct (fun k => dk aw k && decide (rk aw w k < 0)) 6 = 0 from fb_ct_zero.mpr (fun k _ => by simp)]
    exact Nat.le_refl 0
  | y + 1 => by
    have a := rk_ct aw w y
    have b : fb_ct (fun k => dk aw k && decide (rk aw w k = y)) 6 ≤ 1 := ct_one (fun i j hi hj z1 z2 => by
      simp only [Bool.and_eq_true, decide_eq_true_eq] at z1 z2
      exact rk_inj (w := w) hi hj z1.1 z2.1 (by omega))
    have c : fb_ct (fun k => dk aw k && decide (rk aw w k < y + 1)) 6 = fb_ct (fun k => dk aw k && decide (rk aw w k < y)) 6 + fb_ct (fun k => dk aw k && decide (rk aw w k = y)) 6 := by
      rw [← fb_ct_or (fun k _ z => by simp only [Bool.and_eq_true, decide_eq_true_eq] at z; omega)]
      exact fb_ct_cong (fun k _ => by
        cases dk aw k with
        | false => rfl
        | true =>
          simp only [Bool.true_and]
          by_cases q : rk aw w k < y + 1
          · rcases Nat.lt_or_ge (rk aw w k) y with z | z
            · simp [q, z]
            · simp [q, show rk aw w k = y by omega]
          · simp [q, show ¬ rk aw w k < y by omega, show ¬ rk aw w k = y by omega])
    omega
/-- the first of those that are not before y has y before it -/
theorem rk_best {aw w : Nat → Int32} {y b : Nat} (hb : b < 6) (db : dk aw b = true) (hy : y ≤ rk aw w b) (h : ∀ j, j < 6 → dk aw j = true → y ≤ rk aw w j → ¬ j = b → bfr w b j = true) : rk aw w b = y := by
  have e : rk aw w b = fb_ct (fun k => dk aw k && decide (rk aw w k < y)) 6 := fb_ct_cong (fun k hk => by
    cases dkk : dk aw k with
    | false => rfl
    | true =>
      simp only [Bool.true_and]
      by_cases c : bfr w k b = true
      · have : ¬ y ≤ rk aw w k := fun z => by
          by_cases q : k = b
          · subst q; have := bfr_t.mp c; omega
          · exact bfr_asym c (h k hk dkk z q)
        rw [c, decide_eq_true (show rk aw w k < y by omega)]
      · have : ¬ rk aw w k < y := fun z => by
          have q : ¬ k = b := fun q => by subst q; omega
          rcases bfr_tot (w := w) q with r | r
          · exact c r
          · have := rk_lt hb db r; omega
        rw [Bool.eq_false_iff.mpr c, decide_eq_false this])
  have := rk_ct aw w y
  omega
def sp_price (aw w : Nat → Int32) (x : Nat) : Int32 := match ff (fun i => dk aw i && decide (rk aw w i = x)) 0 6 with
  | some i => w i
  | none => 0
theorem wantsDark_v (n : Nat) (aw : Nat → Int32) {i : Nat} (hi : i < 6) : f_X7_wantsDark n aw (nI i) = some (if dk aw i = true then 1 else 0) := by
  unfold f_X7_wantsDark dk bitof
  rw [ix_in _ (vp_in_nI hi (by omega)), nI_clamp (by omega)]
  show (if (aw i >>> (nI 3 &&& 31)) &&& 1 = 0 then some 1 else some 0) = _
  rcases and1_01 (aw i >>> (nI 3 &&& 31)) with e | e
  · rw [e]; rfl
  · rw [e]; rfl
theorem ahead_v {n : Nat} (hn : 4000 ≤ n) (aw w : Nat → Int32) {i : Nat} (hi : i < 6) : f_X7_aheadInBidding n aw w (nI i) = some (nI (rk aw w i)) := by
  unfold f_X7_aheadInBidding
  refine jn1_i (fun kx hkx => ?_)
  refine (lp_st (fun k j (s : Int32) => L_X7_aheadInBidding_4 n aw w (nI i) kx k s (nI j)) 6 kx (fun j => nI (fb_ct (fun j => dk aw j && bfr w j i) j))
    (fun k => by rw [L_X7_aheadInBidding_4_s, if_pos (show (6 : Int32) ≤ nI 6 by decide)])
    (fun k j hj => by
      rw [L_X7_aheadInBidding_4_s, if_neg (show ¬ (6 : Int32) ≤ nI j from nI_ge (b := 6) hj (by omega)), ix_in _ (vp_in_nI hj (by omega)), ix_in _ (vp_in_nI hi (by omega)), nI_clamp (by omega), nI_clamp (by omega), wantsDark_v n aw hj]
      simp only [jn0_, jn1_, bd1_in, lt_, nI_1, ix_in _ (vp_in_nI hj (show 6 < 2 ^ 31 by omega)), ix_in _ (vp_in_nI hi (show 6 < 2 ^ 31 by omega))]
      have q : ∀ (X Y : Option Int32), (if w i < w j then X else if w j = w i then if nI i ≤ nI j then Y else X else Y) = if bfr w j i = true then X else Y := fun X Y => by
        unfold bfr
        simp only [decide_eq_true_eq]
        by_cases c1 : w i < w j
        · rw [if_pos c1, if_pos (Or.inl ((fa_lt _ _).mp c1))]
        · rw [if_neg c1]
          by_cases c2 : w j = w i
          · rw [if_pos c2]
            by_cases c3 : i ≤ j
            · rw [if_pos (nI_le c3 (by omega)), if_neg (by rw [fa_lt] at c1; omega)]
            · rw [if_neg (nI_ge (by omega) (by omega)), if_pos (Or.inr ⟨by rw [c2], by omega⟩)]
          · rw [if_neg c2, if_neg (by rw [fa_lt] at c1; rw [fa_eq] at c2; omega)]
      rw [q, fb_ct_succ]
      cases dk aw j <;> cases bfr w j i <;> rfl)
    6 n 0 (by omega) (by omega)).trans ?_
  rw [hkx]; rfl
theorem rk_le (aw w : Nat → Int32) (i : Nat) : rk aw w i ≤ 6 := fb_ct_le _ 6
theorem price_S {n : Nat} (hn : 4000 ≤ n) (aw w : Nat → Int32) {x : Nat} (hx : x ≤ 6) : f_X7_price n aw w (nI x) = some (sp_price aw w x) := by
  unfold f_X7_price sp_price
  rw [outside_v, if_neg (show ¬ (nI x < 0 ∨ (6 : Int32) < nI x) from rng1_in (a := 0) (b := 6) (by omega) (by omega) hx), bd1_in, if_pos rfl]
  refine jn0_i (fun kx hkx => ?_)
  refine (lp_ff (fun k i => L_X7_price_15 n aw w (nI x) kx k (nI i)) 6 kx (fun i => dk aw i && decide (rk aw w i = x)) (fun i => some (w i))
    (fun k => by rw [L_X7_price_15_s, if_pos (show (6 : Int32) ≤ nI 6 by decide)])
    (fun k i hi => by
      have hr := rk_le aw w i
      rw [L_X7_price_15_s, if_neg (show ¬ (6 : Int32) ≤ nI i from nI_ge (b := 6) hi (by omega)), wantsDark_v n aw hi, bd1_in, jn0_, bz_pos, ahead_v hn aw w hi, bd1_in, ix_in _ (vp_in_nI hi (by omega)), nI_clamp (by omega), nI_1]
      cases dk aw i with
      | false => rfl
      | true =>
        rw [if_pos rfl, Bool.true_and]
        by_cases c : rk aw w i = x
        · rw [if_pos (by rw [c]), if_pos (decide_eq_true c)]
        · rw [if_neg (fun z => c ((nI_eq (by omega) (by omega)).mp z)), if_neg (by simpa using c)])
    6 n 0 (by omega) (by omega)).trans ?_
  cases ff (fun i => dk aw i && decide (rk aw w i = x)) 0 6 with
  | none => exact hkx
  | some j => rfl
theorem bm_or : ∀ M, M < 64 → ∀ i, i < 6 → (nI M ||| ((1 : Int32) <<< (nI i &&& 31)) = nI (M ||| 2 ^ i) ∧ M ||| 2 ^ i < 64 ∧ ∀ j, j < 6 → bitof (nI (M ||| 2 ^ i)) j = (bitof (nI M) j || decide (j = i))) := by decide +kernel
theorem bm_clr : ∀ M, M < 64 → ∀ i, i < 6 → (nI M &&& (((1 : Int32) <<< (nI i &&& 31)) ^^^ (-1)) = nI (M &&& (63 ^^^ 2 ^ i)) ∧ M &&& (63 ^^^ 2 ^ i) < 64 ∧ ∀ j, j < 6 → bitof (nI (M &&& (63 ^^^ 2 ^ i))) j = (bitof (nI M) j && !decide (j = i))) := by decide +kernel
theorem bm_0 : ∀ j, j < 6 → bitof (nI 0) j = false := by decide +kernel
theorem isIn_v (n : Nat) (m : Int32) (i : Nat) : f_X8_isIn n m (nI i) = some (if bitof m i = true then 1 else 0) := by
  unfold f_X8_isIn bitof
  by_cases c : (m >>> (nI i &&& 31)) &&& 1 = 1
  · rw [if_pos c, decide_eq_true c]; rfl
  · rw [if_neg c, decide_eq_false c]; rfl
def ag (w : Nat → Int32) (m : Int32) (i : Nat) (z : Int32) : Int32 := if bitof m i = true then (if z = -1 then nI i else if w i ≤ w z.toNatClampNeg then z else nI i) else z
def aI (w : Nat → Int32) (m : Int32) (i : Nat) (z : Int32) : Prop := (z = -1 ∧ ∀ j, j < i → bitof m j = false) ∨ ∃ b, b < i ∧ z = nI b ∧ bitof m b = true ∧ ∀ j, j < i → bitof m j = true → ¬ j = b → bfr w b j = true
theorem best_v {n : Nat} (hn : 4000 ≤ n) (w mw : Nat → Int32) (hw : ∀ k, k < 6 → w k = mw k) (m : Int32) (kx : Int32 → Option Int32) : ∃ z, L_X8_priceOf_56 n mw m kx n (-1) 0 = kx z ∧ aI w m 6 z := by
  have hne : ∀ j, j < 6 → ¬ nI j = -1 := by decide
  have key := lp_fi (fun k i z => L_X8_priceOf_56 n mw m kx k z (nI i)) 6 kx (ag w m) (fun i z => aI w m i z ∧ i ≤ 6)
    (fun k s _ => by rw [L_X8_priceOf_56_s, if_pos (show (6 : Int32) ≤ nI 6 by decide)])
    (fun k i z hi hI => by
      rw [L_X8_priceOf_56_s, if_neg (show ¬ (6 : Int32) ≤ nI i from nI_ge (b := 6) hi (by omega)), isIn_v, bd1_in, nI_1]
      simp only [jn0_, jn1_]
      unfold ag
      rw [bz_pos]
      by_cases c : bitof m i = true
      · rw [if_pos c, if_pos c]
        rcases hI.1 with ⟨rfl, h⟩ | ⟨b, hb, rfl, h1, h2⟩
        · rw [if_pos rfl, if_pos rfl]
        · rw [if_neg (hne b (by omega)), if_neg (hne b (by omega)), ix_in _ (vp_in_nI hi (by omega)), ix_in _ (vp_in_nI (show b < 6 by omega) (by omega)), nI_clamp (by omega), nI_clamp (by omega), hw i hi, hw b (by omega)]
          split <;> rfl
      · rw [if_neg c, if_neg c])
    (fun i z hi hI => by
      refine ⟨?_, by omega⟩
      unfold ag
      by_cases c : bitof m i = true
      · rw [if_pos c]
        rcases hI.1 with ⟨rfl, h⟩ | ⟨b, hb, rfl, h1, h2⟩
        · rw [if_pos rfl]
          exact Or.inr ⟨i, by omega, rfl, c, fun j hj q1 q2 => by rw [h j (by omega)] at q1; cases q1⟩
        · rw [if_neg (hne b (by omega)), nI_clamp (by omega)]
          by_cases e : w i ≤ w b
          · rw [if_pos e]
            refine Or.inr ⟨b, by omega, rfl, h1, fun j hj q1 q2 => ?_⟩
            rcases Nat.lt_or_ge j i with z | z
            · exact h2 j z q1 q2
            · have : j = i := by omega
              subst this
              rw [fa_le] at e
              exact bfr_t.mpr (by omega)
          · rw [if_neg e]
            rw [fa_le] at e
            refine Or.inr ⟨i, by omega, rfl, c, fun j hj q1 q2 => ?_⟩
            by_cases q : j = b
            · subst q; exact bfr_t.mpr (by omega)
            · have := bfr_t.mp (h2 j (by omega) q1 q)
              exact bfr_t.mpr (by omega)
      · rw [if_neg c]
        have cf := Bool.eq_false_iff.mpr c
        rcases hI.1 with ⟨rfl, h⟩ | ⟨b, hb, rfl, h1, h2⟩
        · exact Or.inl ⟨rfl, fun j hj => by
            rcases Nat.lt_or_ge j i with z | z
            · exact h j z
            · rw [show j = i by omega]; exact cf⟩
        · exact Or.inr ⟨b, by omega, rfl, h1, fun j hj q1 q2 => by
            rcases Nat.lt_or_ge j i with z | z
            · exact h2 j z q1 q2
            · rw [show j = i by omega] at q1; exact absurd q1 c⟩)
    6 n 0 (-1) (by omega) (by omega) ⟨Or.inl ⟨rfl, fun j hj => by omega⟩, by omega⟩
  exact ⟨_, key.1, key.2.1⟩
def pI (aw w : Nat → Int32) (y : Nat) (s : Int32 × Int32) : Prop := (∃ M, M < 64 ∧ s.1 = nI M ∧ ∀ j, j < 6 → bitof s.1 j = (dk aw j && decide (y ≤ rk aw w j))) ∧ (0 < y → s.2 = sp_price aw w (y - 1))
theorem priceOf_S {n : Nat} (hn : 4000 ≤ n) {aw w maw mw : Nat → Int32} (ha : ∀ k, k < 6 → aw k = maw k) (hw : ∀ k, k < 6 → w k = mw k) {x : Nat} (hx : x ≤ 6) : f_X8_priceOf n maw mw (nI x) = some (sp_price aw w x) := by
  have hne : ∀ j, j < 6 → ¬ nI j = -1 := by decide
  unfold f_X8_priceOf
  refine jn1_i (fun kx4 hkx4 => ?_)
  have k4 := lp_fi (fun k i s => L_X8_priceOf_4 n maw kx4 k s (nI i)) 6 kx4 (fun i (s : Int32) => s ||| (if dk aw i = true then (1 : Int32) <<< (nI i &&& 31) else 0)) (fun i s => ∃ M, M < 64 ∧ s = nI M ∧ ∀ j, j < 6 → bitof s j = (dk aw j && decide (j < i)))
    (fun k s _ => by rw [L_X8_priceOf_4_s, if_pos (show (6 : Int32) ≤ nI 6 by decide)])
    (fun k i s hi _ => by
      rw [L_X8_priceOf_4_s, if_neg (show ¬ (6 : Int32) ≤ nI i from nI_ge (b := 6) hi (by omega)), ix_in _ (vp_in_nI hi (by omega)), nI_clamp (by omega), show (3 : Int32) = nI 3 from rfl, isIn_v, bd1_in, lt_, bz_pos, ← ha i hi, nI_1]
      unfold dk
      cases bitof (aw i) 3 <;> rfl)
    (fun i s hi hI => by
      obtain ⟨M, h1, rfl, h3⟩ := hI
      cases e : dk aw i with
      | true =>
        rw [if_pos rfl]
        obtain ⟨q1, q2, q3⟩ := bm_or M h1 i hi
        refine ⟨_, q2, q1, fun j hj => ?_⟩
        rw [q1, q3 j hj, h3 j hj]
        by_cases c : j = i
        · subst c; rw [e]; simp
        · by_cases d : j < i
          · simp [c, d, show j < i + 1 by omega]
          · simp [c, d, show ¬ j < i + 1 by omega]
      | false =>
        rw [if_neg (by decide), Int32.or_zero]
        refine ⟨M, h1, rfl, fun j hj => ?_⟩
        rw [h3 j hj]
        by_cases c : j = i
        · subst c; rw [e]; rfl
        · by_cases d : j < i
          · simp [d, show j < i + 1 by omega]
          · simp [d, show ¬ j < i + 1 by omega])
    6 n 0 0 (by omega) (by omega) ⟨0, by omega, rfl, fun j hj => by rw [show (0 : Int32) = nI 0 from rfl, bm_0 j hj]; simp⟩
  refine k4.1.trans ?_
  obtain ⟨M, h1, h2, h3⟩ := k4.2
  generalize fo (fun i (s : Int32) => s ||| (if dk aw i = true then (1 : Int32) <<< (nI i &&& 31) else 0)) 0 6 0 = m0 at *
  rw [hkx4]
  refine jn1_i (fun kx hkx => ?_)
  have step : ∀ (k y : Nat) (s : Int32 × Int32), y < x + 1 → pI aw w y s → ∃ s2 : Int32 × Int32, L_X8_priceOf_44 n mw (nI x) kx (k + 1) s.1 s.2 (nI y) = L_X8_priceOf_44 n mw (nI x) kx k s2.1 s2.2 (nI (y + 1)) ∧ pI aw w (y + 1) s2 := by
    intro k y s hy hI
    obtain ⟨⟨M, m1, m2, m3⟩, -⟩ := hI
    rw [L_X8_priceOf_44_s, if_neg (nI_nlt (by omega) (by omega)), jn1_, nI_1]
    obtain ⟨z, ez, hz⟩ := best_v hn w mw hw s.1 (fun (z56_5 : Int32) => jn1_ (fun (q127_0 : Int32) => lt_ ((if z56_5 = (-1) then 0 else ((1 <<< (z56_5 &&& 31)) ^^^ (-1))) : Int32) (fun v145_1 => L_X8_priceOf_44 n mw (nI x) kx k (s.1 &&& v145_1) q127_0 (nI (y + 1)))) (fun k127 => if z56_5 = (-1) then k127 0 else ix_ z56_5 6 (k127 (mw z56_5.toNatClampNeg))))
    rw [ez]
    rcases hz with ⟨rfl, h⟩ | ⟨b, hb, rfl, hb1, hb2⟩
    · refine ⟨(0, 0), ?_, ⟨0, by omega, rfl, fun j hj => ?_⟩, fun _ => ?_⟩
      · simp only [jn1_, lt_, if_true, Int32.and_zero]
      · show bitof (nI 0) j = _
        rw [bm_0 j hj]
        have q := h j hj
        rw [m3 j hj] at q
        cases e : dk aw j with
        | false => rfl
        | true =>
          rw [e, Bool.true_and] at q
          have := of_decide_eq_false q
          rw [Bool.true_and, decide_eq_false (by omega)]
      · unfold sp_price
        rw [ff_all (fun i hi => by
          have q := h i hi
          rw [m3 i hi] at q
          cases e : dk aw i with
          | false => rfl
          | true =>
            rw [e, Bool.true_and] at q
            have := of_decide_eq_false q
            rw [Bool.true_and, decide_eq_false (by omega)])]
    · have dbk := hb1
      rw [m3 b hb, Bool.and_eq_true, decide_eq_true_eq] at dbk
      have hr : rk aw w b = y := rk_best hb dbk.1 dbk.2 (fun j hj d1 d2 d3 => hb2 j hj (by rw [m3 j hj, d1, decide_eq_true d2]; rfl) d3)
      obtain ⟨q1, q2, q3⟩ := bm_clr M m1 b hb
      refine ⟨(nI (M &&& (63 ^^^ 2 ^ b)), w b), ?_, ⟨_, q2, rfl, fun j hj => ?_⟩, fun _ => ?_⟩
      · simp only [jn1_, lt_, if_neg (hne b hb)]
        rw [ix_in _ (vp_in_nI hb (by omega)), nI_clamp (by omega), m2, q1, hw b hb]
      · show bitof (nI (M &&& (63 ^^^ 2 ^ b))) j = _
        rw [q3 j hj, ← m2, m3 j hj]
        by_cases c : j = b
        · subst c
          rw [hr]; simp
        · cases e : dk aw j with
          | false => rfl
          | true =>
            rw [Bool.true_and, Bool.true_and, decide_eq_false c]
            by_cases d : y ≤ rk aw w j
            · have := rk_lt hb dbk.1 (hb2 j hj (by rw [m3 j hj, e, decide_eq_true d]; rfl) c)
              rw [decide_eq_true d, decide_eq_true (by omega)]; rfl
            · rw [decide_eq_false d, decide_eq_false (by omega)]; rfl
      · unfold sp_price
        show w b = _
        rw [ff_at (j := b) (m := 6) (fun i hi => by
          cases e : dk aw i with
          | false => rfl
          | true =>
            rw [Bool.true_and, decide_eq_false]
            intro z
            have := rk_inj (show i < 6 by omega) hb e dbk.1 (show rk aw w i = rk aw w b by omega)
            omega) (by rw [dbk.1, hr]; simp) hb]
  have run : ∀ (m k y : Nat) (s : Int32 × Int32), y + m = x + 1 → m < k → pI aw w y s → L_X8_priceOf_44 n mw (nI x) kx k s.1 s.2 (nI y) = kx (sp_price aw w x) := by
    intro m
    induction m with
    | zero =>
      intro k y s e hk hI
      obtain ⟨k, rfl⟩ : ∃ q, k = q + 1 := ⟨k - 1, by omega⟩
      have ey : y = x + 1 := by omega
      subst ey
      rw [L_X8_priceOf_44_s, if_pos (nI_lt (by omega) (by omega)), hI.2 (by omega)]
      rfl
    | succ m ih =>
      intro k y s e hk hI
      obtain ⟨k, rfl⟩ : ∃ q, k = q + 1 := ⟨k - 1, by omega⟩
      obtain ⟨s2, e2, hI2⟩ := step k y s (by omega) hI
      rw [e2]
      exact ih k (y + 1) s2 (by omega) (by omega) hI2
  have fin := run (x + 1) n 0 (m0, 0) (by omega) (by omega) ⟨⟨M, h1, h2, fun j hj => by show bitof m0 j = _; rw [h3 j hj]; simp [hj]⟩, fun z => by omega⟩
  exact fin.trans (hkx _)
theorem e_price {n : Nat} (hn : 4000 ≤ n) {aw maw w mw : Nat → Int32} (ha : ∀ k, k < 6 → aw k = maw k) (hw : ∀ k, k < 6 → w k = mw k) (x : Int32) : ∃ r, f_X7_price n aw w x = some r ∧ f_X8_price n maw mw x = some r := by
  by_cases c : x < 0 ∨ (6 : Int32) < x
  · refine ⟨-2, ?_, ?_⟩
    · unfold f_X7_price; rw [outside_v, if_pos c]; rfl
    · unfold f_X8_price; rw [in_v, if_pos c]; rfl
  · obtain ⟨j, hj, rfl⟩ := rng (a := 6) (by omega) c
    refine ⟨_, price_S hn aw w hj, ?_⟩
    unfold f_X8_price
    rw [in_v, if_neg c, bd1_in, if_neg (by decide), priceOf_S hn ha hw hj, bd1_in]
