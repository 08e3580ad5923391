/-! people: who is awake, together; dials -/
def bitof (x : Int32) (i : Nat) : Bool := decide (((x >>> (nI i &&& 31)) &&& 1) = 1)
def sp_lights (aw : Nat → Int32) (x : Int32) : Int32 := fo (fun i (s : Int32) => if bitof x i = true then s &&& aw i else s) 0 6 15
theorem lightsOfAll_v {n : Nat} (hn : 4000 ≤ n) (aw : Nat → Int32) (x : Int32) : f_X7_lightsOfAll n aw x = some (sp_lights aw x) := by
  unfold f_X7_lightsOfAll
  refine jn1_i (fun kx hkx => ?_)
  refine (lp_fo (fun k i s => L_X7_lightsOfAll_5 aw x kx k s (nI i)) 6 kx (fun i (s : Int32) => if bitof x i = true then s &&& aw i else s)
    (fun k s => by rw [L_X7_lightsOfAll_5_s, if_pos (show (6 : Int32) ≤ nI 6 by decide)])
    (fun k i s hi => by
      rw [L_X7_lightsOfAll_5_s, if_neg (show ¬ (6 : Int32) ≤ nI i from nI_ge (b := 6) hi (by omega)), jn1_, ix_in _ (vp_in_nI hi (by omega)), nI_clamp (by omega), nI_1]
      unfold bitof
      by_cases c : ((x >>> (nI i &&& 31)) &&& 1) = 1
      · simp [c]
      · simp [c]) 6 n 0 15 (by omega) (by omega)).trans ?_
  rw [hkx]; rfl
theorem and15 (s a : Int32) (h : s &&& 15 = s) : (s &&& a) &&& 15 = s &&& a := by
  rw [Int32.and_assoc, Int32.and_comm a 15, ← Int32.and_assoc, h]
theorem lightsOf_v {n : Nat} (hn : 4000 ≤ n) (aw : Nat → Int32) (x : Int32) : f_X8_lightsOf n aw x = some (sp_lights aw x) := by
  unfold f_X8_lightsOf
  refine jn1_i (fun kx hkx => ?_)
  refine (lp_fi (fun k i s => L_X8_lightsOf_5 n aw x kx k s (nI i)) 6 kx (fun i (s : Int32) => if bitof x i = true then s &&& aw i else s) (fun _ s => s &&& 15 = s)
    (fun k s _ => by rw [L_X8_lightsOf_5_s, if_pos (show (6 : Int32) ≤ nI 6 by decide)])
    (fun k i s hi hs => by
      rw [L_X8_lightsOf_5_s, if_neg (show ¬ (6 : Int32) ≤ nI i from nI_ge (b := 6) hi (by omega)), nI_1]
      unfold bitof f_X8_isIn
      by_cases c : ((x >>> (nI i &&& 31)) &&& 1) = 1
      · simp [c, bd1_in, jn1_, ix_in _ (vp_in_nI hi (by omega)), nI_clamp (show i < 2 ^ 31 by omega)]
      · simp [c, bd1_in, jn1_, hs])
    (fun i s _ hs => by
      by_cases c : bitof x i = true
      · rw [if_pos c]; exact and15 s _ hs
      · rw [if_neg c]; exact hs) 6 n 0 15 (by omega) (by omega) (by decide)).1.trans ?_
  rw [hkx]; rfl
theorem sp_lights_cong {a b : Nat → Int32} (h : ∀ k, k < 6 → a k = b k) (x : Int32) : sp_lights a x = sp_lights b x := fo_cong 6 0 15 (fun j _ hj s => by rw [h j (by omega)])
def btl (T P U : Nat → Nat) (lights : Int32) (h : Nat) : Int32 := (lights >>> (nI (lgt T P U h) &&& 31)) &&& 1
theorem hasOneOf_S {T P U : Nat → Nat} {turn phase up : Nat → Int32} (S : Sn T P U turn phase up) (n : Nat) (x : Int32) {h : Nat} (hh : h < 2147483000) : f_X4_hasOneOf n turn phase up x (nI h) = some (btl T P U x h) := by
  unfold f_X4_hasOneOf
  rw [lightIn_S S n hh, bd1_in]; rfl
def sp_aw (T P U : Nat → Nat) (lights : Int32) (h m : Nat) : Int32 := fo (fun i (s : Int32) => s + btl T P U lights (h + i)) 0 m 0
theorem hoursWithin_S {T P U : Nat → Nat} {turn phase up : Nat → Int32} (S : Sn T P U turn phase up) {n : Nat} (hn : 4000 ≤ n) (x : Int32) {h m : Nat} (hh : h ≤ 1000000000) (hm : m ≤ 100) : f_X4_hoursWithin n turn phase up x (nI h) (nI m) = some (sp_aw T P U x h m) := by
  unfold f_X4_hoursWithin
  refine jn1_i (fun kx hkx => ?_)
  refine (lp_fo (fun k i s => L_X4_hoursWithin_6 n turn phase up x (nI h) (nI m) kx k s (nI i)) m kx (fun i (s : Int32) => s + btl T P U x (h + i))
    (fun k s => by rw [L_X4_hoursWithin_6_s, if_pos (nI_le (Nat.le_refl _) (by omega))])
    (fun k i s hi => by rw [L_X4_hoursWithin_6_s, if_neg (nI_ge hi (by omega)), nI_add, hasOneOf_S S n x (by omega), bd1_in, nI_1]) m n 0 0 (by omega) (by omega)).trans ?_
  rw [hkx]; rfl
theorem awakeHours_S {T P U : Nat → Nat} {turn phase up : Nat → Int32} (S : Sn T P U turn phase up) {n : Nat} (hn : 4000 ≤ n) (x : Int32) {h m : Nat} (hh : h ≤ 1000000000) (hm : m ≤ 100) : f_X8_awakeHours n turn phase up x (nI h) (nI m) = some (sp_aw T P U x h m) := by
  unfold f_X8_awakeHours
  refine jn1_i (fun kx hkx => ?_)
  refine (lp_fo (fun k i s => L_X8_awakeHours_6 n turn phase up x (nI h) (nI m) kx k s (nI (h + i))) m kx (fun i (s : Int32) => s + btl T P U x (h + i))
    (fun k s => by rw [L_X8_awakeHours_6_s, nI_add, if_pos (nI_le (Nat.le_refl _) (by omega))])
    (fun k i s hi => by rw [L_X8_awakeHours_6_s, nI_add, if_neg (nI_ge (by omega) (by omega)), lightOf_S S n (by omega), bd1_in, nI_1, Nat.add_assoc]; rfl) m n 0 0 (by omega) (by omega)).trans ?_
  rw [hkx]; rfl
def tg_step (T P U : Nat → Nat) (x : Int32) (h m i : Nat) (s : Int32 × Int32 × Int32) : Int32 × Int32 × Int32 :=
  (s.1 + (btl T P U x (h + i + m) - btl T P U x (h + i)), (if s.1 + (btl T P U x (h + i + m) - btl T P U x (h + i)) ≤ s.2.1 then s.2.1 else s.1 + (btl T P U x (h + i + m) - btl T P U x (h + i))), (if s.1 + (btl T P U x (h + i + m) - btl T P U x (h + i)) ≤ s.2.1 then s.2.2 else nI (h + 1 + i)))
def sp_best (T P U : Nat → Nat) (x : Int32) (h m : Nat) : Int32 := (fo (tg_step T P U x h m) 0 (rd T - 1) (sp_aw T P U x h m, sp_aw T P U x h m, nI h)).2.2
theorem bestStart_S {T P U : Nat → Nat} {turn phase up : Nat → Int32} (S : Sn T P U turn phase up) {n : Nat} (hn : 4000 ≤ n) (x : Int32) {h m : Nat} (hh : h ≤ 1000000000) (hm : m ≤ 100) (hm1 : 1 ≤ m) : f_X4_bestStart n turn phase up x (nI h) (nI m) = some (sp_best T P U x h m) := by
  obtain ⟨r1, r2, -⟩ := rd_facts S
  unfold f_X4_bestStart
  rw [hoursOfRound_S S hn, bd1_in, hoursWithin_S S hn x hh hm, bd1_in]
  refine jn1_i (fun kx hkx => ?_)
  have e := lp_fo (fun k i (s : Int32 × Int32 × Int32) => L_X4_bestStart_27 n turn phase up x (nI h) (nI m) (nI (rd T)) kx k s.1 s.2.1 s.2.2 (nI (h + 1 + i))) (rd T - 1) (fun s => kx s.2.2) (tg_step T P U x h m)
    (fun k s => by rw [L_X4_bestStart_27_s, nI_add, if_pos (nI_le (by omega) (by omega))])
    (fun k i s hi => by
      rw [L_X4_bestStart_27_s, nI_add, if_neg (nI_ge (by omega) (by omega)), nI_add, show nI (h + 1 + i + m) - 1 = nI (h + i + m) from (pk_sub (b := 1) (by omega)).trans (by congr 1; omega), show nI (h + 1 + i) - 1 = nI (h + i) from (pk_sub (b := 1) (by omega)).trans (by congr 1; omega), hasOneOf_S S n x (by omega), bd1_in, hasOneOf_S S n x (by omega), bd1_in, lt_, lt_, nI_1]
      rfl) (rd T - 1) n 0 (sp_aw T P U x h m, sp_aw T P U x h m, nI h) (by omega) (by omega)
  refine Eq.trans ?_ (e.trans (hkx _))
  rw [nI_1]
theorem togetherOf_S {T P U : Nat → Nat} {turn phase up : Nat → Int32} (S : Sn T P U turn phase up) {n : Nat} (hn : 4000 ≤ n) (aw : Nat → Int32) (x : Int32) {h m : Nat} (hh : h ≤ 1000000000) (hm : m ≤ 100) (hm1 : 1 ≤ m) {w : Int32} (hw : w = 0 ∨ w = 1) : f_X8_togetherOf n turn phase up aw x (nI h) (nI m) w = some (if w = 0 then sp_aw T P U (sp_lights aw x) h m else sp_best T P U (sp_lights aw x) h m) := by
  obtain ⟨r1, r2, -⟩ := rd_facts S
  unfold f_X8_togetherOf
  rw [lightsOf_v hn, bd1_in, roundNow_S S hn, bd1_in, awakeHours_S S hn _ hh hm, bd1_in]
  refine jn2_i (fun kx hkx => ?_)
  generalize sp_lights aw x = y at *
  rcases hw with rfl | rfl
  · obtain ⟨n, rfl⟩ : ∃ q, n = q + 1 := ⟨n - 1, by omega⟩
    rw [L_X8_togetherOf_35_s]
    have : ∀ c : Prop, ∀ [Decidable c], ∀ a : Option Int32, (if c then a else if (0 : Int32) = 1 then none else a) = a := fun c _ a => by
      by_cases q : c
      · rw [if_pos q]
      · rw [if_neg q, if_neg (by decide)]
    by_cases q : nI h + nI (rd T) ≤ nI h + 1
    · rw [if_pos q, hkx, if_pos rfl, if_pos rfl]
    · rw [if_neg q, if_neg (by decide), hkx, if_pos rfl, if_pos rfl]
  · have e := lp_fo (fun k i (s : Int32 × Int32 × Int32) => L_X8_togetherOf_35 n turn phase up (nI h) (nI m) 1 y (nI (rd T)) kx k s.1 s.2.1 s.2.2 (nI (h + 1 + i))) (rd T - 1) (fun s => kx s.2.1 s.2.2) (tg_step T P U y h m)
      (fun k s => by rw [L_X8_togetherOf_35_s, nI_add, if_pos (nI_le (by omega) (by omega))])
      (fun k i s hi => by
        rw [L_X8_togetherOf_35_s, nI_add, if_neg (nI_ge (by omega) (by omega)), if_pos rfl, show nI (h + 1 + i) - 1 = nI (h + i) from (pk_sub (b := 1) (by omega)).trans (by congr 1; omega), nI_add, lightOf_S S n (by omega), bd1_in, lightOf_S S n (by omega), bd1_in, lt_, lt_, nI_1]
        rfl) (rd T - 1) n 0 (sp_aw T P U y h m, sp_aw T P U y h m, nI h) (by omega) (by omega)
    refine Eq.trans ?_ (e.trans (hkx _ _))
    rw [nI_1]
theorem together_S {T P U : Nat → Nat} {turn phase up : Nat → Int32} (S : Sn T P U turn phase up) {n : Nat} (hn : 4000 ≤ n) (aw : Nat → Int32) {x : Int32} (hx : ¬ (x < 0 ∨ (63 : Int32) < x)) {h m : Nat} (hh : h ≤ 1000000000) (hm : m ≤ 100) (hm1 : 1 ≤ m) {w : Int32} (hw : w = 0 ∨ w = 1) : f_X7_together n turn phase up aw x (nI h) (nI m) w = some (if w = 0 then sp_aw T P U (sp_lights aw x) h m else sp_best T P U (sp_lights aw x) h m) := by
  simp only [f_X7_together, outside_v, noHour_v, bd1_in, bz_pos, bd1_id]
  rw [if_neg hx, if_neg (show ¬ (nI h < 0 ∨ (1000000000 : Int32) < nI h) from rng_in (a := 1000000000) (by omega) hh), if_neg (show ¬ (nI m < 1 ∨ (100 : Int32) < nI m) from fun q => q.elim (fun z => nI_nlt (b := 1) hm1 (by omega) z) (fun z => nI_nlt (a := 100) hm (by omega) z)), if_neg (show ¬ (w < 0 ∨ (1 : Int32) < w) by rcases hw with rfl | rfl <;> decide), lightsOfAll_v hn, bd1_in, hoursWithin_S S hn _ hh hm, bestStart_S S hn _ hh hm hm1]
  rcases hw with rfl | rfl <;> rfl
theorem e_together {T P U : Nat → Nat} {turn phase up mt mp mu : Nat → Int32} (S : Sn T P U turn phase up) (S2 : Sn T P U mt mp mu) {n : Nat} (hn : 4000 ≤ n) {aw maw : Nat → Int32} (ha : ∀ k, k < 6 → aw k = maw k) (x y z w : Int32) : ∃ r, f_X7_together n turn phase up aw x y z w = some r ∧ f_X8_together n mt mp mu maw x y z w = some r := by
  by_cases c1 : x < 0 ∨ (63 : Int32) < x
  · refine ⟨-2, ?_, ?_⟩
    · simp only [f_X7_together, outside_v, bd1_in, bz_pos]; rw [if_pos c1]
    · simp only [f_X8_together, in_v, bd1_in, bz_neg, jn0_]; rw [if_pos c1]
  by_cases c2 : y < 0 ∨ (1000000000 : Int32) < y
  · refine ⟨-2, ?_, ?_⟩
    · simp only [f_X7_together, outside_v, noHour_v, bd1_in, bz_pos]; rw [if_neg c1, if_pos c2]
    · simp only [f_X8_together, in_v, isHour_v, bd1_in, bz_neg, jn0_]; rw [if_neg c1, if_pos c2]
  by_cases c3 : z < 1 ∨ (100 : Int32) < z
  · refine ⟨-2, ?_, ?_⟩
    · simp only [f_X7_together, outside_v, noHour_v, bd1_in, bz_pos]; rw [if_neg c1, if_neg c2, if_pos c3]
    · simp only [f_X8_together, in_v, isHour_v, bd1_in, bz_neg, jn0_]; rw [if_neg c1, if_neg c2, if_pos c3]
  by_cases c4 : w < 0 ∨ (1 : Int32) < w
  · refine ⟨-2, ?_, ?_⟩
    · simp only [f_X7_together, outside_v, noHour_v, bd1_in, bz_pos]; rw [if_neg c1, if_neg c2, if_neg c3, if_pos c4]
    · simp only [f_X8_together, in_v, isHour_v, bd1_in, bz_neg, jn0_]; rw [if_neg c1, if_neg c2, if_neg c3, if_pos c4]
  obtain ⟨h, hh, rfl⟩ := rng (a := 1000000000) (by decide) c2
  obtain ⟨m, hm, rfl⟩ := rng (x := z) (a := 100) (by decide) (fun q => c3 (q.elim (fun q => Or.inl (by rw [fa_lt] at q ⊢; have : (1 : Int32).toInt = 1 := rfl; have : (0 : Int32).toInt = 0 := rfl; omega)) Or.inr))
  have hm1 : 1 ≤ m := by
    rcases Nat.lt_or_ge 0 m with q | q
    · exact q
    · exact absurd (Or.inl (by rw [show m = 0 by omega]; decide)) c3
  refine ⟨_, together_S S hn aw c1 hh hm hm1 (in2 c4), ?_⟩
  simp only [f_X8_together, in_v, isHour_v, bd1_in, bz_neg, jn0_, bd1_id]
  rw [if_neg c1, if_neg c2, if_neg c3, if_neg c4, togetherOf_S S2 hn maw x hh hm hm1 (in2 c4), sp_lights_cong ha]
