theorem bz_pos {c : Prop} [Decidable c] {A : Type} (a b : A) : (if (if c then (1 : Int32) else 0) = 0 then a else b) = if c then b else a := by
  by_cases h : c
  · rw [if_pos h, if_pos h, if_neg (by decide)]
  · rw [if_neg h, if_neg h, if_pos rfl]
theorem bz_neg {c : Prop} [Decidable c] {A : Type} (a b : A) : (if (if c then (0 : Int32) else 1) = 0 then a else b) = if c then a else b := by
  by_cases h : c
  · rw [if_pos h, if_pos h, if_pos rfl]
  · rw [if_neg h, if_neg h, if_neg (by decide)]
theorem bd1_id {A : Type} (o : Option A) : bd1_ o (fun r => some r) = o := by cases o <;> rfl
/-! next -/
def sp_next (T P U : Nat → Nat) (h : Nat) (l : Int32) : Int32 := match ff (fun i => decide (nI (lgt T P U (h + i)) = l)) 0 (rd T) with
  | some j => nI (h + j)
  | none => -1
theorem firstWith_S {T P U : Nat → Nat} {turn phase up : Nat → Int32} (S : Sn T P U turn phase up) {n : Nat} (hn : 4000 ≤ n) {h : Nat} (hh : h ≤ 1000000000) (l : Int32) : f_X4_firstWith n turn phase up (nI h) l = some (sp_next T P U h l) := by
  obtain ⟨r1, r2, -⟩ := rd_facts S
  unfold f_X4_firstWith
  rw [hoursOfRound_S S hn, bd1_in]
  show L_X4_firstWith_8 n turn phase up (nI h) l (nI (rd T)) (some (-1)) n 0 = _
  have key := lp_ff (fun k i => L_X4_firstWith_8 n turn phase up (nI h) l (nI (rd T)) (some (-1)) k (nI i)) (rd T) (some (-1)) (fun i => decide (nI (lgt T P U (h + i)) = l)) (fun i => some (nI (h + i)))
    (fun k => by rw [L_X4_firstWith_8_s, if_pos (nI_le (Nat.le_refl _) (by omega))])
    (fun k i hi => by
      rw [L_X4_firstWith_8_s, if_neg (nI_ge hi (by omega)), nI_add, lightIn_S S n (by omega), bd1_in, nI_1]
      by_cases c : nI (lgt T P U (h + i)) = l
      · rw [if_pos c, if_pos (by simpa using c)]
      · rw [if_neg c, if_neg (by simpa using c)])
    (rd T) n 0 (by omega) (by omega)
  refine key.trans ?_
  unfold sp_next
  cases ff (fun i => decide (nI (lgt T P U (h + i)) = l)) 0 (rd T) <;> rfl
theorem nextOf_S {T P U : Nat → Nat} {turn phase up : Nat → Int32} (S : Sn T P U turn phase up) {n : Nat} (hn : 4000 ≤ n) {h : Nat} (hh : h ≤ 1000000000) (l : Int32) : f_X8_nextOf n turn phase up (nI h) l = some (sp_next T P U h l) := by
  obtain ⟨r1, r2, -⟩ := rd_facts S
  unfold f_X8_nextOf
  rw [roundNow_S S hn, bd1_in]
  show L_X8_nextOf_8 n turn phase up (nI h) l (nI (rd T)) (some (-1)) n (nI h) = _
  have key := lp_ff (fun k i => L_X8_nextOf_8 n turn phase up (nI h) l (nI (rd T)) (some (-1)) k (nI (h + i))) (rd T) (some (-1)) (fun i => decide (nI (lgt T P U (h + i)) = l)) (fun i => some (nI (h + i)))
    (fun k => by rw [L_X8_nextOf_8_s, nI_add, if_pos (nI_le (Nat.le_refl _) (by omega))])
    (fun k i hi => by
      rw [L_X8_nextOf_8_s, nI_add, if_neg (nI_ge (by omega) (by omega)), lightOf_S S n (by omega), bd1_in, nI_1]
      by_cases c : nI (lgt T P U (h + i)) = l
      · rw [if_pos c, if_pos (by simpa using c)]
      · rw [if_neg c, if_neg (by simpa using c), Nat.add_assoc])
    (rd T) n 0 (by omega) (by omega)
  refine Eq.trans ?_ (key.trans ?_)
  · rfl
  unfold sp_next
  cases ff (fun i => decide (nI (lgt T P U (h + i)) = l)) 0 (rd T) <;> rfl
/-! lasts -/
def sp_lasts (T P U : Nat → Nat) (h : Nat) : Nat := match ff (fun i => decide (¬ nI (lgt T P U (h + i)) = nI (lgt T P U h))) 1 (rd T - 1) with
  | some j => j
  | none => rd T
theorem unchangedFrom_S {T P U : Nat → Nat} {turn phase up : Nat → Int32} (S : Sn T P U turn phase up) {n : Nat} (hn : 4000 ≤ n) {h : Nat} (hh : h ≤ 1000000000) : f_X4_unchangedFrom n turn phase up (nI h) = some (nI (sp_lasts T P U h)) := by
  obtain ⟨r1, r2, -⟩ := rd_facts S
  unfold f_X4_unchangedFrom
  rw [hoursOfRound_S S hn, bd1_in, lightIn_S S n (by omega), bd1_in]
  show L_X4_unchangedFrom_14 n turn phase up (nI h) (nI (rd T)) (nI (lgt T P U h)) (fun z => some z) n 0 = _
  have key := lp_ff (fun k i => L_X4_unchangedFrom_14 n turn phase up (nI h) (nI (rd T)) (nI (lgt T P U h)) (fun z => some z) k (nI i)) (rd T) (some (nI (rd T))) (fun i => decide (¬ nI (lgt T P U (h + i)) = nI (lgt T P U h))) (fun i => some (nI i))
    (fun k => by rw [L_X4_unchangedFrom_14_s, if_pos (nI_le (Nat.le_refl _) (by omega))])
    (fun k i hi => by
      rw [L_X4_unchangedFrom_14_s, if_neg (nI_ge hi (by omega)), nI_add, lightIn_S S n (by omega), bd1_in, nI_1]
      by_cases c : nI (lgt T P U (h + i)) = nI (lgt T P U h)
      · rw [if_pos c, if_neg (by simpa using c)]
      · rw [if_neg c, if_pos (by simpa using c)])
    (rd T) n 0 (by omega) (by omega)
  refine key.trans ?_
  obtain ⟨R, hR⟩ : ∃ R, rd T = R + 1 := ⟨rd T - 1, by omega⟩
  unfold sp_lasts
  rw [hR, ff_s, if_neg (by simp), Nat.add_sub_cancel]
  cases ff (fun i => decide (¬ nI (lgt T P U (h + i)) = nI (lgt T P U h))) (0 + 1) R <;> rfl
theorem lastsOf_S {T P U : Nat → Nat} {turn phase up : Nat → Int32} (S : Sn T P U turn phase up) {n : Nat} (hn : 4000 ≤ n) {h : Nat} (hh : h ≤ 1000000000) : f_X8_lastsOf n turn phase up (nI h) = some (nI (sp_lasts T P U h)) := by
  obtain ⟨r1, r2, -⟩ := rd_facts S
  unfold f_X8_lastsOf
  rw [roundNow_S S hn, bd1_in]
  show L_X8_lastsOf_7 n turn phase up (nI h) (nI (rd T)) (fun z => some z) n 1 = _
  have key := lp_ff (fun k i => L_X8_lastsOf_7 n turn phase up (nI h) (nI (rd T)) (fun z => some z) k (nI i)) (rd T) (some (nI (rd T))) (fun i => decide (¬ nI (lgt T P U (h + i)) = nI (lgt T P U h))) (fun i => some (nI i))
    (fun k => by rw [L_X8_lastsOf_7_s, if_pos (nI_le (Nat.le_refl _) (by omega))])
    (fun k i hi => by
      rw [L_X8_lastsOf_7_s, if_neg (nI_ge hi (by omega)), nI_add, lightOf_S S n (by omega), bd1_in, lightOf_S S n (by omega), bd1_in, nI_1]
      by_cases c : nI (lgt T P U (h + i)) = nI (lgt T P U h)
      · rw [if_pos c, if_neg (by simpa using c)]
      · rw [if_neg c, if_pos (by simpa using c)])
    (rd T - 1) n 1 (by omega) (by omega)
  refine key.trans ?_
  unfold sp_lasts
  cases ff (fun i => decide (¬ nI (lgt T P U (h + i)) = nI (lgt T P U h))) 1 (rd T - 1) <;> rfl
theorem sp_lasts_le {T P U : Nat → Nat} {turn phase up : Nat → Int32} (S : Sn T P U turn phase up) (h : Nat) : sp_lasts T P U h ≤ rd T := by
  obtain ⟨r1, r2, -⟩ := rd_facts S
  unfold sp_lasts
  cases e : ff (fun i => decide (¬ nI (lgt T P U (h + i)) = nI (lgt T P U h))) 1 (rd T - 1) with
  | none => exact Nat.le_refl _
  | some j => have := ff_some e; show j ≤ rd T; omega
/-! the calls -/
theorem e_light {T P U : Nat → Nat} {turn phase up mt mp mu : Nat → Int32} (S : Sn T P U turn phase up) (S2 : Sn T P U mt mp mu) (n : Nat) (x : Int32) : ∃ r, f_X7_light n turn phase up x = some r ∧ f_X8_light n mt mp mu x = some r := by
  simp only [f_X7_light, f_X8_light, noHour_v, isHour_v, bd1_in, bz_pos, bz_neg, bd1_id]
  by_cases c : x < 0 ∨ (1000000000 : Int32) < x
  · rw [if_pos c, if_pos c]; exact ⟨-2, rfl, rfl⟩
  · rw [if_neg c, if_neg c]
    obtain ⟨h, hh, rfl⟩ := rng (a := 1000000000) (by decide) c
    rw [lightIn_S S n (by omega), lightOf_S S2 n (by omega)]
    exact ⟨_, rfl, rfl⟩
theorem e_lasts {T P U : Nat → Nat} {turn phase up mt mp mu : Nat → Int32} (S : Sn T P U turn phase up) (S2 : Sn T P U mt mp mu) {n : Nat} (hn : 4000 ≤ n) (x : Int32) : ∃ r, f_X7_lasts n turn phase up x = some r ∧ f_X8_lasts n mt mp mu x = some r := by
  simp only [f_X7_lasts, f_X8_lasts, noHour_v, isHour_v, bd1_in, bz_pos, bz_neg, bd1_id]
  by_cases c : x < 0 ∨ (1000000000 : Int32) < x
  · rw [if_pos c, if_pos c]; exact ⟨-2, rfl, rfl⟩
  · rw [if_neg c, if_neg c]
    obtain ⟨h, hh, rfl⟩ := rng (a := 1000000000) (by decide) c
    rw [unchangedFrom_S S hn (by omega), lastsOf_S S2 hn (by omega)]
    exact ⟨_, rfl, rfl⟩
theorem e_next {T P U : Nat → Nat} {turn phase up mt mp mu : Nat → Int32} (S : Sn T P U turn phase up) (S2 : Sn T P U mt mp mu) {n : Nat} (hn : 4000 ≤ n) (x y : Int32) : ∃ r, f_X7_next n turn phase up x y = some r ∧ f_X8_next n mt mp mu x y = some r := by
  simp only [f_X7_next, f_X8_next, noHour_v, isHour_v, noLight_v, isLight_v, bd1_in, bz_pos, bz_neg, bd1_id, jn0_]
  by_cases c : x < 0 ∨ (1000000000 : Int32) < x
  · rw [if_pos c, if_pos c]; exact ⟨-2, rfl, rfl⟩
  · rw [if_neg c, if_neg c]
    by_cases d : y < 0 ∨ (3 : Int32) < y
    · rw [if_pos d, if_pos d]; exact ⟨-2, rfl, rfl⟩
    · rw [if_neg d, if_neg d]
      obtain ⟨h, hh, rfl⟩ := rng (a := 1000000000) (by decide) c
      rw [firstWith_S S hn (by omega), nextOf_S S2 hn (by omega)]
      exact ⟨_, rfl, rfl⟩
theorem e_round {T P U : Nat → Nat} {turn phase up mt mp mu : Nat → Int32} (S : Sn T P U turn phase up) (S2 : Sn T P U mt mp mu) {n : Nat} (hn : 4000 ≤ n) : ∃ r, f_X7_round n turn = some r ∧ f_X8_round n mt = some r := by
  simp only [f_X7_round, f_X8_round, bd1_id]
  exact ⟨_, hoursOfRound_S S hn, roundNow_S S2 hn⟩
theorem e_place {T P U : Nat → Nat} {turn phase up mt mp mu : Nat → Int32} (S : Sn T P U turn phase up) (S2 : Sn T P U mt mp mu) (n : Nat) (x y : Int32) : ∃ r, f_X7_place n turn phase x y = some r ∧ f_X8_place n mt mp x y = some r := by
  simp only [f_X7_place, f_X8_place, noHour_v, isHour_v, isSun_v, bd1_in, bz_pos, bz_neg, bd1_id, jn0_]
  by_cases c : x < 0 ∨ (1 : Int32) < x
  · rw [if_pos c, if_neg (ne2 c).1, if_neg (ne2 c).2]; exact ⟨-2, rfl, rfl⟩
  · rw [if_neg c]
    by_cases d : y < 0 ∨ (1000000000 : Int32) < y
    · simp only [if_pos d]
      rcases in2 c with rfl | rfl
      · exact ⟨-2, rfl, rfl⟩
      · exact ⟨-2, rfl, rfl⟩
    · simp only [if_neg d]
      obtain ⟨h, hh, rfl⟩ := rng (a := 1000000000) (by decide) d
      rcases in2 c with rfl | rfl
      · rw [if_pos rfl]; exact ⟨_, placeIn_S S n (k := 0) (by omega) (by omega), placeOf_S S2 n (k := 0) (by omega) (by omega)⟩
      · rw [if_neg (by decide), if_pos rfl]; exact ⟨_, placeIn_S S n (k := 1) (by omega) (by omega), placeOf_S S2 n (k := 1) (by omega) (by omega)⟩
/-- without a sun -/
def sp_without (T U : Nat → Nat) (k : Nat) : Int32 := if U k = 0 then nI (rd T) else nI (T k - U k)
theorem withoutOf_S {T P U : Nat → Nat} {turn phase up : Nat → Int32} (S : Sn T P U turn phase up) {n : Nat} (hn : 4000 ≤ n) {k : Nat} (hk : k < 2) : f_X8_withoutOf n turn up (nI k) = some (sp_without T U k) := by
  obtain ⟨h1, h2, h3, h4, h5, h6, h7⟩ := S k hk
  unfold f_X8_withoutOf sp_without
  simp only [bd1_id]
  rw [ix_in _ (vp_in_nI hk (by omega)), ix_in _ (vp_in_nI hk (by omega)), ix_in _ (vp_in_nI hk (by omega)), nI_clamp (by omega), h1, h3]
  by_cases c : U k = 0
  · rw [if_pos c, c, if_pos (show nI 0 = 0 from rfl), roundNow_S S hn]
  · rw [if_neg c, if_neg (nI_ne0 (by omega) (by omega)), pk_sub h7]
theorem without_v {T P U : Nat → Nat} {turn phase up : Nat → Int32} (S : Sn T P U turn phase up) {n : Nat} (hn : 4000 ≤ n) {k : Nat} (hk : k < 2) : (if up k = 0 then bd1_ (f_X4_hoursOfRound n turn) (fun r => some r) else some (turn k - up k)) = some (sp_without T U k) := by
  obtain ⟨h1, h2, h3, h4, h5, h6, h7⟩ := S k hk
  unfold sp_without
  rw [bd1_id, h1, h3]
  by_cases c : U k = 0
  · rw [if_pos c, c, if_pos (show nI 0 = 0 from rfl), hoursOfRound_S S hn]
  · rw [if_neg c, if_neg (nI_ne0 (by omega) (by omega)), pk_sub h7]
theorem without_S {T P U : Nat → Nat} {turn phase up : Nat → Int32} (S : Sn T P U turn phase up) {n : Nat} (hn : 4000 ≤ n) {k : Nat} (hk : k < 2) : f_X7_without n turn up (nI k) = some (sp_without T U k) := by
  unfold f_X7_without
  match k, hk with
  | 0, _ => rw [if_pos (show nI 0 = 0 from rfl)]; exact without_v S hn (by omega)
  | 1, _ => rw [if_neg (show ¬ nI 1 = 0 by decide), if_pos (show nI 1 = 1 from rfl)]; exact without_v S hn (by omega)
theorem e_without {T P U : Nat → Nat} {turn phase up mt mp mu : Nat → Int32} (S : Sn T P U turn phase up) (S2 : Sn T P U mt mp mu) {n : Nat} (hn : 4000 ≤ n) (x : Int32) : ∃ r, f_X7_without n turn up x = some r ∧ f_X8_without n mt mu x = some r := by
  by_cases c : x < 0 ∨ (1 : Int32) < x
  · refine ⟨-2, ?_, ?_⟩
    · unfold f_X7_without; rw [if_neg (ne2 c).1, if_neg (ne2 c).2]
    · simp only [f_X8_without, isSun_v, bd1_in, bz_neg]; rw [if_pos c]
  · obtain ⟨k, hk, rfl⟩ := rng (a := 1) (by decide) c
    refine ⟨_, without_S S hn (by omega), ?_⟩
    simp only [f_X8_without, isSun_v, bd1_in, bz_neg, bd1_id]
    rw [if_neg c]
    exact withoutOf_S S2 hn (by omega)
