/-! sun -/
def RS (turn phase up mt mp mu : Nat → Int32) : Prop := ∃ T P U : Nat → Nat, Sn T P U turn phase up ∧ Sn T P U mt mp mu
theorem sun_v (n : Nat) (turn phase up : Nat → Int32) {k : Nat} (hk : k < 2) (w v : Int32) : f_X7_sun n turn phase up (nI k) w v = if w = 0 then (if v < 2 ∨ (40 : Int32) < v then some (-2, turn, phase, up) else bd4_ (f_X5_changeTurn n (turn k) (phase k) (up k) v) (fun r a b c => some (r, upd turn k a, upd phase k b, upd up k c))) else if w = 1 then (if v < 0 ∨ turn k - 1 < v then some (-2, turn, phase, up) else some (phase k, turn, upd phase k v, up)) else if w = 2 then (if v < 0 ∨ turn k < v then some (-2, turn, phase, up) else some (up k, turn, phase, upd up k v)) else some (-2, turn, phase, up) := by
  simp only [f_X7_sun, outside_v, bd1_in, bz_pos, f_X5_changePhase, f_X5_changeUp, bd2_in]
  match k, hk with
  | 0, _ => rw [if_pos (show nI 0 = 0 from rfl)]
  | 1, _ => rw [if_neg (show ¬ nI 1 = 0 by decide), if_pos (show nI 1 = 1 from rfl)]
theorem Sn_upd {T P U : Nat → Nat} {turn phase up : Nat → Int32} (S : Sn T P U turn phase up) (k t p u : Nat) (h1 : 2 ≤ t) (h2 : t ≤ 40) (h3 : p < t) (h4 : u ≤ t) : Sn (fun j => if j = k then t else T j) (fun j => if j = k then p else P j) (fun j => if j = k then u else U j) (upd turn k (nI t)) (upd phase k (nI p)) (upd up k (nI u)) := fun j hj => by
  unfold upd
  dsimp only
  by_cases c : j = k
  · simp only [if_pos c]; exact ⟨trivial, trivial, trivial, h1, h2, h3, h4⟩
  · simp only [if_neg c]; exact S j hj
theorem upd_self (f : Nat → Int32) (k : Nat) : upd f k (f k) = f := by
  funext j; unfold upd; split
  · next h => rw [h]
  · rfl
theorem e_sun {n : Nat} {turn phase up mt mp mu : Nat → Int32} (R : RS turn phase up mt mp mu) (x w v : Int32) : ∃ r a b c a2 b2 c2, f_X7_sun n turn phase up x w v = some (r, a, b, c) ∧ f_X8_sun n mt mp mu x w v = some (r, a2, b2, c2) ∧ RS a b c a2 b2 c2 := by
  obtain ⟨T, P, U, S, S2⟩ := R
  by_cases c : x < 0 ∨ (1 : Int32) < x
  · refine ⟨-2, _, _, _, _, _, _, ?_, ?_, T, P, U, S, S2⟩
    · unfold f_X7_sun; rw [if_neg (ne2 c).1, if_neg (ne2 c).2]
    · simp only [f_X8_sun, isSun_v, bd1_in, bz_neg]; rw [if_pos c]
  · obtain ⟨k, hk, rfl⟩ := rng (a := 1) (by decide) c
    have hk2 : k < 2 := by omega
    have hix : vp_in (nI k) 2 := vp_in_nI hk2 (by omega)
    have hcl : (nI k).toNatClampNeg = k := nI_clamp (by omega)
    obtain ⟨h1, h2, h3, h4, h5, h6, h7⟩ := S k hk2
    obtain ⟨g1, g2, g3, -, -, -, -⟩ := S2 k hk2
    rw [sun_v n turn phase up hk2]
    simp only [f_X8_sun, isSun_v, in_v, bd1_in, bz_neg, lt_, jn1_, ix_in _ hix, hcl]
    rw [if_neg c]
    by_cases d : w < 0 ∨ (2 : Int32) < w
    · rw [if_pos d, if_neg (ne3 d).1, if_neg (ne3 d).2.1, if_neg (ne3 d).2.2]
      exact ⟨_, _, _, _, _, _, _, rfl, rfl, T, P, U, S, S2⟩
    · rw [if_neg d]
      rcases in3 d with rfl | rfl | rfl
      · simp only [if_true]
        by_cases e : v < 2 ∨ (40 : Int32) < v
        · rw [if_pos e, if_pos e]
          exact ⟨_, _, _, _, _, _, _, rfl, rfl, T, P, U, S, S2⟩
        · rw [if_neg e, if_neg e]
          obtain ⟨t, t1, t2, rfl⟩ := rng1 (a := 2) (b := 40) (by decide) (by decide) e
          rw [nz_in _ (nI_ne0 (by omega) (by omega))]
          unfold f_X5_changeTurn
          rw [h1, h2, h3, g1, g2, g3, show (0 : Int32) = nI 0 from rfl, placeBy_v n t1 t2 (by omega) (by omega), bd1_in, bd4_in, Nat.add_zero, pk_rem (by omega) (by omega) (by omega)]
          have hm : P k % t < t := Nat.mod_lt _ (by omega)
          by_cases z : t ≤ U k
          · rw [if_pos (nI_le z (by omega))]
            have e1 : (if nI t < nI (U k) then nI t else nI (U k)) = nI t := by
              rcases Nat.lt_or_ge t (U k) with q | q
              · rw [if_pos (nI_lt q (by omega))]
              · rw [if_neg (nI_nlt q (by omega)), show U k = t by omega]
            rw [e1]
            exact ⟨_, _, _, _, _, _, _, rfl, rfl, _, _, _, Sn_upd S k t (P k % t) t t1 t2 hm (Nat.le_refl _), Sn_upd S2 k t (P k % t) t t1 t2 hm (Nat.le_refl _)⟩
          · rw [if_neg (nI_ge (by omega) (by omega)), if_neg (nI_nlt (by omega) (by omega))]
            exact ⟨_, _, _, _, _, _, _, rfl, rfl, _, _, _, Sn_upd S k t (P k % t) (U k) t1 t2 hm (by omega), Sn_upd S2 k t (P k % t) (U k) t1 t2 hm (by omega)⟩
      · simp only [if_true, show ¬ (1 : Int32) = 0 by decide, if_false]
        rw [h1, g1, show nI (T k) - 1 = nI (T k - 1) from pk_sub (b := 1) (by omega)]
        by_cases e : v < 0 ∨ nI (T k - 1) < v
        · rw [if_pos e, if_pos e]
          exact ⟨_, _, _, _, _, _, _, rfl, rfl, T, P, U, S, S2⟩
        · rw [if_neg e, if_neg e]
          obtain ⟨p, hp, rfl⟩ := rng (a := T k - 1) (by omega) e
          refine ⟨_, _, _, _, _, _, _, rfl, by rw [h2, g2], (fun j => if j = k then T k else T j), (fun j => if j = k then p else P j), (fun j => if j = k then U k else U j), ?_, ?_⟩
          · have := Sn_upd S k (T k) p (U k) h4 h5 (by omega) h7
            rw [← h1, ← h3, upd_self, upd_self] at this; exact this
          · have := Sn_upd S2 k (T k) p (U k) h4 h5 (by omega) h7
            rw [← g1, ← g3, upd_self, upd_self] at this; exact this
      · simp only [if_true, show ¬ (2 : Int32) = 0 by decide, show ¬ (2 : Int32) = 1 by decide, if_false]
        rw [h1, g1]
        by_cases e : v < 0 ∨ nI (T k) < v
        · rw [if_pos e, if_pos e]
          exact ⟨_, _, _, _, _, _, _, rfl, rfl, T, P, U, S, S2⟩
        · rw [if_neg e, if_neg e]
          obtain ⟨u, hu, rfl⟩ := rng (a := T k) (by omega) e
          refine ⟨_, _, _, _, _, _, _, rfl, by rw [h3, g3], (fun j => if j = k then T k else T j), (fun j => if j = k then P k else P j), (fun j => if j = k then u else U j), ?_, ?_⟩
          · have := Sn_upd S k (T k) (P k) u h4 h5 h6 hu
            rw [← h1, ← h2, upd_self, upd_self] at this; exact this
          · have := Sn_upd S2 k (T k) (P k) u h4 h5 h6 hu
            rw [← g1, ← g2, upd_self, upd_self] at this; exact this
/-! crop -/
def sp_crop (T P U : Nat → Nat) (gr : Nat → Int32) (m h : Nat) : Int32 := fo (fun i (s : Int32) => s + gr (lgt T P U (h + i))) 0 m 0
theorem sp_crop_cong {T P U : Nat → Nat} {g g2 : Nat → Int32} (e : ∀ i, i < 4 → g i = g2 i) (m h : Nat) : sp_crop T P U g m h = sp_crop T P U g2 m h := fo_cong m 0 0 (fun j _ _ s => by rw [e _ (lgt_lt T P U _)])
def sp_yield (T P U : Nat → Nat) (gr : Nat → Int32) (m h : Nat) : Int32 := if sp_crop T P U gr m h < 0 then 0 else sp_crop T P U gr m h
theorem yieldFrom_S {T P U : Nat → Nat} {turn phase up : Nat → Int32} (S : Sn T P U turn phase up) {n : Nat} (hn : 4000 ≤ n) (gr : Nat → Int32) {m h : Nat} (hm : m ≤ 20) (hh : h ≤ 1000000100) : f_X2_yieldFrom n (nI m) gr turn phase up (nI h) = some (sp_yield T P U gr m h) := by
  unfold f_X2_yieldFrom
  refine jn1_i (fun kx hkx => ?_)
  refine (lp_fo (fun k i s => L_X2_yieldFrom_5 n (nI m) gr turn phase up (nI h) kx k s (nI i)) m kx (fun i (s : Int32) => s + gr (lgt T P U (h + i)))
    (fun k s => by rw [L_X2_yieldFrom_5_s, if_pos (nI_le (Nat.le_refl _) (by omega))])
    (fun k i s hi => by
      have h4 := lgt_lt T P U (h + i)
      rw [L_X2_yieldFrom_5_s, if_neg (nI_ge hi (by omega)), nI_add, lightIn_S S n (by omega), bd1_in, jn1_, if_neg (nI_pos (by omega)), if_neg (show ¬ (4 : Int32) ≤ nI (lgt T P U (h + i)) from nI_ge (b := 4) h4 (by omega)), ix_in _ (vp_in_nI h4 (by omega)), nI_clamp (by omega), nI_1])
    m n 0 0 (by omega) (by omega)).trans ?_
  rw [hkx]; rfl
theorem cropOf_S {T P U : Nat → Nat} {turn phase up : Nat → Int32} (S : Sn T P U turn phase up) {n : Nat} (hn : 4000 ≤ n) {rp gr : Nat → Int32} {k m h : Nat} (hk : k < 4) (hr : rp k = nI m) (hm : m ≤ 20) (hh : h ≤ 1000000100) : f_X8_cropOf n turn phase up rp gr (nI k) (nI h) = some (sp_yield T P U (fun i => gr (4 * k + i)) m h) := by
  unfold f_X8_cropOf
  refine jn1_i (fun kx hkx => ?_)
  refine (lp_fo (fun q i s => L_X8_cropOf_5 n turn phase up rp gr (nI k) (nI h) kx q s (nI (h + i))) m kx (fun i (s : Int32) => s + gr (4 * k + lgt T P U (h + i)))
    (fun q s => by rw [L_X8_cropOf_5_s, ix_in _ (vp_in_nI hk (by omega)), nI_clamp (by omega), hr, nI_add, if_pos (nI_le (Nat.le_refl _) (by omega))])
    (fun q i s hi => by
      have h4 := lgt_lt T P U (h + i)
      rw [L_X8_cropOf_5_s, ix_in _ (vp_in_nI hk (by omega)), nI_clamp (by omega), hr, nI_add, if_neg (nI_ge (by omega) (by omega)), lightOf_S S n (by omega), bd1_in, four_mul, ix_in _ (vp_in_nI (show 4 * k + lgt T P U (h + i) < 16 by omega) (by omega)), nI_clamp (by omega), nI_1, Nat.add_assoc])
    m n 0 0 (by omega) (by omega)).trans ?_
  rw [hkx]
  show (if sp_crop T P U (fun i => gr (4 * k + i)) m h ≤ 0 then some 0 else some (sp_crop T P U (fun i => gr (4 * k + i)) m h)) = _
  unfold sp_yield
  by_cases c : sp_crop T P U (fun i => gr (4 * k + i)) m h ≤ 0
  · rw [if_pos c]
    by_cases d : sp_crop T P U (fun i => gr (4 * k + i)) m h < 0
    · rw [if_pos d]
    · rw [if_neg d]
      congr 1
      rw [fa_eq]; rw [fa_le] at c; rw [fa_lt] at d
      omega
  · rw [if_neg c, if_neg (fun d => c (by rw [fa_le]; rw [fa_lt] at d; omega))]
theorem crop_v (n : Nat) (turn phase up ph : Nat → Int32) (pg : Nat → Nat → Int32) {k : Nat} (hk : k < 4) (y : Int32) : f_X7_crop n turn phase up ph pg (nI k) y = if y < 0 ∨ (1000000000 : Int32) < y then some (-2) else f_X2_yieldFrom n (ph k) (pg k) turn phase up y := by
  simp only [f_X7_crop, noHour_v, bd1_in, bz_pos, bd1_id]
  match k, hk with
  | 0, _ => rw [if_pos (show nI 0 = 0 from rfl)]
  | 1, _ => rw [if_neg (show ¬ nI 1 = 0 by decide), if_pos (show nI 1 = 1 from rfl)]
  | 2, _ => rw [if_neg (show ¬ nI 2 = 0 by decide), if_neg (show ¬ nI 2 = 1 by decide), if_pos (show nI 2 = 2 from rfl)]
  | 3, _ => rw [if_neg (show ¬ nI 3 = 0 by decide), if_neg (show ¬ nI 3 = 1 by decide), if_neg (show ¬ nI 3 = 2 by decide), if_pos (show nI 3 = 3 from rfl)]
theorem crop_S {T P U : Nat → Nat} {turn phase up mt mp mu : Nat → Int32} (S : Sn T P U turn phase up) (S2 : Sn T P U mt mp mu) {n : Nat} (hn : 4000 ≤ n) {ph : Nat → Int32} {pg : Nat → Nat → Int32} {rp gr : Nat → Int32} (R : RP ph pg rp gr) {k h : Nat} (hk : k < 4) (hh : h ≤ 1000000100) : ∃ r, f_X2_yieldFrom n (ph k) (pg k) turn phase up (nI h) = some r ∧ f_X8_cropOf n mt mp mu rp gr (nI k) (nI h) = some r := by
  obtain ⟨⟨m, m1, m2, m3, m4⟩, hg⟩ := R k hk
  refine ⟨_, by rw [m3]; exact yieldFrom_S S hn (pg k) m2 hh, ?_⟩
  rw [cropOf_S S2 hn hk m4 m2 hh]
  unfold sp_yield
  rw [sp_crop_cong (g := pg k) (g2 := fun i => gr (4 * k + i)) (fun i hi => (hg i hi).1)]
theorem e_crop {T P U : Nat → Nat} {turn phase up mt mp mu : Nat → Int32} (S : Sn T P U turn phase up) (S2 : Sn T P U mt mp mu) {n : Nat} (hn : 4000 ≤ n) {ph : Nat → Int32} {pg : Nat → Nat → Int32} {rp gr : Nat → Int32} (R : RP ph pg rp gr) (x y : Int32) : ∃ r, f_X7_crop n turn phase up ph pg x y = some r ∧ f_X8_crop n mt mp mu rp gr x y = some r := by
  by_cases c : x < 0 ∨ (3 : Int32) < x
  · obtain ⟨n0, n1, n2, n3⟩ := ne4 c
    refine ⟨-2, ?_, ?_⟩
    · unfold f_X7_crop; rw [if_neg n0, if_neg n1, if_neg n2, if_neg n3]
    · simp only [f_X8_crop, isPlant_v, bd1_in, bz_neg, jn0_]; rw [if_pos c]
  · obtain ⟨k, hk, rfl⟩ := rng (a := 3) (by decide) c
    rw [crop_v n turn phase up ph pg (by omega)]
    simp only [f_X8_crop, isPlant_v, isHour_v, bd1_in, bz_neg, jn0_, bd1_id]
    rw [if_neg c]
    by_cases d : y < 0 ∨ (1000000000 : Int32) < y
    · rw [if_pos d, if_pos d]; exact ⟨_, rfl, rfl⟩
    · rw [if_neg d, if_neg d]
      obtain ⟨h, hh, rfl⟩ := rng (a := 1000000000) (by decide) d
      exact crop_S S S2 hn R (by omega) (by omega)
