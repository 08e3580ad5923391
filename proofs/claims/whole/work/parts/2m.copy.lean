/-! copy -/
theorem holds_v (n : Nat) {z : Nat} (hz : z ≤ 48) (a b : Int32) : f_X3_holds n (nI z) a b = some (if 0 ≤ a.toInt ∧ 0 ≤ b.toInt ∧ a.toInt + b.toInt ≤ (z : Int) then 1 else 0) := by
  have ez := nI_toInt (n := z) (by omega)
  have e0 : (0 : Int32).toInt = 0 := by decide
  have ra := fb_rng a
  have rb := fb_rng b
  unfold f_X3_holds
  rw [jn0_]
  by_cases c1 : a < 0
  · rw [if_pos c1, if_neg (by rw [fa_lt, e0] at c1; omega)]
  · rw [if_neg c1]
    rw [fa_lt, e0] at c1
    by_cases c2 : b < 0
    · rw [if_pos c2, if_neg (by rw [fa_lt, e0] at c2; omega)]
    · rw [if_neg c2]
      rw [fa_lt, e0] at c2
      by_cases c3 : nI z < a
      · rw [if_pos c3, if_neg (by rw [fa_lt, ez] at c3; omega)]
      · rw [if_neg c3]
        rw [fa_lt, ez] at c3
        have es : (nI z - a).toInt = (z : Int) - a.toInt := by rw [fb_subI (by rw [ez]; omega) (by rw [ez]; omega), ez]
        by_cases c4 : nI z - a < b
        · rw [if_pos c4, if_neg (by rw [fa_lt, es] at c4; omega)]
        · rw [if_neg c4, if_pos (by rw [fa_lt, es] at c4; omega)]
theorem sumL (a b : Int32) : (a.toInt64 + b.toInt64).toInt = a.toInt + b.toInt := by
  have ra := fb_rng a
  have rb := fb_rng b
  rw [fb_addL (by rw [Int32.toInt_toInt64, Int32.toInt_toInt64]; omega) (by rw [Int32.toInt_toInt64, Int32.toInt_toInt64]; omega), Int32.toInt_toInt64, Int32.toInt_toInt64]
def gcopy (n : Nat) (lf : Int32) (sf sz : Nat → Int32) (si : Nat → Nat → Int32) (k l : Nat) (x2 x4 x5 : Int32) : Option (Int32 × Int32 × (Nat → Nat → Int32)) := jn0_ (bd2_ (f_X7_found n lf 1) (fun (r47_3 : Int32) (o47_4 : Int32) => some (r47_3, o47_4, si))) (fun k45 => if (sf k) = (-1) then k45 else if (sf l) = (-1) then k45 else if (sf k) = (sf l) then bd1_ (f_X3_holds n (sz k) x2 x5) (fun (r75_7 : Int32) => jn0_ (bd2_ (f_X7_found n lf 2) (fun (r95_11 : Int32) (o95_12 : Int32) => some (r95_11, o95_12, si))) (fun k93 => if r75_7 = 0 then k93 else bd1_ (f_X3_holds n (sz l) x4 x5) (fun (r87_15 : Int32) => if r87_15 = 0 then k93 else ac_ x2 x4 x5 48 48 (some (1, lf, (va_up si l (va_cpy (si k) (si l) x2.toNatClampNeg x4.toNatClampNeg x5.toNatClampNeg))))))) else bd2_ (f_X7_found n lf 4) (fun (r66_20 : Int32) (o66_21 : Int32) => some (r66_20, o66_21, si)))
theorem copy_v (n : Nat) (lf : Int32) (sf sz : Nat → Int32) (si : Nat → Nat → Int32) {k l : Nat} (hk : k < 4) (hl : l < 4) (x2 x4 x5 : Int32) : f_X7_copy n lf sf sz si (nI k) x2 (nI l) x4 x5 = gcopy n lf sf sz si k l x2 x4 x5 := by
  unfold f_X7_copy
  match k, hk, l, hl with
  | 0, _, 0, _ => rfl
  | 0, _, 1, _ => rfl
  | 0, _, 2, _ => rfl
  | 0, _, 3, _ => rfl
  | 1, _, 0, _ => rfl
  | 1, _, 1, _ => rfl
  | 1, _, 2, _ => rfl
  | 1, _, 3, _ => rfl
  | 2, _, 0, _ => rfl
  | 2, _, 1, _ => rfl
  | 2, _, 2, _ => rfl
  | 2, _, 3, _ => rfl
  | 3, _, 0, _ => rfl
  | 3, _, 1, _ => rfl
  | 3, _, 2, _ => rfl
  | 3, _, 3, _ => rfl
theorem moved_v {n : Nat} (hn : 4000 ≤ n) {k a m : Nat} (hk : k < 4) (ha : a + m ≤ 48) (it mo : Nat → Int32) (kx : (Nat → Int32) → Option (Int32 × Int32 × (Nat → Int32) × (Nat → Int32))) : L_X8_copy_120 it (nI k) (nI a) (nI m) kx n 0 mo = kx (fa_fill (fun i => it (48 * k + a + i)) mo m) := by
  refine Eq.trans ?_ (lp_st (fun q i (s : Nat → Int32) => L_X8_copy_120 it (nI k) (nI a) (nI m) kx q (nI i) s) m kx (fun i => fa_fill (fun i => it (48 * k + a + i)) mo i)
    (fun q => by rw [L_X8_copy_120_s, if_pos (nI_le (Nat.le_refl _) (by omega))])
    (fun q i hi => by
      rw [L_X8_copy_120_s, if_neg (nI_ge hi (by omega)), fe_mul, nI_add, ix_in _ (vp_in_nI (show 48 * k + a + i < 192 by omega) (by omega)), ix_in _ (vp_in_nI (show i < 48 by omega) (by omega)), nI_clamp (show i < 2 ^ 31 by omega), nI_clamp (show 48 * k + a + i < 2 ^ 31 by omega), nI_1, ← fa_fill_succ])
    m n 0 (by omega) (by omega))
  rw [fa_fill_0]; rfl
theorem placed_v {n : Nat} (hn : 4000 ≤ n) {l b m : Nat} (hl : l < 4) (hb : b + m ≤ 48) (it mo : Nat → Int32) (kx : (Nat → Int32) → Option (Int32 × Int32 × (Nat → Int32) × (Nat → Int32))) : L_X8_copy_157 (nI l) (nI b) (nI m) mo kx n 0 it = kx (fb_put it mo (48 * l + b) m) := by
  refine Eq.trans ?_ (lp_st (fun q i (s : Nat → Int32) => L_X8_copy_157 (nI l) (nI b) (nI m) mo kx q (nI i) s) m kx (fun i => fb_put it mo (48 * l + b) i)
    (fun q => by rw [L_X8_copy_157_s, if_pos (nI_le (Nat.le_refl _) (by omega))])
    (fun q i hi => by
      rw [L_X8_copy_157_s, if_neg (nI_ge hi (by omega)), fe_mul, nI_add, ix_in _ (vp_in_nI (show 48 * l + b + i < 192 by omega) (by omega)), ix_in _ (vp_in_nI (show i < 48 by omega) (by omega)), nI_clamp (show i < 2 ^ 31 by omega), nI_clamp (show 48 * l + b + i < 2 ^ 31 by omega), nI_1, ← fb_put_succ])
    m n 0 (by omega) (by omega))
  rw [fb_put_0]; rfl
theorem RH_copy {sf sz : Nat → Int32} {si : Nat → Nat → Int32} {mi mf ms mit : Nat → Int32} (R : RH sf sz si mi mf ms mit) (mo : Nat → Int32) {k l a b m : Nat} (hk : k < 4) (ha : a + m ≤ 48) (hb : b + m ≤ 48) : RH sf sz (va_up si l (va_cpy (si k) (si l) a b m)) mi mf ms (fb_put mit (fa_fill (fun i => mit (48 * k + a + i)) mo m) (48 * l + b) m) := fun q hq => by
  obtain ⟨r1, r2, r3⟩ := R q hq
  refine ⟨r1, r2, fun i hi => ?_⟩
  by_cases c : q = l
  · subst c
    rw [vu_s]
    unfold va_cpy
    by_cases d : b ≤ i ∧ i < b + m
    · rw [if_pos d, fb_put_in (by omega) (by omega), show 48 * q + i - (48 * q + b) = i - b by omega, fa_fill_in (by omega), (R k hk).2.2 (a + (i - b)) (by omega)]
      congr 1; omega
    · rw [if_neg d, fb_put_out (by omega), r3 i hi]
  · rw [vu_n _ _ c, fb_put_out (by omega), r3 i hi]
theorem e_copy {n : Nat} (hn : 4000 ≤ n) {lf mfd : Int32} {sf sz : Nat → Int32} {si : Nat → Nat → Int32} {mi mf ms mit mo : Nat → Int32} (hl : lf = mfd) (R : RH sf sz si mi mf ms mit) (x x2 x3 x4 x5 : Int32) : ∃ r l2 s2 l3 i3 m3, f_X7_copy n lf sf sz si x x2 x3 x4 x5 = some (r, l2, s2) ∧ f_X8_copy n mfd mi mf ms mit mo x x2 x3 x4 x5 = some (r, l3, i3, m3) ∧ l2 = l3 ∧ RH sf sz s2 mi mf ms i3 := by
  subst hl
  by_cases c1 : x < 0 ∨ (3 : Int32) < x
  · obtain ⟨n0, n1, n2, n3⟩ := ne4 c1
    refine ⟨-2, lf, si, lf, mit, mo, ?_, ?_, rfl, R⟩
    · unfold f_X7_copy; simp only [if_neg n0, if_neg n1, if_neg n2, if_neg n3, ite_self]
    · unfold f_X8_copy; rw [isSheet_v, if_pos c1]; rfl
  · obtain ⟨k, hk, rfl⟩ := rng (a := 3) (by decide) c1
    by_cases c2 : x3 < 0 ∨ (3 : Int32) < x3
    · obtain ⟨n0, n1, n2, n3⟩ := ne4 c2
      refine ⟨-2, lf, si, lf, mit, mo, ?_, ?_, rfl, R⟩
      · unfold f_X7_copy
        simp only [if_neg n0, if_neg n1, if_neg n2, if_neg n3]
        match k, hk with
        | 0, _ => rfl
        | 1, _ => rfl
        | 2, _ => rfl
        | 3, _ => rfl
      · unfold f_X8_copy; rw [isSheet_v, if_neg c1, isSheet_v, if_pos c2]; rfl
    · obtain ⟨l, hl, rfl⟩ := rng (a := 3) (by decide) c2
      obtain ⟨rk1, ⟨zk, hzk, ek, fk⟩, -⟩ := R k (by omega)
      obtain ⟨rl1, ⟨zl, hzl, el, fl⟩, -⟩ := R l (by omega)
      rw [copy_v n lf sf sz si (show k < 4 by omega) (show l < 4 by omega)]
      unfold gcopy f_X8_copy
      rw [isSheet_v, if_neg c1, bd1_in, if_neg (show ¬ (1 : Int32) = 0 by decide), isSheet_v, if_neg c2, bd1_in, if_neg (show ¬ (1 : Int32) = 0 by decide), ix_in _ (vp_in_nI (show k < 4 by omega) (by omega)), nI_clamp (show k < 2 ^ 31 by omega), nI_clamp (show l < 2 ^ 31 by omega), jn0_, jn0_, ix_in _ (vp_in_nI (show l < 4 by omega) (by omega)), ix_in _ (vp_in_nI (show k < 4 by omega) (by omega)), ix_in _ (vp_in_nI (show l < 4 by omega) (by omega)), found_v, found_v, found_v, meets_v, meets_v, meets_v, bd2_in, bd2_in, bd2_in, bd2_in, bd2_in, bd2_in, ek, el, fk, fl, holds_v n hzk, holds_v n hzl, bd1_in]
      rcases rk1 with ⟨k1, k2⟩ | ⟨k1, k2, k3⟩
      · rw [if_pos k2, if_pos k1]
        exact ⟨_, _, _, _, _, _, rfl, rfl, rfl, R⟩
      · have hk4 : ¬ sf k = -1 := by rw [k2]; rcases k3 with h | h | h <;> rw [h] <;> decide
        rw [if_neg hk4, if_neg (show ¬ mi k = 0 by rw [k1]; decide)]
        rcases rl1 with ⟨l1, l2⟩ | ⟨l1, l2, l3⟩
        · rw [if_pos l2, if_pos l1]
          exact ⟨_, _, _, _, _, _, rfl, rfl, rfl, R⟩
        · have hl4 : ¬ sf l = -1 := by rw [l2]; rcases l3 with h | h | h <;> rw [h] <;> decide
          rw [if_neg hl4, if_neg (show ¬ mi l = 0 by rw [l1]; decide), k2, l2]
          by_cases cf : mf k = mf l
          · rw [if_pos cf, if_pos cf, jn0_, jn0_, bd1_in, bz_pos, bz_pos, ix_in _ (vp_in_nI (show k < 4 by omega) (by omega)), ix_in _ (vp_in_nI (show l < 4 by omega) (by omega))]
            have e0 : (0 : Int32).toInt = 0 := by decide
            have g1 : (0 : Int32) < lg_cmp (x2.toInt64 + x5.toInt64) (nI zk).toInt64 ↔ (zk : Int) < x2.toInt + x5.toInt := by
              rw [lg_cmp_gt, fa_lt64, sumL, Int32.toInt_toInt64, nI_toInt (by omega)]
            have g2 : lg_cmp (x4.toInt64 + x5.toInt64) (nI zl).toInt64 ≤ 0 ↔ x4.toInt + x5.toInt ≤ (zl : Int) := by
              rw [lg_cmp_le, fa_le64, sumL, Int32.toInt_toInt64, nI_toInt (by omega)]
            by_cases a1 : x2 < 0
            · rw [if_neg (fun z => by rw [fa_lt, e0] at a1; omega), if_pos a1]
              exact ⟨_, _, _, _, _, _, rfl, rfl, rfl, R⟩
            · by_cases a2 : x4 < 0
              · rw [if_neg a1, if_pos a2, if_neg (show ¬ (0 ≤ x4.toInt ∧ 0 ≤ x5.toInt ∧ x4.toInt + x5.toInt ≤ (zl : Int)) from fun z => by rw [fa_lt, e0] at a2; omega)]
                split <;> exact ⟨_, _, _, _, _, _, rfl, rfl, rfl, R⟩
              · by_cases a3 : x5 < 0
                · rw [if_neg a1, if_neg a2, if_pos a3, if_neg (show ¬ (0 ≤ x2.toInt ∧ 0 ≤ x5.toInt ∧ x2.toInt + x5.toInt ≤ (zk : Int)) from fun z => by rw [fa_lt, e0] at a3; omega)]
                  exact ⟨_, _, _, _, _, _, rfl, rfl, rfl, R⟩
                · rw [if_neg a1, if_neg a2, if_neg a3]
                  obtain ⟨a, ha, rfl⟩ := nI_of a1
                  obtain ⟨b, hb, rfl⟩ := nI_of a2
                  obtain ⟨m, hm, rfl⟩ := nI_of a3
                  have ea := nI_toInt ha
                  have eb := nI_toInt hb
                  have em := nI_toInt hm
                  by_cases b1 : (zk : Int) < (nI a).toInt + (nI m).toInt
                  · rw [if_pos (g1.mpr b1), if_neg (show ¬ (0 ≤ (nI a).toInt ∧ 0 ≤ (nI m).toInt ∧ (nI a).toInt + (nI m).toInt ≤ (zk : Int)) from fun z => by omega)]
                    exact ⟨_, _, _, _, _, _, rfl, rfl, rfl, R⟩
                  · rw [if_neg (fun z => b1 (g1.mp z)), if_pos (show (0 ≤ (nI a).toInt ∧ 0 ≤ (nI m).toInt ∧ (nI a).toInt + (nI m).toInt ≤ (zk : Int)) by omega)]
                    by_cases b2 : (nI b).toInt + (nI m).toInt ≤ (zl : Int)
                    · rw [if_pos (g2.mpr b2), if_pos (show (0 ≤ (nI b).toInt ∧ 0 ≤ (nI m).toInt ∧ (nI b).toInt + (nI m).toInt ≤ (zl : Int)) by omega)]
                      rw [ea, em] at b1
                      rw [eb, em] at b2
                      have hac : ∀ {A : Type} (X : Option A), ac_ (nI a) (nI b) (nI m) 48 48 X = X := fun X => by
                        unfold ac_
                        rw [nI_clamp ha, nI_clamp hb, nI_clamp hm, if_neg]
                        rintro (z | z | z | z | z)
                        · exact a1 z
                        · exact a2 z
                        · exact a3 z
                        · omega
                        · omega
                      rw [hac, jn1_, moved_v hn (show k < 4 by omega) (show a + m ≤ 48 by omega), jn1_, placed_v hn (show l < 4 by omega) (show b + m ≤ 48 by omega), nI_clamp ha, nI_clamp hb, nI_clamp hm]
                      exact ⟨_, _, _, _, _, _, rfl, rfl, rfl, RH_copy R mo (by omega) (by omega) (by omega)⟩
                    · rw [if_neg (fun z => b2 (g2.mp z)), if_neg (show ¬ (0 ≤ (nI b).toInt ∧ 0 ≤ (nI m).toInt ∧ (nI b).toInt + (nI m).toInt ≤ (zl : Int)) from fun z => b2 z.2.2)]
                      exact ⟨_, _, _, _, _, _, rfl, rfl, rfl, R⟩
          · rw [if_neg cf, if_neg cf]
            exact ⟨_, _, _, _, _, _, rfl, rfl, rfl, R⟩
