/-! clouds by odds -/
theorem lsr1 {a : Nat} (h : a < 2 ^ 62) : lN a >>> ((1 : Int32).toInt64 &&& 63) = lN (a / 2) := by
  have hd : a / 2 ≤ a := Nat.div_le_self _ _
  apply Int64.toInt_inj.mp
  have hD : ((((1 : Int32).toInt64 &&& 63)).toBitVec.smod 64).toNat = 1 := by decide
  have e : (lN a >>> ((1 : Int32).toInt64 &&& 63)).toInt = (lN a).toInt >>> 1 := by
    rw [← hD]
    exact BitVec.toInt_sshiftRight ..
  rw [e, Int.shiftRight_eq_div_pow, pk_lT (by omega), pk_lT (by omega)]
  rfl
theorem land1 (a : Nat) : lN a &&& 1 = lN (a % 2) := fb_maskL a 1
theorem lcmp0 {a : Nat} (h : a < 2 ^ 63) : (lg_cmp (lN a) 0 = 0) ↔ a = 0 := (lg_cmp_eq _ _).trans (pk_lEQ (b := 0) h (by decide))
theorem two_part : ∀ a : Nat, 0 < a → ∃ v o, a = 2 ^ v * o ∧ o % 2 = 1 := by
  intro a
  induction a using Nat.strongRecOn with
  | ind a ih =>
    intro h
    by_cases c : a % 2 = 1
    · exact ⟨0, a, by rw [Nat.pow_zero, Nat.one_mul], c⟩
    · obtain ⟨v, o, e1, e2⟩ := ih (a / 2) (by omega) (by omega)
      exact ⟨v + 1, o, by rw [Nat.pow_succ, Nat.mul_assoc, Nat.mul_comm 2 o, ← Nat.mul_assoc, ← e1]; omega, e2⟩
theorem halve_v (kx : Int64 → Int64 → Option Int64) : ∀ (v o dd i k : Nat), o % 2 = 1 → 2 ^ v * o < 2 ^ 62 → 2 ^ v * dd < 2 ^ 62 → i + v ≤ 56 → v < k → L_X7_lowestTerms_26 kx k (lN (2 ^ v * o)) (lN (2 ^ v * dd)) (nI i) = kx (lN o) (lN dd)
  | 0, o, dd, i, k, h1, h2, h3, h4, h5 => by
    obtain ⟨k, rfl⟩ : ∃ q, k = q + 1 := ⟨k - 1, by omega⟩
    rw [Nat.pow_zero, Nat.one_mul, Nat.one_mul, L_X7_lowestTerms_26_s, land1, h1, if_neg (show ¬ lg_cmp (lN 1) 0 = 0 by decide)]
    split <;> rfl
  | v + 1, o, dd, i, k, h1, h2, h3, h4, h5 => by
    obtain ⟨k, rfl⟩ : ∃ q, k = q + 1 := ⟨k - 1, by omega⟩
    have e1 : 2 ^ (v + 1) * o = 2 * (2 ^ v * o) := by rw [Nat.pow_succ, Nat.mul_comm (2 ^ v) 2, Nat.mul_assoc]
    have e2 : 2 ^ (v + 1) * dd = 2 * (2 ^ v * dd) := by rw [Nat.pow_succ, Nat.mul_comm (2 ^ v) 2, Nat.mul_assoc]
    rw [L_X7_lowestTerms_26_s, if_neg (show ¬ (56 : Int32) ≤ nI i from nI_ge (b := 56) (by omega) (by omega)), land1, if_pos ((lcmp0 (by omega)).mpr (by omega)), lsr1 h2, lsr1 h3, nI_1, show 2 ^ (v + 1) * o / 2 = 2 ^ v * o by omega, show 2 ^ (v + 1) * dd / 2 = 2 ^ v * dd by omega]
    exact halve_v kx v o dd (i + 1) k h1 (by omega) (by omega) (by omega) (by omega)
def sp_low (a d : Nat) (w : Int32) : Int64 := if w = 0 then lN (a / Nat.gcd a d) else lN (d / Nat.gcd a d)
theorem lowestTerms_S {n a e : Nat} (hn : 4000 ≤ n) (he : e ≤ 56) (ha : a ≤ 2 ^ e) (w : Int32) : f_X7_lowestTerms n (lN a) (lN (2 ^ e)) w = some (sp_low a (2 ^ e) w) := by
  have hp : 2 ^ e ≤ 2 ^ 56 := Nat.pow_le_pow_right (by decide) he
  have hpos : 0 < 2 ^ e := Nat.two_pow_pos e
  unfold f_X7_lowestTerms sp_low
  by_cases z : a = 0
  · subst z
    rw [if_pos ((lcmp0 (by decide)).mpr rfl), Nat.gcd_zero_left, Nat.zero_div, Nat.div_self hpos]
    split <;> rfl
  · rw [if_neg (fun q => z ((lcmp0 (by omega)).mp q))]
    obtain ⟨v, o, e1, e2⟩ := two_part a (by omega)
    have hv : v ≤ e := by
      rcases Nat.lt_or_ge e v with q | q
      · have h1 : 2 ^ e < 2 ^ v := Nat.pow_lt_pow_right (by decide) q
        have h2 : 2 ^ v * 1 ≤ 2 ^ v * o := Nat.mul_le_mul_left _ (by omega)
        omega
      · exact q
    have e3 : 2 ^ e = 2 ^ v * 2 ^ (e - v) := by rw [← Nat.pow_add]; congr 1; omega
    have hg : Nat.gcd a (2 ^ e) = 2 ^ v := by
      rw [e1, e3, Nat.gcd_mul_left]
      have c2 : Nat.gcd o 2 = 1 := by rw [Nat.gcd_comm, Nat.gcd_rec, e2]; exact Nat.gcd_one_left 2
      have c3 : Nat.gcd o (2 ^ (e - v)) = 1 := Nat.Coprime.pow_right (e - v) c2
      rw [c3, Nat.mul_one]
    have hv0 : 0 < 2 ^ v := Nat.two_pow_pos v
    have key := halve_v (fun z26_5 z26_7 => if w = 0 then some z26_5 else some z26_7) v o (2 ^ (e - v)) 0 n e2 (by rw [← e1]; omega) (by rw [← e3]; omega) (by omega) (by omega)
    rw [← e1, ← e3] at key
    rw [hg, jn2_]
    have d1 : a / 2 ^ v = o := by rw [e1]; exact Nat.mul_div_cancel_left o hv0
    have d2 : 2 ^ e / 2 ^ v = 2 ^ (e - v) := by rw [e3]; exact Nat.mul_div_cancel_left _ hv0
    rw [d1, d2]
    refine key.trans ?_
    split <;> rfl
theorem euclid_v (kx : Int64 → Option Int64) : ∀ (m a b k : Nat), b < 2 ^ m → a < 2 ^ 63 → b < 2 ^ 63 → 2 * m + 1 < k → L_X8_lowest_6 kx k (lN a) (lN b) = kx (lN (Nat.gcd a b))
  | 0, a, b, k, h1, h2, h3, h4 => by
    obtain ⟨k, rfl⟩ : ∃ q, k = q + 1 := ⟨k - 1, by omega⟩
    have : b = 0 := by omega
    subst this
    rw [L_X8_lowest_6_s, if_pos ((lcmp0 (by decide)).mpr rfl), Nat.gcd_zero_right]
  | m + 1, a, b, k, h1, h2, h3, h4 => by
    obtain ⟨k, rfl⟩ : ∃ q, k = q + 2 := ⟨k - 2, by omega⟩
    by_cases z : b = 0
    · subst z
      rw [L_X8_lowest_6_s, if_pos ((lcmp0 (by decide)).mpr rfl), Nat.gcd_zero_right]
    · have nz1 : ∀ x, x < 2 ^ 63 → ¬ x = 0 → ¬ lN x = 0 := fun x hx q y => q ((pk_lEQ (b := 0) hx (by decide)).mp y)
      have hr := Nat.mod_lt a (show 0 < b by omega)
      have hgc : Nat.gcd a b = Nat.gcd b (a % b) := by rw [Nat.gcd_comm, Nat.gcd_rec, Nat.gcd_comm]
      rw [L_X8_lowest_6_s, if_neg (fun q => z ((lcmp0 h3).mp q)), nzl_in _ (nz1 b h3 z), pk_lRem h2 (by omega) h3, hgc]
      by_cases y : a % b = 0
      · rw [y, L_X8_lowest_6_s, if_pos ((lcmp0 (by decide)).mpr rfl), Nat.gcd_zero_right]
      · have hr2 := Nat.mod_lt b (show 0 < a % b by omega)
        have hgc2 : Nat.gcd b (a % b) = Nat.gcd (a % b) (b % (a % b)) := by rw [Nat.gcd_comm, Nat.gcd_rec, Nat.gcd_comm]
        rw [L_X8_lowest_6_s, if_neg (fun q => y ((lcmp0 (by omega)).mp q)), nzl_in _ (nz1 _ (by omega) y), pk_lRem h3 (by omega) (by omega), hgc2]
        refine euclid_v kx m (a % b) (b % (a % b)) k ?_ (by omega) (by omega) (by omega)
        have hp : 2 ^ (m + 1) = 2 * 2 ^ m := by rw [Nat.pow_succ, Nat.mul_comm]
        have hsmall : 2 * (b % (a % b)) ≤ b := by
          generalize a % b = r at *
          rcases Nat.lt_or_ge b (2 * r) with q | q
          · rw [show b = r + (b - r) by omega, Nat.add_mod_left, Nat.mod_eq_of_lt (by omega)]; omega
          · omega
        omega
theorem lowest_S {n a e : Nat} (hn : 4000 ≤ n) (he : e ≤ 56) (ha : a ≤ 2 ^ e) (w : Int32) : f_X8_lowest n (lN a) (lN (2 ^ e)) w = some (sp_low a (2 ^ e) w) := by
  have hp : 2 ^ e ≤ 2 ^ 56 := Nat.pow_le_pow_right (by decide) he
  have hpos : 0 < 2 ^ e := Nat.two_pow_pos e
  have hg : 0 < Nat.gcd a (2 ^ e) := Nat.gcd_pos_of_pos_right _ hpos
  have hg2 : Nat.gcd a (2 ^ e) ≤ 2 ^ e := Nat.le_of_dvd hpos (Nat.gcd_dvd_right _ _)
  unfold f_X8_lowest sp_low
  rw [jn1_, euclid_v _ 57 a (2 ^ e) n (by omega) (by omega) (by omega) (by omega)]
  have nz : ¬ lN (Nat.gcd a (2 ^ e)) = 0 := fun y => by
    have := (pk_lEQ (b := 0) (by omega) (by decide)).mp y
    omega
  rw [nzl_in _ nz, nzl_in _ nz, pk_lDiv (by omega) hg (by omega), pk_lDiv (by omega) hg (by omega)]
  split <;> rfl
def ucl (T P U : Nat → Nat) (q h i : Nat) : Nat := fb_ct (fun i => decide (pla T P q (h + i) < U q)) i
def sp_clouds (T P U : Nat → Nat) (q h m X : Nat) (w : Int32) : Int64 := sp_low (16 ^ ucl T P U q h m - X ^ ucl T P U q h m) (16 ^ ucl T P U q h m) w
theorem p16 (u : Nat) : 16 ^ u = 2 ^ (4 * u) := by rw [show (16 : Nat) = 2 ^ 4 by rfl, ← Nat.pow_mul]
theorem ucl_s (T P U : Nat → Nat) (q h i : Nat) : ucl T P U q h (i + 1) = ucl T P U q h i + if pla T P q (h + i) < U q then 1 else 0 := by
  unfold ucl
  rw [fb_ct_succ]
  simp only [decide_eq_true_eq]
theorem pw_step (X u : Nat) : lN (X ^ u) * lN X = lN (X ^ (u + 1)) := by rw [lN_mul, Nat.pow_succ]
theorem clouds_loop {T P U : Nat → Nat} {turn phase up : Nat → Int32} (S : Sn T P U turn phase up) {n q h m X : Nat} (hn : 4000 ≤ n) (hq : q < 2) (hh : h ≤ 1000000000) (hm : m ≤ 14) (hX : X ≤ 16) (L : Nat → Int64 → Int64 → Int32 → Option Int64) (kx : Int64 → Int64 → Option Int64) (hL : ∀ k a b y, L (k + 1) a b y = if nI m ≤ y then kx a b else bd1_ (f_X5_isUpIn n (turn q) (phase q) (up q) (nI h + y)) (fun (r : Int32) => jn2_ (fun (a : Int64) (b : Int64) => L k a b (y + 1)) (fun k97 => if r = 0 then k97 a b else k97 (a * ((nI X).toInt64)) (b * 16)))) : L n 1 1 0 = kx (lN (X ^ ucl T P U q h m)) (lN (16 ^ ucl T P U q h m)) := by
  refine Eq.trans ?_ (lp_st (fun k i (s : Int64 × Int64) => L k s.1 s.2 (nI i)) m (fun s => kx s.1 s.2) (fun i => (lN (X ^ ucl T P U q h i), lN (16 ^ ucl T P U q h i)))
    (fun k => by rw [hL, if_pos (nI_le (Nat.le_refl _) (by omega))])
    (fun k i hi => by
      rw [hL, if_neg (nI_ge hi (by omega)), nI_add, isUpIn_S S n hq (by omega), bd1_in, jn2_, bz_pos, nI_l (by omega), nI_1]
      dsimp only
      rw [ucl_s]
      by_cases c : pla T P q (h + i) < U q
      · rw [if_pos c, if_pos c, pw_step, show lN (16 ^ ucl T P U q h i) * 16 = lN (16 ^ (ucl T P U q h i + 1)) from pw_step 16 _]
      · simp only [if_neg c, Nat.add_zero])
    m n 0 (by omega) (by omega))
  rfl
theorem ucl_le (T P U : Nat → Nat) (q h m : Nat) : ucl T P U q h m ≤ m := fb_ct_le _ m
theorem clouds_S {T P U : Nat → Nat} {turn phase up : Nat → Int32} (S : Sn T P U turn phase up) {n q h m X : Nat} (hn : 4000 ≤ n) (hq : q < 2) (hh : h ≤ 1000000000) (hm : m ≤ 14) (hX : X ≤ 16) {w : Int32} (hw : w = 0 ∨ w = 1) : f_X7_clouds n turn phase up (nI q) (nI h) (nI m) (nI X) w = some (sp_clouds T P U q h m X w) := by
  have o1 : f_X7_noHour n (nI h) = some 0 := by rw [noHour_v, if_neg (show ¬ (nI h < 0 ∨ (1000000000 : Int32) < nI h) from rng_in (a := 1000000000) (by omega) hh)]
  have o2 : f_X7_outside n (nI m) 0 14 = some 0 := by rw [outside_v, if_neg (show ¬ (nI m < 0 ∨ (14 : Int32) < nI m) from rng_in (a := 14) (by omega) hm)]
  have o4 : f_X7_outside n (nI X) 0 16 = some 0 := by rw [outside_v, if_neg (show ¬ (nI X < 0 ∨ (16 : Int32) < nI X) from rng_in (a := 16) (by omega) hX)]
  have o3 : f_X7_outside n w 0 1 = some 0 := by rcases hw with rfl | rfl <;> rfl
  have hu := ucl_le T P U q h m
  have hle : X ^ ucl T P U q h m ≤ 16 ^ ucl T P U q h m := Nat.pow_le_pow_left hX _
  have fin : bd1_ (f_X7_lowestTerms n (lN (16 ^ ucl T P U q h m) - lN (X ^ ucl T P U q h m)) (lN (16 ^ ucl T P U q h m)) w) (fun (r : Int64) => some r) = some (sp_clouds T P U q h m X w) := by
    rw [lN_sub hle, bd1_id]
    unfold sp_clouds
    rw [p16, lowestTerms_S hn (by omega) (Nat.sub_le _ _)]
  unfold f_X7_clouds
  rw [o1, o2, o3, o4]
  match q, hq with
  | 0, hq =>
    refine Eq.trans (clouds_loop S hn hq hh hm hX (fun k a b y => L_X7_clouds_63 n turn phase up (nI h) (nI m) (nI X) (fun (z63_7 : Int64) (z63_9 : Int64) => bd1_ (f_X7_lowestTerms n (z63_9 - z63_7) z63_9 w) (fun (r112_18 : Int64) => some r112_18)) k a b y) (fun (z63_7 : Int64) (z63_9 : Int64) => bd1_ (f_X7_lowestTerms n (z63_9 - z63_7) z63_9 w) (fun (r112_18 : Int64) => some r112_18)) (fun k a b y => L_X7_clouds_63_s ..)) fin
  | 1, hq =>
    refine Eq.trans (clouds_loop S hn hq hh hm hX (fun k a b y => L_X7_clouds_63q2 n turn phase up (nI h) (nI m) (nI X) (fun (z63_7 : Int64) (z63_9 : Int64) => bd1_ (f_X7_lowestTerms n (z63_9 - z63_7) z63_9 w) (fun (r112_18 : Int64) => some r112_18)) k a b y) (fun (z63_7 : Int64) (z63_9 : Int64) => bd1_ (f_X7_lowestTerms n (z63_9 - z63_7) z63_9 w) (fun (r112_18 : Int64) => some r112_18)) (fun k a b y => L_X7_clouds_63q2_s ..)) fin
theorem cloudsOf_S {T P U : Nat → Nat} {turn phase up : Nat → Int32} (S : Sn T P U turn phase up) {n q h m X : Nat} (hn : 4000 ≤ n) (hq : q < 2) (hh : h ≤ 1000000000) (hm : m ≤ 14) (hX : X ≤ 16) (w : Int32) : f_X8_cloudsOf n turn phase up (nI q) (nI h) (nI m) (nI X) w = some (sp_clouds T P U q h m X w) := by
  have hu := ucl_le T P U q h m
  have hle : X ^ ucl T P U q h m ≤ 16 ^ ucl T P U q h m := Nat.pow_le_pow_left hX _
  unfold f_X8_cloudsOf
  refine jn2_i (fun kx hkx => ?_)
  refine (lp_st (fun k i (s : Int64 × Int64) => L_X8_cloudsOf_9 n turn phase up (nI q) (nI h) (nI m) (nI X) kx k s.1 s.2 (nI (h + i))) m (fun s => kx s.1 s.2) (fun i => (lN (X ^ ucl T P U q h i), lN (16 ^ ucl T P U q h i)))
    (fun k => by rw [L_X8_cloudsOf_9_s, nI_add, if_pos (nI_le (Nat.le_refl _) (by omega))])
    (fun k i hi => by
      rw [L_X8_cloudsOf_9_s, nI_add, if_neg (nI_ge (by omega) (by omega)), isUp_S S n hq (by omega), bd1_in, jn2_, bz_pos, nI_l (by omega), nI_1]
      dsimp only
      rw [ucl_s]
      by_cases c : pla T P q (h + i) < U q
      · rw [if_pos c, if_pos c, pw_step, show lN (16 ^ ucl T P U q h i) * 16 = lN (16 ^ (ucl T P U q h i + 1)) from pw_step 16 _]; rfl
      · simp only [if_neg c, Nat.add_zero]; rfl)
    m n 0 (by omega) (by omega)).trans ?_
  rw [hkx, lN_sub hle, bd1_id]
  unfold sp_clouds
  rw [p16, lowest_S hn (by omega) (Nat.sub_le _ _)]
theorem no_v (n : Nat) : f_X8_no n (-2) = some (-9223372036854775806) := by unfold f_X8_no; rfl
theorem e_clouds {T P U : Nat → Nat} {turn phase up mt mp mu : Nat → Int32} (S : Sn T P U turn phase up) (S2 : Sn T P U mt mp mu) {n : Nat} (hn : 4000 ≤ n) (x y z v w : Int32) : ∃ r, f_X7_clouds n turn phase up x y z v w = some r ∧ f_X8_clouds n mt mp mu x y z v w = some r := by
  by_cases c1 : x < 0 ∨ (1 : Int32) < x
  · refine ⟨-9223372036854775806, ?_, ?_⟩
    · unfold f_X7_clouds; rw [if_neg (ne2 c1).1, if_neg (ne2 c1).2]
    · unfold f_X8_clouds; rw [isSun_v, bd1_in, jn0_, bz_neg, if_pos c1, no_v, bd1_in]
  · obtain ⟨q, hq, rfl⟩ := rng (a := 1) (by omega) c1
    by_cases c2 : y < 0 ∨ (1000000000 : Int32) < y
    · refine ⟨-9223372036854775806, ?_, ?_⟩
      · unfold f_X7_clouds; rw [noHour_v n y, if_pos c2]
        match q, hq with
        | 0, _ => rfl
        | 1, _ => rfl
      · unfold f_X8_clouds; rw [isSun_v, bd1_in, jn0_, bz_neg, if_neg c1, isHour_v, bd1_in, bz_neg, if_pos c2, no_v, bd1_in]
    · by_cases c3 : z < 0 ∨ (14 : Int32) < z
      · refine ⟨-9223372036854775806, ?_, ?_⟩
        · unfold f_X7_clouds; rw [noHour_v n y, if_neg c2, outside_v n z, if_pos c3]
          match q, hq with
          | 0, _ => rfl
          | 1, _ => rfl
        · unfold f_X8_clouds; rw [isSun_v, bd1_in, jn0_, bz_neg, if_neg c1, isHour_v, bd1_in, bz_neg, if_neg c2, in_v, bd1_in, bz_neg, if_pos c3, no_v, bd1_in]
      · by_cases c4 : v < 0 ∨ (16 : Int32) < v
        · refine ⟨-9223372036854775806, ?_, ?_⟩
          · unfold f_X7_clouds; rw [noHour_v n y, if_neg c2, outside_v n z, if_neg c3, outside_v n v, if_pos c4]
            match q, hq with
            | 0, _ => rfl
            | 1, _ => rfl
          · unfold f_X8_clouds; rw [isSun_v, bd1_in, jn0_, bz_neg, if_neg c1, isHour_v, bd1_in, bz_neg, if_neg c2, in_v, bd1_in, bz_neg, if_neg c3, in_v, bd1_in, bz_neg, if_pos c4, no_v, bd1_in]
        · by_cases c5 : w < 0 ∨ (1 : Int32) < w
          · refine ⟨-9223372036854775806, ?_, ?_⟩
            · unfold f_X7_clouds; rw [noHour_v n y, if_neg c2, outside_v n z, if_neg c3, outside_v n v, if_neg c4, outside_v n w, if_pos c5]
              match q, hq with
              | 0, _ => rfl
              | 1, _ => rfl
            · unfold f_X8_clouds; rw [isSun_v, bd1_in, jn0_, bz_neg, if_neg c1, isHour_v, bd1_in, bz_neg, if_neg c2, in_v, bd1_in, bz_neg, if_neg c3, in_v, bd1_in, bz_neg, if_neg c4, in_v, bd1_in, bz_neg, if_pos c5, no_v, bd1_in]
          · obtain ⟨y, hy, rfl⟩ := rng (a := 1000000000) (by omega) c2
            obtain ⟨z, hz, rfl⟩ := rng (a := 14) (by omega) c3
            obtain ⟨v, hv, rfl⟩ := rng (a := 16) (by omega) c4
            refine ⟨_, clouds_S S hn (by omega) hy hz hv (in2 c5), ?_⟩
            unfold f_X8_clouds
            rw [isSun_v, bd1_in, jn0_, bz_neg, if_neg c1, isHour_v, bd1_in, bz_neg, if_neg c2, in_v, bd1_in, bz_neg, if_neg c3, in_v, bd1_in, bz_neg, if_neg c4, in_v, bd1_in, bz_neg, if_neg c5, cloudsOf_S S2 hn (by omega) hy hz hv, bd1_in]
