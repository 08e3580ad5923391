/-! lights onto a sheet -/
theorem cut_small {f : Int32} {v : Nat} (hv : v < 4) : cut f (nI v) = nI v := by
  unfold cut
  split
  · exact fa_byte_small (by omega)
  · split
    · exact fb_short (by rw [nI_toInt (by omega)]; omega) (by rw [nI_toInt (by omega)]; omega)
    · rfl
/-- the class's loop, whichever sheet -/
theorem write_loop {T P U : Nat → Nat} {turn phase up : Nat → Int32} (S : Sn T P U turn phase up) {n : Nat} (hn : 4000 ≤ n) {R : Type} (L : Nat → Int32 → (Nat → Nat → Int32) → Option R) (kx : (Nat → Nat → Int32) → Option R) {k z h : Nat} (hz : z ≤ 48) (hh : h ≤ 1000000000) (hL : ∀ q y w, L (q + 1) y w = if nI z ≤ y then kx w else bd1_ (f_X4_lightIn n turn phase up (nI h + y)) (fun r => ix_ y 48 (L q (y + 1) (va_up w k (upd (w k) y.toNatClampNeg r))))) (si : Nat → Nat → Int32) : L n 0 si = kx (fun a i => if a = k ∧ i < z then nI (lgt T P U (h + i)) else si a i) := by
  refine Eq.trans ?_ (lp_st (fun q i s => L q (nI i) s) z kx (fun m a i => if a = k ∧ i < m then nI (lgt T P U (h + i)) else si a i)
    (fun q => by rw [hL, if_pos (nI_le (Nat.le_refl _) (by omega))])
    (fun q i hi => by
      rw [hL, if_neg (nI_ge hi (by omega)), nI_add, lightIn_S S n (by omega), bd1_in, ix_in _ (vp_in_nI (show i < 48 by omega) (by omega)), nI_clamp (by omega), nI_1]
      congr 1
      funext a j
      unfold va_up upd
      dsimp only
      by_cases c : a = k
      · subst c
        simp only [if_true, true_and]
        by_cases d : j = i
        · subst d; rw [if_pos rfl, if_pos (by omega)]
        · rw [if_neg d]
          by_cases e : j < i
          · rw [if_pos e, if_pos (by omega)]
          · rw [if_neg e, if_neg (by omega)]
      · rw [if_neg c, if_neg (fun q => c q.1), if_neg (fun q => c q.1)])
    z n 0 (by omega) (by omega))
  congr 1
  funext a i
  rw [if_neg (by omega)]
theorem write_loopM {T P U : Nat → Nat} {turn phase up : Nat → Int32} (S : Sn T P U turn phase up) {n : Nat} (hn : 4000 ≤ n) {mf ms : Nat → Int32} (kx : (Nat → Int32) → Option (Int32 × Int32 × (Nat → Int32))) {k z h : Nat} (hk : k < 4) (hz : z ≤ 48) (hs : ms k = nI z) (hh : h ≤ 1000000000) (mit : Nat → Int32) : L_X8_write_34 n turn phase up mf ms (nI h) (nI k) kx n 0 mit = kx (fun j => if 48 * k ≤ j ∧ j < 48 * k + z then nI (lgt T P U (h + (j - 48 * k))) else mit j) := by
  refine Eq.trans ?_ (lp_st (fun q i s => L_X8_write_34 n turn phase up mf ms (nI h) (nI k) kx q (nI i) s) z kx (fun m j => if 48 * k ≤ j ∧ j < 48 * k + m then nI (lgt T P U (h + (j - 48 * k))) else mit j)
    (fun q => by rw [L_X8_write_34_s, ix_in _ (vp_in_nI hk (by omega)), nI_clamp (by omega), hs, if_pos (nI_le (Nat.le_refl _) (by omega))])
    (fun q i hi => by
      rw [L_X8_write_34_s, ix_in _ (vp_in_nI hk (by omega)), nI_clamp (by omega), hs, if_neg (nI_ge hi (by omega)), nI_add, lightOf_S S n (by omega), bd1_in, keep_v n mf _ hk (by omega), bd1_in, cut_small (lgt_lt T P U _), nI_1]
      congr 1
      funext j
      unfold upd
      dsimp only
      by_cases c : j = 48 * k + i
      · subst c; rw [if_pos rfl, if_pos (by omega), Nat.add_sub_cancel_left]
      · rw [if_neg c]
        by_cases d : 48 * k ≤ j ∧ j < 48 * k + i
        · rw [if_pos d, if_pos (by omega)]
        · rw [if_neg d, if_neg (by omega)])
    z n 0 (by omega) (by omega))
  congr 1
  funext j
  rw [if_neg (by omega)]
theorem write_v {T P U : Nat → Nat} {turn phase up : Nat → Int32} (S : Sn T P U turn phase up) {n : Nat} (hn : 4000 ≤ n) (lf : Int32) (sf sz : Nat → Int32) (si : Nat → Nat → Int32) {k z h : Nat} (hk : k < 4) (hz : z ≤ 48) (hs : sz k = nI z) (hh : h ≤ 1000000000) : f_X7_write n lf turn phase up sf sz si (nI h) (nI k) = if sf k = -1 then some (-11, 1, si) else some (sz k, lf, fun a i => if a = k ∧ i < z then nI (lgt T P U (h + i)) else si a i) := by
  simp only [f_X7_write, noHour_v, bd1_in, bz_pos, found_v, bd2_in]
  have hnh : ¬ (nI h < 0 ∨ (1000000000 : Int32) < nI h) := rng_in (a := 1000000000) (by omega) hh
  simp only [if_neg hnh]
  match k, hk, hs with
  | 0, hk, hs =>
    rw [if_pos (show nI 0 = 0 from rfl)]
    by_cases c : sf 0 = -1
    · rw [if_pos c, if_pos c]; rfl
    · rw [if_neg c, if_neg c]
      refine jn1_i (fun kx hkx => ?_)
      rw [write_loop S hn (fun q y w => L_X7_write_37 n turn phase up sz (nI h) kx q y w) kx (k := 0) hz hh (fun q y w => by rw [L_X7_write_37_s, hs]), hkx]
  | 1, hk, hs =>
    rw [if_neg (show ¬ nI 1 = 0 by decide), if_pos (show nI 1 = 1 from rfl)]
    by_cases c : sf 1 = -1
    · rw [if_pos c, if_pos c]; rfl
    · rw [if_neg c, if_neg c]
      refine jn1_i (fun kx hkx => ?_)
      rw [write_loop S hn (fun q y w => L_X7_write_37q2 n turn phase up sz (nI h) kx q y w) kx (k := 1) hz hh (fun q y w => by rw [L_X7_write_37q2_s, hs]), hkx]
  | 2, hk, hs =>
    rw [if_neg (show ¬ nI 2 = 0 by decide), if_neg (show ¬ nI 2 = 1 by decide), if_pos (show nI 2 = 2 from rfl)]
    by_cases c : sf 2 = -1
    · rw [if_pos c, if_pos c]; rfl
    · rw [if_neg c, if_neg c]
      refine jn1_i (fun kx hkx => ?_)
      rw [write_loop S hn (fun q y w => L_X7_write_37q3 n turn phase up sz (nI h) kx q y w) kx (k := 2) hz hh (fun q y w => by rw [L_X7_write_37q3_s, hs]), hkx]
  | 3, hk, hs =>
    rw [if_neg (show ¬ nI 3 = 0 by decide), if_neg (show ¬ nI 3 = 1 by decide), if_neg (show ¬ nI 3 = 2 by decide), if_pos (show nI 3 = 3 from rfl)]
    by_cases c : sf 3 = -1
    · rw [if_pos c, if_pos c]; rfl
    · rw [if_neg c, if_neg c]
      refine jn1_i (fun kx hkx => ?_)
      rw [write_loop S hn (fun q y w => L_X7_write_37q4 n turn phase up sz (nI h) kx q y w) kx (k := 3) hz hh (fun q y w => by rw [L_X7_write_37q4_s, hs]), hkx]
theorem e_write {T P U : Nat → Nat} {turn phase up mt mp mu : Nat → Int32} (S : Sn T P U turn phase up) (S2 : Sn T P U mt mp mu) {n : Nat} (hn : 4000 ≤ n) {lf mfd : Int32} {sf sz : Nat → Int32} {si : Nat → Nat → Int32} {mi mf ms mit : Nat → Int32} (hl : lf = mfd) (R : RH sf sz si mi mf ms mit) (x y : Int32) : ∃ r l2 s2 l3 m2, f_X7_write n lf turn phase up sf sz si x y = some (r, l2, s2) ∧ f_X8_write n mfd mt mp mu mi mf ms mit x y = some (r, l3, m2) ∧ l2 = l3 ∧ RH sf sz s2 mi mf ms m2 := by
  subst hl
  simp only [f_X8_write, isHour_v, isSheet_v, bd1_in, bz_neg, meets_v, bd2_in]
  by_cases c : y < 0 ∨ (3 : Int32) < y
  · obtain ⟨n0, n1, n2, n3⟩ := ne4 c
    refine ⟨-2, lf, si, lf, mit, ?_, ?_, rfl, R⟩
    · unfold f_X7_write; rw [if_neg n0, if_neg n1, if_neg n2, if_neg n3]
    · rw [if_pos c]; split <;> rfl
  · obtain ⟨k, hk, rfl⟩ := rng (a := 3) (by decide) c
    rw [if_neg c]
    by_cases d : x < 0 ∨ (1000000000 : Int32) < x
    · refine ⟨-2, lf, si, lf, mit, ?_, ?_, rfl, R⟩
      · simp only [f_X7_write, noHour_v, bd1_in, bz_pos, if_pos d]
        split
        · rfl
        · split
          · rfl
          · split
            · rfl
            · split <;> rfl
      · rw [if_pos d]
    · obtain ⟨h, hh, rfl⟩ := rng (a := 1000000000) (by decide) d
      rw [if_neg d]
      obtain ⟨h1, ⟨z, z1, z2, z3⟩, h3⟩ := R k (by omega)
      rw [write_v S hn lf sf sz si (show k < 4 by omega) z1 z2 hh]
      simp only [ix_in _ (vp_in_nI (show k < 4 by omega) (show 4 < 2 ^ 31 by omega)), nI_clamp (show k < 2 ^ 31 by omega), jn1_, write_loopM S2 hn _ (show k < 4 by omega) z1 z3 hh]
      rcases h1 with ⟨a, b⟩ | ⟨a, b, e⟩
      · rw [if_pos b, if_pos a]; exact ⟨_, _, _, _, _, rfl, rfl, rfl, R⟩
      · rw [if_neg (by rw [b]; rcases e with e | e | e <;> rw [e] <;> decide), if_neg (by rw [a]; decide)]
        refine ⟨_, _, _, _, _, rfl, by rw [z2, z3], rfl, fun q hq => ?_⟩
        obtain ⟨a5, b5, c5⟩ := R q hq
        refine ⟨a5, b5, fun p hp => ?_⟩
        dsimp only
        by_cases w : q = k
        · subst w
          by_cases u : p < z
          · rw [if_pos ⟨rfl, u⟩, if_pos (by omega), Nat.add_sub_cancel_left]
          · rw [if_neg (fun t => u t.2), if_neg (by omega)]; exact c5 p hp
        · rw [if_neg (fun t => w t.1), if_neg (by omega)]; exact c5 p hp
/-! read: growth by a sheet -/
theorem RP_upd {ph : Nat → Int32} {pg : Nat → Nat → Int32} {rp gr : Nat → Int32} (R : RP ph pg rp gr) {k i : Nat} (hi : i < 4) {v : Int32} (hv : ¬ (v < (-9) ∨ (9 : Int32) < v)) : RP ph (va_up pg k (upd (pg k) i v)) rp (upd gr (4 * k + i) v) := fun q hq => ⟨(R q hq).1, fun p hp => by
  have Rq := (R q hq).2 p hp
  unfold va_up upd
  by_cases w : q = k
  · subst w
    rw [if_pos rfl]
    by_cases u : p = i
    · subst u
      rw [if_pos rfl, if_pos rfl]; exact ⟨rfl, gr_bnd hv⟩
    · rw [if_neg u, if_neg (by omega)]; exact Rq
  · rw [if_neg w, if_neg (by omega)]; exact Rq⟩
theorem read_loop {n : Nat} {Q : Type} {sz : Nat → Int32} {si : Nat → Nat → Int32} {mi mf ms mit sf : Nat → Int32} {ph rp : Nat → Int32} (R : RH sf sz si mi mf ms mit) (L : Nat → Int32 → (Nat → Nat → Int32) → Option Q) (kx : Int32 → (Nat → Nat → Int32) → Option Q) (ky : Int32 → (Nat → Int32) → Option (Int32 × Int32 × (Nat → Int32))) {s p z : Nat} (hs : s < 4) (hp : p < 4) (hz : z ≤ 48) (hsz : sz s = nI z) (hms : ms s = nI z)
    (hL : ∀ q y w, L (q + 1) y w = if (4 : Int32) ≤ y then kx y w else if sz s ≤ y then kx y w else ix_ y 48 (bd1_ (f_X7_noGrowth n ((si s) y.toNatClampNeg)) (fun r => if r = 0 then ix_ y 48 (ix_ y 4 (L q (y + 1) (va_up w p (upd (w p) y.toNatClampNeg ((si s) y.toNatClampNeg))))) else kx y w))) :
    ∀ (m i a b : Nat) (w : Nat → Nat → Int32) (g : Nat → Int32), i + m = 4 → m < a → m < b → RP ph w rp g → ∃ (j : Nat) (w2 : Nat → Nat → Int32) (g2 : Nat → Int32), L a (nI i) w = kx (nI j) w2 ∧ L_X8_read_34 n ms mit (nI s) (nI p) ky b (nI i) g = ky (nI j) g2 ∧ RP ph w2 rp g2 := by
  intro m
  induction m with
  | zero =>
    intro i a b w g h1 h2 h3 hR
    obtain ⟨a, rfl⟩ : ∃ q, a = q + 1 := ⟨a - 1, by omega⟩
    obtain ⟨b, rfl⟩ : ∃ q, b = q + 1 := ⟨b - 1, by omega⟩
    rw [hL, L_X8_read_34_s, if_pos (show (4 : Int32) ≤ nI i from nI_le (a := 4) (by omega) (by omega)), ix_in _ (vp_in_nI hs (by omega)), nI_clamp (by omega), hms]
    refine ⟨i, w, g, rfl, ?_, hR⟩
    by_cases c : nI z ≤ nI i
    · rw [if_pos c]
    · rw [if_neg c, if_pos (show (4 : Int32) ≤ nI i from nI_le (a := 4) (by omega) (by omega))]
  | succ m ih =>
    intro i a b w g h1 h2 h3 hR
    obtain ⟨a, rfl⟩ : ∃ q, a = q + 1 := ⟨a - 1, by omega⟩
    obtain ⟨b, rfl⟩ : ∃ q, b = q + 1 := ⟨b - 1, by omega⟩
    have h4 : ¬ (4 : Int32) ≤ nI i := nI_ge (b := 4) (by omega) (by omega)
    rw [hL, L_X8_read_34_s, if_neg h4, ix_in _ (vp_in_nI hs (by omega)), nI_clamp (show s < 2 ^ 31 by omega), hms, hsz]
    rcases Nat.lt_or_ge i z with c | c
    · have hz2 : ¬ nI z ≤ nI i := nI_ge c (by omega)
      obtain ⟨-, -, hit⟩ := R s hs
      rw [if_neg hz2, if_neg hz2, if_neg h4, fe_mul, ix_in _ (vp_in_nI (show i < 48 by omega) (by omega)), ix_in _ (vp_in_nI (show 48 * s + i < 192 by omega) (by omega)), nI_clamp (show i < 2 ^ 31 by omega), nI_clamp (show 48 * s + i < 2 ^ 31 by omega), noGrowth_v, bd1_in, bz_pos, in_v, bd1_in, bz_neg, ← hit i (by omega)]
      by_cases d : si s i < (-9) ∨ (9 : Int32) < si s i
      · rw [if_pos d, if_pos d]; exact ⟨i, w, g, rfl, rfl, hR⟩
      · rw [if_neg d, if_neg d, four_mul, ix_in _ (vp_in_nI (show i < 48 by omega) (by omega)), ix_in _ (vp_in_nI (show i < 4 by omega) (by omega)), ix_in _ (vp_in_nI (show 48 * s + i < 192 by omega) (by omega)), ix_in _ (vp_in_nI (show 4 * p + i < 16 by omega) (by omega)), nI_clamp (show 4 * p + i < 2 ^ 31 by omega), nI_1]
        exact ih (i + 1) a b _ _ (by omega) (by omega) (by omega) (RP_upd hR (by omega) d)
    · rw [if_pos (nI_le c (by omega)), if_pos (nI_le c (by omega))]; exact ⟨i, w, g, rfl, rfl, hR⟩
theorem read_bad (n : Nat) (lf : Int32) (pg : Nat → Nat → Int32) (sf sz : Nat → Int32) (si : Nat → Nat → Int32) (x y : Int32) (h : (x < 0 ∨ (3 : Int32) < x) ∨ (y < 0 ∨ (3 : Int32) < y)) : f_X7_read n lf pg sf sz si x y = some (-2, lf, pg) := by
  unfold f_X7_read
  rcases h with c | c
  · obtain ⟨n0, n1, n2, n3⟩ := ne4 c
    rw [if_neg n0, if_neg n1, if_neg n2, if_neg n3]
    simp only [ite_self]
  · obtain ⟨n0, n1, n2, n3⟩ := ne4 c
    simp only [if_neg n0, if_neg n1, if_neg n2, if_neg n3, ite_self]
theorem e_read {n : Nat} (hn : 4000 ≤ n) {lf mfd : Int32} {sf sz : Nat → Int32} {si : Nat → Nat → Int32} {mi mf ms mit : Nat → Int32} {ph : Nat → Int32} {pg : Nat → Nat → Int32} {rp gr : Nat → Int32} (hl : lf = mfd) (R : RH sf sz si mi mf ms mit) (RR : RP ph pg rp gr) (x y : Int32) : ∃ r l2 s2 l3 m2, f_X7_read n lf pg sf sz si x y = some (r, l2, s2) ∧ f_X8_read n mfd gr mi ms mit x y = some (r, l3, m2) ∧ l2 = l3 ∧ RP ph s2 rp m2 := by
  subst hl
  simp only [f_X8_read, isPlant_v, isSheet_v, bd1_in, bz_neg, meets_v, bd2_in]
  by_cases c : x < 0 ∨ (3 : Int32) < x
  · refine ⟨-2, lf, pg, lf, gr, read_bad n lf pg sf sz si x y (Or.inl c), by rw [if_pos c], rfl, RR⟩
  · rw [if_neg c]
    by_cases d : y < 0 ∨ (3 : Int32) < y
    · refine ⟨-2, lf, pg, lf, gr, read_bad n lf pg sf sz si x y (Or.inr d), by rw [if_pos d], rfl, RR⟩
    · rw [if_neg d]
      obtain ⟨s, hs, rfl⟩ := rng (a := 3) (by decide) c
      obtain ⟨p, hp, rfl⟩ := rng (a := 3) (by decide) d
      obtain ⟨h1, ⟨z, z1, z2, z3⟩, h3⟩ := R s (by omega)
      simp only [ix_in _ (vp_in_nI (show s < 4 by omega) (show 4 < 2 ^ 31 by omega)), nI_clamp (show s < 2 ^ 31 by omega)]
      simp only [f_X7_read, found_v, bd2_in]
      have key : ∀ (L : Nat → Int32 → (Nat → Nat → Int32) → Option (Int32 × Int32 × (Nat → Nat → Int32))) (hL : ∀ q y w, L (q + 1) y w = if (4 : Int32) ≤ y then some (y, lf, w) else if sz s ≤ y then some (y, lf, w) else ix_ y 48 (bd1_ (f_X7_noGrowth n ((si s) y.toNatClampNeg)) (fun r => if r = 0 then ix_ y 48 (ix_ y 4 (L q (y + 1) (va_up w p (upd (w p) y.toNatClampNeg ((si s) y.toNatClampNeg))))) else some (y, lf, w)))), ∃ r l2 s2 l3 m2, (if sf s = -1 then some (-10 - 1, 1, pg) else L n 0 pg) = some (r, l2, s2) ∧ (if mi s = 0 then some (-10 - 1, 1, gr) else jn2_ (fun z u => some (z, lf, u)) fun kx => L_X8_read_34 n ms mit (nI s) (nI p) kx n 0 gr) = some (r, l3, m2) ∧ l2 = l3 ∧ RP ph s2 rp m2 := by
        intro L hL
        rcases h1 with ⟨a, b⟩ | ⟨a, b, e⟩
        · rw [if_pos b, if_pos a]; exact ⟨_, _, _, _, _, rfl, rfl, rfl, RR⟩
        · rw [if_neg (by rw [b]; rcases e with e | e | e <;> rw [e] <;> decide), if_neg (by rw [a]; decide), jn2_]
          obtain ⟨j, w2, g2, q1, q2, q3⟩ := read_loop (n := n) R L (fun y w => some (y, lf, w)) (fun y w => some (y, lf, w)) (s := s) (p := p) (by omega) (by omega) z1 z2 z3 hL 4 0 n n pg gr (by omega) (by omega) (by omega) RR
          exact ⟨_, _, _, _, _, q1, q2, rfl, q3⟩
      match s, (show s < 4 by omega), p, (show p < 4 by omega), key with
      | 0, _, 0, _, key =>
        simp only [if_pos (show nI 0 = 0 from rfl), if_pos (show nI 0 = 0 from rfl)]
        exact key (fun q y w => L_X7_read_42 n sz si (fun z u => some (z, lf, u)) q y w) (fun q y w => L_X7_read_42_s _ _ _ _ _ _ _)
      | 0, _, 1, _, key =>
        simp only [if_pos (show nI 0 = 0 from rfl), if_neg (show ¬ nI 1 = 0 by decide), if_pos (show nI 1 = 1 from rfl)]
        exact key (fun q y w => L_X7_read_42q2 n sz si (fun z u => some (z, lf, u)) q y w) (fun q y w => L_X7_read_42q2_s _ _ _ _ _ _ _)
      | 0, _, 2, _, key =>
        simp only [if_pos (show nI 0 = 0 from rfl), if_neg (show ¬ nI 2 = 0 by decide), if_neg (show ¬ nI 2 = 1 by decide), if_pos (show nI 2 = 2 from rfl)]
        exact key (fun q y w => L_X7_read_42q3 n sz si (fun z u => some (z, lf, u)) q y w) (fun q y w => L_X7_read_42q3_s _ _ _ _ _ _ _)
      | 0, _, 3, _, key =>
        simp only [if_pos (show nI 0 = 0 from rfl), if_neg (show ¬ nI 3 = 0 by decide), if_neg (show ¬ nI 3 = 1 by decide), if_neg (show ¬ nI 3 = 2 by decide), if_pos (show nI 3 = 3 from rfl)]
        exact key (fun q y w => L_X7_read_42q4 n sz si (fun z u => some (z, lf, u)) q y w) (fun q y w => L_X7_read_42q4_s _ _ _ _ _ _ _)
      | 1, _, 0, _, key =>
        simp only [if_neg (show ¬ nI 1 = 0 by decide), if_pos (show nI 1 = 1 from rfl), if_pos (show nI 0 = 0 from rfl)]
        exact key (fun q y w => L_X7_read_42q5 n sz si (fun z u => some (z, lf, u)) q y w) (fun q y w => L_X7_read_42q5_s _ _ _ _ _ _ _)
      | 1, _, 1, _, key =>
        simp only [if_neg (show ¬ nI 1 = 0 by decide), if_pos (show nI 1 = 1 from rfl), if_neg (show ¬ nI 1 = 0 by decide), if_pos (show nI 1 = 1 from rfl)]
        exact key (fun q y w => L_X7_read_42q6 n sz si (fun z u => some (z, lf, u)) q y w) (fun q y w => L_X7_read_42q6_s _ _ _ _ _ _ _)
      | 1, _, 2, _, key =>
        simp only [if_neg (show ¬ nI 1 = 0 by decide), if_pos (show nI 1 = 1 from rfl), if_neg (show ¬ nI 2 = 0 by decide), if_neg (show ¬ nI 2 = 1 by decide), if_pos (show nI 2 = 2 from rfl)]
        exact key (fun q y w => L_X7_read_42q7 n sz si (fun z u => some (z, lf, u)) q y w) (fun q y w => L_X7_read_42q7_s _ _ _ _ _ _ _)
      | 1, _, 3, _, key =>
        simp only [if_neg (show ¬ nI 1 = 0 by decide), if_pos (show nI 1 = 1 from rfl), if_neg (show ¬ nI 3 = 0 by decide), if_neg (show ¬ nI 3 = 1 by decide), if_neg (show ¬ nI 3 = 2 by decide), if_pos (show nI 3 = 3 from rfl)]
        exact key (fun q y w => L_X7_read_42q8 n sz si (fun z u => some (z, lf, u)) q y w) (fun q y w => L_X7_read_42q8_s _ _ _ _ _ _ _)
      | 2, _, 0, _, key =>
        simp only [if_neg (show ¬ nI 2 = 0 by decide), if_neg (show ¬ nI 2 = 1 by decide), if_pos (show nI 2 = 2 from rfl), if_pos (show nI 0 = 0 from rfl)]
        exact key (fun q y w => L_X7_read_42q9 n sz si (fun z u => some (z, lf, u)) q y w) (fun q y w => L_X7_read_42q9_s _ _ _ _ _ _ _)
      | 2, _, 1, _, key =>
        simp only [if_neg (show ¬ nI 2 = 0 by decide), if_neg (show ¬ nI 2 = 1 by decide), if_pos (show nI 2 = 2 from rfl), if_neg (show ¬ nI 1 = 0 by decide), if_pos (show nI 1 = 1 from rfl)]
        exact key (fun q y w => L_X7_read_42q10 n sz si (fun z u => some (z, lf, u)) q y w) (fun q y w => L_X7_read_42q10_s _ _ _ _ _ _ _)
      | 2, _, 2, _, key =>
        simp only [if_neg (show ¬ nI 2 = 0 by decide), if_neg (show ¬ nI 2 = 1 by decide), if_pos (show nI 2 = 2 from rfl), if_neg (show ¬ nI 2 = 0 by decide), if_neg (show ¬ nI 2 = 1 by decide), if_pos (show nI 2 = 2 from rfl)]
        exact key (fun q y w => L_X7_read_42q11 n sz si (fun z u => some (z, lf, u)) q y w) (fun q y w => L_X7_read_42q11_s _ _ _ _ _ _ _)
      | 2, _, 3, _, key =>
        simp only [if_neg (show ¬ nI 2 = 0 by decide), if_neg (show ¬ nI 2 = 1 by decide), if_pos (show nI 2 = 2 from rfl), if_neg (show ¬ nI 3 = 0 by decide), if_neg (show ¬ nI 3 = 1 by decide), if_neg (show ¬ nI 3 = 2 by decide), if_pos (show nI 3 = 3 from rfl)]
        exact key (fun q y w => L_X7_read_42q12 n sz si (fun z u => some (z, lf, u)) q y w) (fun q y w => L_X7_read_42q12_s _ _ _ _ _ _ _)
      | 3, _, 0, _, key =>
        simp only [if_neg (show ¬ nI 3 = 0 by decide), if_neg (show ¬ nI 3 = 1 by decide), if_neg (show ¬ nI 3 = 2 by decide), if_pos (show nI 3 = 3 from rfl), if_pos (show nI 0 = 0 from rfl)]
        exact key (fun q y w => L_X7_read_42q13 n sz si (fun z u => some (z, lf, u)) q y w) (fun q y w => L_X7_read_42q13_s _ _ _ _ _ _ _)
      | 3, _, 1, _, key =>
        simp only [if_neg (show ¬ nI 3 = 0 by decide), if_neg (show ¬ nI 3 = 1 by decide), if_neg (show ¬ nI 3 = 2 by decide), if_pos (show nI 3 = 3 from rfl), if_neg (show ¬ nI 1 = 0 by decide), if_pos (show nI 1 = 1 from rfl)]
        exact key (fun q y w => L_X7_read_42q14 n sz si (fun z u => some (z, lf, u)) q y w) (fun q y w => L_X7_read_42q14_s _ _ _ _ _ _ _)
      | 3, _, 2, _, key =>
        simp only [if_neg (show ¬ nI 3 = 0 by decide), if_neg (show ¬ nI 3 = 1 by decide), if_neg (show ¬ nI 3 = 2 by decide), if_pos (show nI 3 = 3 from rfl), if_neg (show ¬ nI 2 = 0 by decide), if_neg (show ¬ nI 2 = 1 by decide), if_pos (show nI 2 = 2 from rfl)]
        exact key (fun q y w => L_X7_read_42q15 n sz si (fun z u => some (z, lf, u)) q y w) (fun q y w => L_X7_read_42q15_s _ _ _ _ _ _ _)
      | 3, _, 3, _, key =>
        simp only [if_neg (show ¬ nI 3 = 0 by decide), if_neg (show ¬ nI 3 = 1 by decide), if_neg (show ¬ nI 3 = 2 by decide), if_pos (show nI 3 = 3 from rfl), if_neg (show ¬ nI 3 = 0 by decide), if_neg (show ¬ nI 3 = 1 by decide), if_neg (show ¬ nI 3 = 2 by decide), if_pos (show nI 3 = 3 from rfl)]
        exact key (fun q y w => L_X7_read_42q16 n sz si (fun z u => some (z, lf, u)) q y w) (fun q y w => L_X7_read_42q16_s _ _ _ _ _ _ _)
