/-! which hour to watch -/
def pup (T U : Nat → Nat) (q h p : Nat) : Bool := decide ((h + p) % T q < U q)
def hcn (F : Nat → Bool) (T U : Nat → Nat) (q h : Nat) (b : Bool) (m : Nat) : Nat := fb_ct (fun p => F p && (pup T U q h p == b)) m
theorem hcn_sum (F : Nat → Bool) (T U : Nat → Nat) (q h m : Nat) : hcn F T U q h true m + hcn F T U q h false m = fb_ct F m := by
  unfold hcn
  rw [← fb_ct_or (fun k _ z => by cases e1 : F k <;> cases e2 : pup T U q h k <;> simp [e1, e2] at z)]
  exact fb_ct_cong (fun k _ => by cases F k <;> cases pup T U q h k <;> rfl)
def wl (F : Nat → Bool) (T U : Nat → Nat) (q h : Nat) : Nat := max (hcn F T U q h true (T q)) (hcn F T U q h false (T q))
theorem wl_le (F : Nat → Bool) (T U : Nat → Nat) (q h : Nat) : wl F T U q h ≤ T q := by
  have a := hcn_sum F T U q h (T q)
  have b := fb_ct_le F (T q)
  unfold wl; omega
theorem wl_mod (F : Nat → Bool) (T U : Nat → Nat) (q h : Nat) : wl F T U q (h % T q) = wl F T U q h := by
  unfold wl hcn pup
  simp only [Nat.mod_add_mod]
theorem findLeft_S {T P U : Nat → Nat} {turn phase up : Nat → Int32} (S : Sn T P U turn phase up) {n : Nat} (hn : 4000 ≤ n) {q : Nat} (hq : q < 2) {v : Nat → Int32} {F : Nat → Bool} (hv : ∀ p, p < T q → v p = bI (F p)) (w : Nat → Int32) : f_X5_findLeftAtWorst n (turn q) (up q) v w = some (fa_fill (fun h => nI (wl F T U q h)) w (T q)) := by
  obtain ⟨h1, h2, h3, h4, h5, h6, h7⟩ := S q hq
  have inner : ∀ (kx : Int32 → Option (Nat → Int32)) (h : Nat), h < 40 → L_X5_findLeftAtWorst_26 n (turn q) (up q) v (nI h) kx n 0 0 = kx (nI (hcn F T U q h true (T q))) := fun kx h hh =>
    lp_st (fun k i (s : Int32) => L_X5_findLeftAtWorst_26 n (turn q) (up q) v (nI h) kx k s (nI i)) (T q) kx (fun i => nI (hcn F T U q h true i))
      (fun k => by rw [L_X5_findLeftAtWorst_26_s, if_pos (by rw [h1]; exact nI_le (Nat.le_refl _) (by omega))])
      (fun k i hi => by
        rw [L_X5_findLeftAtWorst_26_s, if_neg (by rw [h1]; exact nI_ge hi (by omega)), if_neg (show ¬ (40 : Int32) ≤ nI i from nI_ge (b := 40) (by omega) (by omega)), ix_in _ (vp_in_nI (show i < 40 by omega) (by omega)), nI_clamp (by omega), hv i hi, placeBy_S S n hq (by omega) (by omega), jn1_, bd1_in, up_leB S hq, nI_1, nI_1]
        have e : hcn F T U q h true (i + 1) = hcn F T U q h true i + (if (F i && (pup T U q h i == true)) = true then 1 else 0) := rfl
        rw [e]
        unfold pup
        cases F i with
        | false => rfl
        | true =>
          by_cases c : (h + i) % T q < U q
          · rw [if_pos c, decide_eq_true c]; rfl
          · rw [if_neg c, decide_eq_false c]; rfl)
      (T q) n 0 (by omega) (by omega)
  unfold f_X5_findLeftAtWorst
  rw [fittingPhases_S S hn hq hv, bd1_in]
  refine jn1_i (fun kx hkx => ?_)
  refine Eq.trans ?_ ((lp_st (fun k i (s : Nat → Int32) => L_X5_findLeftAtWorst_7 n (turn q) (up q) v (nI (fb_ct F (T q))) kx k (nI i) s) (T q) kx (fun i => fa_fill (fun h => nI (wl F T U q h)) w i)
    (fun k => by rw [L_X5_findLeftAtWorst_7_s, if_pos (by rw [h1]; exact nI_le (Nat.le_refl _) (by omega))])
    (fun k i hi => by
      have hs := hcn_sum F T U q i (T q)
      have hb := fb_ct_le F (T q)
      rw [L_X5_findLeftAtWorst_7_s, if_neg (by rw [h1]; exact nI_ge hi (by omega)), if_neg (show ¬ (40 : Int32) ≤ nI i from nI_ge (b := 40) (by omega) (by omega)), jn1_, inner _ i (by omega), ix_in _ (vp_in_nI (show i < 40 by omega) (by omega)), nI_clamp (by omega), pk_sub (by omega), show fb_ct F (T q) - hcn F T U q i true (T q) = hcn F T U q i false (T q) by omega, mx_lt (by omega) (by omega), nI_1, ← fa_fill_succ]
      rfl)
    (T q) n 0 (by omega) (by omega)).trans (hkx _))
  rw [fa_fill_0]; rfl
theorem left5_S {T P U : Nat → Nat} {turn phase up : Nat → Int32} (S : Sn T P U turn phase up) (n : Nat) {q h : Nat} (hq : q < 2) {w : Nat → Int32} {F : Nat → Bool} (hw : ∀ p, p < T q → w p = nI (wl F T U q p)) (hh : h < 2147483000) : f_X5_leftAtWorst n (turn q) w (nI h) = some (nI (wl F T U q h)) := by
  obtain ⟨h1, h2, h3, h4, h5, h6, h7⟩ := S q hq
  have hm := Nat.mod_lt h (show 0 < T q by omega)
  unfold f_X5_leftAtWorst
  rw [show (0 : Int32) = nI 0 from rfl, placeBy_S S n hq (by omega) hh, bd1_in, Nat.add_zero, jn0_, if_neg (show ¬ nI (h % T q) < nI 0 from nI_pos (by omega)), if_pos (show nI (h % T q) < 40 from nI_lt (b := 40) (by omega) (by omega)), ix_in _ (vp_in_nI (show h % T q < 40 by omega) (by omega)), nI_clamp (by omega), hw _ hm, wl_mod]
def lft (F0 F1 : Nat → Bool) (T U : Nat → Nat) (h : Nat) : Nat := wl F0 T U 0 h * wl F1 T U 1 h
theorem lft_le {T P U : Nat → Nat} {turn phase up : Nat → Int32} (S : Sn T P U turn phase up) (F0 F1 : Nat → Bool) (h : Nat) : lft F0 F1 T U h ≤ 1600 := by
  obtain ⟨a1, a2, a3, a4, a5, a6, a7⟩ := S 0 (by omega)
  obtain ⟨b1, b2, b3, b4, b5, b6, b7⟩ := S 1 (by omega)
  exact Nat.mul_le_mul (Nat.le_trans (wl_le F0 T U 0 h) a5) (Nat.le_trans (wl_le F1 T U 1 h) b5)
theorem left4_S {T P U : Nat → Nat} {turn phase up : Nat → Int32} (S : Sn T P U turn phase up) (n : Nat) {h : Nat} {w : Nat → Nat → Int32} {F0 F1 : Nat → Bool} (h0 : ∀ p, p < T 0 → w 0 p = nI (wl F0 T U 0 p)) (h1 : ∀ p, p < T 1 → w 1 p = nI (wl F1 T U 1 p)) (hh : h < 2147483000) : f_X4_leftAtWorst n turn w (nI h) = some (nI (lft F0 F1 T U h)) := by
  unfold f_X4_leftAtWorst
  rw [left5_S S n (by omega) h0 hh, bd1_in, left5_S S n (by omega) h1 hh, bd1_in, pk_mul]; rfl
def bh (g : Nat → Nat) (H : Nat) : Nat → Nat
  | 0 => H
  | m + 1 => if g (bh g H m) ≤ g (H + 1 + m) then bh g H m else H + 1 + m
theorem bh_le (g : Nat → Nat) (H : Nat) : ∀ m, bh g H m ≤ H + m
  | 0 => Nat.le_refl _
  | m + 1 => by
    have := bh_le g H m
    show (if g (bh g H m) ≤ g (H + 1 + m) then bh g H m else H + 1 + m) ≤ _
    split <;> omega
theorem bh_if {g : Nat → Nat} {H m : Nat} (hg : ∀ h, g h ≤ 1600) : (if nI (g (bh g H m)) ≤ nI (g (H + 1 + m)) then nI (bh g H m) else nI (H + 1 + m)) = nI (bh g H (m + 1)) ∧ (if nI (g (bh g H m)) ≤ nI (g (H + 1 + m)) then nI (g (bh g H m)) else nI (g (H + 1 + m))) = nI (g (bh g H (m + 1))) := by
  have a := hg (bh g H m)
  have b := hg (H + 1 + m)
  have e : bh g H (m + 1) = if g (bh g H m) ≤ g (H + 1 + m) then bh g H m else H + 1 + m := rfl
  rw [e]
  by_cases c : g (bh g H m) ≤ g (H + 1 + m)
  · simp only [if_pos (nI_le c (by omega)), if_pos c, and_self]
  · simp only [if_neg (nI_ge (show g (H + 1 + m) < g (bh g H m) by omega) (by omega)), if_neg c, and_self]
theorem hourToWatch_S {T P U : Nat → Nat} {turn phase up : Nat → Int32} (S : Sn T P U turn phase up) {n : Nat} (hn : 4000 ≤ n) {H : Nat} {w : Nat → Nat → Int32} {F0 F1 : Nat → Bool} (h0 : ∀ p, p < T 0 → w 0 p = nI (wl F0 T U 0 p)) (h1 : ∀ p, p < T 1 → w 1 p = nI (wl F1 T U 1 p)) (hH : H ≤ 60) : f_X4_hourToWatch n turn w (nI H) = some (nI (bh (lft F0 F1 T U) H (rd T - 1))) := by
  obtain ⟨r1, r2, -⟩ := rd_facts S
  unfold f_X4_hourToWatch
  rw [hoursOfRound_S S hn, bd1_in, left4_S S n h0 h1 (by omega), bd1_in, nI_1 H]
  refine jn1_i (fun kx hkx => ?_)
  refine (lp_st (fun k m (s : Int32 × Int32) => L_X4_hourToWatch_19 n turn w (nI H) (nI (rd T)) kx k s.1 s.2 (nI (H + 1 + m))) (rd T - 1) (fun s => kx s.1) (fun m => (nI (bh (lft F0 F1 T U) H m), nI (lft F0 F1 T U (bh (lft F0 F1 T U) H m))))
    (fun k => by rw [L_X4_hourToWatch_19_s, nI_add, if_pos (nI_le (by omega) (by omega))])
    (fun k m hm => by
      obtain ⟨e1, e2⟩ := bh_if (g := lft F0 F1 T U) (H := H) (m := m) (lft_le S F0 F1)
      rw [L_X4_hourToWatch_19_s, nI_add, if_neg (nI_ge (by omega) (by omega)), left4_S S n h0 h1 (by omega), bd1_in, lt_, lt_, e1, e2, nI_1]
      rfl)
    (rd T - 1) n 0 (by omega) (by omega)).trans ?_
  rw [hkx]
def cz (F : Nat → Bool) (T U : Nat → Nat) (q h : Nat) (b : Bool) (i : Nat) : Bool := F i && (pup T U q h i == b)
def cst (F0 F1 : Nat → Bool) (T U : Nat → Nat) (h : Nat) (v : Nat → Int32) (i j : Nat) : Nat → Int32 := fun z => if z < 4 then nI (fcn (cz F0 T U 0 h (decide (z % 2 = 1))) (cz F1 T U 1 h (decide (z / 2 = 1))) (T 1) i j) else v z
theorem cz_and (F0 F1 : Nat → Bool) (T U : Nat → Nat) (h z i j : Nat) : (cz F0 T U 0 h (decide (z % 2 = 1)) i && cz F1 T U 1 h (decide (z / 2 = 1)) j) = ((F0 i && F1 j) && ((pup T U 0 h i == decide (z % 2 = 1)) && (pup T U 1 h j == decide (z / 2 = 1)))) := by
  unfold cz
  cases F0 i <;> cases F1 j <;> simp
theorem uq_p (T U : Nat → Nat) (q p h : Nat) : (uq T U q p h = 0) ↔ pup T U q h p = false := by
  unfold uq pup
  by_cases c : (h + p) % T q < U q
  · rw [if_pos c, decide_eq_true c]; decide
  · rw [if_neg c, decide_eq_false c]; decide
def cod (a b : Bool) : Nat := (if a = true then 1 else 0) + (if b = true then 2 else 0)
theorem uq_cod (T U : Nat → Nat) (h i j : Nat) : (if uq T U 0 i h = 0 then (0 : Int32) else 1) + (if uq T U 1 j h = 0 then 0 else 2) = nI (cod (pup T U 0 h i) (pup T U 1 h j)) := by
  have a := uq_p T U 0 i h
  have b := uq_p T U 1 j h
  cases e1 : pup T U 0 h i <;> cases e2 : pup T U 1 h j <;> simp only [e1, e2, iff_true, Bool.true_eq_false, iff_false] at a b <;> simp only [a, b, if_true, if_false] <;> decide
theorem cod_lt (a b : Bool) : cod a b < 4 := by cases a <;> cases b <;> decide
theorem cod_eq (a b : Bool) : ∀ z, z < 4 → ((a == decide (z % 2 = 1)) && (b == decide (z / 2 = 1))) = decide (z = cod a b) := by cases a <;> cases b <;> decide
theorem cst_step (F0 F1 : Nat → Bool) (T U : Nat → Nat) (h : Nat) (v : Nat → Int32) (i j : Nat) (hb : (F0 i && F1 j) = true) : upd (cst F0 F1 T U h v i j) (cod (pup T U 0 h i) (pup T U 1 h j)) (cst F0 F1 T U h v i j (cod (pup T U 0 h i) (pup T U 1 h j)) + 1) = cst F0 F1 T U h v i (j + 1) := funext fun z => by
  have hc := cod_lt (pup T U 0 h i) (pup T U 1 h j)
  unfold upd cst
  by_cases c : z = cod (pup T U 0 h i) (pup T U 1 h j)
  · have c4 : z < 4 := by omega
    rw [if_pos c, ← c, if_pos c4, if_pos c4, fcn_step, cz_and, hb, cod_eq _ _ z c4, decide_eq_true c, nI_1]; rfl
  · rw [if_neg c]
    by_cases d : z < 4
    · rw [if_pos d, if_pos d, fcn_step, cz_and, hb, cod_eq _ _ z d, decide_eq_false c]; rfl
    · rw [if_neg d, if_neg d]
theorem cst_same (F0 F1 : Nat → Bool) (T U : Nat → Nat) (h : Nat) (v : Nat → Int32) (i j : Nat) (hb : (F0 i && F1 j) = false) : cst F0 F1 T U h v i j = cst F0 F1 T U h v i (j + 1) := funext fun z => by
  unfold cst
  rw [fcn_step, cz_and, hb]; rfl
theorem cst_next (F0 F1 : Nat → Bool) (T U : Nat → Nat) (h : Nat) (v : Nat → Int32) (i : Nat) : cst F0 F1 T U h v i (T 1) = cst F0 F1 T U h v (i + 1) 0 := funext fun z => by
  unfold cst
  rw [fcn_next]
theorem mx_prod (a b c d : Nat) : max (max (max (max 0 (a * c)) (b * c)) (a * d)) (b * d) = max b a * max d c := by
  rcases Nat.le_total a b with h1 | h1 <;> rcases Nat.le_total c d with h2 | h2
  · have := Nat.mul_le_mul h1 h2; have := Nat.mul_le_mul_left a h2; have := Nat.mul_le_mul_left b h2; have := Nat.mul_le_mul_right d h1
    rw [Nat.max_eq_left h1, Nat.max_eq_left h2]; omega
  · have := Nat.mul_le_mul h1 h2; have := Nat.mul_le_mul_left a h2; have := Nat.mul_le_mul_left b h2; have := Nat.mul_le_mul_right c h1
    rw [Nat.max_eq_left h1, Nat.max_eq_right h2]; omega
  · have := Nat.mul_le_mul h1 h2; have := Nat.mul_le_mul_left a h2; have := Nat.mul_le_mul_left b h2; have := Nat.mul_le_mul_right d h1
    rw [Nat.max_eq_right h1, Nat.max_eq_left h2]; omega
  · have := Nat.mul_le_mul h1 h2; have := Nat.mul_le_mul_left a h2; have := Nat.mul_le_mul_left b h2; have := Nat.mul_le_mul_right c h1
    rw [Nat.max_eq_right h1, Nat.max_eq_right h2]; omega
theorem fcn_end (F0 F1 : Nat → Bool) (t1 i : Nat) : fcn F0 F1 t1 i 0 = fb_ct F0 i * fb_ct F1 t1 := by unfold fcn; split <;> simp [fb_ct]
theorem mxs4 (F0 F1 : Nat → Bool) (T U : Nat → Nat) (h : Nat) : mxs (fun z => fcn (cz F0 T U 0 h (decide (z % 2 = 1))) (cz F1 T U 1 h (decide (z / 2 = 1))) (T 1) (T 0) 0) 4 = lft F0 F1 T U h := by
  simp only [fcn_end]
  exact mx_prod _ _ _ _
theorem worstAt_S {T P U : Nat → Nat} {turn phase up : Nat → Int32} (S : Sn T P U turn phase up) {n : Nat} (hn : 4000 ≤ n) {h : Nat} {fit v : Nat → Int32} {F0 F1 : Nat → Bool} (hf : ∀ i j, i < T 0 → j < T 1 → fit (40 * i + j) = bI (F0 i && F1 j)) (hh : h < 2147483000) : f_X8_worstAt n turn up fit v (nI h) = some (nI (lft F0 F1 T U h), cst F0 F1 T U h v (T 0) 0) := by
  obtain ⟨a1, a2, a3, a4, a5, a6, a7⟩ := S 0 (by omega)
  obtain ⟨b1, b2, b3, b4, b5, b6, b7⟩ := S 1 (by omega)
  have inner : ∀ (kx : (Nat → Int32) → Option (Int32 × (Nat → Int32))) (i : Nat), i < T 0 → L_X8_worstAt_51 n turn up fit (nI h) (nI i) (if uq T U 0 i h = 0 then 0 else 1) kx n 0 (cst F0 F1 T U h v i 0) = kx (cst F0 F1 T U h v (i + 1) 0) := by
    intro kx i hi
    refine (lp_st (fun k j (s : Nat → Int32) => L_X8_worstAt_51 n turn up fit (nI h) (nI i) (if uq T U 0 i h = 0 then 0 else 1) kx k (nI j) s) (T 1) kx (fun j => cst F0 F1 T U h v i j)
      (fun k => by rw [L_X8_worstAt_51_s, cl1, b1, if_pos (nI_le (Nat.le_refl _) (by omega))])
      (fun k j hj => by
        have u1 : f_X8_isUpBy n turn up 1 (nI j) (nI h) = some (uq T U 1 j h) := isUpBy_S S n (k := 1) (by omega) (by omega) hh
        have hc := cod_lt (pup T U 0 h i) (pup T U 1 h j)
        rw [L_X8_worstAt_51_s, cl1, b1, if_neg (nI_ge hj (by omega)), show (40 : Int32) * nI i + nI j = nI (40 * i + j) by rw [show (40 : Int32) = nI 40 from rfl, pk_mul, nI_add], ix_in _ (vp_in_nI (show 40 * i + j < 1600 by omega) (by omega)), nI_clamp (by omega), hf i j hi hj, jn1_, u1, bd1_in, lt_, uq_cod, ix_in _ (vp_in_nI hc (by omega)), ix_in _ (vp_in_nI hc (by omega)), nI_clamp (by omega), nI_1]
        cases e : F0 i && F1 j with
        | false => rw [if_pos (show bI false = 0 by decide), ← cst_same F0 F1 T U h v i j e]
        | true => rw [if_neg (show ¬ bI true = 0 by decide), cst_step F0 F1 T U h v i j e])
      (T 1) n 0 (by omega) (by omega)).trans ?_
    rw [cst_next]
  unfold f_X8_worstAt
  refine jn1_i (fun kx2 hkx2 => ?_)
  refine Eq.trans ?_ ((lp_st (fun k i (s : Nat → Int32) => L_X8_worstAt_2 kx2 k (nI i) s) 4 kx2 (fun i => fa_fill (fun _ => 0) v i)
    (fun k => by rw [L_X8_worstAt_2_s, if_pos (show (4 : Int32) ≤ nI 4 by decide)])
    (fun k i hi => by rw [L_X8_worstAt_2_s, if_neg (show ¬ (4 : Int32) ≤ nI i from nI_ge (b := 4) hi (by omega)), ix_in _ (vp_in_nI hi (by omega)), nI_clamp (by omega), nI_1, ← fa_fill_succ])
    4 n 0 (by omega) (by omega)).trans ?_)
  · rw [fa_fill_0]; rfl
  · rw [hkx2]
    refine jn1_i (fun kx22 hkx22 => ?_)
    refine Eq.trans ?_ ((lp_st (fun k i (s : Nat → Int32) => L_X8_worstAt_22 n turn up fit (nI h) kx22 k (nI i) s) (T 0) kx22 (fun i => cst F0 F1 T U h v i 0)
      (fun k => by rw [L_X8_worstAt_22_s, cl0, a1, if_pos (nI_le (Nat.le_refl _) (by omega))])
      (fun k i hi => by
        have u0 : f_X8_isUpBy n turn up 0 (nI i) (nI h) = some (uq T U 0 i h) := isUpBy_S S n (k := 0) (by omega) (by omega) hh
        rw [L_X8_worstAt_22_s, cl0, a1, if_neg (nI_ge hi (by omega)), u0, bd1_in, lt_, jn1_, inner _ i hi, nI_1])
      (T 0) n 0 (by omega) (by omega)).trans ?_)
    · have e0 : cst F0 F1 T U h v 0 0 = fa_fill (fun _ => 0) v 4 := funext fun z => by
        unfold cst fa_fill
        rw [fcn_end, show ∀ p, fb_ct p 0 = 0 from fun _ => rfl, Nat.zero_mul]; rfl
      rw [e0]; rfl
    · rw [hkx22]
      refine jn1_i (fun kx hkx => ?_)
      refine (lp_st (fun k i (s : Int32) => L_X8_worstAt_120 (cst F0 F1 T U h v (T 0) 0) kx k s (nI i)) 4 kx (fun i => nI (mxs (fun z => fcn (cz F0 T U 0 h (decide (z % 2 = 1))) (cz F1 T U 1 h (decide (z / 2 = 1))) (T 1) (T 0) 0) i))
        (fun k => by rw [L_X8_worstAt_120_s, if_pos (show (4 : Int32) ≤ nI 4 by decide)])
        (fun k i hi => by
          have hle : ∀ z, fcn (cz F0 T U 0 h (decide (z % 2 = 1))) (cz F1 T U 1 h (decide (z / 2 = 1))) (T 1) (T 0) 0 ≤ 1640 := fun z => fcn_le b5 a5 (by omega)
          have hm := mxs_le (A := fun z => fcn (cz F0 T U 0 h (decide (z % 2 = 1))) (cz F1 T U 1 h (decide (z / 2 = 1))) (T 1) (T 0) 0) i (fun j _ => hle j)
          have hc : cst F0 F1 T U h v (T 0) 0 i = nI (fcn (cz F0 T U 0 h (decide (i % 2 = 1))) (cz F1 T U 1 h (decide (i / 2 = 1))) (T 1) (T 0) 0) := if_pos hi
          have hl := hle i
          rw [L_X8_worstAt_120_s, if_neg (show ¬ (4 : Int32) ≤ nI i from nI_ge (b := 4) hi (by omega)), ix_in _ (vp_in_nI hi (by omega)), nI_clamp (by omega), jn1_, ix_in _ (vp_in_nI hi (by omega)), hc, nI_1, mxs_s, ← mx_le (by omega) (by omega)]
          split <;> rfl)
        4 n 0 (by omega) (by omega)).trans ?_
      rw [mxs4, hkx]
theorem cst_over (F0 F1 : Nat → Bool) (T U : Nat → Nat) (h g : Nat) (v : Nat → Int32) (i j k l : Nat) : cst F0 F1 T U h (cst F0 F1 T U g v k l) i j = cst F0 F1 T U h v i j := funext fun z => by
  unfold cst
  by_cases c : z < 4
  · rw [if_pos c, if_pos c]
  · rw [if_neg c, if_neg c, if_neg c]
def sp_watch (T U : Nat → Nat) (sq : Nat → Int32) (H : Nat) (w : Int32) : Int32 := if fb_ct (fq T U sq H 0) (T 0) * fb_ct (fq T U sq H 1) (T 1) = 0 then -3 else if w = 0 then nI (bh (lft (fq T U sq H 0) (fq T U sq H 1) T U) H (rd T - 1)) else nI (lft (fq T U sq H 0) (fq T U sq H 1) T U (bh (lft (fq T U sq H 0) (fq T U sq H 1) T U) H (rd T - 1)))
theorem sp_watch_cong {T U : Nat → Nat} {a b : Nat → Int32} {H : Nat} (h : ∀ i, i < H → a i = b i) (w : Int32) : sp_watch T U a H w = sp_watch T U b H w := by
  have e0 : fq T U a H 0 = fq T U b H 0 := funext (fun p => fq_cong h 0 p)
  have e1 : fq T U a H 1 = fq T U b H 1 := funext (fun p => fq_cong h 1 p)
  unfold sp_watch
  rw [e0, e1]
theorem watch_S {T P U : Nat → Nat} {turn phase up : Nat → Int32} (S : Sn T P U turn phase up) {n : Nat} (hn : 4000 ≤ n) {d : Nat} {b : Nat → Int32} (hd : d ≤ 60) (v y : Nat → Nat → Int32) {w : Int32} (hw : w = 0 ∨ w = 1) : ∃ o p, f_X7_watch n turn up v y (nI d) b w = some (sp_watch T U (fun i => seen (b i)) (dhours b d) w, o, p) := by
  obtain ⟨a1, a2, a3, a4, a5, a6, a7⟩ := S 0 (by omega)
  obtain ⟨b1, b2, b3, b4, b5, b6, b7⟩ := S 1 (by omega)
  obtain ⟨o, e, ho⟩ := findFittingPhases_S S hn (b := b) hd v
  obtain ⟨r1, r2, -⟩ := rd_facts S
  have hH := dhours_le b d
  have o3 : f_X7_outside n w 0 1 = some 0 := by rcases hw with rfl | rfl <;> rfl
  have l0 := fb_ct_le (fq T U (fun i => seen (b i)) (dhours b d) 0) (T 0)
  have l1 := fb_ct_le (fq T U (fun i => seen (b i)) (dhours b d) 1) (T 1)
  unfold f_X7_watch sp_watch
  rw [o3, bd1_in, if_pos rfl, e, bd1_in, fittingPhases_S S hn (q := 0) (by omega) (ho 0 (by omega)), bd1_in, fittingPhases_S S hn (q := 1) (by omega) (ho 1 (by omega)), bd1_in, findLeft_S S hn (q := 0) (by omega) (ho 0 (by omega)), bd1_in, findLeft_S S hn (q := 1) (by omega) (ho 1 (by omega)), bd1_in, hours_D hn hd, bd1_in]
  by_cases z0 : fb_ct (fq T U (fun i => seen (b i)) (dhours b d) 0) (T 0) = 0
  · rw [z0, if_pos (show nI 0 = 0 from rfl), if_pos (Nat.zero_mul _)]; exact ⟨_, _, rfl⟩
  · rw [if_neg (nI_ne0 (by omega) (by omega))]
    by_cases z1 : fb_ct (fq T U (fun i => seen (b i)) (dhours b d) 1) (T 1) = 0
    · rw [z1, if_pos (show nI 0 = 0 from rfl), if_pos (Nat.mul_zero _)]; exact ⟨_, _, rfl⟩
    · rw [if_neg (nI_ne0 (by omega) (by omega)), if_neg (fun z => by rcases Nat.mul_eq_zero.mp z with q | q; exact z0 q; exact z1 q)]
      have hb := bh_le (lft (fq T U (fun i => seen (b i)) (dhours b d) 0) (fq T U (fun i => seen (b i)) (dhours b d) 1) T U) (dhours b d) (rd T - 1)
      have g0 : ∀ (x : Nat → Nat → Int32) (u : Nat → Int32) p, p < T 0 → va_up (va_up x 0 (fa_fill (fun h => nI (wl (fq T U (fun i => seen (b i)) (dhours b d) 0) T U 0 h)) (y 0) (T 0))) 1 u 0 p = nI (wl (fq T U (fun i => seen (b i)) (dhours b d) 0) T U 0 p) := fun x u p hp => by
        rw [vu_n _ _ (show ¬ 0 = 1 by decide), vu_s, fa_fill_in hp]
      have g1 : ∀ (x : Nat → Nat → Int32) (u : Nat → Int32) p, p < T 1 → va_up x 1 (fa_fill (fun h => nI (wl (fq T U (fun i => seen (b i)) (dhours b d) 1) T U 1 h)) u (T 1)) 1 p = nI (wl (fq T U (fun i => seen (b i)) (dhours b d) 1) T U 1 p) := fun x u p hp => by
        rw [vu_s, fa_fill_in hp]
      rw [hourToWatch_S S hn (g0 _ _) (g1 _ _) (by omega), bd1_in]
      rcases hw with rfl | rfl
      · rw [if_pos rfl, if_pos rfl]; exact ⟨_, _, rfl⟩
      · rw [if_neg (show ¬ (1 : Int32) = 0 by decide), if_neg (show ¬ (1 : Int32) = 0 by decide), left4_S S n (g0 _ _) (g1 _ _) (by omega), bd1_in]; exact ⟨_, _, rfl⟩
theorem watchOf_S {T P U : Nat → Nat} {turn phase up : Nat → Int32} (S : Sn T P U turn phase up) {n : Nat} (hn : 4000 ≤ n) {d c : Nat} {ty tx dy lo ft ct : Nat → Int32} {mh mm fm fi : Int32} (hd : d ≤ 60) (hc : c ≤ 20) (t0 : ty 0 = nI d) (t1 : ty 1 = nI c) (w : Int32) : ∃ h2 m2 a2 b2 w1 w2 g2 c2, f_X8_watchOf n mh mm fm fi turn up ty tx dy lo ft ct w = some (sp_watch T U (fun i => seen (tx i)) (dhours tx d) w, h2, m2, a2, b2, w1, w2, g2, c2) := by
  obtain ⟨a1, a2, a3, a4, a5, a6, a7⟩ := S 0 (by omega)
  obtain ⟨b1, b2, b3, b4, b5, b6, b7⟩ := S 1 (by omega)
  obtain ⟨w1, w2, g2, e, hg⟩ := laysFits_S S hn (mh := mh) (mm := mm) (fm := fm) (fi := fi) (tx := tx) (dy := dy) (lo := lo) (ft := ft) hd hc t0 t1 rfl
  obtain ⟨r1, r2, -⟩ := rd_facts S
  have hH := dhours_le tx d
  have l0 := fb_ct_le (fq T U (fun i => seen (tx i)) (dhours tx d) 0) (T 0)
  have l1 := fb_ct_le (fq T U (fun i => seen (tx i)) (dhours tx d) 1) (T 1)
  have l2 := Nat.mul_le_mul (Nat.le_trans l0 a5) (Nat.le_trans l1 b5)
  unfold f_X8_watchOf sp_watch
  rw [e, bd7_in]
  generalize dhours tx d = H at *
  generalize fq T U (fun i => seen (tx i)) H 0 = F0 at *
  generalize fq T U (fun i => seen (tx i)) H 1 = F1 at *
  generalize fb_ct F0 (T 0) * fb_ct F1 (T 1) = N at *
  by_cases z : N = 0
  · rw [z, if_pos (show nI 0 = 0 from rfl), if_pos rfl]; exact ⟨_, _, _, _, _, _, _, _, rfl⟩
  · simp only [if_neg z]
    rw [if_neg (nI_ne0 (by omega) (by omega)), roundNow_S S hn, bd1_in, worstAt_S S hn hg (by omega), bd2_in]
    have key : ∀ (kx : Int32 → Int32 → (Nat → Int32) → Option (Int32 × Int32 × Int32 × Int32 × Int32 × (Nat → Int32) × (Nat → Int32) × (Nat → Int32) × (Nat → Int32))), L_X8_watchOf_42 n turn up (nI H) g2 (nI (rd T)) kx n (nI H) (nI (lft F0 F1 T U H)) (nI (H + 1)) (cst F0 F1 T U H ct (T 0) 0) = kx (nI (bh (lft F0 F1 T U) H (rd T - 1))) (nI (lft F0 F1 T U (bh (lft F0 F1 T U) H (rd T - 1)))) (cst F0 F1 T U (H + (rd T - 1)) ct (T 0) 0) := fun kx =>
      (lp_st (fun k m (s : Int32 × Int32 × (Nat → Int32)) => L_X8_watchOf_42 n turn up (nI H) g2 (nI (rd T)) kx k s.1 s.2.1 (nI (H + 1 + m)) s.2.2) (rd T - 1) (fun s => kx s.1 s.2.1 s.2.2) (fun m => (nI (bh (lft F0 F1 T U) H m), nI (lft F0 F1 T U (bh (lft F0 F1 T U) H m)), cst F0 F1 T U (H + m) ct (T 0) 0))
        (fun k => by rw [L_X8_watchOf_42_s, nI_add, if_pos (nI_le (by omega) (by omega))])
        (fun k m hm => by
          obtain ⟨e1, e2⟩ := bh_if (g := lft F0 F1 T U) (H := H) (m := m) (lft_le S F0 F1)
          rw [L_X8_watchOf_42_s, nI_add, if_neg (nI_ge (by omega) (by omega)), worstAt_S S hn hg (by omega), bd2_in, lt_, lt_, e1, e2, nI_1, cst_over, show cst F0 F1 T U (H + 1 + m) ct (T 0) 0 = cst F0 F1 T U (H + (m + 1)) ct (T 0) 0 by rw [show H + 1 + m = H + (m + 1) by omega]]
          rfl)
        (rd T - 1) n 0 (by omega) (by omega))
    rw [jn3_, nI_1 H, key]
    by_cases y : w = 0
    · rw [if_pos y, if_pos y]; exact ⟨_, _, _, _, _, _, _, _, rfl⟩
    · rw [if_neg y, if_neg y]; exact ⟨_, _, _, _, _, _, _, _, rfl⟩
theorem e_watch {T P U : Nat → Nat} {turn phase up mt mp mu : Nat → Int32} (S : Sn T P U turn phase up) (S2 : Sn T P U mt mp mu) {n : Nat} (hn : 4000 ≤ n) {ds cs mh mm fm fi : Int32} {db cb ty tx dy lo ft ct : Nat → Int32} (R : RD ds db cs cb ty tx) (v y : Nat → Nat → Int32) (x : Int32) : ∃ r o p h2 m2 a2 b2 w1 w2 g2 c2, f_X7_watch n turn up v y ds db x = some (r, o, p) ∧ f_X8_watch n mh mm fm fi mt mu ty tx dy lo ft ct x = some (r, h2, m2, a2, b2, w1, w2, g2, c2) := by
  obtain ⟨d, c, hd, hc, rfl, rfl, t0, t1, s1, s2, s3, s4, R1, R2⟩ := RD_same R
  by_cases c1 : x < 0 ∨ (1 : Int32) < x
  · refine ⟨-2, v, y, mh, mm, fm, fi, dy, lo, ft, ct, ?_, ?_⟩
    · unfold f_X7_watch; rw [outside_v, if_pos c1]; rfl
    · unfold f_X8_watch; rw [in_v, if_pos c1]; rfl
  · obtain ⟨o, p, e1⟩ := watch_S S hn (b := db) hd v y (in2 c1)
    obtain ⟨h2, m2, a2, b2, w1, w2, g2, c2, e2⟩ := watchOf_S S2 hn (mh := mh) (mm := mm) (fm := fm) (fi := fi) (tx := tx) (dy := dy) (lo := lo) (ft := ft) (ct := ct) hd hc t0 t1 x
    refine ⟨_, o, p, h2, m2, a2, b2, w1, w2, g2, c2, e1, ?_⟩
    unfold f_X8_watch
    rw [in_v, if_neg c1, bd1_in, if_neg (by decide), e2, bd9_in]
    have hdh := dhours_le tx d
    rw [s2, sp_watch_cong (a := fun i => seen (db i)) (b := fun i => seen (tx i)) (fun i hi => by rw [R1 i (by omega)])]
