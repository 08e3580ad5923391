/-! by which phases a diary can have been -/
def bt (s : Int32) (q : Nat) : Int32 := if ((s >>> (nI q &&& 31)) &&& 1) = 1 then 1 else 0
def uq (T U : Nat → Nat) (q p i : Nat) : Int32 := if (i + p) % T q < U q then 1 else 0
def badq (T U : Nat → Nat) (sq : Nat → Int32) (q p i : Nat) : Bool := decide (¬ sq i = -1 ∧ ¬ bt (sq i) q = uq T U q p i)
def fq (T U : Nat → Nat) (sq : Nat → Int32) (H q p : Nat) : Bool := (ff (badq T U sq q p) 0 H).isNone
theorem fq_cong {T U : Nat → Nat} {a b : Nat → Int32} {H : Nat} (h : ∀ i, i < H → a i = b i) (q p : Nat) : fq T U a H q p = fq T U b H q p := by
  unfold fq
  have e : ff (badq T U a q p) 0 H = ff (badq T U b q p) 0 H := ff_cong H 0 (fun j _ hj => by unfold badq; rw [h j (by omega)])
  rw [e]
theorem up_leB {T P U : Nat → Nat} {turn phase up : Nat → Int32} (S : Sn T P U turn phase up) {k : Nat} (hk : k < 2) (h : Nat) {A : Type} (a b : A) : (if up k ≤ nI (h % T k) then a else b) = if h % T k < U k then b else a := by
  obtain ⟨h1, h2, h3, h4, h5, h6, h7⟩ := S k hk
  have hp := Nat.mod_lt h (show 0 < T k by omega)
  rw [h3]
  by_cases c : h % T k < U k
  · rw [if_pos c, if_neg (nI_ge c (by omega))]
  · rw [if_neg c, if_pos (nI_le (by omega) (by omega))]
theorem placeBy_S {T P U : Nat → Nat} {turn phase up : Nat → Int32} (S : Sn T P U turn phase up) (n : Nat) {k p h : Nat} (hk : k < 2) (hp : p ≤ 40) (hh : h < 2147483000) : f_X5_placeBy n (turn k) (nI p) (nI h) = some (nI ((h + p) % T k)) := by
  obtain ⟨h1, h2, h3, h4, h5, h6, h7⟩ := S k hk
  rw [h1, placeBy_v n h4 h5 hp hh]
theorem isUpBy_S {T P U : Nat → Nat} {turn phase up : Nat → Int32} (S : Sn T P U turn phase up) (n : Nat) {k p h : Nat} (hk : k < 2) (hp : p ≤ 40) (hh : h < 2147483000) : f_X8_isUpBy n turn up (nI k) (nI p) (nI h) = some (uq T U k p h) := by
  obtain ⟨h1, h2, h3, h4, h5, h6, h7⟩ := S k hk
  unfold f_X8_isUpBy uq
  rw [ix_in _ (vp_in_nI hk (by omega)), nI_clamp (by omega), h1, nz_in _ (nI_ne0 (by omega) (by omega)), ix_in _ (vp_in_nI hk (by omega)), nI_add, pk_rem (by omega) (by omega) (by omega), up_leB S hk]
  split <;> rfl
theorem fitsWith_S {T P U : Nat → Nat} {turn phase up : Nat → Int32} (S : Sn T P U turn phase up) {n : Nat} (hn : 4000 ≤ n) {q p d H : Nat} {b : Nat → Int32} (hq : q < 2) (hp : p ≤ 40) (hd : d ≤ 60) (hH : H ≤ d) : f_X5_fitsWith n (turn q) (up q) (nI d) b (nI p) (nI H) (nI q) = some (if fq T U (fun i => seen (b i)) H q p = true then 1 else 0) := by
  unfold f_X5_fitsWith
  refine jn0_i (fun kx hkx => ?_)
  refine (lp_ff (fun k i => L_X5_fitsWith_3 n (turn q) (up q) (nI d) b (nI p) (nI H) (nI q) kx k (nI i)) H kx (badq T U (fun i => seen (b i)) q p) (fun _ => some 0)
    (fun k => by rw [L_X5_fitsWith_3_s, if_pos (nI_le (Nat.le_refl _) (by omega))])
    (fun k i hi => by
      rw [L_X5_fitsWith_3_s, if_neg (nI_ge hi (by omega)), seenIn_v hd (by omega), bd1_in, placeBy_S S n hq hp (by omega)]
      simp only [lt_, jn0_, bd1_in, nI_1]
      rw [up_leB S hq]
      show (if seen (b i) = -1 then _ else if bt (seen (b i)) q = uq T U q p i then _ else some 0) = _
      unfold badq
      by_cases c : seen (b i) = -1
      · simp [c]
      · by_cases e : bt (seen (b i)) q = uq T U q p i
        · simp [c, e]
        · simp [c, e])
    H n 0 (by omega) (by omega)).trans ?_
  unfold fq
  cases ff (badq T U (fun i => seen (b i)) q p) 0 H with
  | none => rw [hkx]; rfl
  | some j => rfl
def bI (b : Bool) : Int32 := if b = true then 1 else 0
theorem nar_bI (b : Bool) : vp_nar .boolean (if b = true then 1 else 0) = bI b := by cases b <;> decide
theorem bI_0 (b : Bool) : (bI b = 0) ↔ b = false := by cases b <;> decide
theorem findFitting_S {T P U : Nat → Nat} {turn phase up : Nat → Int32} (S : Sn T P U turn phase up) {n : Nat} (hn : 4000 ≤ n) {q d H : Nat} {b : Nat → Int32} (hq : q < 2) (hd : d ≤ 60) (hH : H ≤ d) (v : Nat → Int32) : f_X5_findFitting n (turn q) (up q) v (nI d) b (nI H) (nI q) = some (fa_fill (fun p => bI (fq T U (fun i => seen (b i)) H q p)) v (T q)) := by
  obtain ⟨h1, h2, h3, h4, h5, h6, h7⟩ := S q hq
  unfold f_X5_findFitting
  refine jn1_i (fun kx hkx => ?_)
  refine Eq.trans ?_ ((lp_st (fun k i (s : Nat → Int32) => L_X5_findFitting_3 n (turn q) (up q) (nI d) b (nI H) (nI q) kx k (nI i) s) (T q) kx (fun i => fa_fill (fun p => bI (fq T U (fun i => seen (b i)) H q p)) v i)
    (fun k => by rw [L_X5_findFitting_3_s, if_pos (by rw [h1]; exact nI_le (Nat.le_refl _) (by omega))])
    (fun k i hi => by
      rw [L_X5_findFitting_3_s, if_neg (by rw [h1]; exact nI_ge hi (by omega)), if_neg (show ¬ (40 : Int32) ≤ nI i from nI_ge (b := 40) (by omega) (by omega)), fitsWith_S S hn hq (by omega) hd hH, bd1_in, ix_in _ (vp_in_nI (show i < 40 by omega) (by omega)), nI_clamp (by omega), nar_bI, nI_1, ← fa_fill_succ])
    (T q) n 0 (by omega) (by omega)).trans (hkx _))
  rw [fa_fill_0]; rfl
theorem fittingPhases_S {T P U : Nat → Nat} {turn phase up : Nat → Int32} (S : Sn T P U turn phase up) {n : Nat} (hn : 4000 ≤ n) {q : Nat} (hq : q < 2) {v : Nat → Int32} {F : Nat → Bool} (hv : ∀ p, p < T q → v p = bI (F p)) : f_X5_fittingPhases n (turn q) v = some (nI (fb_ct F (T q))) := by
  obtain ⟨h1, h2, h3, h4, h5, h6, h7⟩ := S q hq
  unfold f_X5_fittingPhases
  refine jn1_i (fun kx hkx => ?_)
  refine (lp_st (fun k i (s : Int32) => L_X5_fittingPhases_4 (turn q) v kx k s (nI i)) (T q) kx (fun i => nI (fb_ct F i))
    (fun k => by rw [L_X5_fittingPhases_4_s, if_pos (by rw [h1]; exact nI_le (Nat.le_refl _) (by omega))])
    (fun k i hi => by
      rw [L_X5_fittingPhases_4_s, if_neg (by rw [h1]; exact nI_ge hi (by omega)), if_neg (show ¬ (40 : Int32) ≤ nI i from nI_ge (b := 40) (by omega) (by omega)), ix_in _ (vp_in_nI (show i < 40 by omega) (by omega)), nI_clamp (by omega), lt_, hv i hi, nI_1, fb_ct_succ, nI_1]
      cases F i <;> rfl)
    (T q) n 0 (by omega) (by omega)).trans (hkx _)
theorem firstFitting_S {T P U : Nat → Nat} {turn phase up : Nat → Int32} (S : Sn T P U turn phase up) {n : Nat} (hn : 4000 ≤ n) {q : Nat} (hq : q < 2) {v : Nat → Int32} {F : Nat → Bool} (hv : ∀ p, p < T q → v p = bI (F p)) : f_X5_firstFittingPhase n (turn q) v = some (ffI (ff F 0 (T q))) := by
  obtain ⟨h1, h2, h3, h4, h5, h6, h7⟩ := S q hq
  unfold f_X5_firstFittingPhase
  refine jn0_i (fun kx hkx => ?_)
  refine (lp_ff (fun k i => L_X5_firstFittingPhase_2 (turn q) v kx k (nI i)) (T q) kx F (fun i => some (nI i))
    (fun k => by rw [L_X5_firstFittingPhase_2_s, if_pos (by rw [h1]; exact nI_le (Nat.le_refl _) (by omega))])
    (fun k i hi => by
      rw [L_X5_firstFittingPhase_2_s, if_neg (by rw [h1]; exact nI_ge hi (by omega)), if_neg (show ¬ (40 : Int32) ≤ nI i from nI_ge (b := 40) (by omega) (by omega)), ix_in _ (vp_in_nI (show i < 40 by omega) (by omega)), nI_clamp (by omega), hv i hi, nI_1]
      cases F i <;> rfl)
    (T q) n 0 (by omega) (by omega)).trans ?_
  cases ff F 0 (T q) with
  | none => rw [hkx]; rfl
  | some j => rfl
def isseen (s : Int32) : Prop := s = -1 ∨ s = 0 ∨ s = 1 ∨ s = 2 ∨ s = 3
theorem seen_is (b : Int32) : isseen (seen b) := by 
  unfold isseen seen
  split
  · exact Or.inr (Or.inr (Or.inr (Or.inl rfl)))
  · split
    · exact Or.inr (Or.inr (Or.inr (Or.inr rfl)))
    · split
      · exact Or.inr (Or.inl rfl)
      · split
        · exact Or.inr (Or.inr (Or.inl rfl))
        · exact Or.inl rfl
theorem uq_is (T U : Nat → Nat) (q p i : Nat) : uq T U q p i = 0 ∨ uq T U q p i = 1 := by unfold uq; split <;> simp
theorem bt_both {s a b : Int32} (hs : isseen s) (hm : ¬ s = -1) (ha : a = 0 ∨ a = 1) (hb : b = 0 ∨ b = 1) : (s = (if a = 0 then 0 else 1) + (if b = 0 then 0 else 2)) ↔ (bt s 0 = a ∧ bt s 1 = b) := by
  rcases hs with rfl | rfl | rfl | rfl | rfl
  · exact absurd rfl hm
  all_goals (rcases ha with rfl | rfl <;> rcases hb with rfl | rfl <;> decide)
theorem doFit_S {T P U : Nat → Nat} {turn phase up : Nat → Int32} (S : Sn T P U turn phase up) {n : Nat} (hn : 4000 ≤ n) {p0 p1 H : Nat} {dy : Nat → Int32} (h0 : p0 ≤ 40) (h1 : p1 ≤ 40) (hH : H ≤ 60) (hd : ∀ i, i < H → isseen (dy i)) : f_X8_doFit n (nI H) turn up dy (nI p0) (nI p1) = some (if (fq T U dy H 0 p0 && fq T U dy H 1 p1) = true then 1 else 0) := by
  unfold f_X8_doFit
  refine jn0_i (fun kx hkx => ?_)
  refine (lp_ff (fun k i => L_X8_doFit_2 n (nI H) turn up dy (nI p0) (nI p1) kx k (nI i)) H kx (fun i => badq T U dy 0 p0 i || badq T U dy 1 p1 i) (fun _ => some 0)
    (fun k => by rw [L_X8_doFit_2_s, if_pos (nI_le (Nat.le_refl _) (by omega))])
    (fun k i hi => by
      have u0 : f_X8_isUpBy n turn up 0 (nI p0) (nI i) = some (uq T U 0 p0 i) := isUpBy_S S n (k := 0) (p := p0) (h := i) (by omega) h0 (by omega)
      have u1 : f_X8_isUpBy n turn up 1 (nI p1) (nI i) = some (uq T U 1 p1 i) := isUpBy_S S n (k := 1) (p := p1) (h := i) (by omega) h1 (by omega)
      rw [L_X8_doFit_2_s, if_neg (nI_ge hi (by omega)), u0, bd1_in, lt_, u1, bd1_in, lt_, ix_in _ (vp_in_nI (show i < 60 by omega) (by omega)), nI_clamp (by omega), jn0_, ix_in _ (vp_in_nI (show i < 60 by omega) (by omega)), nI_1]
      unfold badq
      by_cases c : dy i = -1
      · simp [c]
      · have key := bt_both (hd i hi) c (uq_is T U 0 p0 i) (uq_is T U 1 p1 i)
        rw [if_neg c]
        by_cases e : bt (dy i) 0 = uq T U 0 p0 i ∧ bt (dy i) 1 = uq T U 1 p1 i
        · rw [if_pos (key.mpr e)]
          simp [e]
        · rw [if_neg (fun z => e (key.mp z)), if_pos]
          · simp only [c, not_false_eq_true, true_and, Bool.or_eq_true, decide_eq_true_eq]
            by_cases e1 : bt (dy i) 0 = uq T U 0 p0 i
            · exact Or.inr (fun z => e ⟨e1, z⟩)
            · exact Or.inl e1)
    H n 0 (by omega) (by omega)).trans ?_
  have hor : ∀ (a b : Nat → Bool) (m : Nat), (ff (fun i => a i || b i) 0 m).isNone = ((ff a 0 m).isNone && (ff b 0 m).isNone) := fun a b m => by
    cases ea : ff a 0 m with
    | some j =>
      have := ff_some ea
      cases e : ff (fun i => a i || b i) 0 m with
      | some k => rfl
      | none => have z := ff_none e j (by omega) (by omega); rw [this.2.2.1] at z; cases z
    | none =>
      cases eb : ff b 0 m with
      | some j =>
        have := ff_some eb
        cases e : ff (fun i => a i || b i) 0 m with
        | some k => rfl
        | none => have z := ff_none e j (by omega) (by omega); rw [this.2.2.1] at z; simp at z
      | none =>
        rw [ff_all (fun i hi => by rw [ff_none ea i (by omega) (by omega), ff_none eb i (by omega) (by omega)]; rfl)]
        rfl
  unfold fq
  rw [← hor]
  cases ff (fun i => badq T U dy 0 p0 i || badq T U dy 1 p1 i) 0 H with
  | none => exact hkx
  | some j => rfl
/-- the table of the pairs -/
def fcn (F0 F1 : Nat → Bool) (t1 i j : Nat) : Nat := fb_ct F0 i * fb_ct F1 t1 + (if F0 i = true then fb_ct F1 j else 0)
def fmn (F0 F1 : Nat → Bool) (t0 t1 i j : Nat) : Int32 := if fcn F0 F1 t1 i j = 0 then -1 else 40 * ffI (ff F0 0 t0) + ffI (ff F1 0 t1)
def ftb (F0 F1 : Nat → Bool) (t1 : Nat) (v : Nat → Int32) (i j : Nat) : Nat → Int32 := fun z => if (z / 40 < i ∧ z % 40 < t1) ∨ (z / 40 = i ∧ z % 40 < j) then bI (F0 (z / 40) && F1 (z % 40)) else v z
theorem fcn_next (F0 F1 : Nat → Bool) (t1 i : Nat) : fcn F0 F1 t1 i t1 = fcn F0 F1 t1 (i + 1) 0 := by
  unfold fcn
  rw [fb_ct_succ, Nat.add_mul]
  cases F0 i with
  | true => simp only [if_true, Nat.one_mul, fb_ct]; split <;> rfl
  | false => simp only [fb_ct]; split <;> simp
theorem fcn_le {F0 F1 : Nat → Bool} {t1 i j : Nat} (h1 : t1 ≤ 40) (hi : i ≤ 40) (hj : j ≤ 40) : fcn F0 F1 t1 i j ≤ 1640 := by
  unfold fcn
  have a := fb_ct_le F0 i
  have b := fb_ct_le F1 t1
  have c := fb_ct_le F1 j
  have := Nat.mul_le_mul (show fb_ct F0 i ≤ 40 by omega) (show fb_ct F1 t1 ≤ 40 by omega)
  split <;> omega
theorem ftb_next (F0 F1 : Nat → Bool) {t1 i : Nat} (v : Nat → Int32) : ftb F0 F1 t1 v i t1 = ftb F0 F1 t1 v (i + 1) 0 := funext fun z => by
  unfold ftb
  by_cases c : (z / 40 < i ∧ z % 40 < t1) ∨ (z / 40 = i ∧ z % 40 < t1)
  · rw [if_pos c, if_pos (by omega)]
  · rw [if_neg c, if_neg (by omega)]
theorem ftb_step (F0 F1 : Nat → Bool) {t1 i j : Nat} (v : Nat → Int32) (ht : t1 ≤ 40) (hj : j < t1) : upd (ftb F0 F1 t1 v i j) (40 * i + j) (bI (F0 i && F1 j)) = ftb F0 F1 t1 v i (j + 1) := funext fun z => by
  unfold upd ftb
  by_cases c : z = 40 * i + j
  · subst c
    rw [if_pos rfl, if_pos (Or.inr (by omega)), show (40 * i + j) / 40 = i by omega, show (40 * i + j) % 40 = j by omega]
  · rw [if_neg c]
    by_cases d : (z / 40 < i ∧ z % 40 < t1) ∨ (z / 40 = i ∧ z % 40 < j)
    · rw [if_pos d, if_pos (by omega)]
    · rw [if_neg d, if_neg (by omega)]
theorem fcn_step {F0 F1 : Nat → Bool} {t1 i j : Nat} : fcn F0 F1 t1 i (j + 1) = fcn F0 F1 t1 i j + (if (F0 i && F1 j) = true then 1 else 0) := by
  unfold fcn
  rw [fb_ct_succ]
  cases F0 i <;> cases F1 j <;> simp <;> omega
theorem fmn_step {F0 F1 : Nat → Bool} {t0 t1 i j : Nat} (hi : i < t0) (hj : j < t1) : fmn F0 F1 t0 t1 i (j + 1) = if (F0 i && F1 j) = true then (if fcn F0 F1 t1 i j = 0 then 40 * nI i + nI j else fmn F0 F1 t0 t1 i j) else fmn F0 F1 t0 t1 i j := by
  unfold fmn
  rw [fcn_step]
  by_cases c : (F0 i && F1 j) = true
  · rw [if_pos c, if_pos c, if_neg (by omega)]
    by_cases d : fcn F0 F1 t1 i j = 0
    · rw [if_pos d]
      rw [Bool.and_eq_true] at c
      unfold fcn at d
      rw [if_pos c.1] at d
      have p1 : 0 < fb_ct F1 t1 := fb_ct_pos.mpr ⟨j, hj, c.2⟩
      have e1 : fb_ct F1 j = 0 := by omega
      have e0 : fb_ct F0 i = 0 := by
        rcases Nat.eq_zero_or_pos (fb_ct F0 i) with z | z
        · exact z
        · have := Nat.mul_pos z p1; omega
      rw [ff_at (fun k hk => fb_ct_zero.mp e0 k hk) c.1 hi, ff_at (fun k hk => fb_ct_zero.mp e1 k hk) c.2 hj]
      rfl
    · rw [if_neg d, if_neg d]
  · rw [if_neg c, if_neg c, Nat.add_zero]
theorem laysFits_S {T P U : Nat → Nat} {turn phase up : Nat → Int32} (S : Sn T P U turn phase up) {n : Nat} (hn : 4000 ≤ n) {d c H : Nat} {ty tx dy lo ft : Nat → Int32} {mh mm fm fi : Int32} (hd : d ≤ 60) (hc : c ≤ 20) (t0 : ty 0 = nI d) (t1 : ty 1 = nI c) (hHd : H = dhours tx d) : ∃ w1 w2 g2, f_X8_laysFits n mh mm fm fi turn up ty tx dy lo ft = some (nI H, nI (cmon (fun i => tx (60 + i)) c), nI (fb_ct (fq T U (fun i => seen (tx i)) H 0) (T 0) * fb_ct (fq T U (fun i => seen (tx i)) H 1) (T 1)), (if fb_ct (fq T U (fun i => seen (tx i)) H 0) (T 0) * fb_ct (fq T U (fun i => seen (tx i)) H 1) (T 1) = 0 then -1 else 40 * ffI (ff (fq T U (fun i => seen (tx i)) H 0) 0 (T 0)) + ffI (ff (fq T U (fun i => seen (tx i)) H 1) 0 (T 1))), w1, w2, g2) ∧ ∀ i j, i < T 0 → j < T 1 → g2 (40 * i + j) = bI (fq T U (fun i => seen (tx i)) H 0 i && fq T U (fun i => seen (tx i)) H 1 j) := by
  subst hHd
  obtain ⟨a1, a2, a3, a4, a5, a6, a7⟩ := S 0 (by omega)
  obtain ⟨b1, b2, b3, b4, b5, b6, b7⟩ := S 1 (by omega)
  obtain ⟨w1, w2, -, q1, q2, q3⟩ := reads_v hn (mh := mh) (mm := mm) (tx := tx) (dy := dy) (lo := lo) hd hc t0 t1 0
  have hH := dhours_le tx d
  generalize dhours tx d = H at *
  have hF0 : ∀ p, fq T U w1 H 0 p = fq T U (fun i => seen (tx i)) H 0 p := fun p => fq_cong (fun i hi => q2 i hi) 0 p
  have hF1 : ∀ p, fq T U w1 H 1 p = fq T U (fun i => seen (tx i)) H 1 p := fun p => fq_cong (fun i hi => q2 i hi) 1 p
  generalize eF0 : fq T U (fun i => seen (tx i)) H 0 = F0 at *
  generalize eF1 : fq T U (fun i => seen (tx i)) H 1 = F1 at *
  have inner : ∀ (kx : Int32 → Int32 → (Nat → Int32) → Option (Int32 × Int32 × Int32 × Int32 × (Nat → Int32) × (Nat → Int32) × (Nat → Int32))) (i : Nat), i < T 0 → L_X8_laysFits_28 n turn up (nI H) w1 (nI i) kx n 0 (nI (fcn F0 F1 (T 1) i 0)) (fmn F0 F1 (T 0) (T 1) i 0) (ftb F0 F1 (T 1) ft i 0) = kx (nI (fcn F0 F1 (T 1) (i + 1) 0)) (fmn F0 F1 (T 0) (T 1) (i + 1) 0) (ftb F0 F1 (T 1) ft (i + 1) 0) := by
    intro kx i hi
    refine (lp_st (fun k j (s : Int32 × Int32 × (Nat → Int32)) => L_X8_laysFits_28 n turn up (nI H) w1 (nI i) kx k (nI j) s.1 s.2.1 s.2.2) (T 1) (fun s => kx s.1 s.2.1 s.2.2) (fun j => (nI (fcn F0 F1 (T 1) i j), fmn F0 F1 (T 0) (T 1) i j, ftb F0 F1 (T 1) ft i j))
      (fun k => by rw [L_X8_laysFits_28_s, cl1, b1, if_pos (nI_le (Nat.le_refl _) (by omega))])
      (fun k j hj => by
        have hle := fcn_le (F0 := F0) (F1 := F1) (t1 := T 1) (i := i) (j := j) b5 (by omega) (by omega)
        rw [L_X8_laysFits_28_s, cl1, b1, if_neg (nI_ge hj (by omega)), doFit_S S hn (by omega) (by omega) (by omega) (fun z hz => by rw [q2 z hz]; exact seen_is _), bd1_in, hF0, hF1, show (40 : Int32) * nI i + nI j = nI (40 * i + j) by rw [show (40 : Int32) = nI 40 from rfl, pk_mul, nI_add], ix_in _ (vp_in_nI (show 40 * i + j < 1600 by omega) (by omega)), nI_clamp (by omega), nar_bI, ftb_step F0 F1 ft b5 hj]
        simp only [jn0_, jn1_, lt_, nI_1]
        rw [fcn_step, fmn_step hi hj]
        cases F0 i && F1 j with
        | false => 
          simp only [Bool.false_eq_true, if_false, if_true, Nat.add_zero]
          rw [show nI (fcn F0 F1 (T 1) i j) + 0 = nI (fcn F0 F1 (T 1) i j) from i_zero _]
        | true =>
          simp only [if_true]
          rw [if_neg (show ¬ (1 : Int32) = 0 by decide), if_neg (show ¬ (1 : Int32) = 0 by decide), nI_1]
          by_cases z : fcn F0 F1 (T 1) i j = 0
          · rw [z, if_pos (show nI 0 = 0 from rfl), if_pos rfl, show (40 : Int32) * nI i + nI j = nI (40 * i + j) by rw [show (40 : Int32) = nI 40 from rfl, pk_mul, nI_add]]
          · rw [if_neg (nI_ne0 (by omega) (by omega)), if_neg z])
      (T 1) n 0 (by omega) (by omega)).trans ?_
    dsimp only
    rw [fcn_next, ftb_next]
    congr 1
    unfold fmn
    rw [fcn_next]
  refine ⟨w1, w2, ftb F0 F1 (T 1) ft (T 0) 0, ?_, fun i j hi hj => ?_⟩
  · unfold f_X8_laysFits
    rw [q1, bd4_in]
    refine jn3_i (fun kx hkx => ?_)
    refine Eq.trans ?_ ((lp_st (fun k i (s : Int32 × Int32 × (Nat → Int32)) => L_X8_laysFits_16 n turn up (nI H) w1 kx k (nI i) s.1 s.2.1 s.2.2) (T 0) (fun s => kx s.1 s.2.1 s.2.2) (fun i => (nI (fcn F0 F1 (T 1) i 0), fmn F0 F1 (T 0) (T 1) i 0, ftb F0 F1 (T 1) ft i 0))
      (fun k => by rw [L_X8_laysFits_16_s, cl0, a1, if_pos (nI_le (Nat.le_refl _) (by omega))])
      (fun k i hi => by
        rw [L_X8_laysFits_16_s, cl0, a1, if_neg (nI_ge hi (by omega)), jn3_, inner _ i hi, nI_1])
      (T 0) n 0 (by omega) (by omega)).trans ?_)
    · dsimp only
      have e1 : fcn F0 F1 (T 1) 0 0 = 0 := by unfold fcn; simp [fb_ct]
      have e2 : fmn F0 F1 (T 0) (T 1) 0 0 = -1 := by unfold fmn; rw [e1]; rfl
      have e3 : ftb F0 F1 (T 1) ft 0 0 = ft := funext fun z => if_neg (by omega)
      rw [e1, e2, e3]; rfl
    · dsimp only
      rw [hkx]
      have e1 : fcn F0 F1 (T 1) (T 0) 0 = fb_ct F0 (T 0) * fb_ct F1 (T 1) := by unfold fcn; split <;> simp [fb_ct]
      unfold fmn
      rw [e1]
  · unfold ftb
    rw [show (40 * i + j) / 40 = i by omega, show (40 * i + j) % 40 = j by omega, if_pos (Or.inl ⟨hi, hj⟩)]
/-! fits -/
def sp_fits (T U : Nat → Nat) (sq : Nat → Int32) (H : Nat) (w : Int32) : Int32 := if w = 0 then nI (fb_ct (fq T U sq H 0) (T 0) * fb_ct (fq T U sq H 1) (T 1)) else if fb_ct (fq T U sq H 0) (T 0) * fb_ct (fq T U sq H 1) (T 1) = 0 then -1 else 40 * ffI (ff (fq T U sq H 0) 0 (T 0)) + ffI (ff (fq T U sq H 1) 0 (T 1))
theorem vu_s {A : Type} (f : Nat → A) (k : Nat) (v : A) : va_up f k v k = v := by unfold va_up; exact if_pos rfl
theorem vu_n {A : Type} (f : Nat → A) {k j : Nat} (v : A) (h : ¬ j = k) : va_up f k v j = f j := by unfold va_up; exact if_neg h
theorem findFittingPhases_S {T P U : Nat → Nat} {turn phase up : Nat → Int32} (S : Sn T P U turn phase up) {n : Nat} (hn : 4000 ≤ n) {d : Nat} {b : Nat → Int32} (hd : d ≤ 60) (v : Nat → Nat → Int32) : ∃ o, f_X7_findFittingPhases n turn up v (nI d) b = some o ∧ ∀ q, q < 2 → ∀ p, p < T q → o q p = bI (fq T U (fun i => seen (b i)) (dhours b d) q p) := by
  unfold f_X7_findFittingPhases
  have e0 : ∀ v, f_X5_findFitting n (turn 0) (up 0) v (nI d) b (nI (dhours b d)) 0 = _ := fun v => findFitting_S S hn (q := 0) (by omega) hd (dhours_le b d) v
  have e1 : ∀ v, f_X5_findFitting n (turn 1) (up 1) v (nI d) b (nI (dhours b d)) 1 = _ := fun v => findFitting_S S hn (q := 1) (by omega) hd (dhours_le b d) v
  rw [hours_D hn hd, bd1_in, e0, bd1_in, e1, bd1_in]
  refine ⟨_, rfl, fun q hq p hp => ?_⟩
  match q, hq, hp with
  | 0, _, hp =>
    rw [vu_n _ _ (show ¬ 0 = 1 by decide), vu_s, fa_fill_in hp]
  | 1, _, hp =>
    rw [vu_s, fa_fill_in hp]
theorem fits_S {T P U : Nat → Nat} {turn phase up : Nat → Int32} (S : Sn T P U turn phase up) {n : Nat} (hn : 4000 ≤ n) {d : Nat} {b : Nat → Int32} (hd : d ≤ 60) (v : Nat → Nat → Int32) {w : Int32} (hw : w = 0 ∨ w = 1) : ∃ o, f_X7_fits n turn up v (nI d) b w = some (sp_fits T U (fun i => seen (b i)) (dhours b d) w, o) := by
  obtain ⟨a1, a2, a3, a4, a5, a6, a7⟩ := S 0 (by omega)
  obtain ⟨b1, b2, b3, b4, b5, b6, b7⟩ := S 1 (by omega)
  obtain ⟨o, e, ho⟩ := findFittingPhases_S S hn (b := b) hd v
  refine ⟨o, ?_⟩
  have o3 : f_X7_outside n w 0 1 = some 0 := by rcases hw with rfl | rfl <;> rfl
  unfold f_X7_fits sp_fits
  rw [o3, bd1_in, if_pos rfl, e, bd1_in, fittingPhases_S S hn (q := 0) (by omega) (ho 0 (by omega)), bd1_in, fittingPhases_S S hn (q := 1) (by omega) (ho 1 (by omega)), bd1_in, firstFitting_S S hn (q := 0) (by omega) (ho 0 (by omega)), bd1_in, firstFitting_S S hn (q := 1) (by omega) (ho 1 (by omega)), bd1_in, pk_mul]
  have l0 := fb_ct_le (fq T U (fun i => seen (b i)) (dhours b d) 0) (T 0)
  have l1 := fb_ct_le (fq T U (fun i => seen (b i)) (dhours b d) 1) (T 1)
  have l2 := Nat.mul_le_mul (Nat.le_trans l0 a5) (Nat.le_trans l1 b5)
  generalize fb_ct (fq T U (fun i => seen (b i)) (dhours b d) 0) (T 0) * fb_ct (fq T U (fun i => seen (b i)) (dhours b d) 1) (T 1) = N at *
  rcases hw with rfl | rfl
  · rw [if_pos rfl, if_pos rfl]
  · rw [if_neg (show ¬ (1 : Int32) = 0 by decide), if_neg (show ¬ (1 : Int32) = 0 by decide)]
    by_cases z : N = 0
    · rw [z, if_pos (show nI 0 = 0 from rfl), if_pos rfl]
    · rw [if_neg (nI_ne0 (by omega) (by omega)), if_neg z]
theorem sp_fits_cong {T U : Nat → Nat} {a b : Nat → Int32} {H : Nat} (h : ∀ i, i < H → a i = b i) (w : Int32) : sp_fits T U a H w = sp_fits T U b H w := by
  have e0 : fq T U a H 0 = fq T U b H 0 := funext (fun p => fq_cong h 0 p)
  have e1 : fq T U a H 1 = fq T U b H 1 := funext (fun p => fq_cong h 1 p)
  unfold sp_fits
  rw [e0, e1]
theorem fitsOf_S {T P U : Nat → Nat} {turn phase up : Nat → Int32} (S : Sn T P U turn phase up) {n : Nat} (hn : 4000 ≤ n) {d c : Nat} {ty tx dy lo ft : Nat → Int32} {mh mm fm fi : Int32} (hd : d ≤ 60) (hc : c ≤ 20) (t0 : ty 0 = nI d) (t1 : ty 1 = nI c) (w : Int32) : ∃ h2 m2 a2 b2 w1 w2 g2, f_X8_fitsOf n mh mm fm fi turn up ty tx dy lo ft w = some (sp_fits T U (fun i => seen (tx i)) (dhours tx d) w, h2, m2, a2, b2, w1, w2, g2) := by
  obtain ⟨w1, w2, g2, e, -⟩ := laysFits_S S hn (mh := mh) (mm := mm) (fm := fm) (fi := fi) (tx := tx) (dy := dy) (lo := lo) (ft := ft) hd hc t0 t1 rfl
  unfold f_X8_fitsOf sp_fits
  rw [e, bd7_in]
  by_cases z : w = 0
  · rw [if_pos z, if_pos z]; exact ⟨_, _, _, _, _, _, _, rfl⟩
  · rw [if_neg z, if_neg z]; exact ⟨_, _, _, _, _, _, _, rfl⟩
theorem e_fits {T P U : Nat → Nat} {turn phase up mt mp mu : Nat → Int32} (S : Sn T P U turn phase up) (S2 : Sn T P U mt mp mu) {n : Nat} (hn : 4000 ≤ n) {ds cs mh mm fm fi : Int32} {db cb ty tx dy lo ft : Nat → Int32} (R : RD ds db cs cb ty tx) (v : Nat → Nat → Int32) (x : Int32) : ∃ r o h2 m2 a2 b2 w1 w2 g2, f_X7_fits n turn up v ds db x = some (r, o) ∧ f_X8_fits n mh mm fm fi mt mu ty tx dy lo ft x = some (r, h2, m2, a2, b2, w1, w2, g2) := by
  obtain ⟨d, c, hd, hc, rfl, rfl, t0, t1, s1, s2, s3, s4, R1, R2⟩ := RD_same R
  by_cases c1 : x < 0 ∨ (1 : Int32) < x
  · refine ⟨-2, v, mh, mm, fm, fi, dy, lo, ft, ?_, ?_⟩
    · unfold f_X7_fits; rw [outside_v, if_pos c1]; rfl
    · unfold f_X8_fits; rw [in_v, if_pos c1]; rfl
  · obtain ⟨o, e1⟩ := fits_S S hn (b := db) hd v (in2 c1)
    obtain ⟨h2, m2, a2, b2, w1, w2, g2, e2⟩ := fitsOf_S S2 hn (mh := mh) (mm := mm) (fm := fm) (fi := fi) (tx := tx) (dy := dy) (lo := lo) (ft := ft) hd hc t0 t1 x
    refine ⟨_, o, h2, m2, a2, b2, w1, w2, g2, e1, ?_⟩
    unfold f_X8_fits
    rw [in_v, if_neg c1, bd1_in, if_neg (by decide), e2, bd8_in]
    have hdh := dhours_le tx d
    rw [s2, sp_fits_cong (a := fun i => seen (db i)) (b := fun i => seen (tx i)) (fun i hi => by rw [R1 i (by omega)])]
