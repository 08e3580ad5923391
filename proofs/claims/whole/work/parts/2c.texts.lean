/-! the diary -/
theorem byteAt_D {n d i : Nat} {b : Nat → Int32} (hd : d ≤ 60) (hi : i < d) : f_X6_byteAt_D n (nI d) b (nI i) = some (b i) := by
  simp only [f_X6_byteAt_D, jn0_]
  rw [if_neg (nI_pos (by omega)), if_neg (nI_ge hi (by omega)), if_pos (show nI i < 60 from nI_lt (b := 60) (by omega) (by omega)), ix_in _ (vp_in_nI (show i < 60 by omega) (by omega)), nI_clamp (by omega)]
theorem byteAt_C {n d i : Nat} {b : Nat → Int32} (hd : d ≤ 20) (hi : i < d) : f_X6_byteAt_C n (nI d) b (nI i) = some (b i) := by
  simp only [f_X6_byteAt_C, jn0_]
  rw [if_neg (nI_pos (by omega)), if_neg (nI_ge hi (by omega)), if_pos (show nI i < 20 from nI_lt (b := 20) (by omega) (by omega)), ix_in _ (vp_in_nI (show i < 20 by omega) (by omega)), nI_clamp (by omega)]
def seen (b : Int32) : Int32 := if b = 98 then 2 else if b = 100 then 3 else if b = 110 then 0 else if b = 114 then 1 else -1
theorem seenIn_v {n d i : Nat} {b : Nat → Int32} (hd : d ≤ 60) (hi : i < d) : f_X1_seenIn n (nI d) b (nI i) = some (seen (b i)) := by
  unfold f_X1_seenIn seen
  rw [byteAt_D hd hi, bd1_in]
  split
  · rfl
  · split
    · rfl
    · split
      · rfl
      · split <;> rfl
def pbad (b : Nat → Int32) (i : Nat) : Bool := decide (¬ b i = 46 ∧ seen (b i) = -1)
def dfault (b : Nat → Int32) (d : Nat) : Int32 := ffI (ff (pbad b) 0 d)
def dhours (b : Nat → Int32) (d : Nat) : Nat := if ff (pbad b) 0 d = none then d else 0
theorem dhours_le (b : Nat → Int32) (d : Nat) : dhours b d ≤ d := by unfold dhours; split <;> omega
theorem pbad_cong {a b : Nat → Int32} {d : Nat} (h : ∀ i, i < d → a i = b i) : ff (pbad a) 0 d = ff (pbad b) 0 d := ff_cong d 0 (fun j _ hj => by unfold pbad; rw [h j (by omega)])
theorem firstFault_D {n d : Nat} (hn : 4000 ≤ n) {b : Nat → Int32} (hd : d ≤ 60) : f_X1_firstFault n (nI d) b = some (dfault b d) := by
  unfold f_X1_firstFault
  rw [jn0_]
  refine (lp_ff (fun k i => L_X1_firstFault_2 n (nI d) b (some (-1)) k (nI i)) d (some (-1)) (pbad b) (fun i => some (nI i))
    (fun k => by rw [L_X1_firstFault_2_s, if_pos (nI_le (Nat.le_refl _) (by omega))])
    (fun k i hi => by
      rw [L_X1_firstFault_2_s, if_neg (nI_ge hi (by omega)), byteAt_D hd hi, bd1_in, seenIn_v hd hi]
      simp only [bd1_in, jn0_, nI_1]
      unfold pbad
      by_cases c : b i = 46
      · simp [c]
      · by_cases e : seen (b i) = -1
        · simp [c, e]
        · simp [c, e])
    d n 0 (by omega) (by omega)).trans ?_
  unfold dfault
  cases ff (pbad b) 0 d <;> rfl
theorem ffI_none {o : Option Nat} (h : ∀ j, o = some j → j < 2 ^ 31) : (ffI o = -1) ↔ o = none := by
  cases o with
  | none => simp [ffI]
  | some j =>
    simp only [ffI, reduceCtorEq, iff_false]
    intro q
    have := nI_pos (h j rfl)
    rw [q] at this
    exact this (by decide)
theorem dfault_none (b : Nat → Int32) {d : Nat} (hd : d ≤ 60) : (dfault b d = -1) ↔ ff (pbad b) 0 d = none := ffI_none (fun j hj => by have := ff_some hj; omega)
theorem hours_D {n d : Nat} (hn : 4000 ≤ n) {b : Nat → Int32} (hd : d ≤ 60) : f_X1_hours n (nI d) b = some (nI (dhours b d)) := by
  unfold f_X1_hours dhours
  rw [firstFault_D hn hd, bd1_in]
  by_cases c : ff (pbad b) 0 d = none
  · rw [if_pos ((dfault_none b hd).mpr c), if_pos c]
  · rw [if_neg (fun q => c ((dfault_none b hd).mp q)), if_neg c]; rfl
def plook (b : Nat → Int32) (i : Nat) : Bool := decide (¬ seen (b i) = -1)
theorem hoursLooked_D {n d : Nat} (hn : 4000 ≤ n) {b : Nat → Int32} (hd : d ≤ 60) : f_X1_hoursLooked n (nI d) b = some (nI (fb_ct (plook b) (dhours b d))) := by
  have hle := dhours_le b d
  unfold f_X1_hoursLooked
  rw [hours_D hn hd, bd1_in]
  refine jn1_i (fun kx hkx => ?_)
  refine (lp_st (fun k i s => L_X1_hoursLooked_9 n (nI d) b (nI (dhours b d)) kx k s (nI i)) (dhours b d) kx (fun i => nI (fb_ct (plook b) i))
    (fun k => by rw [L_X1_hoursLooked_9_s, if_pos (nI_le (Nat.le_refl _) (by omega))])
    (fun k i hi => by
      rw [L_X1_hoursLooked_9_s, if_neg (nI_ge hi (by omega)), seenIn_v hd (by omega), bd1_in, lt_, fb_ct_succ, nI_if]
      simp only [nI_1]
      unfold plook
      by_cases c : seen (b i) = -1
      · simp [c]
      · simp [c])
    (dhours b d) n 0 (by omega) (by omega)).trans ?_
  rw [hkx]
theorem readsDiary_v {n d : Nat} (hn : 4000 ≤ n) {ty tx dy : Nat → Int32} {h0 : Int32} (hd : d ≤ 60) (ht : ty 0 = nI d) : ∃ w, f_X8_readsDiary n h0 ty tx dy = some (dfault tx d, nI (dhours tx d), w) ∧ ∀ i, i < dhours tx d → w i = seen (tx i) := by
  have key : ∀ (m k i : Nat) (w : Nat → Int32), i + m = d → m < k → (∀ j, j < i → w j = seen (tx j)) → ∃ w2, L_X8_readsDiary_7 ty tx (fun u => some (-1, ty (0 : Int32).toNatClampNeg, u)) k (nI i) w = (match ff (pbad tx) i m with | some j => some (nI j, 0, w2) | none => some (-1, nI d, w2)) ∧ (ff (pbad tx) i m = none → ∀ j, j < d → w2 j = seen (tx j)) := by
    intro m
    induction m with
    | zero =>
      intro k i w h1 h2 hw
      obtain ⟨k, rfl⟩ : ∃ q, k = q + 1 := ⟨k - 1, by omega⟩
      refine ⟨w, ?_, fun _ j hj => hw j (by omega)⟩
      rw [L_X8_readsDiary_7_s, cl0, ht, if_pos (nI_le (by omega) (by omega))]; rfl
    | succ m ih =>
      intro k i w h1 h2 hw
      obtain ⟨k, rfl⟩ : ∃ q, k = q + 1 := ⟨k - 1, by omega⟩
      rw [L_X8_readsDiary_7_s, cl0, ht, if_neg (nI_ge (show i < d by omega) (by omega)), ix_in _ (vp_in_nI (show i < 120 by omega) (by omega)), nI_clamp (show i < 2 ^ 31 by omega), ff_s]
      simp only [jn0_, jn1_, ix_in _ (vp_in_nI (show i < 60 by omega) (show 60 < 2 ^ 31 by omega)), nI_1]
      have hupd : ∀ v, v = seen (tx i) → ∀ j, j < i + 1 → (upd w i v) j = seen (tx j) := fun v hv j hj => by
        unfold upd
        by_cases c : j = i
        · rw [if_pos c, hv, c]
        · rw [if_neg c]; exact hw j (by omega)
      have e0 : (fun u => some ((-1 : Int32), nI d, u)) = (fun u : Nat → Int32 => some (-1, ty (0 : Int32).toNatClampNeg, u)) := by rw [cl0, ht]
      simp only [← ht, ← cl0] at e0
      by_cases c1 : tx i = 110
      · have hs : seen (tx i) = 0 := by rw [c1]; decide
        have hb : pbad tx i = false := by unfold pbad; rw [hs]; simp
        have := ih k (i + 1) (upd w i 0) (by omega) (by omega) (hupd 0 hs.symm)
        simpa [c1, hb, cl0, ht] using this
      by_cases c2 : tx i = 114
      · have hs : seen (tx i) = 1 := by rw [c2]; decide
        have hb : pbad tx i = false := by unfold pbad; rw [hs]; simp
        have := ih k (i + 1) (upd w i 1) (by omega) (by omega) (hupd 1 hs.symm)
        simpa [c1, c2, hb, cl0, ht] using this
      by_cases c3 : tx i = 98
      · have hs : seen (tx i) = 2 := by rw [c3]; decide
        have hb : pbad tx i = false := by unfold pbad; rw [hs]; simp
        have := ih k (i + 1) (upd w i 2) (by omega) (by omega) (hupd 2 hs.symm)
        simpa [c1, c2, c3, hb, cl0, ht] using this
      by_cases c4 : tx i = 100
      · have hs : seen (tx i) = 3 := by rw [c4]; decide
        have hb : pbad tx i = false := by unfold pbad; rw [hs]; simp
        have := ih k (i + 1) (upd w i 3) (by omega) (by omega) (hupd 3 hs.symm)
        simpa [c1, c2, c3, c4, hb, cl0, ht] using this
      have hs : seen (tx i) = -1 := by unfold seen; rw [if_neg c3, if_neg c4, if_neg c1, if_neg c2]
      by_cases c5 : tx i = 46
      · have hb : pbad tx i = false := by unfold pbad; simp [c5]
        have := ih k (i + 1) (upd w i (-1)) (by omega) (by omega) (hupd (-1) hs.symm)
        simpa [c1, c2, c3, c4, c5, hb, cl0, ht] using this
      · have hb : pbad tx i = true := by unfold pbad; simp [c5, hs]
        exact ⟨w, by simp [c1, c2, c3, c4, c5, hb], fun q => by simp [hb] at q⟩
  obtain ⟨w2, q1, q2⟩ := key d n 0 dy (by omega) (by omega) (fun j hj => by omega)
  refine ⟨w2, ?_, fun i hi => ?_⟩
  · unfold f_X8_readsDiary
    rw [jn1_]
    refine q1.trans ?_
    unfold dfault dhours
    cases ff (pbad tx) 0 d <;> rfl
  · unfold dhours at hi
    by_cases c : ff (pbad tx) 0 d = none
    · rw [if_pos c] at hi; exact q2 c i hi
    · rw [if_neg c] at hi; omega
/-! the calendar -/
def fg (b : Int32) : Bool := decide (¬ (b < 48 ∨ (57 : Int32) < b))
theorem isFigure_v (n : Nat) (b : Int32) : f_X0_isFigure n b = some (if fg b = true then 1 else 0) := by
  show (if b < 48 then some 0 else if (57 : Int32) < b then some 0 else some 1) = _
  unfold fg
  by_cases c : b < 48
  · simp [c]
  · by_cases d : (57 : Int32) < b
    · simp [c, d]
    · simp [c, d]
theorem fg_sub (b : Int32) : (b - 48 < 0 ∨ (9 : Int32) < b - 48) ↔ (b < 48 ∨ (57 : Int32) < b) := by
  have h0 : (0 : Int32).toInt = 0 := rfl
  have h9 : (9 : Int32).toInt = 9 := by decide
  have h48 : (48 : Int32).toInt = 48 := by decide
  have h57 : (57 : Int32).toInt = 57 := by decide
  have hb := fb_rng b
  simp only [fa_lt, h0, h9, h48, h57]
  by_cases c : -2147483600 ≤ b.toInt
  · rw [fb_subI (by omega) (by omega), h48]; omega
  · have e : (b - 48).toInt = b.toInt - 48 + 4294967296 := by
      rw [Int32.toInt_sub, h48, Int.bmod]
      split <;> omega
    rw [e]; omega
theorem figureAt_v {n c k : Nat} {ty tx : Nat → Int32} (hc : c ≤ 20) (hk : k ≤ 30) (ht : ty 1 = nI c) : f_X8_figureAt n ty tx (nI k) = some (if k < c ∧ fg (tx (60 + k)) = true then tx (60 + k) - 48 else -1) := by
  simp only [f_X8_figureAt, cl1, ht, in_v, bd1_in, bz_neg, jn1_]
  rcases Nat.lt_or_ge k c with q | q
  · rw [if_neg (nI_ge q (by omega)), show (60 : Int32) + nI k = nI (60 + k) from nI_add 60 k, ix_in _ (vp_in_nI (show 60 + k < 120 by omega) (by omega)), nI_clamp (show 60 + k < 2 ^ 31 by omega)]
    by_cases e : tx (60 + k) < 48 ∨ (57 : Int32) < tx (60 + k)
    · rw [if_pos ((fg_sub _).mpr e), if_neg (fun z => by have := z.2; unfold fg at this; simp at this; rcases e with e | e; exact absurd e (by simpa using this.1); exact absurd e (by simpa using this.2))]
    · rw [if_neg (fun z => e ((fg_sub _).mp z)), if_pos ⟨q, by unfold fg; simpa using e⟩]
  · rw [if_pos (nI_le q (by omega)), if_pos (Or.inl (by decide)), if_neg (by omega)]
