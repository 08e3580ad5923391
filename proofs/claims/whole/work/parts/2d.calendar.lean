def go3 (b : Nat → Int32) (i : Nat) : Bool := if i % 3 = 0 then fg (b i) else if i % 3 = 1 then fg (b i) && !(decide (b i = 48) && decide (b (i - 1) = 48)) else decide (b i = 59)
theorem goesOnAt_v {n c i : Nat} {b : Nat → Int32} (hc : c ≤ 20) (hi : i < c) : f_X0_goesOnAt n (nI c) b (nI i) = some (if go3 b i = true then 1 else 0) := by
  unfold f_X0_goesOnAt
  rw [byteAt_C hc hi, bd1_in, show nI i - nI i / 3 * 3 = nI (i % 3) from pk_rem (d := 3) (by omega) (by omega) (by omega), isFigure_v]
  unfold go3
  have hm : i % 3 < 3 := Nat.mod_lt _ (by omega)
  have cases3 : i % 3 = 0 ∨ i % 3 = 1 ∨ i % 3 = 2 := by omega
  rcases cases3 with e | e | e
  · rw [e, if_pos (show nI 0 = 0 from rfl), if_pos rfl, bd1_id]
  · have h1 : 1 ≤ i := by rcases Nat.lt_or_ge 0 i with q | q; exact q; rw [show i = 0 by omega] at e; omega
    rw [e, if_neg (show ¬ nI 1 = 0 by decide), if_pos (show nI 1 = 1 from rfl), if_neg (show ¬ (1 : Nat) = 0 by decide), if_pos (show (1 : Nat) = 1 from rfl), bd1_in, show nI i - 1 = nI (i - 1) from pk_sub (b := 1) h1, byteAt_C hc (show i - 1 < c by omega)]
    simp only [bz_pos, bd1_in, jn0_]
    cases f1 : fg (b i) with
    | false => simp
    | true =>
      by_cases f2 : b i = 48
      · by_cases f3 : b (i - 1) = 48
        · simp [f2, f3]
        · simp [f2, f3]
      · simp [f2]
  · rw [e, if_neg (show ¬ nI 2 = 0 by decide), if_neg (show ¬ nI 2 = 1 by decide), if_neg (show ¬ (2 : Nat) = 0 by decide), if_neg (show ¬ (2 : Nat) = 1 by decide)]
    by_cases f : b i = 59
    · simp [f]
    · simp [f]
def cbad (b : Nat → Int32) (i : Nat) : Bool := !(decide (i < 18) && go3 b i)
def cfault (b : Nat → Int32) (c : Nat) : Int32 := match ff (cbad b) 0 c with
  | some j => nI j
  | none => if c = 0 ∨ c % 3 = 2 then -1 else nI c
def cmon (b : Nat → Int32) (c : Nat) : Nat := if ff (cbad b) 0 c = none ∧ (c = 0 ∨ c % 3 = 2) then (c + 1) / 3 else 0
theorem go3_cong {a b : Nat → Int32} {c i : Nat} (h : ∀ i, i < c → a i = b i) (hi : i < c) : go3 a i = go3 b i := by
  unfold go3; rw [h i hi, h (i - 1) (by omega)]
theorem cbad_cong {a b : Nat → Int32} {c : Nat} (h : ∀ i, i < c → a i = b i) : ff (cbad a) 0 c = ff (cbad b) 0 c := ff_cong c 0 (fun j _ hj => by unfold cbad; rw [go3_cong h (by omega)])
theorem cfault_cong {a b : Nat → Int32} {c : Nat} (h : ∀ i, i < c → a i = b i) : cfault a c = cfault b c := by unfold cfault; rw [cbad_cong h]
theorem cmon_cong {a b : Nat → Int32} {c : Nat} (h : ∀ i, i < c → a i = b i) : cmon a c = cmon b c := by unfold cmon; rw [cbad_cong h]
theorem firstFault_C {n c : Nat} (hn : 4000 ≤ n) {b : Nat → Int32} (hc : c ≤ 20) : f_X0_firstFault n (nI c) b = some (cfault b c) := by
  unfold f_X0_firstFault
  refine jn0_i (fun kx hkx => ?_)
  refine (lp_ff (fun k i => L_X0_firstFault_2 n (nI c) b kx k (nI i)) c kx (cbad b) (fun i => some (nI i))
    (fun k => by rw [L_X0_firstFault_2_s, if_pos (nI_le (Nat.le_refl _) (by omega))])
    (fun k i hi => by
      rw [L_X0_firstFault_2_s, if_neg (nI_ge hi (by omega)), nI_1]
      unfold cbad
      by_cases d : i < 18
      · rw [if_neg (show ¬ (18 : Int32) ≤ nI i from nI_ge (b := 18) d (by omega)), goesOnAt_v hc hi, bd1_in, bz_pos]
        cases go3 b i <;> simp [d]
      · rw [if_pos (show (18 : Int32) ≤ nI i from nI_le (a := 18) (by omega) (by omega))]
        simp [d])
    c n 0 (by omega) (by omega)).trans ?_
  unfold cfault
  cases ff (cbad b) 0 c with
  | some j => rfl
  | none =>
    show kx = some (if c = 0 ∨ c % 3 = 2 then -1 else nI c)
    rw [hkx, show nI c - nI c / 3 * 3 = nI (c % 3) from pk_rem (d := 3) (by omega) (by omega) (by omega)]
    simp only [jn0_, jn1_]
    by_cases d : c = 0
    · subst d
      rw [if_pos (show nI 0 = 0 from rfl), if_pos (Or.inl rfl), if_neg (by decide)]
    · rw [if_neg (nI_ne0 (by omega) (by omega))]
      have hm : c % 3 < 3 := Nat.mod_lt _ (by omega)
      by_cases e : c % 3 = 2
      · rw [e, if_pos (show nI 2 = 2 from rfl), if_pos (Or.inr rfl), if_neg (by decide)]
      · rw [if_neg (show ¬ nI (c % 3) = 2 from fun q => e ((nI_eq (a := c % 3) (b := 2) (by omega) (by omega)).mp q))]
        simp [d, e]
theorem cfault_m1 {b : Nat → Int32} {c : Nat} (hc : c ≤ 20) : (cfault b c = -1) ↔ (ff (cbad b) 0 c = none ∧ (c = 0 ∨ c % 3 = 2)) := by
  have hne : ∀ j, j < 2 ^ 31 → ¬ nI j = -1 := fun j hj q => nI_pos hj (by rw [q]; decide)
  unfold cfault
  cases e : ff (cbad b) 0 c with
  | some j =>
    have := ff_some e
    simp only [reduceCtorEq, false_and, iff_false]
    exact hne j (by omega)
  | none =>
    simp only [true_and]
    by_cases d : c = 0 ∨ c % 3 = 2
    · rw [if_pos d]; exact ⟨fun _ => d, fun _ => rfl⟩
    · rw [if_neg d]; exact ⟨fun q => absurd q (hne c (by omega)), fun q => absurd q d⟩
theorem months_C {n c : Nat} (hn : 4000 ≤ n) {b : Nat → Int32} (hc : c ≤ 20) : f_X0_months n (nI c) b = some (nI (cmon b c)) := by
  unfold f_X0_months cmon
  rw [firstFault_C hn hc, bd1_in, nI_1, show nI (c + 1) / 3 = nI ((c + 1) / 3) from pk_div (d := 3) (by omega) (by omega) (by omega)]
  by_cases d : ff (cbad b) 0 c = none ∧ (c = 0 ∨ c % 3 = 2)
  · rw [if_pos ((cfault_m1 hc).mpr d), if_pos d]
  · rw [if_neg (fun q => d ((cfault_m1 hc).mp q)), if_neg d]; rfl
theorem cmon_facts {b : Nat → Int32} {c : Nat} (hc : c ≤ 20) : cmon b c ≤ 6 ∧ ∀ m, m < cmon b c → 3 * m + 1 < c := by
  unfold cmon
  by_cases d : ff (cbad b) 0 c = none ∧ (c = 0 ∨ c % 3 = 2)
  · rw [if_pos d]
    have h18 : c ≤ 18 := by
      rcases Nat.lt_or_ge 18 c with q | q
      · have := ff_none d.1 18 (by omega) (by omega)
        unfold cbad at this
        simp at this
      · exact q
    exact ⟨by omega, fun m hm => by omega⟩
  · rw [if_neg d]; exact ⟨by omega, fun m hm => by omega⟩
def clen (b : Nat → Int32) (m : Nat) : Int32 := ((10 * (b (3 * m) - 48)) + b (3 * m + 1)) - 48
theorem lengthOf_C {n c m : Nat} {b : Nat → Int32} (hc : c ≤ 20) (hm : 3 * m + 1 < c) : f_X0_lengthOf n (nI c) b (nI m) = some (clen b m) := by
  unfold f_X0_lengthOf clen
  rw [show (3 : Int32) * nI m = nI (3 * m) from pk_mul 3 m, nI_1, byteAt_C hc (by omega), bd1_in, byteAt_C hc hm, bd1_in]
def csum (b : Nat → Int32) (m : Nat) : Int32 := fo (fun i (s : Int32) => s + clen b i) 0 m 0
theorem hoursOfAll_C {n c : Nat} (hn : 4000 ≤ n) {b : Nat → Int32} (hc : c ≤ 20) : f_X0_hoursOfAll n (nI c) b = some (csum b (cmon b c)) := by
  obtain ⟨h6, hlt⟩ := cmon_facts (b := b) hc
  unfold f_X0_hoursOfAll
  rw [months_C hn hc, bd1_in]
  refine jn1_i (fun kx hkx => ?_)
  refine (lp_fo (fun k i s => L_X0_hoursOfAll_9 n (nI c) b (nI (cmon b c)) kx k s (nI i)) (cmon b c) kx (fun i (s : Int32) => s + clen b i)
    (fun k s => by rw [L_X0_hoursOfAll_9_s, if_pos (nI_le (Nat.le_refl _) (by omega))])
    (fun k i s hi => by rw [L_X0_hoursOfAll_9_s, if_neg (nI_ge hi (by omega)), lengthOf_C hc (hlt i hi), bd1_in, nI_1])
    (cmon b c) n 0 0 (by omega) (by omega)).trans ?_
  rw [hkx]; rfl
theorem ff_at {p : Nat → Bool} {m j : Nat} (h1 : ∀ i, i < j → p i = false) (h2 : p j = true) (h3 : j < m) : ff p 0 m = some j := by
  cases e : ff p 0 m with
  | none => have := ff_none e j (by omega) (by omega); rw [h2] at this; cases this
  | some k =>
    obtain ⟨a, b, c, d⟩ := ff_some e
    rcases Nat.lt_trichotomy k j with q | q | q
    · have := h1 k q; rw [c] at this; cases this
    · rw [q]
    · have := d j (by omega) q; rw [h2] at this; cases this
theorem ff_all {p : Nat → Bool} {m : Nat} (h1 : ∀ i, i < m → p i = false) : ff p 0 m = none := by
  cases e : ff p 0 m with
  | none => rfl
  | some k => have := ff_some e; have q := h1 k (by omega); rw [this.2.2.1] at q; cases q
theorem cf_some {b : Nat → Int32} {c j : Nat} (h1 : ∀ i, i < j → cbad b i = false) (h2 : cbad b j = true) (h3 : j < c) : cfault b c = nI j ∧ cmon b c = 0 := by
  unfold cfault cmon
  rw [ff_at h1 h2 h3]
  exact ⟨rfl, if_neg (fun q => by cases q.1)⟩
theorem cf_none {b : Nat → Int32} {c : Nat} (h1 : ∀ i, i < c → cbad b i = false) : cfault b c = (if c = 0 ∨ c % 3 = 2 then -1 else nI c) ∧ cmon b c = if c = 0 ∨ c % 3 = 2 then (c + 1) / 3 else 0 := by
  unfold cfault cmon
  rw [ff_all h1]
  refine ⟨rfl, ?_⟩
  by_cases d : c = 0 ∨ c % 3 = 2
  · rw [if_pos ⟨rfl, d⟩, if_pos d]
  · rw [if_neg (fun q => d q.2), if_neg d]
theorem fg_val {b : Int32} (h : fg b = true) : ∃ v, v ≤ 9 ∧ b - 48 = nI v ∧ b = nI (v + 48) := by
  unfold fg at h
  obtain ⟨j, j1, j2, rfl⟩ := rng1 (x := b) (a := 48) (b := 57) (by decide) (by decide) (show ¬ (b < 48 ∨ (57 : Int32) < b) by simpa using h)
  exact ⟨j - 48, by omega, pk_sub (b := 48) j1, by rw [show j - 48 + 48 = j by omega]⟩
theorem go_0 (b : Nat → Int32) (j : Nat) : go3 b (3 * j) = fg (b (3 * j)) := by unfold go3; rw [if_pos (by omega)]
theorem go_1 (b : Nat → Int32) (j : Nat) : go3 b (3 * j + 1) = (fg (b (3 * j + 1)) && !(decide (b (3 * j + 1) = 48) && decide (b (3 * j) = 48))) := by unfold go3; rw [if_neg (by omega), if_pos (by omega), Nat.add_sub_cancel]
theorem go_2 (b : Nat → Int32) (j : Nat) : go3 b (3 * j + 2) = decide (b (3 * j + 2) = 59) := by unfold go3; rw [if_neg (by omega), if_neg (by omega)]
theorem readsCalendar_v {n c : Nat} (hn : 4000 ≤ n) {ty tx lo : Nat → Int32} {m0 : Int32} (hc : c ≤ 20) (ht : ty 1 = nI c) : ∃ w, f_X8_readsCalendar n m0 ty tx lo = some (cfault (fun i => tx (60 + i)) c, nI (cmon (fun i => tx (60 + i)) c), w) ∧ ∀ m, m < cmon (fun i => tx (60 + i)) c → w m = clen (fun i => tx (60 + i)) m := by
  generalize hb : (fun i => tx (60 + i)) = b
  have hbi : ∀ i, tx (60 + i) = b i := fun i => by rw [← hb]
  have key : ∀ (kx : (Nat → Int32) → Option (Int32 × Int32 × (Nat → Int32))) (q j k : Nat) (w : Nat → Int32), j + q = 7 → q < k → 3 * j ≤ c → (j = 0 → 0 < c) → (∀ i, i < 3 * j → cbad b i = false) → (∀ m, m < j → w m = clen b m) → ∃ w2, L_X8_readsCalendar_9 n ty tx kx k (nI j) (nI (3 * j)) w = some (cfault b c, nI (cmon b c), w2) ∧ ∀ m, m < cmon b c → w2 m = clen b m := by
    intro kx q
    induction q with
    | zero => intro j k w h1 h2 h3; omega
    | succ q ih =>
      intro j k w h1 h2 h3 h4 hgood hw
      obtain ⟨k, rfl⟩ : ∃ z, k = z + 1 := ⟨k - 1, by omega⟩
      rw [L_X8_readsCalendar_9_s, cl1, ht, nI_1, figureAt_v hc (by omega) ht, figureAt_v hc (by omega) ht, show nI (3 * j) + 2 = nI (3 * j + 2) from nI_add _ 2, nI_1, show (60 : Int32) + nI (3 * j + 2) = nI (60 + (3 * j + 2)) from nI_add 60 _]
      simp only [jn0_, bd1_in, hbi, nI_1]
      have hB : ∀ (X Y : Option (Int32 × Int32 × (Nat → Int32))), (if nI (3 * j) < nI c then X else if nI (3 * j) ≤ 0 then Y else X) = X := fun X Y => by
        rcases Nat.lt_or_ge (3 * j) c with z | z
        · rw [if_pos (nI_lt z (by omega))]
        · rw [if_neg (nI_nlt z (by omega)), if_neg (nI_nle (by omega) (by omega))]
      rw [hB]
      have hcb : ∀ i, i < 18 → cbad b i = !go3 b i := fun i hi => by unfold cbad; simp [hi]
      have stop : ∀ (i : Nat), 3 * j ≤ i → (∀ z, 3 * j ≤ z → z < i → cbad b z = false) → cbad b i = true → i < c → cfault b c = nI i ∧ cmon b c = 0 := fun i i1 i2 i3 i4 => cf_some (fun z hz => by
        rcases Nat.lt_or_ge z (3 * j) with y | y
        · exact hgood z y
        · exact i2 z y hz) i3 i4
      have fin : (∀ z, 3 * j ≤ z → z < c → cbad b z = false) → cfault b c = (if c = 0 ∨ c % 3 = 2 then -1 else nI c) ∧ cmon b c = if c = 0 ∨ c % 3 = 2 then (c + 1) / 3 else 0 := fun H => cf_none (fun z hz => by
        rcases Nat.lt_or_ge z (3 * j) with y | y
        · exact hgood z y
        · exact H z y hz)
      by_cases j6 : j = 6
      · subst j6
        rw [if_pos (show nI 6 = 6 from rfl)]
        rcases Nat.lt_or_ge 18 c with z | z
        · obtain ⟨e1, e2⟩ := stop 18 (by omega) (fun z h1 h2 => by omega) (by unfold cbad; simp) z
          exact ⟨w, by rw [e1, e2]; rfl, fun m hm => by rw [e2] at hm; omega⟩
        · have hc18 : c = 18 := by omega
          obtain ⟨e1, e2⟩ := fin (fun z h1 h2 => by omega)
          subst hc18
          exact ⟨w, by rw [e1, e2]; rfl, fun m hm => by rw [e2] at hm; simp at hm⟩
      · rw [if_neg (show ¬ nI j = 6 from fun z => j6 ((nI_eq (a := j) (b := 6) (by omega) (by omega)).mp z))]
        have hne : ∀ v : Nat, v < 2 ^ 31 → ¬ nI v = -1 := fun v hv z => nI_pos hv (by rw [z]; decide)
        rcases Nat.lt_or_ge (3 * j) c with z0 | z0
        · by_cases f0 : fg (b (3 * j)) = true
          · obtain ⟨v0, v0l, v0e, v0b⟩ := fg_val f0
            rw [show (if 3 * j < c ∧ fg (b (3 * j)) = true then b (3 * j) - 48 else -1) = nI v0 by rw [if_pos ⟨z0, f0⟩, v0e], if_neg (hne v0 (by omega))]
            have g0 : cbad b (3 * j) = false := by rw [hcb _ (by omega), go_0, f0]; rfl
            rcases Nat.lt_or_ge (3 * j + 1) c with z1 | z1
            · by_cases f1 : fg (b (3 * j + 1)) = true
              · obtain ⟨v1, v1l, v1e, v1b⟩ := fg_val f1
                rw [show (if 3 * j + 1 < c ∧ fg (b (3 * j + 1)) = true then b (3 * j + 1) - 48 else -1) = nI v1 by rw [if_pos ⟨z1, f1⟩, v1e], if_neg (hne v1 (by omega)), nI_add]
                by_cases s0 : v0 + v1 = 0
                · have e00 : v0 = 0 := by omega
                  have e11 : v1 = 0 := by omega
                  rw [s0, if_pos (show nI 0 = 0 from rfl)]
                  have hbad : cbad b (3 * j + 1) = true := by
                    rw [hcb _ (by omega), go_1, v0b, v1b, e00, e11]; decide
                  obtain ⟨e1, e2⟩ := stop (3 * j + 1) (by omega) (fun z h1 h2 => by rw [show z = 3 * j by omega]; exact g0) hbad z1
                  exact ⟨w, by rw [e1, e2]; rfl, fun m hm => by rw [e2] at hm; omega⟩
                · rw [if_neg (nI_ne0 (by omega) (by omega)), ix_in _ (vp_in_nI (show j < 7 by omega) (by omega)), nI_clamp (show j < 2 ^ 31 by omega)]
                  have g1 : cbad b (3 * j + 1) = false := by
                    rw [hcb _ (by omega), go_1, f1]
                    have : ¬ (b (3 * j + 1) = 48 ∧ b (3 * j) = 48) := fun y => s0 (by
                      rw [v0b, v1b] at y
                      have y1 := (nI_eq (a := v1 + 48) (b := 48) (by omega) (by omega)).mp y.1
                      have y2 := (nI_eq (a := v0 + 48) (b := 48) (by omega) (by omega)).mp y.2
                      omega)
                    by_cases y1 : b (3 * j + 1) = 48
                    · by_cases y2 : b (3 * j) = 48
                      · exact absurd ⟨y1, y2⟩ this
                      · simp [y2]
                    · simp [y1]
                  have hlen : (10 : Int32) * nI v0 + nI v1 = clen b j := by
                    unfold clen
                    rw [v0e, v1b, show (10 : Int32) = nI 10 from rfl, pk_mul, nI_add, nI_add, show nI (10 * v0 + (v1 + 48)) - 48 = nI (10 * v0 + (v1 + 48) - 48) from pk_sub (b := 48) (by omega)]
                    congr 1
                  have hw2 : ∀ m, m < j + 1 → (upd w j ((10 : Int32) * nI v0 + nI v1)) m = clen b m := fun m hm => by
                    unfold upd
                    by_cases y : m = j
                    · rw [if_pos y, hlen, y]
                    · rw [if_neg y]; exact hw m (by omega)
                  rcases Nat.lt_or_ge (3 * j + 2) c with z2 | z2
                  · rw [if_neg (fun y => by have := (nI_eq (a := 3 * j + 2) (b := c) (by omega) (by omega)).mp y; omega), ix_in _ (vp_in_nI (show 60 + (3 * j + 2) < 120 by omega) (by omega)), nI_clamp (show 60 + (3 * j + 2) < 2 ^ 31 by omega), hbi]
                    by_cases f2 : b (3 * j + 2) = 59
                    · rw [if_pos f2, show 3 * j + 2 + 1 = 3 * (j + 1) by omega]
                      exact ih (j + 1) k _ (by omega) (by omega) (by omega) (fun y => by omega) (fun i hi => by
                        rcases Nat.lt_or_ge i (3 * j) with y | y
                        · exact hgood i y
                        · rcases (show i = 3 * j ∨ i = 3 * j + 1 ∨ i = 3 * j + 2 by omega) with y | y | y
                          · rw [y]; exact g0
                          · rw [y]; exact g1
                          · rw [y, hcb _ (by omega), go_2]; simp [f2]) hw2
                    · rw [if_neg f2]
                      have hbad : cbad b (3 * j + 2) = true := by rw [hcb _ (by omega), go_2]; simp [f2]
                      obtain ⟨e1, e2⟩ := stop (3 * j + 2) (by omega) (fun z h1 h2 => by rcases (show z = 3 * j ∨ z = 3 * j + 1 by omega) with y | y <;> rw [y] <;> assumption) hbad z2
                      exact ⟨_, by rw [e1, e2]; rfl, fun m hm => by rw [e2] at hm; omega⟩
                  · have hc2 : c = 3 * j + 2 := by omega
                    rw [if_pos (by rw [hc2])]
                    obtain ⟨e1, e2⟩ := fin (fun z h1 h2 => by rcases (show z = 3 * j ∨ z = 3 * j + 1 by omega) with y | y <;> rw [y] <;> assumption)
                    have hmod : c = 0 ∨ c % 3 = 2 := Or.inr (by omega)
                    rw [if_pos hmod] at e1 e2
                    have e3 : cmon b c = j + 1 := by rw [e2]; omega
                    exact ⟨_, by rw [e1, e3], fun m hm => hw2 m (by omega)⟩
              · rw [show (if 3 * j + 1 < c ∧ fg (b (3 * j + 1)) = true then b (3 * j + 1) - 48 else -1) = -1 from if_neg (fun y => f1 y.2), if_pos rfl]
                have hbad : cbad b (3 * j + 1) = true := by rw [hcb _ (by omega), go_1]; simp [f1]
                obtain ⟨e1, e2⟩ := stop (3 * j + 1) (by omega) (fun z h1 h2 => by rw [show z = 3 * j by omega]; exact g0) hbad z1
                exact ⟨w, by rw [e1, e2]; rfl, fun m hm => by rw [e2] at hm; omega⟩
            · rw [show (if 3 * j + 1 < c ∧ fg (b (3 * j + 1)) = true then b (3 * j + 1) - 48 else -1) = -1 from if_neg (fun y => by omega), if_pos rfl]
              have hc1 : c = 3 * j + 1 := by omega
              obtain ⟨e1, e2⟩ := fin (fun z h1 h2 => by rw [show z = 3 * j by omega]; exact g0)
              have hmod : ¬ (c = 0 ∨ c % 3 = 2) := by omega
              rw [if_neg hmod] at e1 e2
              exact ⟨w, by rw [e1, e2, hc1]; rfl, fun m hm => by rw [e2] at hm; omega⟩
          · rw [show (if 3 * j < c ∧ fg (b (3 * j)) = true then b (3 * j) - 48 else -1) = -1 from if_neg (fun y => f0 y.2), if_pos rfl]
            have hbad : cbad b (3 * j) = true := by rw [hcb _ (by omega), go_0]; simp [f0]
            obtain ⟨e1, e2⟩ := stop (3 * j) (Nat.le_refl _) (fun z h1 h2 => by omega) hbad z0
            exact ⟨w, by rw [e1, e2]; rfl, fun m hm => by rw [e2] at hm; omega⟩
        · rw [show (if 3 * j < c ∧ fg (b (3 * j)) = true then b (3 * j) - 48 else -1) = -1 from if_neg (fun y => by omega), if_pos rfl]
          have hc0 : c = 3 * j := by omega
          obtain ⟨e1, e2⟩ := fin (fun z h1 h2 => by omega)
          have hmod : ¬ (c = 0 ∨ c % 3 = 2) := by omega
          rw [if_neg hmod] at e1 e2
          exact ⟨w, by rw [e1, e2, hc0]; rfl, fun m hm => by rw [e2] at hm; omega⟩
  unfold f_X8_readsCalendar
  rcases Nat.lt_or_ge 0 c with z | z
  · rw [jn1_]
    exact key _ 7 0 n lo (by omega) (by omega) (by omega) (fun _ => z) (fun i hi => by omega) (fun m hm => by omega)
  · have hc0 : c = 0 := by omega
    subst hc0
    obtain ⟨n, rfl⟩ : ∃ q, n = q + 1 := ⟨n - 1, by omega⟩
    obtain ⟨e1, e2⟩ := cf_none (b := b) (c := 0) (fun i hi => by omega)
    refine ⟨lo, ?_, fun m hm => by rw [e2] at hm; simp at hm⟩
    rw [jn1_, L_X8_readsCalendar_9_s, cl1, ht, jn0_, if_neg (by decide), if_pos (by decide), e1, e2]
    rfl
