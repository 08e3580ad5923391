/-! rows of hours on a ring: f has the period R -/
def sl_en (f : Nat → Bool) (h : Nat) : Bool := f h && !f (h + 1)
def sl_be (f : Nat → Bool) (R h : Nat) : Bool := f h && !f (h + R - 1)
theorem sl_tel (f : Nat → Bool) : ∀ m, fb_ct (sl_en f) m + (if f m then 1 else 0) = (if f 0 then 1 else 0) + fb_ct (fun h => f (h + 1) && !f h) m
  | 0 => by simp [fb_ct]
  | m + 1 => by
    have h := sl_tel f m
    rw [fb_ct_succ, fb_ct_succ, show sl_en f m = (f m && !f (m + 1)) from rfl]
    cases h0 : f m <;> cases h1 : f (m + 1) <;> simp [h0, h1] at h ⊢ <;> omega
theorem sl_eq {f : Nat → Bool} {R : Nat} (hR : 0 < R) (hp : ∀ h, f (h + R) = f h) : fb_ct (sl_en f) R = fb_ct (sl_be f R) R := by
  have h := sl_tel f R
  have e0 : f R = f 0 := by have := hp 0; rwa [Nat.zero_add] at this
  rw [e0] at h
  obtain ⟨Q, rfl⟩ : ∃ Q, R = Q + 1 := ⟨R - 1, by omega⟩
  have e1 : fb_ct (sl_be f (Q + 1)) (1 + Q) = fb_ct (sl_be f (Q + 1)) 1 + fb_ct (fun k => sl_be f (Q + 1) (1 + k)) Q := fb_ct_split _ 1 Q
  have e2 : fb_ct (fun k => sl_be f (Q + 1) (1 + k)) Q = fb_ct (fun h => f (h + 1) && !f h) Q := fb_ct_cong (fun k hk => by
    unfold sl_be
    rw [show 1 + k + (Q + 1) - 1 = k + (Q + 1) by omega, hp, Nat.add_comm 1 k])
  have e3 : fb_ct (sl_be f (Q + 1)) 1 = if (f (Q + 1) && !f Q) = true then 1 else 0 := by
    rw [fb_ct_succ, e0]
    unfold sl_be
    rw [show 0 + (Q + 1) - 1 = Q by omega]
    simp [fb_ct]
  rw [Nat.add_comm 1 Q] at e1
  have e4 := fb_ct_succ (fun h => f (h + 1) && !f h) Q
  omega
theorem sl_all {f : Nat → Bool} {R : Nat} (h0 : fb_ct (sl_en f) R = 0) (h1 : f 0 = true) : ∀ h, h ≤ R → f h = true
  | 0, _ => h1
  | h + 1, hh => by
    have a := sl_all h0 h1 h (by omega)
    have b := (fb_ct_zero.mp h0) h (by omega)
    unfold sl_en at b
    cases c : f (h + 1)
    · rw [a, c] at b; cases b
    · rfl
theorem sl_spells {f : Nat → Bool} {R : Nat} (hR : 0 < R) (hp : ∀ h, f (h + R) = f h) : (if fb_ct (sl_en f) R = 0 ∧ f 0 = true then 1 else fb_ct (sl_en f) R) = if fb_ct f R = R then 1 else fb_ct (sl_be f R) R := by
  have e0 : f R = f 0 := by have := hp 0; rwa [Nat.zero_add] at this
  by_cases c : fb_ct f R = R
  · rw [if_pos c]
    have hall := fb_ct_all.mp c
    have h0 : f 0 = true := hall 0 hR
    have he : fb_ct (sl_en f) R = 0 := fb_ct_zero.mpr (fun k hk => by
      unfold sl_en
      have : f (k + 1) = true := by
        rcases Nat.lt_or_ge (k + 1) R with q | q
        · exact hall _ q
        · rw [show k + 1 = R by omega, e0, h0]
      rw [this]; simp)
    rw [if_pos ⟨he, h0⟩]
  · rw [if_neg c, if_neg (fun q => c (fb_ct_all.mpr (fun k hk => sl_all q.1 q.2 k (by omega)))), sl_eq hR hp]
/-- the longest: runs so far, over two rounds -/
def sl_run (f : Nat → Bool) : Nat → Nat
  | 0 => 0
  | h + 1 => if f h then sl_run f h + 1 else 0
def sl_max (f : Nat → Bool) : Nat → Nat
  | 0 => 0
  | h + 1 => max (sl_max f h) (sl_run f (h + 1))
theorem sl_run_le (f : Nat → Bool) : ∀ h, sl_run f h ≤ h
  | 0 => Nat.le_refl 0
  | h + 1 => by unfold sl_run; have := sl_run_le f h; split <;> omega
theorem sl_run_in (f : Nat → Bool) : ∀ h i, h - sl_run f h ≤ i → i < h → f i = true
  | 0, i, _, h2 => by omega
  | h + 1, i, h1, h2 => by
    unfold sl_run at h1
    by_cases c : f h = true
    · rw [if_pos c] at h1
      rcases Nat.lt_or_ge i h with q | q
      · exact sl_run_in f h i (by omega) q
      · rw [show i = h by omega]; exact c
    · rw [if_neg c] at h1; omega
theorem sl_run_st (f : Nat → Bool) : ∀ h, 0 < sl_run f h → 0 < h - sl_run f h → f (h - sl_run f h - 1) = false
  | 0, h1, _ => by unfold sl_run at h1; omega
  | h + 1, h1, h2 => by
    by_cases c : f h = true
    · have e : sl_run f (h + 1) = sl_run f h + 1 := by rw [sl_run, if_pos c]
      rw [e] at h2 ⊢
      rw [show h + 1 - (sl_run f h + 1) - 1 = h - sl_run f h - 1 by omega]
      by_cases z : sl_run f h = 0
      · rw [z] at h2 ⊢
        match h, h2 with
        | h' + 1, _ =>
          have : ¬ f h' = true := fun q => by rw [sl_run, if_pos q] at z; omega
          simpa using this
      · exact sl_run_st f h (by omega) (by omega)
    · have e : sl_run f (h + 1) = 0 := by rw [sl_run, if_neg c]
      omega
theorem sl_run_ge (f : Nat → Bool) (a : Nat) : ∀ m, (∀ i, a ≤ i → i < a + m → f i = true) → m ≤ sl_run f (a + m)
  | 0, _ => Nat.zero_le _
  | m + 1, h => by
    rw [← Nat.add_assoc, sl_run, if_pos (h (a + m) (by omega) (by omega))]
    have := sl_run_ge f a m (fun i h1 h2 => h i h1 (by omega))
    omega
theorem sl_max_ge (f : Nat → Bool) : ∀ m h, h ≤ m → sl_run f h ≤ sl_max f m
  | 0, h, hh => by rw [show h = 0 by omega]; exact Nat.le_refl _
  | m + 1, h, hh => by
    rw [sl_max]
    rcases Nat.lt_or_ge m h with q | q
    · rw [show h = m + 1 by omega]; exact Nat.le_max_right _ _
    · exact Nat.le_trans (sl_max_ge f m h q) (Nat.le_max_left _ _)
theorem sl_max_at (f : Nat → Bool) : ∀ m, ∃ h, h ≤ m ∧ sl_run f h = sl_max f m
  | 0 => ⟨0, Nat.le_refl 0, rfl⟩
  | m + 1 => by
    obtain ⟨h, h1, h2⟩ := sl_max_at f m
    rw [sl_max]
    rcases Nat.le_total (sl_max f m) (sl_run f (m + 1)) with q | q
    · exact ⟨m + 1, Nat.le_refl _, (Nat.max_eq_right q).symm⟩
    · exact ⟨h, by omega, by rw [Nat.max_eq_left q, h2]⟩
/-- how long from h on: the first step from 1 on that isn't in f, or R -/
def sl_la (f : Nat → Bool) (R h : Nat) : Nat := match ff (fun i => !f (h + i)) 1 (R - 1) with
  | some j => j
  | none => R
theorem sl_la_spec (f : Nat → Bool) {R : Nat} (hR : 0 < R) (h : Nat) : sl_la f R h ≤ R ∧ 1 ≤ sl_la f R h ∧ (∀ i, 1 ≤ i → i < sl_la f R h → f (h + i) = true) ∧ (sl_la f R h < R → f (h + sl_la f R h) = false) := by
  unfold sl_la
  cases e : ff (fun i => !f (h + i)) 1 (R - 1) with
  | none =>
    refine ⟨Nat.le_refl _, hR, fun i h1 h2 => ?_, fun q => absurd q (Nat.lt_irrefl _)⟩
    have := ff_none e i h1 (by simp only at h2; omega)
    simpa using this
  | some j =>
    obtain ⟨a, b, c, d⟩ := ff_some e
    refine ⟨by simp only; omega, a, fun i h1 h2 => ?_, fun _ => ?_⟩
    · have := d i h1 h2; simpa using this
    · simpa using c
/-- the greatest of how long, over the beginnings -/
def sl_mb (f : Nat → Bool) (R : Nat) : Nat → Nat
  | 0 => 0
  | h + 1 => max (sl_mb f R h) (if sl_be f R h = true then sl_la f R h else 0)
theorem sl_mb_ge (f : Nat → Bool) (R : Nat) : ∀ m h, h < m → sl_be f R h = true → sl_la f R h ≤ sl_mb f R m
  | 0, h, hh, _ => by omega
  | m + 1, h, hh, hb => by
    rw [sl_mb]
    rcases Nat.lt_or_ge h m with q | q
    · exact Nat.le_trans (sl_mb_ge f R m h q hb) (Nat.le_max_left _ _)
    · rw [show m = h by omega, if_pos hb]; exact Nat.le_max_right _ _
theorem sl_mb_le (f : Nat → Bool) (R b : Nat) : ∀ m, (∀ h, h < m → sl_be f R h = true → sl_la f R h ≤ b) → sl_mb f R m ≤ b
  | 0, _ => Nat.zero_le _
  | m + 1, H => by
    rw [sl_mb]
    refine Nat.max_le.mpr ⟨sl_mb_le f R b m (fun h h1 h2 => H h (by omega) h2), ?_⟩
    by_cases c : sl_be f R m = true
    · rw [if_pos c]; exact H m (by omega) c
    · rw [if_neg c]; exact Nat.zero_le _
theorem sl_per {f : Nat → Bool} {R : Nat} (hp : ∀ h, f (h + R) = f h) (h : Nat) (hh : R ≤ h) : f (h - R) = f h := by
  have := hp (h - R)
  rw [Nat.sub_add_cancel hh] at this
  exact this.symm
theorem sl_long {f : Nat → Bool} {R : Nat} (hR : 0 < R) (hp : ∀ h, f (h + R) = f h) : min (sl_max f (2 * R)) R = if fb_ct f R = R then R else sl_mb f R R := by
  have e0 : f R = f 0 := by have := hp 0; rwa [Nat.zero_add] at this
  by_cases c : fb_ct f R = R
  · rw [if_pos c]
    have hall := fb_ct_all.mp c
    have h1 := sl_run_ge f 0 R (fun i _ h2 => hall i (by omega))
    rw [Nat.zero_add] at h1
    have h2 := sl_max_ge f (2 * R) R (by omega)
    omega
  · rw [if_neg c]
    -- some hour is not in f
    have hno : ∃ z, z < R ∧ f z = false := by
      refine Classical.byContradiction fun q => c (fb_ct_all.mpr (fun k hk => ?_))
      cases e : f k
      · exact absurd ⟨k, hk, e⟩ q
      · rfl
    obtain ⟨z, hz, fz⟩ := hno
    refine Nat.le_antisymm ?_ ?_
    · -- the greatest run has a beginning
      obtain ⟨h, h1, h2⟩ := sl_max_at f (2 * R)
      rw [← h2]
      by_cases h3 : sl_run f h = 0
      · rw [h3]; omega
      have hle := sl_run_le f h
      have hin := sl_run_in f h
      have hst := sl_run_st f h (by omega)
      generalize hZ : sl_run f h = Z at *
      -- it is shorter than R
      have hlt : Z < R := by
        rcases Nat.lt_or_ge Z R with q | q
        · exact q
        · exfalso
          -- among R hours behind one another there is one that is as z
          have : ∃ i, h - Z ≤ i ∧ i < h ∧ f i = f z := by
            rcases Nat.lt_or_ge z (h - Z) with w | w
            · rcases Nat.lt_or_ge (z + R) (h - Z) with w2 | w2
              · exact ⟨z + R + R, by omega, by omega, by rw [hp, hp]⟩
              · exact ⟨z + R, w2, by omega, hp z⟩
            · exact ⟨z, w, by omega, rfl⟩
          obtain ⟨i, i1, i2, i3⟩ := this
          have := hin i i1 i2
          rw [i3, fz] at this
          cases this
      rw [Nat.min_eq_left (by omega)]
      -- a beginning from which it goes at least Z hours
      have hb : ∃ b, b < R ∧ sl_be f R b = true ∧ ∀ i, i < Z → f (b + i) = true := by
        by_cases a0 : h - Z = 0
        · -- it lies at the very beginning: look back from the end of the round
          obtain ⟨cc, c1, c2, c3⟩ := fb_last (p := fun i => f i = false) ⟨z, hz, fz⟩
          by_cases cR : cc + 1 = R
          · refine ⟨0, hR, ?_, fun i hi => hin _ (by omega) (by omega)⟩
            unfold sl_be
            rw [hin 0 (by omega) (by omega), show 0 + R - 1 = cc by omega, c2]; rfl
          · refine ⟨cc + 1, by omega, ?_, fun i hi => ?_⟩
            · unfold sl_be
              have q1 : f (cc + 1) = true := by have := c3 (cc + 1) (by omega) (by omega); simpa using this
              rw [q1, show cc + 1 + R - 1 = cc + R by omega, hp, c2]; rfl
            · rcases Nat.lt_or_ge (cc + 1 + i) R with w | w
              · have := c3 (cc + 1 + i) (by omega) w; simpa using this
              · rw [← sl_per hp _ w]; exact hin _ (by omega) (by omega)
        · have s1 := hst (by omega)
          rcases Nat.lt_or_ge (h - Z) R with w | w
          · refine ⟨h - Z, w, ?_, fun i hi => hin _ (by omega) (by omega)⟩
            unfold sl_be
            rw [hin (h - Z) (by omega) (by omega), show h - Z + R - 1 = h - Z - 1 + R by omega, hp, s1]; rfl
          · refine ⟨h - Z - R, by omega, ?_, fun i hi => ?_⟩
            · unfold sl_be
              rw [sl_per hp _ w, hin (h - Z) (by omega) (by omega), show h - Z - R + R - 1 = h - Z - 1 by omega, s1]; rfl
            · have := hin (h - Z + i) (by omega) (by omega)
              rw [← sl_per hp _ (by omega)] at this
              rw [show h - Z - R + i = h - Z + i - R by omega]; exact this
      obtain ⟨b, b1, b2, b3⟩ := hb
      refine Nat.le_trans ?_ (sl_mb_ge f R R b b1 b2)
      obtain ⟨l1, l2, l3, l4⟩ := sl_la_spec f hR b
      rcases Nat.lt_or_ge (sl_la f R b) Z with w | w
      · have := l4 (by omega)
        rw [b3 _ w] at this
        cases this
      · exact w
    · refine sl_mb_le f R _ R (fun b b1 b2 => ?_)
      obtain ⟨l1, l2, l3, l4⟩ := sl_la_spec f hR b
      have fb : f b = true := by unfold sl_be at b2; revert b2; cases f b <;> simp
      have r1 := sl_run_ge f b (sl_la f R b) (fun i h1 h2 => by
        rcases Nat.eq_or_lt_of_le h1 with q | q
        · rw [← q]; exact fb
        · have := l3 (i - b) (by omega) (by omega); rwa [Nat.add_sub_cancel' h1] at this)
      have r2 := sl_max_ge f (2 * R) (b + sl_la f R b) (by omega)
      omega
