-- what the functions are made of
def lt_ {A R : Type} (a : A) (k : A → R) : R := k a
theorem lt_e {A R : Type} {a : A} {k : A → R} {r : R} (h : lt_ a k = r) : ∃ v, v = a ∧ k v = r := ⟨a, rfl, h⟩
def ix_ {R : Type} (i : Int32) (n : Nat) (x : Option R) : Option R := if i < 0 ∨ n ≤ i.toNatClampNeg then none else x
theorem ix_e {R : Type} {i : Int32} {n : Nat} {x : Option R} {r : R} (h : ix_ i n x = some r) : vp_in i n ∧ x = some r := by
  unfold ix_ at h
  by_cases q : i < 0 ∨ n ≤ i.toNatClampNeg
  · rw [if_pos q] at h; exact absurd h (fun h => Option.some_ne_none _ h.symm)
  · rw [if_neg q] at h; exact ⟨q, h⟩
theorem ix_in {R : Type} {i : Int32} {n : Nat} (x : Option R) (h : vp_in i n) : ix_ i n x = x := if_neg h
def nz_ {R : Type} (y : Int32) (x : Option R) : Option R := if y = 0 then none else x
theorem nz_e {R : Type} {y : Int32} {x : Option R} {r : R} (h : nz_ y x = some r) : (¬ y = 0) ∧ x = some r := by
  unfold nz_ at h
  by_cases q : y = 0
  · rw [if_pos q] at h; exact absurd h (fun h => Option.some_ne_none _ h.symm)
  · rw [if_neg q] at h; exact ⟨q, h⟩
theorem nz_in {R : Type} {y : Int32} (x : Option R) (h : ¬ y = 0) : nz_ y x = x := if_neg h
def nzl_ {R : Type} (y : Int64) (x : Option R) : Option R := if y = 0 then none else x
theorem nzl_e {R : Type} {y : Int64} {x : Option R} {r : R} (h : nzl_ y x = some r) : (¬ y = 0) ∧ x = some r := by
  unfold nzl_ at h
  by_cases q : y = 0
  · rw [if_pos q] at h; exact absurd h (fun h => Option.some_ne_none _ h.symm)
  · rw [if_neg q] at h; exact ⟨q, h⟩
theorem nzl_in {R : Type} {y : Int64} (x : Option R) (h : ¬ y = 0) : nzl_ y x = x := if_neg h
def bd1_ {A0 R : Type} (o : Option (A0)) (k : A0 → Option R) : Option R := o.bind (fun p => k p)
theorem bd1_e {A0 R : Type} {o : Option (A0)} {k : A0 → Option R} {r : R} (h : bd1_ o k = some r) : ∃ a0, o = some a0 ∧ k a0 = some r := by
  unfold bd1_ at h
  obtain ⟨a0, h1, h2⟩ := Option.bind_eq_some_iff.mp h
  exact ⟨a0, h1, h2⟩
theorem bd1_in {A0 R : Type} (a0 : A0) (k : A0 → Option R) : bd1_ (some a0) k = k a0 := rfl
def bd2_ {A0 A1 R : Type} (o : Option (A0 × A1)) (k : A0 → A1 → Option R) : Option R := o.bind (fun p => k p.1 p.2)
theorem bd2_e {A0 A1 R : Type} {o : Option (A0 × A1)} {k : A0 → A1 → Option R} {r : R} (h : bd2_ o k = some r) : ∃ a0 a1, o = some (a0, a1) ∧ k a0 a1 = some r := by
  unfold bd2_ at h
  obtain ⟨⟨a0, a1⟩, h1, h2⟩ := Option.bind_eq_some_iff.mp h
  exact ⟨a0, a1, h1, h2⟩
theorem bd2_in {A0 A1 R : Type} (a0 : A0) (a1 : A1) (k : A0 → A1 → Option R) : bd2_ (some (a0, a1)) k = k a0 a1 := rfl
def bd3_ {A0 A1 A2 R : Type} (o : Option (A0 × A1 × A2)) (k : A0 → A1 → A2 → Option R) : Option R := o.bind (fun p => k p.1 p.2.1 p.2.2)
theorem bd3_e {A0 A1 A2 R : Type} {o : Option (A0 × A1 × A2)} {k : A0 → A1 → A2 → Option R} {r : R} (h : bd3_ o k = some r) : ∃ a0 a1 a2, o = some (a0, a1, a2) ∧ k a0 a1 a2 = some r := by
  unfold bd3_ at h
  obtain ⟨⟨a0, a1, a2⟩, h1, h2⟩ := Option.bind_eq_some_iff.mp h
  exact ⟨a0, a1, a2, h1, h2⟩
theorem bd3_in {A0 A1 A2 R : Type} (a0 : A0) (a1 : A1) (a2 : A2) (k : A0 → A1 → A2 → Option R) : bd3_ (some (a0, a1, a2)) k = k a0 a1 a2 := rfl
def bd4_ {A0 A1 A2 A3 R : Type} (o : Option (A0 × A1 × A2 × A3)) (k : A0 → A1 → A2 → A3 → Option R) : Option R := o.bind (fun p => k p.1 p.2.1 p.2.2.1 p.2.2.2)
theorem bd4_e {A0 A1 A2 A3 R : Type} {o : Option (A0 × A1 × A2 × A3)} {k : A0 → A1 → A2 → A3 → Option R} {r : R} (h : bd4_ o k = some r) : ∃ a0 a1 a2 a3, o = some (a0, a1, a2, a3) ∧ k a0 a1 a2 a3 = some r := by
  unfold bd4_ at h
  obtain ⟨⟨a0, a1, a2, a3⟩, h1, h2⟩ := Option.bind_eq_some_iff.mp h
  exact ⟨a0, a1, a2, a3, h1, h2⟩
theorem bd4_in {A0 A1 A2 A3 R : Type} (a0 : A0) (a1 : A1) (a2 : A2) (a3 : A3) (k : A0 → A1 → A2 → A3 → Option R) : bd4_ (some (a0, a1, a2, a3)) k = k a0 a1 a2 a3 := rfl
def bd5_ {A0 A1 A2 A3 A4 R : Type} (o : Option (A0 × A1 × A2 × A3 × A4)) (k : A0 → A1 → A2 → A3 → A4 → Option R) : Option R := o.bind (fun p => k p.1 p.2.1 p.2.2.1 p.2.2.2.1 p.2.2.2.2)
theorem bd5_e {A0 A1 A2 A3 A4 R : Type} {o : Option (A0 × A1 × A2 × A3 × A4)} {k : A0 → A1 → A2 → A3 → A4 → Option R} {r : R} (h : bd5_ o k = some r) : ∃ a0 a1 a2 a3 a4, o = some (a0, a1, a2, a3, a4) ∧ k a0 a1 a2 a3 a4 = some r := by
  unfold bd5_ at h
  obtain ⟨⟨a0, a1, a2, a3, a4⟩, h1, h2⟩ := Option.bind_eq_some_iff.mp h
  exact ⟨a0, a1, a2, a3, a4, h1, h2⟩
theorem bd5_in {A0 A1 A2 A3 A4 R : Type} (a0 : A0) (a1 : A1) (a2 : A2) (a3 : A3) (a4 : A4) (k : A0 → A1 → A2 → A3 → A4 → Option R) : bd5_ (some (a0, a1, a2, a3, a4)) k = k a0 a1 a2 a3 a4 := rfl
def bd6_ {A0 A1 A2 A3 A4 A5 R : Type} (o : Option (A0 × A1 × A2 × A3 × A4 × A5)) (k : A0 → A1 → A2 → A3 → A4 → A5 → Option R) : Option R := o.bind (fun p => k p.1 p.2.1 p.2.2.1 p.2.2.2.1 p.2.2.2.2.1 p.2.2.2.2.2)
theorem bd6_e {A0 A1 A2 A3 A4 A5 R : Type} {o : Option (A0 × A1 × A2 × A3 × A4 × A5)} {k : A0 → A1 → A2 → A3 → A4 → A5 → Option R} {r : R} (h : bd6_ o k = some r) : ∃ a0 a1 a2 a3 a4 a5, o = some (a0, a1, a2, a3, a4, a5) ∧ k a0 a1 a2 a3 a4 a5 = some r := by
  unfold bd6_ at h
  obtain ⟨⟨a0, a1, a2, a3, a4, a5⟩, h1, h2⟩ := Option.bind_eq_some_iff.mp h
  exact ⟨a0, a1, a2, a3, a4, a5, h1, h2⟩
theorem bd6_in {A0 A1 A2 A3 A4 A5 R : Type} (a0 : A0) (a1 : A1) (a2 : A2) (a3 : A3) (a4 : A4) (a5 : A5) (k : A0 → A1 → A2 → A3 → A4 → A5 → Option R) : bd6_ (some (a0, a1, a2, a3, a4, a5)) k = k a0 a1 a2 a3 a4 a5 := rfl
def bd7_ {A0 A1 A2 A3 A4 A5 A6 R : Type} (o : Option (A0 × A1 × A2 × A3 × A4 × A5 × A6)) (k : A0 → A1 → A2 → A3 → A4 → A5 → A6 → Option R) : Option R := o.bind (fun p => k p.1 p.2.1 p.2.2.1 p.2.2.2.1 p.2.2.2.2.1 p.2.2.2.2.2.1 p.2.2.2.2.2.2)
theorem bd7_e {A0 A1 A2 A3 A4 A5 A6 R : Type} {o : Option (A0 × A1 × A2 × A3 × A4 × A5 × A6)} {k : A0 → A1 → A2 → A3 → A4 → A5 → A6 → Option R} {r : R} (h : bd7_ o k = some r) : ∃ a0 a1 a2 a3 a4 a5 a6, o = some (a0, a1, a2, a3, a4, a5, a6) ∧ k a0 a1 a2 a3 a4 a5 a6 = some r := by
  unfold bd7_ at h
  obtain ⟨⟨a0, a1, a2, a3, a4, a5, a6⟩, h1, h2⟩ := Option.bind_eq_some_iff.mp h
  exact ⟨a0, a1, a2, a3, a4, a5, a6, h1, h2⟩
theorem bd7_in {A0 A1 A2 A3 A4 A5 A6 R : Type} (a0 : A0) (a1 : A1) (a2 : A2) (a3 : A3) (a4 : A4) (a5 : A5) (a6 : A6) (k : A0 → A1 → A2 → A3 → A4 → A5 → A6 → Option R) : bd7_ (some (a0, a1, a2, a3, a4, a5, a6)) k = k a0 a1 a2 a3 a4 a5 a6 := rfl
def bd8_ {A0 A1 A2 A3 A4 A5 A6 A7 R : Type} (o : Option (A0 × A1 × A2 × A3 × A4 × A5 × A6 × A7)) (k : A0 → A1 → A2 → A3 → A4 → A5 → A6 → A7 → Option R) : Option R := o.bind (fun p => k p.1 p.2.1 p.2.2.1 p.2.2.2.1 p.2.2.2.2.1 p.2.2.2.2.2.1 p.2.2.2.2.2.2.1 p.2.2.2.2.2.2.2)
theorem bd8_e {A0 A1 A2 A3 A4 A5 A6 A7 R : Type} {o : Option (A0 × A1 × A2 × A3 × A4 × A5 × A6 × A7)} {k : A0 → A1 → A2 → A3 → A4 → A5 → A6 → A7 → Option R} {r : R} (h : bd8_ o k = some r) : ∃ a0 a1 a2 a3 a4 a5 a6 a7, o = some (a0, a1, a2, a3, a4, a5, a6, a7) ∧ k a0 a1 a2 a3 a4 a5 a6 a7 = some r := by
  unfold bd8_ at h
  obtain ⟨⟨a0, a1, a2, a3, a4, a5, a6, a7⟩, h1, h2⟩ := Option.bind_eq_some_iff.mp h
  exact ⟨a0, a1, a2, a3, a4, a5, a6, a7, h1, h2⟩
theorem bd8_in {A0 A1 A2 A3 A4 A5 A6 A7 R : Type} (a0 : A0) (a1 : A1) (a2 : A2) (a3 : A3) (a4 : A4) (a5 : A5) (a6 : A6) (a7 : A7) (k : A0 → A1 → A2 → A3 → A4 → A5 → A6 → A7 → Option R) : bd8_ (some (a0, a1, a2, a3, a4, a5, a6, a7)) k = k a0 a1 a2 a3 a4 a5 a6 a7 := rfl
def bd9_ {A0 A1 A2 A3 A4 A5 A6 A7 A8 R : Type} (o : Option (A0 × A1 × A2 × A3 × A4 × A5 × A6 × A7 × A8)) (k : A0 → A1 → A2 → A3 → A4 → A5 → A6 → A7 → A8 → Option R) : Option R := o.bind (fun p => k p.1 p.2.1 p.2.2.1 p.2.2.2.1 p.2.2.2.2.1 p.2.2.2.2.2.1 p.2.2.2.2.2.2.1 p.2.2.2.2.2.2.2.1 p.2.2.2.2.2.2.2.2)
theorem bd9_e {A0 A1 A2 A3 A4 A5 A6 A7 A8 R : Type} {o : Option (A0 × A1 × A2 × A3 × A4 × A5 × A6 × A7 × A8)} {k : A0 → A1 → A2 → A3 → A4 → A5 → A6 → A7 → A8 → Option R} {r : R} (h : bd9_ o k = some r) : ∃ a0 a1 a2 a3 a4 a5 a6 a7 a8, o = some (a0, a1, a2, a3, a4, a5, a6, a7, a8) ∧ k a0 a1 a2 a3 a4 a5 a6 a7 a8 = some r := by
  unfold bd9_ at h
  obtain ⟨⟨a0, a1, a2, a3, a4, a5, a6, a7, a8⟩, h1, h2⟩ := Option.bind_eq_some_iff.mp h
  exact ⟨a0, a1, a2, a3, a4, a5, a6, a7, a8, h1, h2⟩
theorem bd9_in {A0 A1 A2 A3 A4 A5 A6 A7 A8 R : Type} (a0 : A0) (a1 : A1) (a2 : A2) (a3 : A3) (a4 : A4) (a5 : A5) (a6 : A6) (a7 : A7) (a8 : A8) (k : A0 → A1 → A2 → A3 → A4 → A5 → A6 → A7 → A8 → Option R) : bd9_ (some (a0, a1, a2, a3, a4, a5, a6, a7, a8)) k = k a0 a1 a2 a3 a4 a5 a6 a7 a8 := rfl
def bd10_ {A0 A1 A2 A3 A4 A5 A6 A7 A8 A9 R : Type} (o : Option (A0 × A1 × A2 × A3 × A4 × A5 × A6 × A7 × A8 × A9)) (k : A0 → A1 → A2 → A3 → A4 → A5 → A6 → A7 → A8 → A9 → Option R) : Option R := o.bind (fun p => k p.1 p.2.1 p.2.2.1 p.2.2.2.1 p.2.2.2.2.1 p.2.2.2.2.2.1 p.2.2.2.2.2.2.1 p.2.2.2.2.2.2.2.1 p.2.2.2.2.2.2.2.2.1 p.2.2.2.2.2.2.2.2.2)
theorem bd10_e {A0 A1 A2 A3 A4 A5 A6 A7 A8 A9 R : Type} {o : Option (A0 × A1 × A2 × A3 × A4 × A5 × A6 × A7 × A8 × A9)} {k : A0 → A1 → A2 → A3 → A4 → A5 → A6 → A7 → A8 → A9 → Option R} {r : R} (h : bd10_ o k = some r) : ∃ a0 a1 a2 a3 a4 a5 a6 a7 a8 a9, o = some (a0, a1, a2, a3, a4, a5, a6, a7, a8, a9) ∧ k a0 a1 a2 a3 a4 a5 a6 a7 a8 a9 = some r := by
  unfold bd10_ at h
  obtain ⟨⟨a0, a1, a2, a3, a4, a5, a6, a7, a8, a9⟩, h1, h2⟩ := Option.bind_eq_some_iff.mp h
  exact ⟨a0, a1, a2, a3, a4, a5, a6, a7, a8, a9, h1, h2⟩
theorem bd10_in {A0 A1 A2 A3 A4 A5 A6 A7 A8 A9 R : Type} (a0 : A0) (a1 : A1) (a2 : A2) (a3 : A3) (a4 : A4) (a5 : A5) (a6 : A6) (a7 : A7) (a8 : A8) (a9 : A9) (k : A0 → A1 → A2 → A3 → A4 → A5 → A6 → A7 → A8 → A9 → Option R) : bd10_ (some (a0, a1, a2, a3, a4, a5, a6, a7, a8, a9)) k = k a0 a1 a2 a3 a4 a5 a6 a7 a8 a9 := rfl
def bd11_ {A0 A1 A2 A3 A4 A5 A6 A7 A8 A9 A10 R : Type} (o : Option (A0 × A1 × A2 × A3 × A4 × A5 × A6 × A7 × A8 × A9 × A10)) (k : A0 → A1 → A2 → A3 → A4 → A5 → A6 → A7 → A8 → A9 → A10 → Option R) : Option R := o.bind (fun p => k p.1 p.2.1 p.2.2.1 p.2.2.2.1 p.2.2.2.2.1 p.2.2.2.2.2.1 p.2.2.2.2.2.2.1 p.2.2.2.2.2.2.2.1 p.2.2.2.2.2.2.2.2.1 p.2.2.2.2.2.2.2.2.2.1 p.2.2.2.2.2.2.2.2.2.2)
theorem bd11_e {A0 A1 A2 A3 A4 A5 A6 A7 A8 A9 A10 R : Type} {o : Option (A0 × A1 × A2 × A3 × A4 × A5 × A6 × A7 × A8 × A9 × A10)} {k : A0 → A1 → A2 → A3 → A4 → A5 → A6 → A7 → A8 → A9 → A10 → Option R} {r : R} (h : bd11_ o k = some r) : ∃ a0 a1 a2 a3 a4 a5 a6 a7 a8 a9 a10, o = some (a0, a1, a2, a3, a4, a5, a6, a7, a8, a9, a10) ∧ k a0 a1 a2 a3 a4 a5 a6 a7 a8 a9 a10 = some r := by
  unfold bd11_ at h
  obtain ⟨⟨a0, a1, a2, a3, a4, a5, a6, a7, a8, a9, a10⟩, h1, h2⟩ := Option.bind_eq_some_iff.mp h
  exact ⟨a0, a1, a2, a3, a4, a5, a6, a7, a8, a9, a10, h1, h2⟩
theorem bd11_in {A0 A1 A2 A3 A4 A5 A6 A7 A8 A9 A10 R : Type} (a0 : A0) (a1 : A1) (a2 : A2) (a3 : A3) (a4 : A4) (a5 : A5) (a6 : A6) (a7 : A7) (a8 : A8) (a9 : A9) (a10 : A10) (k : A0 → A1 → A2 → A3 → A4 → A5 → A6 → A7 → A8 → A9 → A10 → Option R) : bd11_ (some (a0, a1, a2, a3, a4, a5, a6, a7, a8, a9, a10)) k = k a0 a1 a2 a3 a4 a5 a6 a7 a8 a9 a10 := rfl
def bd12_ {A0 A1 A2 A3 A4 A5 A6 A7 A8 A9 A10 A11 R : Type} (o : Option (A0 × A1 × A2 × A3 × A4 × A5 × A6 × A7 × A8 × A9 × A10 × A11)) (k : A0 → A1 → A2 → A3 → A4 → A5 → A6 → A7 → A8 → A9 → A10 → A11 → Option R) : Option R := o.bind (fun p => k p.1 p.2.1 p.2.2.1 p.2.2.2.1 p.2.2.2.2.1 p.2.2.2.2.2.1 p.2.2.2.2.2.2.1 p.2.2.2.2.2.2.2.1 p.2.2.2.2.2.2.2.2.1 p.2.2.2.2.2.2.2.2.2.1 p.2.2.2.2.2.2.2.2.2.2.1 p.2.2.2.2.2.2.2.2.2.2.2)
theorem bd12_e {A0 A1 A2 A3 A4 A5 A6 A7 A8 A9 A10 A11 R : Type} {o : Option (A0 × A1 × A2 × A3 × A4 × A5 × A6 × A7 × A8 × A9 × A10 × A11)} {k : A0 → A1 → A2 → A3 → A4 → A5 → A6 → A7 → A8 → A9 → A10 → A11 → Option R} {r : R} (h : bd12_ o k = some r) : ∃ a0 a1 a2 a3 a4 a5 a6 a7 a8 a9 a10 a11, o = some (a0, a1, a2, a3, a4, a5, a6, a7, a8, a9, a10, a11) ∧ k a0 a1 a2 a3 a4 a5 a6 a7 a8 a9 a10 a11 = some r := by
  unfold bd12_ at h
  obtain ⟨⟨a0, a1, a2, a3, a4, a5, a6, a7, a8, a9, a10, a11⟩, h1, h2⟩ := Option.bind_eq_some_iff.mp h
  exact ⟨a0, a1, a2, a3, a4, a5, a6, a7, a8, a9, a10, a11, h1, h2⟩
theorem bd12_in {A0 A1 A2 A3 A4 A5 A6 A7 A8 A9 A10 A11 R : Type} (a0 : A0) (a1 : A1) (a2 : A2) (a3 : A3) (a4 : A4) (a5 : A5) (a6 : A6) (a7 : A7) (a8 : A8) (a9 : A9) (a10 : A10) (a11 : A11) (k : A0 → A1 → A2 → A3 → A4 → A5 → A6 → A7 → A8 → A9 → A10 → A11 → Option R) : bd12_ (some (a0, a1, a2, a3, a4, a5, a6, a7, a8, a9, a10, a11)) k = k a0 a1 a2 a3 a4 a5 a6 a7 a8 a9 a10 a11 := rfl
def jn0_ {R : Type} (K : R) (t : (R) → R) : R := t K
theorem jn0_e {R : Type} {K : R} {t : R → R} {r : R} (h : jn0_ K t = r) : ∃ k : R, k = K ∧ t k = r := ⟨K, rfl, h⟩
def jn1_ {A0 R : Type} (K : A0 → R) (t : (A0 → R) → R) : R := t K
theorem jn1_e {A0 R : Type} {K : A0 → R} {t : (A0 → R) → R} {r : R} (h : jn1_ K t = r) : ∃ k : A0 → R, (∀ a0, k a0 = K a0) ∧ t k = r := ⟨K, fun _ => rfl, h⟩
def jn2_ {A0 A1 R : Type} (K : A0 → A1 → R) (t : (A0 → A1 → R) → R) : R := t K
theorem jn2_e {A0 A1 R : Type} {K : A0 → A1 → R} {t : (A0 → A1 → R) → R} {r : R} (h : jn2_ K t = r) : ∃ k : A0 → A1 → R, (∀ a0 a1, k a0 a1 = K a0 a1) ∧ t k = r := ⟨K, fun _ _ => rfl, h⟩
def jn3_ {A0 A1 A2 R : Type} (K : A0 → A1 → A2 → R) (t : (A0 → A1 → A2 → R) → R) : R := t K
theorem jn3_e {A0 A1 A2 R : Type} {K : A0 → A1 → A2 → R} {t : (A0 → A1 → A2 → R) → R} {r : R} (h : jn3_ K t = r) : ∃ k : A0 → A1 → A2 → R, (∀ a0 a1 a2, k a0 a1 a2 = K a0 a1 a2) ∧ t k = r := ⟨K, fun _ _ _ => rfl, h⟩
def jn4_ {A0 A1 A2 A3 R : Type} (K : A0 → A1 → A2 → A3 → R) (t : (A0 → A1 → A2 → A3 → R) → R) : R := t K
theorem jn4_e {A0 A1 A2 A3 R : Type} {K : A0 → A1 → A2 → A3 → R} {t : (A0 → A1 → A2 → A3 → R) → R} {r : R} (h : jn4_ K t = r) : ∃ k : A0 → A1 → A2 → A3 → R, (∀ a0 a1 a2 a3, k a0 a1 a2 a3 = K a0 a1 a2 a3) ∧ t k = r := ⟨K, fun _ _ _ _ => rfl, h⟩
def jn5_ {A0 A1 A2 A3 A4 R : Type} (K : A0 → A1 → A2 → A3 → A4 → R) (t : (A0 → A1 → A2 → A3 → A4 → R) → R) : R := t K
theorem jn5_e {A0 A1 A2 A3 A4 R : Type} {K : A0 → A1 → A2 → A3 → A4 → R} {t : (A0 → A1 → A2 → A3 → A4 → R) → R} {r : R} (h : jn5_ K t = r) : ∃ k : A0 → A1 → A2 → A3 → A4 → R, (∀ a0 a1 a2 a3 a4, k a0 a1 a2 a3 a4 = K a0 a1 a2 a3 a4) ∧ t k = r := ⟨K, fun _ _ _ _ _ => rfl, h⟩
def jn6_ {A0 A1 A2 A3 A4 A5 R : Type} (K : A0 → A1 → A2 → A3 → A4 → A5 → R) (t : (A0 → A1 → A2 → A3 → A4 → A5 → R) → R) : R := t K
theorem jn6_e {A0 A1 A2 A3 A4 A5 R : Type} {K : A0 → A1 → A2 → A3 → A4 → A5 → R} {t : (A0 → A1 → A2 → A3 → A4 → A5 → R) → R} {r : R} (h : jn6_ K t = r) : ∃ k : A0 → A1 → A2 → A3 → A4 → A5 → R, (∀ a0 a1 a2 a3 a4 a5, k a0 a1 a2 a3 a4 a5 = K a0 a1 a2 a3 a4 a5) ∧ t k = r := ⟨K, fun _ _ _ _ _ _ => rfl, h⟩
def jn7_ {A0 A1 A2 A3 A4 A5 A6 R : Type} (K : A0 → A1 → A2 → A3 → A4 → A5 → A6 → R) (t : (A0 → A1 → A2 → A3 → A4 → A5 → A6 → R) → R) : R := t K
theorem jn7_e {A0 A1 A2 A3 A4 A5 A6 R : Type} {K : A0 → A1 → A2 → A3 → A4 → A5 → A6 → R} {t : (A0 → A1 → A2 → A3 → A4 → A5 → A6 → R) → R} {r : R} (h : jn7_ K t = r) : ∃ k : A0 → A1 → A2 → A3 → A4 → A5 → A6 → R, (∀ a0 a1 a2 a3 a4 a5 a6, k a0 a1 a2 a3 a4 a5 a6 = K a0 a1 a2 a3 a4 a5 a6) ∧ t k = r := ⟨K, fun _ _ _ _ _ _ _ => rfl, h⟩
def jn8_ {A0 A1 A2 A3 A4 A5 A6 A7 R : Type} (K : A0 → A1 → A2 → A3 → A4 → A5 → A6 → A7 → R) (t : (A0 → A1 → A2 → A3 → A4 → A5 → A6 → A7 → R) → R) : R := t K
theorem jn8_e {A0 A1 A2 A3 A4 A5 A6 A7 R : Type} {K : A0 → A1 → A2 → A3 → A4 → A5 → A6 → A7 → R} {t : (A0 → A1 → A2 → A3 → A4 → A5 → A6 → A7 → R) → R} {r : R} (h : jn8_ K t = r) : ∃ k : A0 → A1 → A2 → A3 → A4 → A5 → A6 → A7 → R, (∀ a0 a1 a2 a3 a4 a5 a6 a7, k a0 a1 a2 a3 a4 a5 a6 a7 = K a0 a1 a2 a3 a4 a5 a6 a7) ∧ t k = r := ⟨K, fun _ _ _ _ _ _ _ _ => rfl, h⟩
def jn9_ {A0 A1 A2 A3 A4 A5 A6 A7 A8 R : Type} (K : A0 → A1 → A2 → A3 → A4 → A5 → A6 → A7 → A8 → R) (t : (A0 → A1 → A2 → A3 → A4 → A5 → A6 → A7 → A8 → R) → R) : R := t K
theorem jn9_e {A0 A1 A2 A3 A4 A5 A6 A7 A8 R : Type} {K : A0 → A1 → A2 → A3 → A4 → A5 → A6 → A7 → A8 → R} {t : (A0 → A1 → A2 → A3 → A4 → A5 → A6 → A7 → A8 → R) → R} {r : R} (h : jn9_ K t = r) : ∃ k : A0 → A1 → A2 → A3 → A4 → A5 → A6 → A7 → A8 → R, (∀ a0 a1 a2 a3 a4 a5 a6 a7 a8, k a0 a1 a2 a3 a4 a5 a6 a7 a8 = K a0 a1 a2 a3 a4 a5 a6 a7 a8) ∧ t k = r := ⟨K, fun _ _ _ _ _ _ _ _ _ => rfl, h⟩
def jn10_ {A0 A1 A2 A3 A4 A5 A6 A7 A8 A9 R : Type} (K : A0 → A1 → A2 → A3 → A4 → A5 → A6 → A7 → A8 → A9 → R) (t : (A0 → A1 → A2 → A3 → A4 → A5 → A6 → A7 → A8 → A9 → R) → R) : R := t K
theorem jn10_e {A0 A1 A2 A3 A4 A5 A6 A7 A8 A9 R : Type} {K : A0 → A1 → A2 → A3 → A4 → A5 → A6 → A7 → A8 → A9 → R} {t : (A0 → A1 → A2 → A3 → A4 → A5 → A6 → A7 → A8 → A9 → R) → R} {r : R} (h : jn10_ K t = r) : ∃ k : A0 → A1 → A2 → A3 → A4 → A5 → A6 → A7 → A8 → A9 → R, (∀ a0 a1 a2 a3 a4 a5 a6 a7 a8 a9, k a0 a1 a2 a3 a4 a5 a6 a7 a8 a9 = K a0 a1 a2 a3 a4 a5 a6 a7 a8 a9) ∧ t k = r := ⟨K, fun _ _ _ _ _ _ _ _ _ _ => rfl, h⟩
def jn11_ {A0 A1 A2 A3 A4 A5 A6 A7 A8 A9 A10 R : Type} (K : A0 → A1 → A2 → A3 → A4 → A5 → A6 → A7 → A8 → A9 → A10 → R) (t : (A0 → A1 → A2 → A3 → A4 → A5 → A6 → A7 → A8 → A9 → A10 → R) → R) : R := t K
theorem jn11_e {A0 A1 A2 A3 A4 A5 A6 A7 A8 A9 A10 R : Type} {K : A0 → A1 → A2 → A3 → A4 → A5 → A6 → A7 → A8 → A9 → A10 → R} {t : (A0 → A1 → A2 → A3 → A4 → A5 → A6 → A7 → A8 → A9 → A10 → R) → R} {r : R} (h : jn11_ K t = r) : ∃ k : A0 → A1 → A2 → A3 → A4 → A5 → A6 → A7 → A8 → A9 → A10 → R, (∀ a0 a1 a2 a3 a4 a5 a6 a7 a8 a9 a10, k a0 a1 a2 a3 a4 a5 a6 a7 a8 a9 a10 = K a0 a1 a2 a3 a4 a5 a6 a7 a8 a9 a10) ∧ t k = r := ⟨K, fun _ _ _ _ _ _ _ _ _ _ _ => rfl, h⟩
def jn12_ {A0 A1 A2 A3 A4 A5 A6 A7 A8 A9 A10 A11 R : Type} (K : A0 → A1 → A2 → A3 → A4 → A5 → A6 → A7 → A8 → A9 → A10 → A11 → R) (t : (A0 → A1 → A2 → A3 → A4 → A5 → A6 → A7 → A8 → A9 → A10 → A11 → R) → R) : R := t K
theorem jn12_e {A0 A1 A2 A3 A4 A5 A6 A7 A8 A9 A10 A11 R : Type} {K : A0 → A1 → A2 → A3 → A4 → A5 → A6 → A7 → A8 → A9 → A10 → A11 → R} {t : (A0 → A1 → A2 → A3 → A4 → A5 → A6 → A7 → A8 → A9 → A10 → A11 → R) → R} {r : R} (h : jn12_ K t = r) : ∃ k : A0 → A1 → A2 → A3 → A4 → A5 → A6 → A7 → A8 → A9 → A10 → A11 → R, (∀ a0 a1 a2 a3 a4 a5 a6 a7 a8 a9 a10 a11, k a0 a1 a2 a3 a4 a5 a6 a7 a8 a9 a10 a11 = K a0 a1 a2 a3 a4 a5 a6 a7 a8 a9 a10 a11) ∧ t k = r := ⟨K, fun _ _ _ _ _ _ _ _ _ _ _ _ => rfl, h⟩
def ar4 (a b c d : Nat) : Nat → Option Nat := va_up (va_up (va_up (va_up (fun _ => none) 0 (some a)) 1 (some b)) 2 (some c)) 3 (some d)
-- contracts: what is only read, what is changed
abbrev TY (cI cZ cP cS : ClassId) : List (ClassId × FieldType) := [(cI, .int), (cZ, .boolean), (cP, .object "SecondSunrise$Plant"), (cS, .object "SecondSunrise$Sheet")]
abbrev NF : Addr → Prop := fun _ => False
abbrev RO (D : va_G) (ty : List (ClassId × FieldType)) (av : List Value) (w : va_W) : Array Value → State → Prop := va_Pc av (fun U => va_P D vwCl w U.heap ∧ va_K D vwCl ty U)
abbrev RW (D : va_G) (ty : List (ClassId × FieldType)) (av : List Value) (sz : Nat) (w : va_W) : Array Value → State → Prop := va_Pc av (fun U => U.heap.size = sz ∧ va_P D vwCl w U.heap ∧ va_K D vwCl ty U ∧ va_D (fun _ => True) w)
abbrev RWi (D : va_G) (ty : List (ClassId × FieldType)) (r : Int32) (sz : Nat) (w w1 : va_W) : Array Value → State → Outcome → State → Prop := va_Qi (fun (x : Int32) (_ : Unit) => x = r) (fun _ t => va_P D vwCl w1 t.heap ∧ va_K D vwCl ty t ∧ va_D (va_A w sz) w1) (va_A w sz)
abbrev RWz (D : va_G) (ty : List (ClassId × FieldType)) (r : Int32) (sz : Nat) (w w1 : va_W) : Array Value → State → Outcome → State → Prop := va_Qi (fun (x : Int32) (_ : Unit) => x = r ∧ narrow .boolean (.int x) = .int x) (fun _ t => va_P D vwCl w1 t.heap ∧ va_K D vwCl ty t ∧ va_D (va_A w sz) w1) (va_A w sz)
abbrev RWl (D : va_G) (ty : List (ClassId × FieldType)) (r : Int64) (sz : Nat) (w w1 : va_W) : Array Value → State → Outcome → State → Prop := va_Ql (fun (x : Int64) (_ : Unit) => x = r) (fun _ t => va_P D vwCl w1 t.heap ∧ va_K D vwCl ty t ∧ va_D (va_A w sz) w1) (va_A w sz)
abbrev RWv (D : va_G) (ty : List (ClassId × FieldType)) (sz : Nat) (w w1 : va_W) : Array Value → State → Outcome → State → Prop := va_Qv (fun (_ : Unit) => True) (fun _ t => va_P D vwCl w1 t.heap ∧ va_K D vwCl ty t ∧ va_D (va_A w sz) w1) (va_A w sz)
theorem fb_ro {D : va_G} {ty : List (ClassId × FieldType)} {av : List Value} {w : va_W} : FrameBlind (RO D ty av w) := fun a U g mk q => by
  obtain ⟨q0, qP, qK⟩ := q
  exact ⟨q0, qP, va_K.moved (u := U) (U := U.calling g mk a) (Vm.Alike.refl U.vm) qK⟩
theorem fb_rw {D : va_G} {ty : List (ClassId × FieldType)} {av : List Value} {sz : Nat} {w : va_W} : FrameBlind (RW D ty av sz w) := fun a U g mk q => by
  obtain ⟨q0, q1, qP, qK, qD⟩ := q
  exact ⟨q0, q1, qP, va_K.moved (u := U) (U := U.calling g mk a) (Vm.Alike.refl U.vm) qK, qD⟩
theorem pv_ro {s : State} {H : Heap} {D : va_G} {ty : List (ClassId × FieldType)} {w : va_W} {b q0 ci : Nat} {q : vw_C} {fs : List Value} {As : List Value} (hK : va_K D vwCl ty s) (hP : va_P D vwCl w H) (hc : vwCl[ci]? = some q) (he : w[q0]? = some (b, .inr (ci, fs))) : PreV s H q.1 b (RO D ty (.ref b :: As) w) As :=
  ⟨fb_ro, va_recv hK hP hc he, fun U hU hW => ⟨rfl, by rw [hU]; exact hP, va_K.moved hW.alike hK⟩⟩
theorem pv_rx {s : State} {H : Heap} {D : va_G} {ty : List (ClassId × FieldType)} {w wz : va_W} {b q0 ci : Nat} {q : vw_C} {fs : List Value} {As : List Value} (hK : va_K D vwCl ty s) (hZ : va_P D vwCl wz H) (hP : va_P D vwCl w H) (hc : vwCl[ci]? = some q) (he : wz[q0]? = some (b, .inr (ci, fs))) : PreV s H q.1 b (RO D ty (.ref b :: As) w) As :=
  ⟨fb_ro, va_recv hK hZ hc he, fun U hU hW => ⟨rfl, by rw [hU]; exact hP, va_K.moved hW.alike hK⟩⟩
theorem ps_ro {s : State} {H : Heap} {D : va_G} {ty : List (ClassId × FieldType)} {w : va_W} {As : List Value} (hK : va_K D vwCl ty s) (hP : va_P D vwCl w H) : PreS s H (RO D ty As w) As :=
  ⟨fb_ro, fun U hU hW => ⟨rfl, by rw [hU]; exact hP, va_K.moved hW.alike hK⟩⟩
theorem pv_rw {s : State} {H : Heap} {D : va_G} {ty : List (ClassId × FieldType)} {w : va_W} {A : Nat → Prop} {b q0 ci : Nat} {q : vw_C} {fs : List Value} {As : List Value} (hK : va_K D vwCl ty s) (hP : va_P D vwCl w H) (hD : va_D A w) (hc : vwCl[ci]? = some q) (he : w[q0]? = some (b, .inr (ci, fs))) : PreV s H q.1 b (RW D ty (.ref b :: As) H.size w) As :=
  ⟨fb_rw, va_recv hK hP hc he, fun U hU hW => ⟨rfl, by rw [hU], by rw [hU]; exact hP, va_K.moved hW.alike hK, hD.weaken (fun _ _ _ _ => trivial)⟩⟩
theorem ps_rw {s : State} {H : Heap} {D : va_G} {ty : List (ClassId × FieldType)} {w : va_W} {A : Nat → Prop} {As : List Value} (hK : va_K D vwCl ty s) (hP : va_P D vwCl w H) (hD : va_D A w) : PreS s H (RW D ty As H.size w) As :=
  ⟨fb_rw, fun U hU hW => ⟨rfl, by rw [hU], by rw [hU]; exact hP, va_K.moved hW.alike hK, hD.weaken (fun _ _ _ _ => trivial)⟩⟩
section RWC
variable {p : Program} {l : Launch} {e : Env} {R : Room} {s : State} {m : MethodId} {args : Array Value} {below : List Frame} {meth : Method} {c : Code} {H : Heap} {locs : List Loc} {cells slots : Nat} {Q : State → Prop}
variable {pc : Nat} {ls : Array Slot} {rest st0 : List Value} {a : Array Value} {A0 : Nat → Prop} {H0 : Heap} {D : va_G} {ty : List (ClassId × FieldType)} {ws wc wr w1 ws2 : va_W} {isC isR perm : List Nat}
theorem rwi_call {r : Int32} (hr : va_Run p l e R s m args below meth c H locs cells slots 0 0 (F0 m pc ls st0) rest (RWi D ty r H.size wc w1 a) (va_A wc H.size)) (hS : va_S A0 H0 H locs) (hA : ∀ q, H0.size ≤ q → A0 q) (hP : va_P D vwCl ws H) (hD : va_D A0 ws) (hC : isC.map (fun i => ws[i]?) = wc.map some) (hn : va_nd isR = true) (hdis : ∀ i ∈ isR, i ∉ isC) (hR : isR.map (fun i => ws[i]?) = wr.map some) (hn2 : va_nd perm = true) (hp1 : perm.filterMap (fun i => (wr ++ w1)[i]?) = ws2) (hp2 : perm.map (fun i => (wr ++ w1)[i]?) = ws2.map some)
    (kk : ∀ (H1 : Heap) (locs1 : List Loc), va_P D vwCl ws2 H1 → va_D A0 ws2 → va_S A0 H0 H1 locs1 → W p l e R s m args below meth c H1 locs1 cells slots Q (F0 m (pc + 3) ls (.int r :: rest))) : W p l e R s m args below meth c H locs cells slots Q (F0 m pc ls st0) := by
  have hFc := va_free (wc := wc) hD hS hA isC hC
  refine va_calli hr hS (fun q _ h => hFc q h) hFc (fun x u t H1 locs ht hvm hw hB hz1 hk1 hS => ?_)
  obtain ⟨hP1, hK1, hD1⟩ := hB
  rw [ht] at hP1
  obtain ⟨hP, hD⟩ := va_join (wr := wr) hP hD isC isR hC hR hn hdis hk1 hFc hP1 hD1
  rw [hw]
  exact kk H1 locs (hP.sub perm hp1) (hD.sub perm hn2 hp2) hS
theorem rwz_call {r : Int32} (hr : va_Run p l e R s m args below meth c H locs cells slots 0 0 (F0 m pc ls st0) rest (RWz D ty r H.size wc w1 a) (va_A wc H.size)) (hS : va_S A0 H0 H locs) (hA : ∀ q, H0.size ≤ q → A0 q) (hP : va_P D vwCl ws H) (hD : va_D A0 ws) (hC : isC.map (fun i => ws[i]?) = wc.map some) (hn : va_nd isR = true) (hdis : ∀ i ∈ isR, i ∉ isC) (hR : isR.map (fun i => ws[i]?) = wr.map some) (hn2 : va_nd perm = true) (hp1 : perm.filterMap (fun i => (wr ++ w1)[i]?) = ws2) (hp2 : perm.map (fun i => (wr ++ w1)[i]?) = ws2.map some)
    (kk : narrow .boolean (.int r) = .int r → ∀ (H1 : Heap) (locs1 : List Loc), va_P D vwCl ws2 H1 → va_D A0 ws2 → va_S A0 H0 H1 locs1 → W p l e R s m args below meth c H1 locs1 cells slots Q (F0 m (pc + 3) ls (.int r :: rest))) : W p l e R s m args below meth c H locs cells slots Q (F0 m pc ls st0) := by
  have hFc := va_free (wc := wc) hD hS hA isC hC
  refine va_calli hr hS (fun q _ h => hFc q h) hFc (fun x u t H1 locs ht hvm hw hB hz1 hk1 hS => ?_)
  obtain ⟨hP1, hK1, hD1⟩ := hB
  rw [ht] at hP1
  obtain ⟨hP, hD⟩ := va_join (wr := wr) hP hD isC isR hC hR hn hdis hk1 hFc hP1 hD1
  obtain ⟨hw, hw2⟩ := hw
  rw [hw] at hw2 ⊢
  exact kk hw2 H1 locs (hP.sub perm hp1) (hD.sub perm hn2 hp2) hS
theorem rwl_call {r : Int64} (hr : va_Run p l e R s m args below meth c H locs cells slots 0 0 (F0 m pc ls st0) rest (RWl D ty r H.size wc w1 a) (va_A wc H.size)) (hS : va_S A0 H0 H locs) (hA : ∀ q, H0.size ≤ q → A0 q) (hP : va_P D vwCl ws H) (hD : va_D A0 ws) (hC : isC.map (fun i => ws[i]?) = wc.map some) (hn : va_nd isR = true) (hdis : ∀ i ∈ isR, i ∉ isC) (hR : isR.map (fun i => ws[i]?) = wr.map some) (hn2 : va_nd perm = true) (hp1 : perm.filterMap (fun i => (wr ++ w1)[i]?) = ws2) (hp2 : perm.map (fun i => (wr ++ w1)[i]?) = ws2.map some)
    (kk : ∀ (H1 : Heap) (locs1 : List Loc), va_P D vwCl ws2 H1 → va_D A0 ws2 → va_S A0 H0 H1 locs1 → W p l e R s m args below meth c H1 locs1 cells slots Q (F0 m (pc + 3) ls (.long r :: rest))) : W p l e R s m args below meth c H locs cells slots Q (F0 m pc ls st0) := by
  have hFc := va_free (wc := wc) hD hS hA isC hC
  refine va_calll hr hS (fun q _ h => hFc q h) hFc (fun x u t H1 locs ht hvm hw hB hz1 hk1 hS => ?_)
  obtain ⟨hP1, hK1, hD1⟩ := hB
  rw [ht] at hP1
  obtain ⟨hP, hD⟩ := va_join (wr := wr) hP hD isC isR hC hR hn hdis hk1 hFc hP1 hD1
  rw [hw]
  exact kk H1 locs (hP.sub perm hp1) (hD.sub perm hn2 hp2) hS
theorem rwv_call (hr : va_Run p l e R s m args below meth c H locs cells slots 0 0 (F0 m pc ls st0) rest (RWv D ty H.size wc w1 a) (va_A wc H.size)) (hS : va_S A0 H0 H locs) (hA : ∀ q, H0.size ≤ q → A0 q) (hP : va_P D vwCl ws H) (hD : va_D A0 ws) (hC : isC.map (fun i => ws[i]?) = wc.map some) (hn : va_nd isR = true) (hdis : ∀ i ∈ isR, i ∉ isC) (hR : isR.map (fun i => ws[i]?) = wr.map some) (hn2 : va_nd perm = true) (hp1 : perm.filterMap (fun i => (wr ++ w1)[i]?) = ws2) (hp2 : perm.map (fun i => (wr ++ w1)[i]?) = ws2.map some)
    (kk : ∀ (H1 : Heap) (locs1 : List Loc), va_P D vwCl ws2 H1 → va_D A0 ws2 → va_S A0 H0 H1 locs1 → W p l e R s m args below meth c H1 locs1 cells slots Q (F0 m (pc + 3) ls rest)) : W p l e R s m args below meth c H locs cells slots Q (F0 m pc ls st0) := by
  have hFc := va_free (wc := wc) hD hS hA isC hC
  refine va_callv hr hS (fun q _ h => hFc q h) hFc (fun u t H1 locs ht hvm hw hB hz1 hk1 hS => ?_)
  obtain ⟨hP1, hK1, hD1⟩ := hB
  rw [ht] at hP1
  obtain ⟨hP, hD⟩ := va_join (wr := wr) hP hD isC isR hC hR hn hdis hk1 hFc hP1 hD1
  exact kk H1 locs (hP.sub perm hp1) (hD.sub perm hn2 hp2) hS
theorem lv_cv {x v : Int32} (h : x = v) (k : W p l e R s m args below meth c H locs cells slots Q (F0 m pc ls (.int v :: rest))) : W p l e R s m args below meth c H locs cells slots Q (F0 m pc ls (.int x :: rest)) := by
  rw [h]; exact k
end RWC
theorem same_I {D : va_G} {cI cZ cP cS cA : ClassId} {s : State} (hK : va_K D vwCl (TY cI cZ cP cS ++ [(cA, .int)]) s) : cI = cA := Option.some.inj ((hK.2 0 _ rfl).2.symm.trans (hK.2 4 _ rfl).2)
theorem same_Z {D : va_G} {cI cZ cP cS cA : ClassId} {s : State} (hK : va_K D vwCl (TY cI cZ cP cS ++ [(cA, .boolean)]) s) : cZ = cA := Option.some.inj ((hK.2 1 _ rfl).2.symm.trans (hK.2 4 _ rfl).2)
theorem same_P {D : va_G} {cI cZ cP cS cA : ClassId} {s : State} (hK : va_K D vwCl (TY cI cZ cP cS ++ [(cA, .object "SecondSunrise$Plant")]) s) : cP = cA := by
  obtain ⟨_, _, _, _, _, h1⟩ := (hK.2 2 _ rfl).2
  obtain ⟨_, _, _, _, _, h2⟩ := (hK.2 4 _ rfl).2
  exact Option.some.inj (h1.symm.trans h2)
theorem same_S {D : va_G} {cI cZ cP cS cA : ClassId} {s : State} (hK : va_K D vwCl (TY cI cZ cP cS ++ [(cA, .object "SecondSunrise$Sheet")]) s) : cS = cA := by
  obtain ⟨_, _, _, _, _, h1⟩ := (hK.2 3 _ rfl).2
  obtain ⟨_, _, _, _, _, h2⟩ := (hK.2 4 _ rfl).2
  exact Option.some.inj (h1.symm.trans h2)
theorem sw_lo {x : Int32} {N : Nat} (hN : N < 2 ^ 31) (h : ∀ k, k ≤ N → ¬ x = nI k) : x.toInt < 0 ∨ (N : Int) < x.toInt := by
  by_cases q : x.toInt < 0
  · exact Or.inl q
  · refine Or.inr ?_
    have q2 : ¬ x < 0 := fun h => q (by rw [Int32.lt_iff_toInt_lt] at h; exact h)
    obtain ⟨j, hj, rfl⟩ := nI_of q2
    rw [nI_toInt hj]
    rcases Nat.lt_or_ge N j with z | z
    · omega
    · exact absurd rfl (h j z)
theorem sw2 {x : Int32} (h0 : ¬ x = 0) (h1 : ¬ x = 1) (h2 : ¬ x = 2) : x.toInt < 0 ∨ (2 : Int) < x.toInt := sw_lo (N := 2) (by decide) (fun k hk => by
  match k, hk with
  | 0, _ => exact h0
  | 1, _ => exact h1
  | 2, _ => exact h2)
theorem sw8 {x : Int32} (h0 : ¬ x = 0) (h1 : ¬ x = 1) (h2 : ¬ x = 2) (h3 : ¬ x = 3) (h4 : ¬ x = 4) (h5 : ¬ x = 5) (h6 : ¬ x = 6) (h7 : ¬ x = 7) (h8 : ¬ x = 8) : x.toInt < 0 ∨ (8 : Int) < x.toInt := sw_lo (N := 8) (by decide) (fun k hk => by
  match k, hk with
  | 0, _ => exact h0
  | 1, _ => exact h1
  | 2, _ => exact h2
  | 3, _ => exact h3
  | 4, _ => exact h4
  | 5, _ => exact h5
  | 6, _ => exact h6
  | 7, _ => exact h7
  | 8, _ => exact h8)
theorem lk_ne {x : Int32} {k : Nat} (hk : k < 2 ^ 31) (h : ¬ x = nI k) : ¬ (k : Int) = x.toInt := fun q => h (by
  rw [← Int32.toInt_inj, nI_toInt hk]; exact q.symm)
theorem lk2 {x : Int32} (h0 : ¬ x = 0) (h1 : ¬ x = 1) : Op.lookupswitch.offset (#[(0, 27), (1, 32)] : Array (Int × Int)).toList 63 x.toInt = 63 := by
  have e0 : ¬ (0 : Int) = x.toInt := lk_ne (k := 0) (by decide) h0
  have e1 : ¬ (1 : Int) = x.toInt := lk_ne (k := 1) (by decide) h1
  show (if (0 : Int) = x.toInt then (27 : Int) else if (1 : Int) = x.toInt then 32 else 63) = 63
  rw [if_neg e0, if_neg e1]
theorem lk4 {x : Int32} (h0 : ¬ x = 98) (h1 : ¬ x = 100) (h2 : ¬ x = 110) (h3 : ¬ x = 114) : Op.lookupswitch.offset (#[(98, 47), (100, 49), (110, 43), (114, 45)] : Array (Int × Int)).toList 51 x.toInt = 51 := by
  have e0 : ¬ (98 : Int) = x.toInt := lk_ne (k := 98) (by decide) h0
  have e1 : ¬ (100 : Int) = x.toInt := lk_ne (k := 100) (by decide) h1
  have e2 : ¬ (110 : Int) = x.toInt := lk_ne (k := 110) (by decide) h2
  have e3 : ¬ (114 : Int) = x.toInt := lk_ne (k := 114) (by decide) h3
  show (if (98 : Int) = x.toInt then (47 : Int) else if (100 : Int) = x.toInt then 49 else if (110 : Int) = x.toInt then 43 else if (114 : Int) = x.toInt then 45 else 51) = 51
  rw [if_neg e0, if_neg e1, if_neg e2, if_neg e3]
abbrev DCL : Cond := .declares ⟨"SecondSunrise$Text", "firstFault", "()I"⟩
abbrev ROn (D : va_G) (ty : List (ClassId × FieldType)) (av : List Value) (w : va_W) : Array Value → State → Prop := va_Pc av (fun U => va_P D vwCl w U.heap ∧ va_K D vwCl ty U ∧ va_Nw DCL U)
abbrev RWn (D : va_G) (ty : List (ClassId × FieldType)) (av : List Value) (sz : Nat) (w : va_W) : Array Value → State → Prop := va_Pc av (fun U => U.heap.size = sz ∧ va_P D vwCl w U.heap ∧ va_K D vwCl ty U ∧ va_D (fun _ => True) w ∧ va_Nw DCL U)
theorem fb_ron {D : va_G} {ty : List (ClassId × FieldType)} {av : List Value} {w : va_W} : FrameBlind (ROn D ty av w) := fun a U g mk q => by
  obtain ⟨q0, qP, qK, qN⟩ := q
  exact ⟨q0, qP, va_K.moved (u := U) (U := U.calling g mk a) (Vm.Alike.refl U.vm) qK, va_Nw.same rfl rfl qN⟩
theorem fb_rwn {D : va_G} {ty : List (ClassId × FieldType)} {av : List Value} {sz : Nat} {w : va_W} : FrameBlind (RWn D ty av sz w) := fun a U g mk q => by
  obtain ⟨q0, q1, qP, qK, qD, qN⟩ := q
  exact ⟨q0, q1, qP, va_K.moved (u := U) (U := U.calling g mk a) (Vm.Alike.refl U.vm) qK, qD, va_Nw.same rfl rfl qN⟩
theorem pv_ron {s : State} {H : Heap} {D : va_G} {ty : List (ClassId × FieldType)} {w : va_W} {b q0 ci : Nat} {q : vw_C} {fs : List Value} {As : List Value} (hN : va_Nw DCL s) (hK : va_K D vwCl ty s) (hP : va_P D vwCl w H) (hc : vwCl[ci]? = some q) (he : w[q0]? = some (b, .inr (ci, fs))) : PreV s H q.1 b (ROn D ty (.ref b :: As) w) As :=
  ⟨fb_ron, va_recv hK hP hc he, fun U hU hW => ⟨rfl, by rw [hU]; exact hP, va_K.moved hW.alike hK, va_Nw.warmD hW hN⟩⟩
theorem pv_rwn {s : State} {H : Heap} {D : va_G} {ty : List (ClassId × FieldType)} {w : va_W} {A : Nat → Prop} {b q0 ci : Nat} {q : vw_C} {fs : List Value} {As : List Value} (hN : va_Nw DCL s) (hK : va_K D vwCl ty s) (hP : va_P D vwCl w H) (hD : va_D A w) (hc : vwCl[ci]? = some q) (he : w[q0]? = some (b, .inr (ci, fs))) : PreV s H q.1 b (RWn D ty (.ref b :: As) H.size w) As :=
  ⟨fb_rwn, va_recv hK hP hc he, fun U hU hW => ⟨rfl, by rw [hU], by rw [hU]; exact hP, va_K.moved hW.alike hK, hD.weaken (fun _ _ _ _ => trivial), va_Nw.warmD hW hN⟩⟩
