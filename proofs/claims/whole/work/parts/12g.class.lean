abbrev wd_X7_read (cI cZ cP cS : ClassId) (h_t h_t_red h_t_blue h_t_sky h_t_diary h_t_calendar h_t_awakeIn h_t_worths h_t_plants h_t_sheets h_t_bestFrom h_t_p0 h_t_p1 h_t_p2 h_t_p3 h_t_p0_growth h_t_p1_growth h_t_p2_growth h_t_p3_growth h_t_s0 h_t_s1 h_t_s2 h_t_s3 h_t_s0_items h_t_s1_items h_t_s2_items h_t_s3_items : Nat) (v_latestFinding : Int32) (v_phours : Nat → Int32) (v_pgrowth : Nat → Nat → Int32) (v_sform : Nat → Int32) (v_ssize : Nat → Int32) (v_sitems : Nat → Nat → Int32) : va_W := [(h_t, .inr (6, [.ref h_t_red, .ref h_t_blue, .ref h_t_sky, .ref h_t_diary, .ref h_t_calendar, .ref h_t_awakeIn, .ref h_t_worths, .ref h_t_plants, .ref h_t_sheets, .ref h_t_bestFrom, .int v_latestFinding])), (h_t_plants, .inl (cP, 4, .inr (.inr (.inr (.inr (ar4 h_t_p0 h_t_p1 h_t_p2 h_t_p3)))))), (h_t_p0, .inr (2, [.int (v_phours 0), .ref h_t_p0_growth])), (h_t_p0_growth, .inl (cI, 4, .inl (v_pgrowth 0))), (h_t_p1, .inr (2, [.int (v_phours 1), .ref h_t_p1_growth])), (h_t_p1_growth, .inl (cI, 4, .inl (v_pgrowth 1))), (h_t_p2, .inr (2, [.int (v_phours 2), .ref h_t_p2_growth])), (h_t_p2_growth, .inl (cI, 4, .inl (v_pgrowth 2))), (h_t_p3, .inr (2, [.int (v_phours 3), .ref h_t_p3_growth])), (h_t_p3_growth, .inl (cI, 4, .inl (v_pgrowth 3))), (h_t_sheets, .inl (cS, 4, .inr (.inr (.inr (.inr (ar4 h_t_s0 h_t_s1 h_t_s2 h_t_s3)))))), (h_t_s0, .inr (3, [.int (v_sform 0), .int (v_ssize 0), .ref h_t_s0_items])), (h_t_s0_items, .inl (cI, 48, .inl (v_sitems 0))), (h_t_s1, .inr (3, [.int (v_sform 1), .int (v_ssize 1), .ref h_t_s1_items])), (h_t_s1_items, .inl (cI, 48, .inl (v_sitems 1))), (h_t_s2, .inr (3, [.int (v_sform 2), .int (v_ssize 2), .ref h_t_s2_items])), (h_t_s2_items, .inl (cI, 48, .inl (v_sitems 2))), (h_t_s3, .inr (3, [.int (v_sform 3), .int (v_ssize 3), .ref h_t_s3_items])), (h_t_s3_items, .inl (cI, 48, .inl (v_sitems 3)))]
abbrev rm_X7_read : Room := { frames := 2, cells := 0, slots := 0, locals := 43 }
def L_X7_read_42 (n : Nat) (v_ssize : Nat → Int32) (v_sitems : Nat → Nat → Int32) (kx42 : Int32 → (Nat → Nat → Int32) → Option (Int32 × Int32 × (Nat → Nat → Int32))) : Nat → Int32 → (Nat → Nat → Int32) → Option (Int32 × Int32 × (Nat → Nat → Int32))
  | 0, _, _ => none
  | k42 + 1, y42_5, w42_pgrowth => if (4 : Int32) ≤ y42_5 then kx42 y42_5 w42_pgrowth else if (v_ssize 0) ≤ y42_5 then kx42 y42_5 w42_pgrowth else ix_ y42_5 48 (bd1_ (f_X7_noGrowth n ((v_sitems 0) y42_5.toNatClampNeg)) (fun (r64_4 : Int32) => if r64_4 = 0 then ix_ y42_5 48 (ix_ y42_5 4 (L_X7_read_42 n v_ssize v_sitems kx42 k42 (y42_5 + 1) (va_up w42_pgrowth 0 (upd (w42_pgrowth 0) y42_5.toNatClampNeg ((v_sitems 0) y42_5.toNatClampNeg))))) else kx42 y42_5 w42_pgrowth))
theorem L_X7_read_42_s (n : Nat) (v_ssize : Nat → Int32) (v_sitems : Nat → Nat → Int32) (kx42 : Int32 → (Nat → Nat → Int32) → Option (Int32 × Int32 × (Nat → Nat → Int32))) (k42 : Nat) (y42_5 : Int32) (w42_pgrowth : Nat → Nat → Int32) : L_X7_read_42 n v_ssize v_sitems kx42 (k42 + 1) y42_5 w42_pgrowth = if (4 : Int32) ≤ y42_5 then kx42 y42_5 w42_pgrowth else if (v_ssize 0) ≤ y42_5 then kx42 y42_5 w42_pgrowth else ix_ y42_5 48 (bd1_ (f_X7_noGrowth n ((v_sitems 0) y42_5.toNatClampNeg)) (fun (r64_4 : Int32) => if r64_4 = 0 then ix_ y42_5 48 (ix_ y42_5 4 (L_X7_read_42 n v_ssize v_sitems kx42 k42 (y42_5 + 1) (va_up w42_pgrowth 0 (upd (w42_pgrowth 0) y42_5.toNatClampNeg ((v_sitems 0) y42_5.toNatClampNeg))))) else kx42 y42_5 w42_pgrowth)) := rfl
def L_X7_read_42q2 (n : Nat) (v_ssize : Nat → Int32) (v_sitems : Nat → Nat → Int32) (kx42 : Int32 → (Nat → Nat → Int32) → Option (Int32 × Int32 × (Nat → Nat → Int32))) : Nat → Int32 → (Nat → Nat → Int32) → Option (Int32 × Int32 × (Nat → Nat → Int32))
  | 0, _, _ => none
  | k42 + 1, y42_5, w42_pgrowth => if (4 : Int32) ≤ y42_5 then kx42 y42_5 w42_pgrowth else if (v_ssize 0) ≤ y42_5 then kx42 y42_5 w42_pgrowth else ix_ y42_5 48 (bd1_ (f_X7_noGrowth n ((v_sitems 0) y42_5.toNatClampNeg)) (fun (r64_15 : Int32) => if r64_15 = 0 then ix_ y42_5 48 (ix_ y42_5 4 (L_X7_read_42q2 n v_ssize v_sitems kx42 k42 (y42_5 + 1) (va_up w42_pgrowth 1 (upd (w42_pgrowth 1) y42_5.toNatClampNeg ((v_sitems 0) y42_5.toNatClampNeg))))) else kx42 y42_5 w42_pgrowth))
theorem L_X7_read_42q2_s (n : Nat) (v_ssize : Nat → Int32) (v_sitems : Nat → Nat → Int32) (kx42 : Int32 → (Nat → Nat → Int32) → Option (Int32 × Int32 × (Nat → Nat → Int32))) (k42 : Nat) (y42_5 : Int32) (w42_pgrowth : Nat → Nat → Int32) : L_X7_read_42q2 n v_ssize v_sitems kx42 (k42 + 1) y42_5 w42_pgrowth = if (4 : Int32) ≤ y42_5 then kx42 y42_5 w42_pgrowth else if (v_ssize 0) ≤ y42_5 then kx42 y42_5 w42_pgrowth else ix_ y42_5 48 (bd1_ (f_X7_noGrowth n ((v_sitems 0) y42_5.toNatClampNeg)) (fun (r64_15 : Int32) => if r64_15 = 0 then ix_ y42_5 48 (ix_ y42_5 4 (L_X7_read_42q2 n v_ssize v_sitems kx42 k42 (y42_5 + 1) (va_up w42_pgrowth 1 (upd (w42_pgrowth 1) y42_5.toNatClampNeg ((v_sitems 0) y42_5.toNatClampNeg))))) else kx42 y42_5 w42_pgrowth)) := rfl
def L_X7_read_42q3 (n : Nat) (v_ssize : Nat → Int32) (v_sitems : Nat → Nat → Int32) (kx42 : Int32 → (Nat → Nat → Int32) → Option (Int32 × Int32 × (Nat → Nat → Int32))) : Nat → Int32 → (Nat → Nat → Int32) → Option (Int32 × Int32 × (Nat → Nat → Int32))
  | 0, _, _ => none
  | k42 + 1, y42_5, w42_pgrowth => if (4 : Int32) ≤ y42_5 then kx42 y42_5 w42_pgrowth else if (v_ssize 0) ≤ y42_5 then kx42 y42_5 w42_pgrowth else ix_ y42_5 48 (bd1_ (f_X7_noGrowth n ((v_sitems 0) y42_5.toNatClampNeg)) (fun (r64_26 : Int32) => if r64_26 = 0 then ix_ y42_5 48 (ix_ y42_5 4 (L_X7_read_42q3 n v_ssize v_sitems kx42 k42 (y42_5 + 1) (va_up w42_pgrowth 2 (upd (w42_pgrowth 2) y42_5.toNatClampNeg ((v_sitems 0) y42_5.toNatClampNeg))))) else kx42 y42_5 w42_pgrowth))
theorem L_X7_read_42q3_s (n : Nat) (v_ssize : Nat → Int32) (v_sitems : Nat → Nat → Int32) (kx42 : Int32 → (Nat → Nat → Int32) → Option (Int32 × Int32 × (Nat → Nat → Int32))) (k42 : Nat) (y42_5 : Int32) (w42_pgrowth : Nat → Nat → Int32) : L_X7_read_42q3 n v_ssize v_sitems kx42 (k42 + 1) y42_5 w42_pgrowth = if (4 : Int32) ≤ y42_5 then kx42 y42_5 w42_pgrowth else if (v_ssize 0) ≤ y42_5 then kx42 y42_5 w42_pgrowth else ix_ y42_5 48 (bd1_ (f_X7_noGrowth n ((v_sitems 0) y42_5.toNatClampNeg)) (fun (r64_26 : Int32) => if r64_26 = 0 then ix_ y42_5 48 (ix_ y42_5 4 (L_X7_read_42q3 n v_ssize v_sitems kx42 k42 (y42_5 + 1) (va_up w42_pgrowth 2 (upd (w42_pgrowth 2) y42_5.toNatClampNeg ((v_sitems 0) y42_5.toNatClampNeg))))) else kx42 y42_5 w42_pgrowth)) := rfl
def L_X7_read_42q4 (n : Nat) (v_ssize : Nat → Int32) (v_sitems : Nat → Nat → Int32) (kx42 : Int32 → (Nat → Nat → Int32) → Option (Int32 × Int32 × (Nat → Nat → Int32))) : Nat → Int32 → (Nat → Nat → Int32) → Option (Int32 × Int32 × (Nat → Nat → Int32))
  | 0, _, _ => none
  | k42 + 1, y42_5, w42_pgrowth => if (4 : Int32) ≤ y42_5 then kx42 y42_5 w42_pgrowth else if (v_ssize 0) ≤ y42_5 then kx42 y42_5 w42_pgrowth else ix_ y42_5 48 (bd1_ (f_X7_noGrowth n ((v_sitems 0) y42_5.toNatClampNeg)) (fun (r64_37 : Int32) => if r64_37 = 0 then ix_ y42_5 48 (ix_ y42_5 4 (L_X7_read_42q4 n v_ssize v_sitems kx42 k42 (y42_5 + 1) (va_up w42_pgrowth 3 (upd (w42_pgrowth 3) y42_5.toNatClampNeg ((v_sitems 0) y42_5.toNatClampNeg))))) else kx42 y42_5 w42_pgrowth))
theorem L_X7_read_42q4_s (n : Nat) (v_ssize : Nat → Int32) (v_sitems : Nat → Nat → Int32) (kx42 : Int32 → (Nat → Nat → Int32) → Option (Int32 × Int32 × (Nat → Nat → Int32))) (k42 : Nat) (y42_5 : Int32) (w42_pgrowth : Nat → Nat → Int32) : L_X7_read_42q4 n v_ssize v_sitems kx42 (k42 + 1) y42_5 w42_pgrowth = if (4 : Int32) ≤ y42_5 then kx42 y42_5 w42_pgrowth else if (v_ssize 0) ≤ y42_5 then kx42 y42_5 w42_pgrowth else ix_ y42_5 48 (bd1_ (f_X7_noGrowth n ((v_sitems 0) y42_5.toNatClampNeg)) (fun (r64_37 : Int32) => if r64_37 = 0 then ix_ y42_5 48 (ix_ y42_5 4 (L_X7_read_42q4 n v_ssize v_sitems kx42 k42 (y42_5 + 1) (va_up w42_pgrowth 3 (upd (w42_pgrowth 3) y42_5.toNatClampNeg ((v_sitems 0) y42_5.toNatClampNeg))))) else kx42 y42_5 w42_pgrowth)) := rfl
def L_X7_read_42q5 (n : Nat) (v_ssize : Nat → Int32) (v_sitems : Nat → Nat → Int32) (kx42 : Int32 → (Nat → Nat → Int32) → Option (Int32 × Int32 × (Nat → Nat → Int32))) : Nat → Int32 → (Nat → Nat → Int32) → Option (Int32 × Int32 × (Nat → Nat → Int32))
  | 0, _, _ => none
  | k42 + 1, y42_5, w42_pgrowth => if (4 : Int32) ≤ y42_5 then kx42 y42_5 w42_pgrowth else if (v_ssize 1) ≤ y42_5 then kx42 y42_5 w42_pgrowth else ix_ y42_5 48 (bd1_ (f_X7_noGrowth n ((v_sitems 1) y42_5.toNatClampNeg)) (fun (r64_49 : Int32) => if r64_49 = 0 then ix_ y42_5 48 (ix_ y42_5 4 (L_X7_read_42q5 n v_ssize v_sitems kx42 k42 (y42_5 + 1) (va_up w42_pgrowth 0 (upd (w42_pgrowth 0) y42_5.toNatClampNeg ((v_sitems 1) y42_5.toNatClampNeg))))) else kx42 y42_5 w42_pgrowth))
theorem L_X7_read_42q5_s (n : Nat) (v_ssize : Nat → Int32) (v_sitems : Nat → Nat → Int32) (kx42 : Int32 → (Nat → Nat → Int32) → Option (Int32 × Int32 × (Nat → Nat → Int32))) (k42 : Nat) (y42_5 : Int32) (w42_pgrowth : Nat → Nat → Int32) : L_X7_read_42q5 n v_ssize v_sitems kx42 (k42 + 1) y42_5 w42_pgrowth = if (4 : Int32) ≤ y42_5 then kx42 y42_5 w42_pgrowth else if (v_ssize 1) ≤ y42_5 then kx42 y42_5 w42_pgrowth else ix_ y42_5 48 (bd1_ (f_X7_noGrowth n ((v_sitems 1) y42_5.toNatClampNeg)) (fun (r64_49 : Int32) => if r64_49 = 0 then ix_ y42_5 48 (ix_ y42_5 4 (L_X7_read_42q5 n v_ssize v_sitems kx42 k42 (y42_5 + 1) (va_up w42_pgrowth 0 (upd (w42_pgrowth 0) y42_5.toNatClampNeg ((v_sitems 1) y42_5.toNatClampNeg))))) else kx42 y42_5 w42_pgrowth)) := rfl
def L_X7_read_42q6 (n : Nat) (v_ssize : Nat → Int32) (v_sitems : Nat → Nat → Int32) (kx42 : Int32 → (Nat → Nat → Int32) → Option (Int32 × Int32 × (Nat → Nat → Int32))) : Nat → Int32 → (Nat → Nat → Int32) → Option (Int32 × Int32 × (Nat → Nat → Int32))
  | 0, _, _ => none
  | k42 + 1, y42_5, w42_pgrowth => if (4 : Int32) ≤ y42_5 then kx42 y42_5 w42_pgrowth else if (v_ssize 1) ≤ y42_5 then kx42 y42_5 w42_pgrowth else ix_ y42_5 48 (bd1_ (f_X7_noGrowth n ((v_sitems 1) y42_5.toNatClampNeg)) (fun (r64_60 : Int32) => if r64_60 = 0 then ix_ y42_5 48 (ix_ y42_5 4 (L_X7_read_42q6 n v_ssize v_sitems kx42 k42 (y42_5 + 1) (va_up w42_pgrowth 1 (upd (w42_pgrowth 1) y42_5.toNatClampNeg ((v_sitems 1) y42_5.toNatClampNeg))))) else kx42 y42_5 w42_pgrowth))
theorem L_X7_read_42q6_s (n : Nat) (v_ssize : Nat → Int32) (v_sitems : Nat → Nat → Int32) (kx42 : Int32 → (Nat → Nat → Int32) → Option (Int32 × Int32 × (Nat → Nat → Int32))) (k42 : Nat) (y42_5 : Int32) (w42_pgrowth : Nat → Nat → Int32) : L_X7_read_42q6 n v_ssize v_sitems kx42 (k42 + 1) y42_5 w42_pgrowth = if (4 : Int32) ≤ y42_5 then kx42 y42_5 w42_pgrowth else if (v_ssize 1) ≤ y42_5 then kx42 y42_5 w42_pgrowth else ix_ y42_5 48 (bd1_ (f_X7_noGrowth n ((v_sitems 1) y42_5.toNatClampNeg)) (fun (r64_60 : Int32) => if r64_60 = 0 then ix_ y42_5 48 (ix_ y42_5 4 (L_X7_read_42q6 n v_ssize v_sitems kx42 k42 (y42_5 + 1) (va_up w42_pgrowth 1 (upd (w42_pgrowth 1) y42_5.toNatClampNeg ((v_sitems 1) y42_5.toNatClampNeg))))) else kx42 y42_5 w42_pgrowth)) := rfl
def L_X7_read_42q7 (n : Nat) (v_ssize : Nat → Int32) (v_sitems : Nat → Nat → Int32) (kx42 : Int32 → (Nat → Nat → Int32) → Option (Int32 × Int32 × (Nat → Nat → Int32))) : Nat → Int32 → (Nat → Nat → Int32) → Option (Int32 × Int32 × (Nat → Nat → Int32))
  | 0, _, _ => none
  | k42 + 1, y42_5, w42_pgrowth => if (4 : Int32) ≤ y42_5 then kx42 y42_5 w42_pgrowth else if (v_ssize 1) ≤ y42_5 then kx42 y42_5 w42_pgrowth else ix_ y42_5 48 (bd1_ (f_X7_noGrowth n ((v_sitems 1) y42_5.toNatClampNeg)) (fun (r64_71 : Int32) => if r64_71 = 0 then ix_ y42_5 48 (ix_ y42_5 4 (L_X7_read_42q7 n v_ssize v_sitems kx42 k42 (y42_5 + 1) (va_up w42_pgrowth 2 (upd (w42_pgrowth 2) y42_5.toNatClampNeg ((v_sitems 1) y42_5.toNatClampNeg))))) else kx42 y42_5 w42_pgrowth))
theorem L_X7_read_42q7_s (n : Nat) (v_ssize : Nat → Int32) (v_sitems : Nat → Nat → Int32) (kx42 : Int32 → (Nat → Nat → Int32) → Option (Int32 × Int32 × (Nat → Nat → Int32))) (k42 : Nat) (y42_5 : Int32) (w42_pgrowth : Nat → Nat → Int32) : L_X7_read_42q7 n v_ssize v_sitems kx42 (k42 + 1) y42_5 w42_pgrowth = if (4 : Int32) ≤ y42_5 then kx42 y42_5 w42_pgrowth else if (v_ssize 1) ≤ y42_5 then kx42 y42_5 w42_pgrowth else ix_ y42_5 48 (bd1_ (f_X7_noGrowth n ((v_sitems 1) y42_5.toNatClampNeg)) (fun (r64_71 : Int32) => if r64_71 = 0 then ix_ y42_5 48 (ix_ y42_5 4 (L_X7_read_42q7 n v_ssize v_sitems kx42 k42 (y42_5 + 1) (va_up w42_pgrowth 2 (upd (w42_pgrowth 2) y42_5.toNatClampNeg ((v_sitems 1) y42_5.toNatClampNeg))))) else kx42 y42_5 w42_pgrowth)) := rfl
def L_X7_read_42q8 (n : Nat) (v_ssize : Nat → Int32) (v_sitems : Nat → Nat → Int32) (kx42 : Int32 → (Nat → Nat → Int32) → Option (Int32 × Int32 × (Nat → Nat → Int32))) : Nat → Int32 → (Nat → Nat → Int32) → Option (Int32 × Int32 × (Nat → Nat → Int32))
  | 0, _, _ => none
  | k42 + 1, y42_5, w42_pgrowth => if (4 : Int32) ≤ y42_5 then kx42 y42_5 w42_pgrowth else if (v_ssize 1) ≤ y42_5 then kx42 y42_5 w42_pgrowth else ix_ y42_5 48 (bd1_ (f_X7_noGrowth n ((v_sitems 1) y42_5.toNatClampNeg)) (fun (r64_82 : Int32) => if r64_82 = 0 then ix_ y42_5 48 (ix_ y42_5 4 (L_X7_read_42q8 n v_ssize v_sitems kx42 k42 (y42_5 + 1) (va_up w42_pgrowth 3 (upd (w42_pgrowth 3) y42_5.toNatClampNeg ((v_sitems 1) y42_5.toNatClampNeg))))) else kx42 y42_5 w42_pgrowth))
theorem L_X7_read_42q8_s (n : Nat) (v_ssize : Nat → Int32) (v_sitems : Nat → Nat → Int32) (kx42 : Int32 → (Nat → Nat → Int32) → Option (Int32 × Int32 × (Nat → Nat → Int32))) (k42 : Nat) (y42_5 : Int32) (w42_pgrowth : Nat → Nat → Int32) : L_X7_read_42q8 n v_ssize v_sitems kx42 (k42 + 1) y42_5 w42_pgrowth = if (4 : Int32) ≤ y42_5 then kx42 y42_5 w42_pgrowth else if (v_ssize 1) ≤ y42_5 then kx42 y42_5 w42_pgrowth else ix_ y42_5 48 (bd1_ (f_X7_noGrowth n ((v_sitems 1) y42_5.toNatClampNeg)) (fun (r64_82 : Int32) => if r64_82 = 0 then ix_ y42_5 48 (ix_ y42_5 4 (L_X7_read_42q8 n v_ssize v_sitems kx42 k42 (y42_5 + 1) (va_up w42_pgrowth 3 (upd (w42_pgrowth 3) y42_5.toNatClampNeg ((v_sitems 1) y42_5.toNatClampNeg))))) else kx42 y42_5 w42_pgrowth)) := rfl
def L_X7_read_42q9 (n : Nat) (v_ssize : Nat → Int32) (v_sitems : Nat → Nat → Int32) (kx42 : Int32 → (Nat → Nat → Int32) → Option (Int32 × Int32 × (Nat → Nat → Int32))) : Nat → Int32 → (Nat → Nat → Int32) → Option (Int32 × Int32 × (Nat → Nat → Int32))
  | 0, _, _ => none
  | k42 + 1, y42_5, w42_pgrowth => if (4 : Int32) ≤ y42_5 then kx42 y42_5 w42_pgrowth else if (v_ssize 2) ≤ y42_5 then kx42 y42_5 w42_pgrowth else ix_ y42_5 48 (bd1_ (f_X7_noGrowth n ((v_sitems 2) y42_5.toNatClampNeg)) (fun (r64_94 : Int32) => if r64_94 = 0 then ix_ y42_5 48 (ix_ y42_5 4 (L_X7_read_42q9 n v_ssize v_sitems kx42 k42 (y42_5 + 1) (va_up w42_pgrowth 0 (upd (w42_pgrowth 0) y42_5.toNatClampNeg ((v_sitems 2) y42_5.toNatClampNeg))))) else kx42 y42_5 w42_pgrowth))
theorem L_X7_read_42q9_s (n : Nat) (v_ssize : Nat → Int32) (v_sitems : Nat → Nat → Int32) (kx42 : Int32 → (Nat → Nat → Int32) → Option (Int32 × Int32 × (Nat → Nat → Int32))) (k42 : Nat) (y42_5 : Int32) (w42_pgrowth : Nat → Nat → Int32) : L_X7_read_42q9 n v_ssize v_sitems kx42 (k42 + 1) y42_5 w42_pgrowth = if (4 : Int32) ≤ y42_5 then kx42 y42_5 w42_pgrowth else if (v_ssize 2) ≤ y42_5 then kx42 y42_5 w42_pgrowth else ix_ y42_5 48 (bd1_ (f_X7_noGrowth n ((v_sitems 2) y42_5.toNatClampNeg)) (fun (r64_94 : Int32) => if r64_94 = 0 then ix_ y42_5 48 (ix_ y42_5 4 (L_X7_read_42q9 n v_ssize v_sitems kx42 k42 (y42_5 + 1) (va_up w42_pgrowth 0 (upd (w42_pgrowth 0) y42_5.toNatClampNeg ((v_sitems 2) y42_5.toNatClampNeg))))) else kx42 y42_5 w42_pgrowth)) := rfl
def L_X7_read_42q10 (n : Nat) (v_ssize : Nat → Int32) (v_sitems : Nat → Nat → Int32) (kx42 : Int32 → (Nat → Nat → Int32) → Option (Int32 × Int32 × (Nat → Nat → Int32))) : Nat → Int32 → (Nat → Nat → Int32) → Option (Int32 × Int32 × (Nat → Nat → Int32))
  | 0, _, _ => none
  | k42 + 1, y42_5, w42_pgrowth => if (4 : Int32) ≤ y42_5 then kx42 y42_5 w42_pgrowth else if (v_ssize 2) ≤ y42_5 then kx42 y42_5 w42_pgrowth else ix_ y42_5 48 (bd1_ (f_X7_noGrowth n ((v_sitems 2) y42_5.toNatClampNeg)) (fun (r64_105 : Int32) => if r64_105 = 0 then ix_ y42_5 48 (ix_ y42_5 4 (L_X7_read_42q10 n v_ssize v_sitems kx42 k42 (y42_5 + 1) (va_up w42_pgrowth 1 (upd (w42_pgrowth 1) y42_5.toNatClampNeg ((v_sitems 2) y42_5.toNatClampNeg))))) else kx42 y42_5 w42_pgrowth))
theorem L_X7_read_42q10_s (n : Nat) (v_ssize : Nat → Int32) (v_sitems : Nat → Nat → Int32) (kx42 : Int32 → (Nat → Nat → Int32) → Option (Int32 × Int32 × (Nat → Nat → Int32))) (k42 : Nat) (y42_5 : Int32) (w42_pgrowth : Nat → Nat → Int32) : L_X7_read_42q10 n v_ssize v_sitems kx42 (k42 + 1) y42_5 w42_pgrowth = if (4 : Int32) ≤ y42_5 then kx42 y42_5 w42_pgrowth else if (v_ssize 2) ≤ y42_5 then kx42 y42_5 w42_pgrowth else ix_ y42_5 48 (bd1_ (f_X7_noGrowth n ((v_sitems 2) y42_5.toNatClampNeg)) (fun (r64_105 : Int32) => if r64_105 = 0 then ix_ y42_5 48 (ix_ y42_5 4 (L_X7_read_42q10 n v_ssize v_sitems kx42 k42 (y42_5 + 1) (va_up w42_pgrowth 1 (upd (w42_pgrowth 1) y42_5.toNatClampNeg ((v_sitems 2) y42_5.toNatClampNeg))))) else kx42 y42_5 w42_pgrowth)) := rfl
def L_X7_read_42q11 (n : Nat) (v_ssize : Nat → Int32) (v_sitems : Nat → Nat → Int32) (kx42 : Int32 → (Nat → Nat → Int32) → Option (Int32 × Int32 × (Nat → Nat → Int32))) : Nat → Int32 → (Nat → Nat → Int32) → Option (Int32 × Int32 × (Nat → Nat → Int32))
  | 0, _, _ => none
  | k42 + 1, y42_5, w42_pgrowth => if (4 : Int32) ≤ y42_5 then kx42 y42_5 w42_pgrowth else if (v_ssize 2) ≤ y42_5 then kx42 y42_5 w42_pgrowth else ix_ y42_5 48 (bd1_ (f_X7_noGrowth n ((v_sitems 2) y42_5.toNatClampNeg)) (fun (r64_116 : Int32) => if r64_116 = 0 then ix_ y42_5 48 (ix_ y42_5 4 (L_X7_read_42q11 n v_ssize v_sitems kx42 k42 (y42_5 + 1) (va_up w42_pgrowth 2 (upd (w42_pgrowth 2) y42_5.toNatClampNeg ((v_sitems 2) y42_5.toNatClampNeg))))) else kx42 y42_5 w42_pgrowth))
theorem L_X7_read_42q11_s (n : Nat) (v_ssize : Nat → Int32) (v_sitems : Nat → Nat → Int32) (kx42 : Int32 → (Nat → Nat → Int32) → Option (Int32 × Int32 × (Nat → Nat → Int32))) (k42 : Nat) (y42_5 : Int32) (w42_pgrowth : Nat → Nat → Int32) : L_X7_read_42q11 n v_ssize v_sitems kx42 (k42 + 1) y42_5 w42_pgrowth = if (4 : Int32) ≤ y42_5 then kx42 y42_5 w42_pgrowth else if (v_ssize 2) ≤ y42_5 then kx42 y42_5 w42_pgrowth else ix_ y42_5 48 (bd1_ (f_X7_noGrowth n ((v_sitems 2) y42_5.toNatClampNeg)) (fun (r64_116 : Int32) => if r64_116 = 0 then ix_ y42_5 48 (ix_ y42_5 4 (L_X7_read_42q11 n v_ssize v_sitems kx42 k42 (y42_5 + 1) (va_up w42_pgrowth 2 (upd (w42_pgrowth 2) y42_5.toNatClampNeg ((v_sitems 2) y42_5.toNatClampNeg))))) else kx42 y42_5 w42_pgrowth)) := rfl
def L_X7_read_42q12 (n : Nat) (v_ssize : Nat → Int32) (v_sitems : Nat → Nat → Int32) (kx42 : Int32 → (Nat → Nat → Int32) → Option (Int32 × Int32 × (Nat → Nat → Int32))) : Nat → Int32 → (Nat → Nat → Int32) → Option (Int32 × Int32 × (Nat → Nat → Int32))
  | 0, _, _ => none
  | k42 + 1, y42_5, w42_pgrowth => if (4 : Int32) ≤ y42_5 then kx42 y42_5 w42_pgrowth else if (v_ssize 2) ≤ y42_5 then kx42 y42_5 w42_pgrowth else ix_ y42_5 48 (bd1_ (f_X7_noGrowth n ((v_sitems 2) y42_5.toNatClampNeg)) (fun (r64_127 : Int32) => if r64_127 = 0 then ix_ y42_5 48 (ix_ y42_5 4 (L_X7_read_42q12 n v_ssize v_sitems kx42 k42 (y42_5 + 1) (va_up w42_pgrowth 3 (upd (w42_pgrowth 3) y42_5.toNatClampNeg ((v_sitems 2) y42_5.toNatClampNeg))))) else kx42 y42_5 w42_pgrowth))
theorem L_X7_read_42q12_s (n : Nat) (v_ssize : Nat → Int32) (v_sitems : Nat → Nat → Int32) (kx42 : Int32 → (Nat → Nat → Int32) → Option (Int32 × Int32 × (Nat → Nat → Int32))) (k42 : Nat) (y42_5 : Int32) (w42_pgrowth : Nat → Nat → Int32) : L_X7_read_42q12 n v_ssize v_sitems kx42 (k42 + 1) y42_5 w42_pgrowth = if (4 : Int32) ≤ y42_5 then kx42 y42_5 w42_pgrowth else if (v_ssize 2) ≤ y42_5 then kx42 y42_5 w42_pgrowth else ix_ y42_5 48 (bd1_ (f_X7_noGrowth n ((v_sitems 2) y42_5.toNatClampNeg)) (fun (r64_127 : Int32) => if r64_127 = 0 then ix_ y42_5 48 (ix_ y42_5 4 (L_X7_read_42q12 n v_ssize v_sitems kx42 k42 (y42_5 + 1) (va_up w42_pgrowth 3 (upd (w42_pgrowth 3) y42_5.toNatClampNeg ((v_sitems 2) y42_5.toNatClampNeg))))) else kx42 y42_5 w42_pgrowth)) := rfl
def L_X7_read_42q13 (n : Nat) (v_ssize : Nat → Int32) (v_sitems : Nat → Nat → Int32) (kx42 : Int32 → (Nat → Nat → Int32) → Option (Int32 × Int32 × (Nat → Nat → Int32))) : Nat → Int32 → (Nat → Nat → Int32) → Option (Int32 × Int32 × (Nat → Nat → Int32))
  | 0, _, _ => none
  | k42 + 1, y42_5, w42_pgrowth => if (4 : Int32) ≤ y42_5 then kx42 y42_5 w42_pgrowth else if (v_ssize 3) ≤ y42_5 then kx42 y42_5 w42_pgrowth else ix_ y42_5 48 (bd1_ (f_X7_noGrowth n ((v_sitems 3) y42_5.toNatClampNeg)) (fun (r64_139 : Int32) => if r64_139 = 0 then ix_ y42_5 48 (ix_ y42_5 4 (L_X7_read_42q13 n v_ssize v_sitems kx42 k42 (y42_5 + 1) (va_up w42_pgrowth 0 (upd (w42_pgrowth 0) y42_5.toNatClampNeg ((v_sitems 3) y42_5.toNatClampNeg))))) else kx42 y42_5 w42_pgrowth))
theorem L_X7_read_42q13_s (n : Nat) (v_ssize : Nat → Int32) (v_sitems : Nat → Nat → Int32) (kx42 : Int32 → (Nat → Nat → Int32) → Option (Int32 × Int32 × (Nat → Nat → Int32))) (k42 : Nat) (y42_5 : Int32) (w42_pgrowth : Nat → Nat → Int32) : L_X7_read_42q13 n v_ssize v_sitems kx42 (k42 + 1) y42_5 w42_pgrowth = if (4 : Int32) ≤ y42_5 then kx42 y42_5 w42_pgrowth else if (v_ssize 3) ≤ y42_5 then kx42 y42_5 w42_pgrowth else ix_ y42_5 48 (bd1_ (f_X7_noGrowth n ((v_sitems 3) y42_5.toNatClampNeg)) (fun (r64_139 : Int32) => if r64_139 = 0 then ix_ y42_5 48 (ix_ y42_5 4 (L_X7_read_42q13 n v_ssize v_sitems kx42 k42 (y42_5 + 1) (va_up w42_pgrowth 0 (upd (w42_pgrowth 0) y42_5.toNatClampNeg ((v_sitems 3) y42_5.toNatClampNeg))))) else kx42 y42_5 w42_pgrowth)) := rfl
def L_X7_read_42q14 (n : Nat) (v_ssize : Nat → Int32) (v_sitems : Nat → Nat → Int32) (kx42 : Int32 → (Nat → Nat → Int32) → Option (Int32 × Int32 × (Nat → Nat → Int32))) : Nat → Int32 → (Nat → Nat → Int32) → Option (Int32 × Int32 × (Nat → Nat → Int32))
  | 0, _, _ => none
  | k42 + 1, y42_5, w42_pgrowth => if (4 : Int32) ≤ y42_5 then kx42 y42_5 w42_pgrowth else if (v_ssize 3) ≤ y42_5 then kx42 y42_5 w42_pgrowth else ix_ y42_5 48 (bd1_ (f_X7_noGrowth n ((v_sitems 3) y42_5.toNatClampNeg)) (fun (r64_150 : Int32) => if r64_150 = 0 then ix_ y42_5 48 (ix_ y42_5 4 (L_X7_read_42q14 n v_ssize v_sitems kx42 k42 (y42_5 + 1) (va_up w42_pgrowth 1 (upd (w42_pgrowth 1) y42_5.toNatClampNeg ((v_sitems 3) y42_5.toNatClampNeg))))) else kx42 y42_5 w42_pgrowth))
theorem L_X7_read_42q14_s (n : Nat) (v_ssize : Nat → Int32) (v_sitems : Nat → Nat → Int32) (kx42 : Int32 → (Nat → Nat → Int32) → Option (Int32 × Int32 × (Nat → Nat → Int32))) (k42 : Nat) (y42_5 : Int32) (w42_pgrowth : Nat → Nat → Int32) : L_X7_read_42q14 n v_ssize v_sitems kx42 (k42 + 1) y42_5 w42_pgrowth = if (4 : Int32) ≤ y42_5 then kx42 y42_5 w42_pgrowth else if (v_ssize 3) ≤ y42_5 then kx42 y42_5 w42_pgrowth else ix_ y42_5 48 (bd1_ (f_X7_noGrowth n ((v_sitems 3) y42_5.toNatClampNeg)) (fun (r64_150 : Int32) => if r64_150 = 0 then ix_ y42_5 48 (ix_ y42_5 4 (L_X7_read_42q14 n v_ssize v_sitems kx42 k42 (y42_5 + 1) (va_up w42_pgrowth 1 (upd (w42_pgrowth 1) y42_5.toNatClampNeg ((v_sitems 3) y42_5.toNatClampNeg))))) else kx42 y42_5 w42_pgrowth)) := rfl
def L_X7_read_42q15 (n : Nat) (v_ssize : Nat → Int32) (v_sitems : Nat → Nat → Int32) (kx42 : Int32 → (Nat → Nat → Int32) → Option (Int32 × Int32 × (Nat → Nat → Int32))) : Nat → Int32 → (Nat → Nat → Int32) → Option (Int32 × Int32 × (Nat → Nat → Int32))
  | 0, _, _ => none
  | k42 + 1, y42_5, w42_pgrowth => if (4 : Int32) ≤ y42_5 then kx42 y42_5 w42_pgrowth else if (v_ssize 3) ≤ y42_5 then kx42 y42_5 w42_pgrowth else ix_ y42_5 48 (bd1_ (f_X7_noGrowth n ((v_sitems 3) y42_5.toNatClampNeg)) (fun (r64_161 : Int32) => if r64_161 = 0 then ix_ y42_5 48 (ix_ y42_5 4 (L_X7_read_42q15 n v_ssize v_sitems kx42 k42 (y42_5 + 1) (va_up w42_pgrowth 2 (upd (w42_pgrowth 2) y42_5.toNatClampNeg ((v_sitems 3) y42_5.toNatClampNeg))))) else kx42 y42_5 w42_pgrowth))
theorem L_X7_read_42q15_s (n : Nat) (v_ssize : Nat → Int32) (v_sitems : Nat → Nat → Int32) (kx42 : Int32 → (Nat → Nat → Int32) → Option (Int32 × Int32 × (Nat → Nat → Int32))) (k42 : Nat) (y42_5 : Int32) (w42_pgrowth : Nat → Nat → Int32) : L_X7_read_42q15 n v_ssize v_sitems kx42 (k42 + 1) y42_5 w42_pgrowth = if (4 : Int32) ≤ y42_5 then kx42 y42_5 w42_pgrowth else if (v_ssize 3) ≤ y42_5 then kx42 y42_5 w42_pgrowth else ix_ y42_5 48 (bd1_ (f_X7_noGrowth n ((v_sitems 3) y42_5.toNatClampNeg)) (fun (r64_161 : Int32) => if r64_161 = 0 then ix_ y42_5 48 (ix_ y42_5 4 (L_X7_read_42q15 n v_ssize v_sitems kx42 k42 (y42_5 + 1) (va_up w42_pgrowth 2 (upd (w42_pgrowth 2) y42_5.toNatClampNeg ((v_sitems 3) y42_5.toNatClampNeg))))) else kx42 y42_5 w42_pgrowth)) := rfl
def L_X7_read_42q16 (n : Nat) (v_ssize : Nat → Int32) (v_sitems : Nat → Nat → Int32) (kx42 : Int32 → (Nat → Nat → Int32) → Option (Int32 × Int32 × (Nat → Nat → Int32))) : Nat → Int32 → (Nat → Nat → Int32) → Option (Int32 × Int32 × (Nat → Nat → Int32))
  | 0, _, _ => none
  | k42 + 1, y42_5, w42_pgrowth => if (4 : Int32) ≤ y42_5 then kx42 y42_5 w42_pgrowth else if (v_ssize 3) ≤ y42_5 then kx42 y42_5 w42_pgrowth else ix_ y42_5 48 (bd1_ (f_X7_noGrowth n ((v_sitems 3) y42_5.toNatClampNeg)) (fun (r64_172 : Int32) => if r64_172 = 0 then ix_ y42_5 48 (ix_ y42_5 4 (L_X7_read_42q16 n v_ssize v_sitems kx42 k42 (y42_5 + 1) (va_up w42_pgrowth 3 (upd (w42_pgrowth 3) y42_5.toNatClampNeg ((v_sitems 3) y42_5.toNatClampNeg))))) else kx42 y42_5 w42_pgrowth))
theorem L_X7_read_42q16_s (n : Nat) (v_ssize : Nat → Int32) (v_sitems : Nat → Nat → Int32) (kx42 : Int32 → (Nat → Nat → Int32) → Option (Int32 × Int32 × (Nat → Nat → Int32))) (k42 : Nat) (y42_5 : Int32) (w42_pgrowth : Nat → Nat → Int32) : L_X7_read_42q16 n v_ssize v_sitems kx42 (k42 + 1) y42_5 w42_pgrowth = if (4 : Int32) ≤ y42_5 then kx42 y42_5 w42_pgrowth else if (v_ssize 3) ≤ y42_5 then kx42 y42_5 w42_pgrowth else ix_ y42_5 48 (bd1_ (f_X7_noGrowth n ((v_sitems 3) y42_5.toNatClampNeg)) (fun (r64_172 : Int32) => if r64_172 = 0 then ix_ y42_5 48 (ix_ y42_5 4 (L_X7_read_42q16 n v_ssize v_sitems kx42 k42 (y42_5 + 1) (va_up w42_pgrowth 3 (upd (w42_pgrowth 3) y42_5.toNatClampNeg ((v_sitems 3) y42_5.toNatClampNeg))))) else kx42 y42_5 w42_pgrowth)) := rfl
def f_X7_read (n : Nat) (v_latestFinding : Int32) (v_pgrowth : Nat → Nat → Int32) (v_sform : Nat → Int32) (v_ssize : Nat → Int32) (v_sitems : Nat → Nat → Int32) (x1 : Int32) (x2 : Int32) : Option (Int32 × Int32 × (Nat → Nat → Int32)) := if x1 = 0 then if x2 = 0 then if (v_sform 0) = (-1) then bd2_ (f_X7_found n v_latestFinding 1) (fun (r35_10 : Int32) (o35_11 : Int32) => some (r35_10, o35_11, v_pgrowth)) else jn2_ (fun (z42_5 : Int32) (u42_pgrowth : Nat → Nat → Int32) => some (z42_5, v_latestFinding, u42_pgrowth)) (fun kx42 => L_X7_read_42 n v_ssize v_sitems kx42 n 0 v_pgrowth) else if x2 = 1 then if (v_sform 0) = (-1) then bd2_ (f_X7_found n v_latestFinding 1) (fun (r35_21 : Int32) (o35_22 : Int32) => some (r35_21, o35_22, v_pgrowth)) else jn2_ (fun (z42_5 : Int32) (u42_pgrowth : Nat → Nat → Int32) => some (z42_5, v_latestFinding, u42_pgrowth)) (fun kx42 => L_X7_read_42q2 n v_ssize v_sitems kx42 n 0 v_pgrowth) else if x2 = 2 then if (v_sform 0) = (-1) then bd2_ (f_X7_found n v_latestFinding 1) (fun (r35_32 : Int32) (o35_33 : Int32) => some (r35_32, o35_33, v_pgrowth)) else jn2_ (fun (z42_5 : Int32) (u42_pgrowth : Nat → Nat → Int32) => some (z42_5, v_latestFinding, u42_pgrowth)) (fun kx42 => L_X7_read_42q3 n v_ssize v_sitems kx42 n 0 v_pgrowth) else if x2 = 3 then if (v_sform 0) = (-1) then bd2_ (f_X7_found n v_latestFinding 1) (fun (r35_43 : Int32) (o35_44 : Int32) => some (r35_43, o35_44, v_pgrowth)) else jn2_ (fun (z42_5 : Int32) (u42_pgrowth : Nat → Nat → Int32) => some (z42_5, v_latestFinding, u42_pgrowth)) (fun kx42 => L_X7_read_42q4 n v_ssize v_sitems kx42 n 0 v_pgrowth) else some ((-2), v_latestFinding, v_pgrowth) else if x1 = 1 then if x2 = 0 then if (v_sform 1) = (-1) then bd2_ (f_X7_found n v_latestFinding 1) (fun (r35_55 : Int32) (o35_56 : Int32) => some (r35_55, o35_56, v_pgrowth)) else jn2_ (fun (z42_5 : Int32) (u42_pgrowth : Nat → Nat → Int32) => some (z42_5, v_latestFinding, u42_pgrowth)) (fun kx42 => L_X7_read_42q5 n v_ssize v_sitems kx42 n 0 v_pgrowth) else if x2 = 1 then if (v_sform 1) = (-1) then bd2_ (f_X7_found n v_latestFinding 1) (fun (r35_66 : Int32) (o35_67 : Int32) => some (r35_66, o35_67, v_pgrowth)) else jn2_ (fun (z42_5 : Int32) (u42_pgrowth : Nat → Nat → Int32) => some (z42_5, v_latestFinding, u42_pgrowth)) (fun kx42 => L_X7_read_42q6 n v_ssize v_sitems kx42 n 0 v_pgrowth) else if x2 = 2 then if (v_sform 1) = (-1) then bd2_ (f_X7_found n v_latestFinding 1) (fun (r35_77 : Int32) (o35_78 : Int32) => some (r35_77, o35_78, v_pgrowth)) else jn2_ (fun (z42_5 : Int32) (u42_pgrowth : Nat → Nat → Int32) => some (z42_5, v_latestFinding, u42_pgrowth)) (fun kx42 => L_X7_read_42q7 n v_ssize v_sitems kx42 n 0 v_pgrowth) else if x2 = 3 then if (v_sform 1) = (-1) then bd2_ (f_X7_found n v_latestFinding 1) (fun (r35_88 : Int32) (o35_89 : Int32) => some (r35_88, o35_89, v_pgrowth)) else jn2_ (fun (z42_5 : Int32) (u42_pgrowth : Nat → Nat → Int32) => some (z42_5, v_latestFinding, u42_pgrowth)) (fun kx42 => L_X7_read_42q8 n v_ssize v_sitems kx42 n 0 v_pgrowth) else some ((-2), v_latestFinding, v_pgrowth) else if x1 = 2 then if x2 = 0 then if (v_sform 2) = (-1) then bd2_ (f_X7_found n v_latestFinding 1) (fun (r35_100 : Int32) (o35_101 : Int32) => some (r35_100, o35_101, v_pgrowth)) else jn2_ (fun (z42_5 : Int32) (u42_pgrowth : Nat → Nat → Int32) => some (z42_5, v_latestFinding, u42_pgrowth)) (fun kx42 => L_X7_read_42q9 n v_ssize v_sitems kx42 n 0 v_pgrowth) else if x2 = 1 then if (v_sform 2) = (-1) then bd2_ (f_X7_found n v_latestFinding 1) (fun (r35_111 : Int32) (o35_112 : Int32) => some (r35_111, o35_112, v_pgrowth)) else jn2_ (fun (z42_5 : Int32) (u42_pgrowth : Nat → Nat → Int32) => some (z42_5, v_latestFinding, u42_pgrowth)) (fun kx42 => L_X7_read_42q10 n v_ssize v_sitems kx42 n 0 v_pgrowth) else if x2 = 2 then if (v_sform 2) = (-1) then bd2_ (f_X7_found n v_latestFinding 1) (fun (r35_122 : Int32) (o35_123 : Int32) => some (r35_122, o35_123, v_pgrowth)) else jn2_ (fun (z42_5 : Int32) (u42_pgrowth : Nat → Nat → Int32) => some (z42_5, v_latestFinding, u42_pgrowth)) (fun kx42 => L_X7_read_42q11 n v_ssize v_sitems kx42 n 0 v_pgrowth) else if x2 = 3 then if (v_sform 2) = (-1) then bd2_ (f_X7_found n v_latestFinding 1) (fun (r35_133 : Int32) (o35_134 : Int32) => some (r35_133, o35_134, v_pgrowth)) else jn2_ (fun (z42_5 : Int32) (u42_pgrowth : Nat → Nat → Int32) => some (z42_5, v_latestFinding, u42_pgrowth)) (fun kx42 => L_X7_read_42q12 n v_ssize v_sitems kx42 n 0 v_pgrowth) else some ((-2), v_latestFinding, v_pgrowth) else if x1 = 3 then if x2 = 0 then if (v_sform 3) = (-1) then bd2_ (f_X7_found n v_latestFinding 1) (fun (r35_145 : Int32) (o35_146 : Int32) => some (r35_145, o35_146, v_pgrowth)) else jn2_ (fun (z42_5 : Int32) (u42_pgrowth : Nat → Nat → Int32) => some (z42_5, v_latestFinding, u42_pgrowth)) (fun kx42 => L_X7_read_42q13 n v_ssize v_sitems kx42 n 0 v_pgrowth) else if x2 = 1 then if (v_sform 3) = (-1) then bd2_ (f_X7_found n v_latestFinding 1) (fun (r35_156 : Int32) (o35_157 : Int32) => some (r35_156, o35_157, v_pgrowth)) else jn2_ (fun (z42_5 : Int32) (u42_pgrowth : Nat → Nat → Int32) => some (z42_5, v_latestFinding, u42_pgrowth)) (fun kx42 => L_X7_read_42q14 n v_ssize v_sitems kx42 n 0 v_pgrowth) else if x2 = 2 then if (v_sform 3) = (-1) then bd2_ (f_X7_found n v_latestFinding 1) (fun (r35_167 : Int32) (o35_168 : Int32) => some (r35_167, o35_168, v_pgrowth)) else jn2_ (fun (z42_5 : Int32) (u42_pgrowth : Nat → Nat → Int32) => some (z42_5, v_latestFinding, u42_pgrowth)) (fun kx42 => L_X7_read_42q15 n v_ssize v_sitems kx42 n 0 v_pgrowth) else if x2 = 3 then if (v_sform 3) = (-1) then bd2_ (f_X7_found n v_latestFinding 1) (fun (r35_178 : Int32) (o35_179 : Int32) => some (r35_178, o35_179, v_pgrowth)) else jn2_ (fun (z42_5 : Int32) (u42_pgrowth : Nat → Nat → Int32) => some (z42_5, v_latestFinding, u42_pgrowth)) (fun kx42 => L_X7_read_42q16 n v_ssize v_sitems kx42 n 0 v_pgrowth) else some ((-2), v_latestFinding, v_pgrowth) else if x2 = 0 then some ((-2), v_latestFinding, v_pgrowth) else if x2 = 1 then some ((-2), v_latestFinding, v_pgrowth) else if x2 = 2 then some ((-2), v_latestFinding, v_pgrowth) else if x2 = 3 then some ((-2), v_latestFinding, v_pgrowth) else some ((-2), v_latestFinding, v_pgrowth)
set_option maxHeartbeats 4000000 in
set_option maxRecDepth 100000 in
theorem c_X7_read (l : Launch) (dC : Nat → ClassId) (dI : Nat → Nat → Nat) (cI cZ cP cS : ClassId) (sz : Nat) (h_t h_t_red h_t_blue h_t_sky h_t_diary h_t_calendar h_t_awakeIn h_t_worths h_t_plants h_t_sheets h_t_bestFrom h_t_p0 h_t_p1 h_t_p2 h_t_p3 h_t_p0_growth h_t_p1_growth h_t_p2_growth h_t_p3_growth h_t_s0 h_t_s1 h_t_s2 h_t_s3 h_t_s0_items h_t_s1_items h_t_s2_items h_t_s3_items : Nat) (v_latestFinding : Int32) (v_phours : Nat → Int32) (v_pgrowth : Nat → Nat → Int32) (v_sform : Nat → Int32) (v_ssize : Nat → Int32) (v_sitems : Nat → Nat → Int32) (x1 : Int32) (x2 : Int32) (n : Nat) (r : Int32) (o_latestFinding : Int32) (o_pgrowth : Nat → Nat → Int32) (hf : f_X7_read n v_latestFinding v_pgrowth v_sform v_ssize v_sitems x1 x2 = some (r, o_latestFinding, o_pgrowth)) : Met l yX7_read wsX7_read rm_X7_read (RW (dC, dI) (TY cI cZ cP cS) [.ref h_t, .int x1, .int x2] sz (wd_X7_read cI cZ cP cS h_t h_t_red h_t_blue h_t_sky h_t_diary h_t_calendar h_t_awakeIn h_t_worths h_t_plants h_t_sheets h_t_bestFrom h_t_p0 h_t_p1 h_t_p2 h_t_p3 h_t_p0_growth h_t_p1_growth h_t_p2_growth h_t_p3_growth h_t_s0 h_t_s1 h_t_s2 h_t_s3 h_t_s0_items h_t_s1_items h_t_s2_items h_t_s3_items v_latestFinding v_phours v_pgrowth v_sform v_ssize v_sitems)) (RWi (dC, dI) (TY cI cZ cP cS) r sz (wd_X7_read cI cZ cP cS h_t h_t_red h_t_blue h_t_sky h_t_diary h_t_calendar h_t_awakeIn h_t_worths h_t_plants h_t_sheets h_t_bestFrom h_t_p0 h_t_p1 h_t_p2 h_t_p3 h_t_p0_growth h_t_p1_growth h_t_p2_growth h_t_p3_growth h_t_s0 h_t_s1 h_t_s2 h_t_s3 h_t_s0_items h_t_s1_items h_t_s2_items h_t_s3_items v_latestFinding v_phours v_pgrowth v_sform v_ssize v_sitems) (wd_X7_read cI cZ cP cS h_t h_t_red h_t_blue h_t_sky h_t_diary h_t_calendar h_t_awakeIn h_t_worths h_t_plants h_t_sheets h_t_bestFrom h_t_p0 h_t_p1 h_t_p2 h_t_p3 h_t_p0_growth h_t_p1_growth h_t_p2_growth h_t_p3_growth h_t_s0 h_t_s1 h_t_s2 h_t_s3 h_t_s0_items h_t_s1_items h_t_s2_items h_t_s3_items o_latestFinding v_phours o_pgrowth v_sform v_ssize v_sitems)) 0 0 (va_A (wd_X7_read cI cZ cP cS h_t h_t_red h_t_blue h_t_sky h_t_diary h_t_calendar h_t_awakeIn h_t_worths h_t_plants h_t_sheets h_t_bestFrom h_t_p0 h_t_p1 h_t_p2 h_t_p3 h_t_p0_growth h_t_p1_growth h_t_p2_growth h_t_p3_growth h_t_s0 h_t_s1 h_t_s2 h_t_s3 h_t_s0_items h_t_s1_items h_t_s2_items h_t_s3_items v_latestFinding v_phours v_pgrowth v_sform v_ssize v_sitems) sz) := by
  refine Met.ofW (cc := cX7_read) (maxL := 6) (ret := (some .int)) (by decide) rfl ?_
  intro p e s m args below meth c s₁ B hml hv
  obtain ⟨rfl, hsz, hP, hK, hD0⟩ := hv
  have hx := B.exec
  have hb := B.bytes
  have hr := B.returns
  have hts := atoms_spec (ws := wsX7_read) B.pre
  have hown : s.vm.findClass RX7 = some m.cls := findClass_of_methodNamed B.named
  have hlocks := B.notSynchronized
  subst hsz
  have hD := hD0.self (sz := s.heap.size)
  have hA : ∀ q : Nat, s.heap.size ≤ q → (va_A (wd_X7_read cI cZ cP cS h_t h_t_red h_t_blue h_t_sky h_t_diary h_t_calendar h_t_awakeIn h_t_worths h_t_plants h_t_sheets h_t_bestFrom h_t_p0 h_t_p1 h_t_p2 h_t_p3 h_t_p0_growth h_t_p1_growth h_t_p2_growth h_t_p3_growth h_t_s0 h_t_s1 h_t_s2 h_t_s3 h_t_s0_items h_t_s1_items h_t_s2_items h_t_s3_items v_latestFinding v_phours v_pgrowth v_sform v_ssize v_sitems) s.heap.size) q := fun q h => Or.inr h
  have hS : va_S (va_A (wd_X7_read cI cZ cP cS h_t h_t_red h_t_blue h_t_sky h_t_diary h_t_calendar h_t_awakeIn h_t_worths h_t_plants h_t_sheets h_t_bestFrom h_t_p0 h_t_p1 h_t_p2 h_t_p3 h_t_p0_growth h_t_p1_growth h_t_p2_growth h_t_p3_growth h_t_s0 h_t_s1 h_t_s2 h_t_s3 h_t_s0_items h_t_s1_items h_t_s2_items h_t_s3_items v_latestFinding v_phours v_pgrowth v_sform v_ssize v_sitems) s.heap.size) s.heap s.heap [] := va_S.rf
  have hinX2 : ∀ w ∈ wsX20, w ∈ wsX7_read := by decide +kernel
  have hinX3 : ∀ w ∈ wsX30, w ∈ wsX7_read := by decide +kernel
  have hl := lv_entry ([.ref h_t, .int x1, .int x2]) (n := 6) (Nat.le_of_ble_eq_true rfl)
  rw [lg_entry_eq]
  generalize (lg_sl ([.ref h_t, .int x1, .int x2]) ++ List.replicate (6 - (lg_sl ([.ref h_t, .int x1, .int x2])).length) Slot.unset).toArray = ls at hl ⊢
  have hl : lv_has ls 6 [(0, .ref h_t), (1, .int x1), (2, .int x2)] := hl
  obtain ⟨H, hH⟩ : ∃ H : Heap, H = s.heap := ⟨_, rfl⟩
  have hP : va_P (dC, dI) vwCl (wd_X7_read cI cZ cP cS h_t h_t_red h_t_blue h_t_sky h_t_diary h_t_calendar h_t_awakeIn h_t_worths h_t_plants h_t_sheets h_t_bestFrom h_t_p0 h_t_p1 h_t_p2 h_t_p3 h_t_p0_growth h_t_p1_growth h_t_p2_growth h_t_p3_growth h_t_s0 h_t_s1 h_t_s2 h_t_s3 h_t_s0_items h_t_s1_items h_t_s2_items h_t_s3_items v_latestFinding v_phours v_pgrowth v_sform v_ssize v_sitems) H := by rw [hH]; exact hP
  have hS : va_S (va_A (wd_X7_read cI cZ cP cS h_t h_t_red h_t_blue h_t_sky h_t_diary h_t_calendar h_t_awakeIn h_t_worths h_t_plants h_t_sheets h_t_bestFrom h_t_p0 h_t_p1 h_t_p2 h_t_p3 h_t_p0_growth h_t_p1_growth h_t_p2_growth h_t_p3_growth h_t_s0 h_t_s1 h_t_s2 h_t_s3 h_t_s0_items h_t_s1_items h_t_s2_items h_t_s3_items v_latestFinding v_phours v_pgrowth v_sform v_ssize v_sitems) s.heap.size) s.heap H [] := by rw [hH]; exact hS
  obtain ⟨locs, hlo⟩ : ∃ L : List Loc, L = [] := ⟨_, rfl⟩
  rw [← hlo] at hS
  suffices hgo : W p l e (headSpec wsX7_read rm_X7_read).room s m ([.ref h_t, .int x1, .int x2] : List Value).toArray below meth c H locs 0 0 (MQ below (RWi (dC, dI) (TY cI cZ cP cS) r s.heap.size (wd_X7_read cI cZ cP cS h_t h_t_red h_t_blue h_t_sky h_t_diary h_t_calendar h_t_awakeIn h_t_worths h_t_plants h_t_sheets h_t_bestFrom h_t_p0 h_t_p1 h_t_p2 h_t_p3 h_t_p0_growth h_t_p1_growth h_t_p2_growth h_t_p3_growth h_t_s0 h_t_s1 h_t_s2 h_t_s3 h_t_s0_items h_t_s1_items h_t_s2_items h_t_s3_items v_latestFinding v_phours v_pgrowth v_sform v_ssize v_sitems) (wd_X7_read cI cZ cP cS h_t h_t_red h_t_blue h_t_sky h_t_diary h_t_calendar h_t_awakeIn h_t_worths h_t_plants h_t_sheets h_t_bestFrom h_t_p0 h_t_p1 h_t_p2 h_t_p3 h_t_p0_growth h_t_p1_growth h_t_p2_growth h_t_p3_growth h_t_s0 h_t_s1 h_t_s2 h_t_s3 h_t_s0_items h_t_s1_items h_t_s2_items h_t_s3_items o_latestFinding v_phours o_pgrowth v_sform v_ssize v_sitems)) ([.ref h_t, .int x1, .int x2] : List Value).toArray s 0 0 (va_A (wd_X7_read cI cZ cP cS h_t h_t_red h_t_blue h_t_sky h_t_diary h_t_calendar h_t_awakeIn h_t_worths h_t_plants h_t_sheets h_t_bestFrom h_t_p0 h_t_p1 h_t_p2 h_t_p3 h_t_p0_growth h_t_p1_growth h_t_p2_growth h_t_p3_growth h_t_s0 h_t_s1 h_t_s2 h_t_s3 h_t_s0_items h_t_s1_items h_t_s2_items h_t_s3_items v_latestFinding v_phours v_pgrowth v_sform v_ssize v_sitems) s.heap.size)) (F0 m 0 ls []) by rw [hH, hlo] at hgo; exact hgo
  clear hH hlo
  unfold f_X7_read at hf
  refine lv_aload_n hx hb dX7_read_0 rfl (lv_at hl 0 rfl) ?_
  refine lv_iload_n hx hb dX7_read_1 rfl (lv_at hl 1 rfl) ?_
  refine va_csq (va_runV (As := [.int x1]) (rest := []) ⟨hx, hb, hml, hown, hts⟩ (c_X7_sheetOf l dC dI cI cZ cP cS h_t h_t_red h_t_blue h_t_sky h_t_diary h_t_calendar h_t_awakeIn h_t_worths h_t_plants h_t_sheets h_t_bestFrom h_t_s0 h_t_s1 h_t_s2 h_t_s3 v_latestFinding x1) (cwV 1 hts gX7_read_X7_sheetOf rfl rfl rfl (by decide +kernel) ⟨Nat.le_of_ble_eq_true rfl, Nat.le_of_ble_eq_true rfl⟩) (pv_ro (ci := 6) (q0 := 0) hK (hP.sub (ws' := (wd_X7_sheetOf cI cZ cP cS h_t h_t_red h_t_blue h_t_sky h_t_diary h_t_calendar h_t_awakeIn h_t_worths h_t_plants h_t_sheets h_t_bestFrom h_t_s0 h_t_s1 h_t_s2 h_t_s3 v_latestFinding)) [0, 10] rfl) rfl rfl) rfl rfl hl.1 rfl (lv_room (Nat.le_of_ble_eq_true rfl)) dX7_read_2 ⟨Nat.zero_le _, Nat.zero_le _⟩).run (fun x e_1 => ?_)
  by_cases c2_0 : x1 = 0
  · rw [if_pos c2_0] at hf e_1
    subst e_1
    refine W.eq (g2 := F0 m 5 ls [.ref h_t_s0]) rfl ?_
    refine lv_astore_n (lv' := [(3, .ref h_t_s0), (0, .ref h_t), (1, .int x1), (2, .int x2)]) hx hb dX7_read_5 rfl hl (by decide) rfl (fun ls hl => ?_)
    refine lv_aload_n hx hb dX7_read_6 rfl (lv_at hl 1 rfl) ?_
    refine lv_iload_n hx hb dX7_read_7 rfl (lv_at hl 3 rfl) ?_
    refine va_csq (va_runV (As := [.int x2]) (rest := []) ⟨hx, hb, hml, hown, hts⟩ (c_X7_plantOf l dC dI cI cZ cP cS h_t h_t_red h_t_blue h_t_sky h_t_diary h_t_calendar h_t_awakeIn h_t_worths h_t_plants h_t_sheets h_t_bestFrom h_t_p0 h_t_p1 h_t_p2 h_t_p3 v_latestFinding x2) (cwV 1 hts gX7_read_X7_plantOf rfl rfl rfl (by decide +kernel) ⟨Nat.le_of_ble_eq_true rfl, Nat.le_of_ble_eq_true rfl⟩) (pv_ro (ci := 6) (q0 := 0) hK (hP.sub (ws' := (wd_X7_plantOf cI cZ cP cS h_t h_t_red h_t_blue h_t_sky h_t_diary h_t_calendar h_t_awakeIn h_t_worths h_t_plants h_t_sheets h_t_bestFrom h_t_p0 h_t_p1 h_t_p2 h_t_p3 v_latestFinding)) [0, 1] rfl) rfl rfl) rfl rfl hl.1 rfl (lv_room (Nat.le_of_ble_eq_true rfl)) dX7_read_8 ⟨Nat.zero_le _, Nat.zero_le _⟩).run (fun x e_2 => ?_)
    by_cases c8_0 : x2 = 0
    · rw [if_pos c8_0] at hf e_2
      subst e_2
      refine W.eq (g2 := F0 m 11 ls [.ref h_t_p0]) rfl ?_
      refine lv_astore (lv' := [(4, .ref h_t_p0), (3, .ref h_t_s0), (0, .ref h_t), (1, .int x1), (2, .int x2)]) hx hb dX7_read_11 hl (by decide) rfl (fun ls hl => ?_)
      refine lv_aload_n hx hb dX7_read_13 rfl (lv_at hl 1 rfl) ?_
      refine lv_ifnull hx hb dX7_read_14 ?_
      refine lv_aload hx hb dX7_read_17 (lv_at hl 0 rfl) ?_
      refine lv_ifnonnull (tgt := 25) hx hb dX7_read_19 (by decide) ?_
      refine lv_aload_n hx hb dX7_read_25 rfl (lv_at hl 1 rfl) ?_
      refine va_get (D := (dC, dI)) (ci := 3) (v := .int (v_sform 0)) (C := RX3) (T := TX3) (N := 3) hx hb hts hinX3 hown hK hP 11 rfl rfl 0 (by decide) (hts (.fieldLink RX7 222 "SecondSunrise$Sheet" "form" "I") (by decide +kernel)) (fun _ h9 => h9) rfl dX7_read_26 ?_
      refine lv_iconst (v := (-1)) hx hb dX7_read_29 (by decide) ?_
      refine lv_icmp_ne (tgt := 39) hx hb dX7_read_30 (by decide) (fun c30 => ?_) (fun c30 => ?_)
      · rw [if_neg c30] at hf
        refine lv_iconst (v := 0) hx hb dX7_read_39 (by decide) ?_
        refine lv_istore (lv' := [(5, .int 0), (4, .ref h_t_p0), (3, .ref h_t_s0), (0, .ref h_t), (1, .int x1), (2, .int x2)]) hx hb dX7_read_40 hl (by decide) rfl (fun ls hl => ?_)
        obtain ⟨kx42, ekx42, hf⟩ := jn2_e hf
        have hx42 : ∀ (z42_5 : Int32) (u42_pgrowth : Nat → Nat → Int32) (H : Heap) (locs : List Loc) (ls : Array Slot), lv_has ls 6 [(5, .int z42_5)] → va_P (dC, dI) vwCl (wd_X7_read cI cZ cP cS h_t h_t_red h_t_blue h_t_sky h_t_diary h_t_calendar h_t_awakeIn h_t_worths h_t_plants h_t_sheets h_t_bestFrom h_t_p0 h_t_p1 h_t_p2 h_t_p3 h_t_p0_growth h_t_p1_growth h_t_p2_growth h_t_p3_growth h_t_s0 h_t_s1 h_t_s2 h_t_s3 h_t_s0_items h_t_s1_items h_t_s2_items h_t_s3_items v_latestFinding v_phours u42_pgrowth v_sform v_ssize v_sitems) H → va_D (va_A (wd_X7_read cI cZ cP cS h_t h_t_red h_t_blue h_t_sky h_t_diary h_t_calendar h_t_awakeIn h_t_worths h_t_plants h_t_sheets h_t_bestFrom h_t_p0 h_t_p1 h_t_p2 h_t_p3 h_t_p0_growth h_t_p1_growth h_t_p2_growth h_t_p3_growth h_t_s0 h_t_s1 h_t_s2 h_t_s3 h_t_s0_items h_t_s1_items h_t_s2_items h_t_s3_items v_latestFinding v_phours v_pgrowth v_sform v_ssize v_sitems) s.heap.size) (wd_X7_read cI cZ cP cS h_t h_t_red h_t_blue h_t_sky h_t_diary h_t_calendar h_t_awakeIn h_t_worths h_t_plants h_t_sheets h_t_bestFrom h_t_p0 h_t_p1 h_t_p2 h_t_p3 h_t_p0_growth h_t_p1_growth h_t_p2_growth h_t_p3_growth h_t_s0 h_t_s1 h_t_s2 h_t_s3 h_t_s0_items h_t_s1_items h_t_s2_items h_t_s3_items v_latestFinding v_phours u42_pgrowth v_sform v_ssize v_sitems) → va_S (va_A (wd_X7_read cI cZ cP cS h_t h_t_red h_t_blue h_t_sky h_t_diary h_t_calendar h_t_awakeIn h_t_worths h_t_plants h_t_sheets h_t_bestFrom h_t_p0 h_t_p1 h_t_p2 h_t_p3 h_t_p0_growth h_t_p1_growth h_t_p2_growth h_t_p3_growth h_t_s0 h_t_s1 h_t_s2 h_t_s3 h_t_s0_items h_t_s1_items h_t_s2_items h_t_s3_items v_latestFinding v_phours v_pgrowth v_sform v_ssize v_sitems) s.heap.size) s.heap H locs → kx42 z42_5 u42_pgrowth = some (r, o_latestFinding, o_pgrowth) → W p l e (headSpec wsX7_read rm_X7_read).room s m ([.ref h_t, .int x1, .int x2] : List Value).toArray below meth c H locs 0 0 (MQ below (RWi (dC, dI) (TY cI cZ cP cS) r s.heap.size (wd_X7_read cI cZ cP cS h_t h_t_red h_t_blue h_t_sky h_t_diary h_t_calendar h_t_awakeIn h_t_worths h_t_plants h_t_sheets h_t_bestFrom h_t_p0 h_t_p1 h_t_p2 h_t_p3 h_t_p0_growth h_t_p1_growth h_t_p2_growth h_t_p3_growth h_t_s0 h_t_s1 h_t_s2 h_t_s3 h_t_s0_items h_t_s1_items h_t_s2_items h_t_s3_items v_latestFinding v_phours v_pgrowth v_sform v_ssize v_sitems) (wd_X7_read cI cZ cP cS h_t h_t_red h_t_blue h_t_sky h_t_diary h_t_calendar h_t_awakeIn h_t_worths h_t_plants h_t_sheets h_t_bestFrom h_t_p0 h_t_p1 h_t_p2 h_t_p3 h_t_p0_growth h_t_p1_growth h_t_p2_growth h_t_p3_growth h_t_s0 h_t_s1 h_t_s2 h_t_s3 h_t_s0_items h_t_s1_items h_t_s2_items h_t_s3_items o_latestFinding v_phours o_pgrowth v_sform v_ssize v_sitems)) ([.ref h_t, .int x1, .int x2] : List Value).toArray s 0 0 (va_A (wd_X7_read cI cZ cP cS h_t h_t_red h_t_blue h_t_sky h_t_diary h_t_calendar h_t_awakeIn h_t_worths h_t_plants h_t_sheets h_t_bestFrom h_t_p0 h_t_p1 h_t_p2 h_t_p3 h_t_p0_growth h_t_p1_growth h_t_p2_growth h_t_p3_growth h_t_s0 h_t_s1 h_t_s2 h_t_s3 h_t_s0_items h_t_s1_items h_t_s2_items h_t_s3_items v_latestFinding v_phours v_pgrowth v_sform v_ssize v_sitems) s.heap.size)) (F0 m 91 ls []) := by
          intro z42_5 u42_pgrowth H locs ls hl hP hD hS hf
          rw [ekx42] at hf
          refine lv_iload hx hb dX7_read_91 (lv_at hl 0 rfl) ?_
          have hq0 := Option.some.inj hf
          obtain ⟨eq0, hq1⟩ := Prod.mk.inj hq0
          obtain ⟨eq1, hq2⟩ := Prod.mk.inj hq1
          clear hf hq0 hq1
          subst eq0
          subst eq1
          subst hq2
          exact W.iret hx hb hr (fun t ht hW => ⟨⟨_, (), rfl, rfl, by rw [ht]; exact hP, va_K.moved hW.alike hK, hD⟩, hS.F ht⟩) hS.2.2 dX7_read_93
        have hL42 : ∀ (k42 : Nat) (y42_5 : Int32) (w42_pgrowth : Nat → Nat → Int32) (H : Heap) (locs : List Loc) (ls : Array Slot), lv_has ls 6 [(3, .ref h_t_s0), (4, .ref h_t_p0), (5, .int y42_5)] → va_P (dC, dI) vwCl (wd_X7_read cI cZ cP cS h_t h_t_red h_t_blue h_t_sky h_t_diary h_t_calendar h_t_awakeIn h_t_worths h_t_plants h_t_sheets h_t_bestFrom h_t_p0 h_t_p1 h_t_p2 h_t_p3 h_t_p0_growth h_t_p1_growth h_t_p2_growth h_t_p3_growth h_t_s0 h_t_s1 h_t_s2 h_t_s3 h_t_s0_items h_t_s1_items h_t_s2_items h_t_s3_items v_latestFinding v_phours w42_pgrowth v_sform v_ssize v_sitems) H → va_D (va_A (wd_X7_read cI cZ cP cS h_t h_t_red h_t_blue h_t_sky h_t_diary h_t_calendar h_t_awakeIn h_t_worths h_t_plants h_t_sheets h_t_bestFrom h_t_p0 h_t_p1 h_t_p2 h_t_p3 h_t_p0_growth h_t_p1_growth h_t_p2_growth h_t_p3_growth h_t_s0 h_t_s1 h_t_s2 h_t_s3 h_t_s0_items h_t_s1_items h_t_s2_items h_t_s3_items v_latestFinding v_phours v_pgrowth v_sform v_ssize v_sitems) s.heap.size) (wd_X7_read cI cZ cP cS h_t h_t_red h_t_blue h_t_sky h_t_diary h_t_calendar h_t_awakeIn h_t_worths h_t_plants h_t_sheets h_t_bestFrom h_t_p0 h_t_p1 h_t_p2 h_t_p3 h_t_p0_growth h_t_p1_growth h_t_p2_growth h_t_p3_growth h_t_s0 h_t_s1 h_t_s2 h_t_s3 h_t_s0_items h_t_s1_items h_t_s2_items h_t_s3_items v_latestFinding v_phours w42_pgrowth v_sform v_ssize v_sitems) → va_S (va_A (wd_X7_read cI cZ cP cS h_t h_t_red h_t_blue h_t_sky h_t_diary h_t_calendar h_t_awakeIn h_t_worths h_t_plants h_t_sheets h_t_bestFrom h_t_p0 h_t_p1 h_t_p2 h_t_p3 h_t_p0_growth h_t_p1_growth h_t_p2_growth h_t_p3_growth h_t_s0 h_t_s1 h_t_s2 h_t_s3 h_t_s0_items h_t_s1_items h_t_s2_items h_t_s3_items v_latestFinding v_phours v_pgrowth v_sform v_ssize v_sitems) s.heap.size) s.heap H locs → L_X7_read_42 n v_ssize v_sitems kx42 k42 y42_5 w42_pgrowth = some (r, o_latestFinding, o_pgrowth) → W p l e (headSpec wsX7_read rm_X7_read).room s m ([.ref h_t, .int x1, .int x2] : List Value).toArray below meth c H locs 0 0 (MQ below (RWi (dC, dI) (TY cI cZ cP cS) r s.heap.size (wd_X7_read cI cZ cP cS h_t h_t_red h_t_blue h_t_sky h_t_diary h_t_calendar h_t_awakeIn h_t_worths h_t_plants h_t_sheets h_t_bestFrom h_t_p0 h_t_p1 h_t_p2 h_t_p3 h_t_p0_growth h_t_p1_growth h_t_p2_growth h_t_p3_growth h_t_s0 h_t_s1 h_t_s2 h_t_s3 h_t_s0_items h_t_s1_items h_t_s2_items h_t_s3_items v_latestFinding v_phours v_pgrowth v_sform v_ssize v_sitems) (wd_X7_read cI cZ cP cS h_t h_t_red h_t_blue h_t_sky h_t_diary h_t_calendar h_t_awakeIn h_t_worths h_t_plants h_t_sheets h_t_bestFrom h_t_p0 h_t_p1 h_t_p2 h_t_p3 h_t_p0_growth h_t_p1_growth h_t_p2_growth h_t_p3_growth h_t_s0 h_t_s1 h_t_s2 h_t_s3 h_t_s0_items h_t_s1_items h_t_s2_items h_t_s3_items o_latestFinding v_phours o_pgrowth v_sform v_ssize v_sitems)) ([.ref h_t, .int x1, .int x2] : List Value).toArray s 0 0 (va_A (wd_X7_read cI cZ cP cS h_t h_t_red h_t_blue h_t_sky h_t_diary h_t_calendar h_t_awakeIn h_t_worths h_t_plants h_t_sheets h_t_bestFrom h_t_p0 h_t_p1 h_t_p2 h_t_p3 h_t_p0_growth h_t_p1_growth h_t_p2_growth h_t_p3_growth h_t_s0 h_t_s1 h_t_s2 h_t_s3 h_t_s0_items h_t_s1_items h_t_s2_items h_t_s3_items v_latestFinding v_phours v_pgrowth v_sform v_ssize v_sitems) s.heap.size)) (F0 m 42 ls []) := by
          intro k42
          induction k42 with
          | zero =>
            intro y42_5 w42_pgrowth H locs ls hl hP hD hS hf
            exact absurd hf (fun h => Option.some_ne_none _ h.symm)
          | succ k42 ih =>
            intro y42_5 w42_pgrowth H locs ls hl hP hD hS hf
            rw [L_X7_read_42_s] at hf
            refine lv_iload hx hb dX7_read_42 (lv_at hl 2 rfl) ?_
            refine lv_iconst (v := 4) hx hb dX7_read_44 (by decide) ?_
            refine lv_icmp_ge (tgt := 91) hx hb dX7_read_45 (by decide) (fun c45 => ?_) (fun c45 => ?_)
            · rw [if_pos c45] at hf
              exact hx42 y42_5 w42_pgrowth H locs ls (lv_sub hl [2] rfl) hP hD hS hf
            · rw [if_neg c45] at hf
              refine lv_iload hx hb dX7_read_48 (lv_at hl 2 rfl) ?_
              refine lv_aload_n hx hb dX7_read_50 rfl (lv_at hl 0 rfl) ?_
              refine va_get (D := (dC, dI)) (ci := 3) (v := .int (v_ssize 0)) (C := RX3) (T := TX3) (N := 3) hx hb hts hinX3 hown hK hP 11 rfl rfl 1 (by decide) (hts (.fieldLink RX7 228 "SecondSunrise$Sheet" "size" "I") (by decide +kernel)) (fun _ h9 => h9) rfl dX7_read_51 ?_
              refine lv_icmp_ge (tgt := 91) hx hb dX7_read_54 (by decide) (fun c54 => ?_) (fun c54 => ?_)
              · rw [if_pos c54] at hf
                exact hx42 y42_5 w42_pgrowth H locs ls (lv_sub hl [2] rfl) hP hD hS hf
              · rw [if_neg c54] at hf
                refine lv_aload_n hx hb dX7_read_57 rfl (lv_at hl 0 rfl) ?_
                refine va_get (D := (dC, dI)) (ci := 3) (v := .ref h_t_s0_items) (C := RX3) (T := TX3) (N := 3) hx hb hts hinX3 hown hK hP 11 rfl rfl 2 (by decide) (hts (.fieldLink RX7 229 "SecondSunrise$Sheet" "items" "[I") (by decide +kernel)) (fun _ h9 => h9) rfl dX7_read_58 ?_
                refine lv_iload hx hb dX7_read_61 (lv_at hl 2 rfl) ?_
                obtain ⟨hi_3, hf⟩ := ix_e hf
                refine va_iald hx hb hK hP 12 0 rfl rfl hi_3 dX7_read_63 ?_
                obtain ⟨r64_4, hc_5, hf⟩ := bd1_e hf
                refine vp_callSi (va_runS (As := [.int ((v_sitems 0) y42_5.toNatClampNeg)]) (rest := []) ⟨hx, hb, hml, hown, hts⟩ (c_X7_noGrowth l dC dI cI cZ cP cS   ((v_sitems 0) y42_5.toNatClampNeg) n r64_4 hc_5) (va_cwS 1 hts gX7_read_X7_noGrowth rfl rfl rfl (by decide +kernel) ⟨Nat.le_of_ble_eq_true rfl, Nat.le_of_ble_eq_true rfl⟩) (ps_ro hK (hP.sub (ws' := ([] : va_W)) [] rfl)) rfl rfl hl.1 rfl (lv_room (Nat.le_of_ble_eq_true rfl)) dX7_read_64 ⟨Nat.zero_le _, Nat.zero_le _⟩).run (fun x e_6 => ?_)
                obtain ⟨e_6, hb_7⟩ := e_6
                rw [e_6] at hb_7 ⊢
                refine lv_if_ne (tgt := 91) hx hb dX7_read_67 (by decide) (fun c67 => ?_) (fun c67 => ?_)
                · rw [if_neg c67] at hf
                  exact hx42 y42_5 w42_pgrowth H locs ls (lv_sub hl [2] rfl) hP hD hS hf
                · rw [if_pos c67] at hf
                  refine lv_aload hx hb dX7_read_70 (lv_at hl 1 rfl) ?_
                  refine va_get (D := (dC, dI)) (ci := 2) (v := .ref h_t_p0_growth) (C := RX2) (T := TX2) (N := 2) hx hb hts hinX2 hown hK hP 2 rfl rfl 1 (by decide) (hts (.fieldLink RX7 215 "SecondSunrise$Plant" "growth" "[I") (by decide +kernel)) (fun _ h9 => h9) rfl dX7_read_72 ?_
                  refine lv_iload hx hb dX7_read_75 (lv_at hl 2 rfl) ?_
                  refine lv_aload_n hx hb dX7_read_77 rfl (lv_at hl 0 rfl) ?_
                  refine va_get (D := (dC, dI)) (ci := 3) (v := .ref h_t_s0_items) (C := RX3) (T := TX3) (N := 3) hx hb hts hinX3 hown hK hP 11 rfl rfl 2 (by decide) (hts (.fieldLink RX7 229 "SecondSunrise$Sheet" "items" "[I") (by decide +kernel)) (fun _ h9 => h9) rfl dX7_read_78 ?_
                  refine lv_iload hx hb dX7_read_81 (lv_at hl 2 rfl) ?_
                  obtain ⟨hi_8, hf⟩ := ix_e hf
                  refine va_iald hx hb hK hP 12 0 rfl rfl hi_8 dX7_read_83 ?_
                  obtain ⟨hi_9, hf⟩ := ix_e hf
                  refine va_iast hx hb hK hP hD hS 3 0 rfl rfl hi_9 dX7_read_84 (fun H locs hP hD hS => ?_)
                  have hP : va_P (dC, dI) vwCl (wd_X7_read cI cZ cP cS h_t h_t_red h_t_blue h_t_sky h_t_diary h_t_calendar h_t_awakeIn h_t_worths h_t_plants h_t_sheets h_t_bestFrom h_t_p0 h_t_p1 h_t_p2 h_t_p3 h_t_p0_growth h_t_p1_growth h_t_p2_growth h_t_p3_growth h_t_s0 h_t_s1 h_t_s2 h_t_s3 h_t_s0_items h_t_s1_items h_t_s2_items h_t_s3_items v_latestFinding v_phours (va_up w42_pgrowth 0 (upd (w42_pgrowth 0) y42_5.toNatClampNeg ((v_sitems 0) y42_5.toNatClampNeg))) v_sform v_ssize v_sitems) H := hP
                  have hD : va_D (va_A (wd_X7_read cI cZ cP cS h_t h_t_red h_t_blue h_t_sky h_t_diary h_t_calendar h_t_awakeIn h_t_worths h_t_plants h_t_sheets h_t_bestFrom h_t_p0 h_t_p1 h_t_p2 h_t_p3 h_t_p0_growth h_t_p1_growth h_t_p2_growth h_t_p3_growth h_t_s0 h_t_s1 h_t_s2 h_t_s3 h_t_s0_items h_t_s1_items h_t_s2_items h_t_s3_items v_latestFinding v_phours v_pgrowth v_sform v_ssize v_sitems) s.heap.size) (wd_X7_read cI cZ cP cS h_t h_t_red h_t_blue h_t_sky h_t_diary h_t_calendar h_t_awakeIn h_t_worths h_t_plants h_t_sheets h_t_bestFrom h_t_p0 h_t_p1 h_t_p2 h_t_p3 h_t_p0_growth h_t_p1_growth h_t_p2_growth h_t_p3_growth h_t_s0 h_t_s1 h_t_s2 h_t_s3 h_t_s0_items h_t_s1_items h_t_s2_items h_t_s3_items v_latestFinding v_phours (va_up w42_pgrowth 0 (upd (w42_pgrowth 0) y42_5.toNatClampNeg ((v_sitems 0) y42_5.toNatClampNeg))) v_sform v_ssize v_sitems) := hD
                  refine lv_iinc (v := (y42_5 + 1)) (lv' := [(5, .int (y42_5 + 1)), (3, .ref h_t_s0), (4, .ref h_t_p0)]) hx hb dX7_read_85 hl (k := 2) rfl rfl (by decide) rfl (fun ls hl => ?_)
                  refine lv_goto (tgt := 42) hx hb dX7_read_88 (by decide) ?_
                  exact ih (y42_5 + 1) (va_up w42_pgrowth 0 (upd (w42_pgrowth 0) y42_5.toNatClampNeg ((v_sitems 0) y42_5.toNatClampNeg))) H locs ls (lv_sub hl [1, 2, 0] rfl) hP hD hS hf
        exact hL42 n 0 v_pgrowth H locs ls (lv_sub hl [2, 1, 0] rfl) hP hD hS hf
      · rw [if_pos c30] at hf
        refine lv_aload_n hx hb dX7_read_33 rfl (lv_at hl 2 rfl) ?_
        refine lv_iconst (v := 1) hx hb dX7_read_34 (by decide) ?_
        obtain ⟨r35_10, o35_11, hc_12, hf⟩ := bd2_e hf
        refine rwi_call (isC := [0]) (isR := [1, 2, 3, 4, 5, 6, 7, 8, 9, 10, 11, 12, 13, 14, 15, 16, 17, 18]) (perm := [18, 0, 1, 2, 3, 4, 5, 6, 7, 8, 9, 10, 11, 12, 13, 14, 15, 16, 17]) (wr := [(h_t_plants, .inl (cP, 4, .inr (.inr (.inr (.inr (ar4 h_t_p0 h_t_p1 h_t_p2 h_t_p3)))))), (h_t_p0, .inr (2, [.int (v_phours 0), .ref h_t_p0_growth])), (h_t_p0_growth, .inl (cI, 4, .inl (v_pgrowth 0))), (h_t_p1, .inr (2, [.int (v_phours 1), .ref h_t_p1_growth])), (h_t_p1_growth, .inl (cI, 4, .inl (v_pgrowth 1))), (h_t_p2, .inr (2, [.int (v_phours 2), .ref h_t_p2_growth])), (h_t_p2_growth, .inl (cI, 4, .inl (v_pgrowth 2))), (h_t_p3, .inr (2, [.int (v_phours 3), .ref h_t_p3_growth])), (h_t_p3_growth, .inl (cI, 4, .inl (v_pgrowth 3))), (h_t_sheets, .inl (cS, 4, .inr (.inr (.inr (.inr (ar4 h_t_s0 h_t_s1 h_t_s2 h_t_s3)))))), (h_t_s0, .inr (3, [.int (v_sform 0), .int (v_ssize 0), .ref h_t_s0_items])), (h_t_s0_items, .inl (cI, 48, .inl (v_sitems 0))), (h_t_s1, .inr (3, [.int (v_sform 1), .int (v_ssize 1), .ref h_t_s1_items])), (h_t_s1_items, .inl (cI, 48, .inl (v_sitems 1))), (h_t_s2, .inr (3, [.int (v_sform 2), .int (v_ssize 2), .ref h_t_s2_items])), (h_t_s2_items, .inl (cI, 48, .inl (v_sitems 2))), (h_t_s3, .inr (3, [.int (v_sform 3), .int (v_ssize 3), .ref h_t_s3_items])), (h_t_s3_items, .inl (cI, 48, .inl (v_sitems 3)))]) (ws2 := (wd_X7_read cI cZ cP cS h_t h_t_red h_t_blue h_t_sky h_t_diary h_t_calendar h_t_awakeIn h_t_worths h_t_plants h_t_sheets h_t_bestFrom h_t_p0 h_t_p1 h_t_p2 h_t_p3 h_t_p0_growth h_t_p1_growth h_t_p2_growth h_t_p3_growth h_t_s0 h_t_s1 h_t_s2 h_t_s3 h_t_s0_items h_t_s1_items h_t_s2_items h_t_s3_items o35_11 v_phours v_pgrowth v_sform v_ssize v_sitems)) (va_runV (As := [.int 1]) (rest := []) ⟨hx, hb, hml, hown, hts⟩ (c_X7_found l dC dI cI cZ cP cS H.size h_t h_t_red h_t_blue h_t_sky h_t_diary h_t_calendar h_t_awakeIn h_t_worths h_t_plants h_t_sheets h_t_bestFrom v_latestFinding 1 n r35_10 o35_11 hc_12) (cwV 1 hts gX7_read_X7_found rfl rfl rfl (by decide +kernel) ⟨Nat.le_of_ble_eq_true rfl, Nat.le_of_ble_eq_true rfl⟩) (pv_rw (ci := 6) (q0 := 0) hK (hP.sub (ws' := (wd_X7_found cI cZ cP cS h_t h_t_red h_t_blue h_t_sky h_t_diary h_t_calendar h_t_awakeIn h_t_worths h_t_plants h_t_sheets h_t_bestFrom v_latestFinding)) [0] rfl) (hD.sub (ws' := (wd_X7_found cI cZ cP cS h_t h_t_red h_t_blue h_t_sky h_t_diary h_t_calendar h_t_awakeIn h_t_worths h_t_plants h_t_sheets h_t_bestFrom v_latestFinding)) [0] (by decide) rfl) rfl rfl) rfl rfl hl.1 rfl (lv_room (Nat.le_of_ble_eq_true rfl)) dX7_read_35 ⟨Nat.zero_le _, Nat.zero_le _⟩) hS hA hP hD rfl (by decide) (by decide) rfl (by decide) rfl rfl (fun H locs hP hD hS => ?_)
        have hq0 := Option.some.inj hf
        obtain ⟨eq0, hq1⟩ := Prod.mk.inj hq0
        obtain ⟨eq1, hq2⟩ := Prod.mk.inj hq1
        clear hf hq0 hq1
        subst eq0
        subst eq1
        subst hq2
        exact W.iret hx hb hr (fun t ht hW => ⟨⟨_, (), rfl, rfl, by rw [ht]; exact hP, va_K.moved hW.alike hK, hD⟩, hS.F ht⟩) hS.2.2 dX7_read_38
    · rw [if_neg c8_0] at hf e_2
      by_cases c8_1 : x2 = 1
      · rw [if_pos c8_1] at hf e_2
        subst e_2
        refine W.eq (g2 := F0 m 11 ls [.ref h_t_p1]) rfl ?_
        refine lv_astore (lv' := [(4, .ref h_t_p1), (3, .ref h_t_s0), (0, .ref h_t), (1, .int x1), (2, .int x2)]) hx hb dX7_read_11 hl (by decide) rfl (fun ls hl => ?_)
        refine lv_aload_n hx hb dX7_read_13 rfl (lv_at hl 1 rfl) ?_
        refine lv_ifnull hx hb dX7_read_14 ?_
        refine lv_aload hx hb dX7_read_17 (lv_at hl 0 rfl) ?_
        refine lv_ifnonnull (tgt := 25) hx hb dX7_read_19 (by decide) ?_
        refine lv_aload_n hx hb dX7_read_25 rfl (lv_at hl 1 rfl) ?_
        refine va_get (D := (dC, dI)) (ci := 3) (v := .int (v_sform 0)) (C := RX3) (T := TX3) (N := 3) hx hb hts hinX3 hown hK hP 11 rfl rfl 0 (by decide) (hts (.fieldLink RX7 222 "SecondSunrise$Sheet" "form" "I") (by decide +kernel)) (fun _ h9 => h9) rfl dX7_read_26 ?_
        refine lv_iconst (v := (-1)) hx hb dX7_read_29 (by decide) ?_
        refine lv_icmp_ne (tgt := 39) hx hb dX7_read_30 (by decide) (fun c30 => ?_) (fun c30 => ?_)
        · rw [if_neg c30] at hf
          refine lv_iconst (v := 0) hx hb dX7_read_39 (by decide) ?_
          refine lv_istore (lv' := [(5, .int 0), (4, .ref h_t_p1), (3, .ref h_t_s0), (0, .ref h_t), (1, .int x1), (2, .int x2)]) hx hb dX7_read_40 hl (by decide) rfl (fun ls hl => ?_)
          obtain ⟨kx42, ekx42, hf⟩ := jn2_e hf
          have hx42 : ∀ (z42_5 : Int32) (u42_pgrowth : Nat → Nat → Int32) (H : Heap) (locs : List Loc) (ls : Array Slot), lv_has ls 6 [(5, .int z42_5)] → va_P (dC, dI) vwCl (wd_X7_read cI cZ cP cS h_t h_t_red h_t_blue h_t_sky h_t_diary h_t_calendar h_t_awakeIn h_t_worths h_t_plants h_t_sheets h_t_bestFrom h_t_p0 h_t_p1 h_t_p2 h_t_p3 h_t_p0_growth h_t_p1_growth h_t_p2_growth h_t_p3_growth h_t_s0 h_t_s1 h_t_s2 h_t_s3 h_t_s0_items h_t_s1_items h_t_s2_items h_t_s3_items v_latestFinding v_phours u42_pgrowth v_sform v_ssize v_sitems) H → va_D (va_A (wd_X7_read cI cZ cP cS h_t h_t_red h_t_blue h_t_sky h_t_diary h_t_calendar h_t_awakeIn h_t_worths h_t_plants h_t_sheets h_t_bestFrom h_t_p0 h_t_p1 h_t_p2 h_t_p3 h_t_p0_growth h_t_p1_growth h_t_p2_growth h_t_p3_growth h_t_s0 h_t_s1 h_t_s2 h_t_s3 h_t_s0_items h_t_s1_items h_t_s2_items h_t_s3_items v_latestFinding v_phours v_pgrowth v_sform v_ssize v_sitems) s.heap.size) (wd_X7_read cI cZ cP cS h_t h_t_red h_t_blue h_t_sky h_t_diary h_t_calendar h_t_awakeIn h_t_worths h_t_plants h_t_sheets h_t_bestFrom h_t_p0 h_t_p1 h_t_p2 h_t_p3 h_t_p0_growth h_t_p1_growth h_t_p2_growth h_t_p3_growth h_t_s0 h_t_s1 h_t_s2 h_t_s3 h_t_s0_items h_t_s1_items h_t_s2_items h_t_s3_items v_latestFinding v_phours u42_pgrowth v_sform v_ssize v_sitems) → va_S (va_A (wd_X7_read cI cZ cP cS h_t h_t_red h_t_blue h_t_sky h_t_diary h_t_calendar h_t_awakeIn h_t_worths h_t_plants h_t_sheets h_t_bestFrom h_t_p0 h_t_p1 h_t_p2 h_t_p3 h_t_p0_growth h_t_p1_growth h_t_p2_growth h_t_p3_growth h_t_s0 h_t_s1 h_t_s2 h_t_s3 h_t_s0_items h_t_s1_items h_t_s2_items h_t_s3_items v_latestFinding v_phours v_pgrowth v_sform v_ssize v_sitems) s.heap.size) s.heap H locs → kx42 z42_5 u42_pgrowth = some (r, o_latestFinding, o_pgrowth) → W p l e (headSpec wsX7_read rm_X7_read).room s m ([.ref h_t, .int x1, .int x2] : List Value).toArray below meth c H locs 0 0 (MQ below (RWi (dC, dI) (TY cI cZ cP cS) r s.heap.size (wd_X7_read cI cZ cP cS h_t h_t_red h_t_blue h_t_sky h_t_diary h_t_calendar h_t_awakeIn h_t_worths h_t_plants h_t_sheets h_t_bestFrom h_t_p0 h_t_p1 h_t_p2 h_t_p3 h_t_p0_growth h_t_p1_growth h_t_p2_growth h_t_p3_growth h_t_s0 h_t_s1 h_t_s2 h_t_s3 h_t_s0_items h_t_s1_items h_t_s2_items h_t_s3_items v_latestFinding v_phours v_pgrowth v_sform v_ssize v_sitems) (wd_X7_read cI cZ cP cS h_t h_t_red h_t_blue h_t_sky h_t_diary h_t_calendar h_t_awakeIn h_t_worths h_t_plants h_t_sheets h_t_bestFrom h_t_p0 h_t_p1 h_t_p2 h_t_p3 h_t_p0_growth h_t_p1_growth h_t_p2_growth h_t_p3_growth h_t_s0 h_t_s1 h_t_s2 h_t_s3 h_t_s0_items h_t_s1_items h_t_s2_items h_t_s3_items o_latestFinding v_phours o_pgrowth v_sform v_ssize v_sitems)) ([.ref h_t, .int x1, .int x2] : List Value).toArray s 0 0 (va_A (wd_X7_read cI cZ cP cS h_t h_t_red h_t_blue h_t_sky h_t_diary h_t_calendar h_t_awakeIn h_t_worths h_t_plants h_t_sheets h_t_bestFrom h_t_p0 h_t_p1 h_t_p2 h_t_p3 h_t_p0_growth h_t_p1_growth h_t_p2_growth h_t_p3_growth h_t_s0 h_t_s1 h_t_s2 h_t_s3 h_t_s0_items h_t_s1_items h_t_s2_items h_t_s3_items v_latestFinding v_phours v_pgrowth v_sform v_ssize v_sitems) s.heap.size)) (F0 m 91 ls []) := by
            intro z42_5 u42_pgrowth H locs ls hl hP hD hS hf
            rw [ekx42] at hf
            refine lv_iload hx hb dX7_read_91 (lv_at hl 0 rfl) ?_
            have hq0 := Option.some.inj hf
            obtain ⟨eq0, hq1⟩ := Prod.mk.inj hq0
            obtain ⟨eq1, hq2⟩ := Prod.mk.inj hq1
            clear hf hq0 hq1
            subst eq0
            subst eq1
            subst hq2
            exact W.iret hx hb hr (fun t ht hW => ⟨⟨_, (), rfl, rfl, by rw [ht]; exact hP, va_K.moved hW.alike hK, hD⟩, hS.F ht⟩) hS.2.2 dX7_read_93
          have hL42 : ∀ (k42 : Nat) (y42_5 : Int32) (w42_pgrowth : Nat → Nat → Int32) (H : Heap) (locs : List Loc) (ls : Array Slot), lv_has ls 6 [(3, .ref h_t_s0), (4, .ref h_t_p1), (5, .int y42_5)] → va_P (dC, dI) vwCl (wd_X7_read cI cZ cP cS h_t h_t_red h_t_blue h_t_sky h_t_diary h_t_calendar h_t_awakeIn h_t_worths h_t_plants h_t_sheets h_t_bestFrom h_t_p0 h_t_p1 h_t_p2 h_t_p3 h_t_p0_growth h_t_p1_growth h_t_p2_growth h_t_p3_growth h_t_s0 h_t_s1 h_t_s2 h_t_s3 h_t_s0_items h_t_s1_items h_t_s2_items h_t_s3_items v_latestFinding v_phours w42_pgrowth v_sform v_ssize v_sitems) H → va_D (va_A (wd_X7_read cI cZ cP cS h_t h_t_red h_t_blue h_t_sky h_t_diary h_t_calendar h_t_awakeIn h_t_worths h_t_plants h_t_sheets h_t_bestFrom h_t_p0 h_t_p1 h_t_p2 h_t_p3 h_t_p0_growth h_t_p1_growth h_t_p2_growth h_t_p3_growth h_t_s0 h_t_s1 h_t_s2 h_t_s3 h_t_s0_items h_t_s1_items h_t_s2_items h_t_s3_items v_latestFinding v_phours v_pgrowth v_sform v_ssize v_sitems) s.heap.size) (wd_X7_read cI cZ cP cS h_t h_t_red h_t_blue h_t_sky h_t_diary h_t_calendar h_t_awakeIn h_t_worths h_t_plants h_t_sheets h_t_bestFrom h_t_p0 h_t_p1 h_t_p2 h_t_p3 h_t_p0_growth h_t_p1_growth h_t_p2_growth h_t_p3_growth h_t_s0 h_t_s1 h_t_s2 h_t_s3 h_t_s0_items h_t_s1_items h_t_s2_items h_t_s3_items v_latestFinding v_phours w42_pgrowth v_sform v_ssize v_sitems) → va_S (va_A (wd_X7_read cI cZ cP cS h_t h_t_red h_t_blue h_t_sky h_t_diary h_t_calendar h_t_awakeIn h_t_worths h_t_plants h_t_sheets h_t_bestFrom h_t_p0 h_t_p1 h_t_p2 h_t_p3 h_t_p0_growth h_t_p1_growth h_t_p2_growth h_t_p3_growth h_t_s0 h_t_s1 h_t_s2 h_t_s3 h_t_s0_items h_t_s1_items h_t_s2_items h_t_s3_items v_latestFinding v_phours v_pgrowth v_sform v_ssize v_sitems) s.heap.size) s.heap H locs → L_X7_read_42q2 n v_ssize v_sitems kx42 k42 y42_5 w42_pgrowth = some (r, o_latestFinding, o_pgrowth) → W p l e (headSpec wsX7_read rm_X7_read).room s m ([.ref h_t, .int x1, .int x2] : List Value).toArray below meth c H locs 0 0 (MQ below (RWi (dC, dI) (TY cI cZ cP cS) r s.heap.size (wd_X7_read cI cZ cP cS h_t h_t_red h_t_blue h_t_sky h_t_diary h_t_calendar h_t_awakeIn h_t_worths h_t_plants h_t_sheets h_t_bestFrom h_t_p0 h_t_p1 h_t_p2 h_t_p3 h_t_p0_growth h_t_p1_growth h_t_p2_growth h_t_p3_growth h_t_s0 h_t_s1 h_t_s2 h_t_s3 h_t_s0_items h_t_s1_items h_t_s2_items h_t_s3_items v_latestFinding v_phours v_pgrowth v_sform v_ssize v_sitems) (wd_X7_read cI cZ cP cS h_t h_t_red h_t_blue h_t_sky h_t_diary h_t_calendar h_t_awakeIn h_t_worths h_t_plants h_t_sheets h_t_bestFrom h_t_p0 h_t_p1 h_t_p2 h_t_p3 h_t_p0_growth h_t_p1_growth h_t_p2_growth h_t_p3_growth h_t_s0 h_t_s1 h_t_s2 h_t_s3 h_t_s0_items h_t_s1_items h_t_s2_items h_t_s3_items o_latestFinding v_phours o_pgrowth v_sform v_ssize v_sitems)) ([.ref h_t, .int x1, .int x2] : List Value).toArray s 0 0 (va_A (wd_X7_read cI cZ cP cS h_t h_t_red h_t_blue h_t_sky h_t_diary h_t_calendar h_t_awakeIn h_t_worths h_t_plants h_t_sheets h_t_bestFrom h_t_p0 h_t_p1 h_t_p2 h_t_p3 h_t_p0_growth h_t_p1_growth h_t_p2_growth h_t_p3_growth h_t_s0 h_t_s1 h_t_s2 h_t_s3 h_t_s0_items h_t_s1_items h_t_s2_items h_t_s3_items v_latestFinding v_phours v_pgrowth v_sform v_ssize v_sitems) s.heap.size)) (F0 m 42 ls []) := by
            intro k42
            induction k42 with
            | zero =>
              intro y42_5 w42_pgrowth H locs ls hl hP hD hS hf
              exact absurd hf (fun h => Option.some_ne_none _ h.symm)
            | succ k42 ih =>
              intro y42_5 w42_pgrowth H locs ls hl hP hD hS hf
              rw [L_X7_read_42q2_s] at hf
              refine lv_iload hx hb dX7_read_42 (lv_at hl 2 rfl) ?_
              refine lv_iconst (v := 4) hx hb dX7_read_44 (by decide) ?_
              refine lv_icmp_ge (tgt := 91) hx hb dX7_read_45 (by decide) (fun c45 => ?_) (fun c45 => ?_)
              · rw [if_pos c45] at hf
                exact hx42 y42_5 w42_pgrowth H locs ls (lv_sub hl [2] rfl) hP hD hS hf
              · rw [if_neg c45] at hf
                refine lv_iload hx hb dX7_read_48 (lv_at hl 2 rfl) ?_
                refine lv_aload_n hx hb dX7_read_50 rfl (lv_at hl 0 rfl) ?_
                refine va_get (D := (dC, dI)) (ci := 3) (v := .int (v_ssize 0)) (C := RX3) (T := TX3) (N := 3) hx hb hts hinX3 hown hK hP 11 rfl rfl 1 (by decide) (hts (.fieldLink RX7 228 "SecondSunrise$Sheet" "size" "I") (by decide +kernel)) (fun _ h9 => h9) rfl dX7_read_51 ?_
                refine lv_icmp_ge (tgt := 91) hx hb dX7_read_54 (by decide) (fun c54 => ?_) (fun c54 => ?_)
                · rw [if_pos c54] at hf
                  exact hx42 y42_5 w42_pgrowth H locs ls (lv_sub hl [2] rfl) hP hD hS hf
                · rw [if_neg c54] at hf
                  refine lv_aload_n hx hb dX7_read_57 rfl (lv_at hl 0 rfl) ?_
                  refine va_get (D := (dC, dI)) (ci := 3) (v := .ref h_t_s0_items) (C := RX3) (T := TX3) (N := 3) hx hb hts hinX3 hown hK hP 11 rfl rfl 2 (by decide) (hts (.fieldLink RX7 229 "SecondSunrise$Sheet" "items" "[I") (by decide +kernel)) (fun _ h9 => h9) rfl dX7_read_58 ?_
                  refine lv_iload hx hb dX7_read_61 (lv_at hl 2 rfl) ?_
                  obtain ⟨hi_14, hf⟩ := ix_e hf
                  refine va_iald hx hb hK hP 12 0 rfl rfl hi_14 dX7_read_63 ?_
                  obtain ⟨r64_15, hc_16, hf⟩ := bd1_e hf
                  refine vp_callSi (va_runS (As := [.int ((v_sitems 0) y42_5.toNatClampNeg)]) (rest := []) ⟨hx, hb, hml, hown, hts⟩ (c_X7_noGrowth l dC dI cI cZ cP cS   ((v_sitems 0) y42_5.toNatClampNeg) n r64_15 hc_16) (va_cwS 1 hts gX7_read_X7_noGrowth rfl rfl rfl (by decide +kernel) ⟨Nat.le_of_ble_eq_true rfl, Nat.le_of_ble_eq_true rfl⟩) (ps_ro hK (hP.sub (ws' := ([] : va_W)) [] rfl)) rfl rfl hl.1 rfl (lv_room (Nat.le_of_ble_eq_true rfl)) dX7_read_64 ⟨Nat.zero_le _, Nat.zero_le _⟩).run (fun x e_17 => ?_)
                  obtain ⟨e_17, hb_18⟩ := e_17
                  rw [e_17] at hb_18 ⊢
                  refine lv_if_ne (tgt := 91) hx hb dX7_read_67 (by decide) (fun c67 => ?_) (fun c67 => ?_)
                  · rw [if_neg c67] at hf
                    exact hx42 y42_5 w42_pgrowth H locs ls (lv_sub hl [2] rfl) hP hD hS hf
                  · rw [if_pos c67] at hf
                    refine lv_aload hx hb dX7_read_70 (lv_at hl 1 rfl) ?_
                    refine va_get (D := (dC, dI)) (ci := 2) (v := .ref h_t_p1_growth) (C := RX2) (T := TX2) (N := 2) hx hb hts hinX2 hown hK hP 4 rfl rfl 1 (by decide) (hts (.fieldLink RX7 215 "SecondSunrise$Plant" "growth" "[I") (by decide +kernel)) (fun _ h9 => h9) rfl dX7_read_72 ?_
                    refine lv_iload hx hb dX7_read_75 (lv_at hl 2 rfl) ?_
                    refine lv_aload_n hx hb dX7_read_77 rfl (lv_at hl 0 rfl) ?_
                    refine va_get (D := (dC, dI)) (ci := 3) (v := .ref h_t_s0_items) (C := RX3) (T := TX3) (N := 3) hx hb hts hinX3 hown hK hP 11 rfl rfl 2 (by decide) (hts (.fieldLink RX7 229 "SecondSunrise$Sheet" "items" "[I") (by decide +kernel)) (fun _ h9 => h9) rfl dX7_read_78 ?_
                    refine lv_iload hx hb dX7_read_81 (lv_at hl 2 rfl) ?_
                    obtain ⟨hi_19, hf⟩ := ix_e hf
                    refine va_iald hx hb hK hP 12 0 rfl rfl hi_19 dX7_read_83 ?_
                    obtain ⟨hi_20, hf⟩ := ix_e hf
                    refine va_iast hx hb hK hP hD hS 5 0 rfl rfl hi_20 dX7_read_84 (fun H locs hP hD hS => ?_)
                    have hP : va_P (dC, dI) vwCl (wd_X7_read cI cZ cP cS h_t h_t_red h_t_blue h_t_sky h_t_diary h_t_calendar h_t_awakeIn h_t_worths h_t_plants h_t_sheets h_t_bestFrom h_t_p0 h_t_p1 h_t_p2 h_t_p3 h_t_p0_growth h_t_p1_growth h_t_p2_growth h_t_p3_growth h_t_s0 h_t_s1 h_t_s2 h_t_s3 h_t_s0_items h_t_s1_items h_t_s2_items h_t_s3_items v_latestFinding v_phours (va_up w42_pgrowth 1 (upd (w42_pgrowth 1) y42_5.toNatClampNeg ((v_sitems 0) y42_5.toNatClampNeg))) v_sform v_ssize v_sitems) H := hP
                    have hD : va_D (va_A (wd_X7_read cI cZ cP cS h_t h_t_red h_t_blue h_t_sky h_t_diary h_t_calendar h_t_awakeIn h_t_worths h_t_plants h_t_sheets h_t_bestFrom h_t_p0 h_t_p1 h_t_p2 h_t_p3 h_t_p0_growth h_t_p1_growth h_t_p2_growth h_t_p3_growth h_t_s0 h_t_s1 h_t_s2 h_t_s3 h_t_s0_items h_t_s1_items h_t_s2_items h_t_s3_items v_latestFinding v_phours v_pgrowth v_sform v_ssize v_sitems) s.heap.size) (wd_X7_read cI cZ cP cS h_t h_t_red h_t_blue h_t_sky h_t_diary h_t_calendar h_t_awakeIn h_t_worths h_t_plants h_t_sheets h_t_bestFrom h_t_p0 h_t_p1 h_t_p2 h_t_p3 h_t_p0_growth h_t_p1_growth h_t_p2_growth h_t_p3_growth h_t_s0 h_t_s1 h_t_s2 h_t_s3 h_t_s0_items h_t_s1_items h_t_s2_items h_t_s3_items v_latestFinding v_phours (va_up w42_pgrowth 1 (upd (w42_pgrowth 1) y42_5.toNatClampNeg ((v_sitems 0) y42_5.toNatClampNeg))) v_sform v_ssize v_sitems) := hD
                    refine lv_iinc (v := (y42_5 + 1)) (lv' := [(5, .int (y42_5 + 1)), (3, .ref h_t_s0), (4, .ref h_t_p1)]) hx hb dX7_read_85 hl (k := 2) rfl rfl (by decide) rfl (fun ls hl => ?_)
                    refine lv_goto (tgt := 42) hx hb dX7_read_88 (by decide) ?_
                    exact ih (y42_5 + 1) (va_up w42_pgrowth 1 (upd (w42_pgrowth 1) y42_5.toNatClampNeg ((v_sitems 0) y42_5.toNatClampNeg))) H locs ls (lv_sub hl [1, 2, 0] rfl) hP hD hS hf
          exact hL42 n 0 v_pgrowth H locs ls (lv_sub hl [2, 1, 0] rfl) hP hD hS hf
        · rw [if_pos c30] at hf
          refine lv_aload_n hx hb dX7_read_33 rfl (lv_at hl 2 rfl) ?_
          refine lv_iconst (v := 1) hx hb dX7_read_34 (by decide) ?_
          obtain ⟨r35_21, o35_22, hc_23, hf⟩ := bd2_e hf
          refine rwi_call (isC := [0]) (isR := [1, 2, 3, 4, 5, 6, 7, 8, 9, 10, 11, 12, 13, 14, 15, 16, 17, 18]) (perm := [18, 0, 1, 2, 3, 4, 5, 6, 7, 8, 9, 10, 11, 12, 13, 14, 15, 16, 17]) (wr := [(h_t_plants, .inl (cP, 4, .inr (.inr (.inr (.inr (ar4 h_t_p0 h_t_p1 h_t_p2 h_t_p3)))))), (h_t_p0, .inr (2, [.int (v_phours 0), .ref h_t_p0_growth])), (h_t_p0_growth, .inl (cI, 4, .inl (v_pgrowth 0))), (h_t_p1, .inr (2, [.int (v_phours 1), .ref h_t_p1_growth])), (h_t_p1_growth, .inl (cI, 4, .inl (v_pgrowth 1))), (h_t_p2, .inr (2, [.int (v_phours 2), .ref h_t_p2_growth])), (h_t_p2_growth, .inl (cI, 4, .inl (v_pgrowth 2))), (h_t_p3, .inr (2, [.int (v_phours 3), .ref h_t_p3_growth])), (h_t_p3_growth, .inl (cI, 4, .inl (v_pgrowth 3))), (h_t_sheets, .inl (cS, 4, .inr (.inr (.inr (.inr (ar4 h_t_s0 h_t_s1 h_t_s2 h_t_s3)))))), (h_t_s0, .inr (3, [.int (v_sform 0), .int (v_ssize 0), .ref h_t_s0_items])), (h_t_s0_items, .inl (cI, 48, .inl (v_sitems 0))), (h_t_s1, .inr (3, [.int (v_sform 1), .int (v_ssize 1), .ref h_t_s1_items])), (h_t_s1_items, .inl (cI, 48, .inl (v_sitems 1))), (h_t_s2, .inr (3, [.int (v_sform 2), .int (v_ssize 2), .ref h_t_s2_items])), (h_t_s2_items, .inl (cI, 48, .inl (v_sitems 2))), (h_t_s3, .inr (3, [.int (v_sform 3), .int (v_ssize 3), .ref h_t_s3_items])), (h_t_s3_items, .inl (cI, 48, .inl (v_sitems 3)))]) (ws2 := (wd_X7_read cI cZ cP cS h_t h_t_red h_t_blue h_t_sky h_t_diary h_t_calendar h_t_awakeIn h_t_worths h_t_plants h_t_sheets h_t_bestFrom h_t_p0 h_t_p1 h_t_p2 h_t_p3 h_t_p0_growth h_t_p1_growth h_t_p2_growth h_t_p3_growth h_t_s0 h_t_s1 h_t_s2 h_t_s3 h_t_s0_items h_t_s1_items h_t_s2_items h_t_s3_items o35_22 v_phours v_pgrowth v_sform v_ssize v_sitems)) (va_runV (As := [.int 1]) (rest := []) ⟨hx, hb, hml, hown, hts⟩ (c_X7_found l dC dI cI cZ cP cS H.size h_t h_t_red h_t_blue h_t_sky h_t_diary h_t_calendar h_t_awakeIn h_t_worths h_t_plants h_t_sheets h_t_bestFrom v_latestFinding 1 n r35_21 o35_22 hc_23) (cwV 1 hts gX7_read_X7_found rfl rfl rfl (by decide +kernel) ⟨Nat.le_of_ble_eq_true rfl, Nat.le_of_ble_eq_true rfl⟩) (pv_rw (ci := 6) (q0 := 0) hK (hP.sub (ws' := (wd_X7_found cI cZ cP cS h_t h_t_red h_t_blue h_t_sky h_t_diary h_t_calendar h_t_awakeIn h_t_worths h_t_plants h_t_sheets h_t_bestFrom v_latestFinding)) [0] rfl) (hD.sub (ws' := (wd_X7_found cI cZ cP cS h_t h_t_red h_t_blue h_t_sky h_t_diary h_t_calendar h_t_awakeIn h_t_worths h_t_plants h_t_sheets h_t_bestFrom v_latestFinding)) [0] (by decide) rfl) rfl rfl) rfl rfl hl.1 rfl (lv_room (Nat.le_of_ble_eq_true rfl)) dX7_read_35 ⟨Nat.zero_le _, Nat.zero_le _⟩) hS hA hP hD rfl (by decide) (by decide) rfl (by decide) rfl rfl (fun H locs hP hD hS => ?_)
          have hq0 := Option.some.inj hf
          obtain ⟨eq0, hq1⟩ := Prod.mk.inj hq0
          obtain ⟨eq1, hq2⟩ := Prod.mk.inj hq1
          clear hf hq0 hq1
          subst eq0
          subst eq1
          subst hq2
          exact W.iret hx hb hr (fun t ht hW => ⟨⟨_, (), rfl, rfl, by rw [ht]; exact hP, va_K.moved hW.alike hK, hD⟩, hS.F ht⟩) hS.2.2 dX7_read_38
      · rw [if_neg c8_1] at hf e_2
        by_cases c8_2 : x2 = 2
        · rw [if_pos c8_2] at hf e_2
          subst e_2
          refine W.eq (g2 := F0 m 11 ls [.ref h_t_p2]) rfl ?_
          refine lv_astore (lv' := [(4, .ref h_t_p2), (3, .ref h_t_s0), (0, .ref h_t), (1, .int x1), (2, .int x2)]) hx hb dX7_read_11 hl (by decide) rfl (fun ls hl => ?_)
          refine lv_aload_n hx hb dX7_read_13 rfl (lv_at hl 1 rfl) ?_
          refine lv_ifnull hx hb dX7_read_14 ?_
          refine lv_aload hx hb dX7_read_17 (lv_at hl 0 rfl) ?_
          refine lv_ifnonnull (tgt := 25) hx hb dX7_read_19 (by decide) ?_
          refine lv_aload_n hx hb dX7_read_25 rfl (lv_at hl 1 rfl) ?_
          refine va_get (D := (dC, dI)) (ci := 3) (v := .int (v_sform 0)) (C := RX3) (T := TX3) (N := 3) hx hb hts hinX3 hown hK hP 11 rfl rfl 0 (by decide) (hts (.fieldLink RX7 222 "SecondSunrise$Sheet" "form" "I") (by decide +kernel)) (fun _ h9 => h9) rfl dX7_read_26 ?_
          refine lv_iconst (v := (-1)) hx hb dX7_read_29 (by decide) ?_
          refine lv_icmp_ne (tgt := 39) hx hb dX7_read_30 (by decide) (fun c30 => ?_) (fun c30 => ?_)
          · rw [if_neg c30] at hf
            refine lv_iconst (v := 0) hx hb dX7_read_39 (by decide) ?_
            refine lv_istore (lv' := [(5, .int 0), (4, .ref h_t_p2), (3, .ref h_t_s0), (0, .ref h_t), (1, .int x1), (2, .int x2)]) hx hb dX7_read_40 hl (by decide) rfl (fun ls hl => ?_)
            obtain ⟨kx42, ekx42, hf⟩ := jn2_e hf
            have hx42 : ∀ (z42_5 : Int32) (u42_pgrowth : Nat → Nat → Int32) (H : Heap) (locs : List Loc) (ls : Array Slot), lv_has ls 6 [(5, .int z42_5)] → va_P (dC, dI) vwCl (wd_X7_read cI cZ cP cS h_t h_t_red h_t_blue h_t_sky h_t_diary h_t_calendar h_t_awakeIn h_t_worths h_t_plants h_t_sheets h_t_bestFrom h_t_p0 h_t_p1 h_t_p2 h_t_p3 h_t_p0_growth h_t_p1_growth h_t_p2_growth h_t_p3_growth h_t_s0 h_t_s1 h_t_s2 h_t_s3 h_t_s0_items h_t_s1_items h_t_s2_items h_t_s3_items v_latestFinding v_phours u42_pgrowth v_sform v_ssize v_sitems) H → va_D (va_A (wd_X7_read cI cZ cP cS h_t h_t_red h_t_blue h_t_sky h_t_diary h_t_calendar h_t_awakeIn h_t_worths h_t_plants h_t_sheets h_t_bestFrom h_t_p0 h_t_p1 h_t_p2 h_t_p3 h_t_p0_growth h_t_p1_growth h_t_p2_growth h_t_p3_growth h_t_s0 h_t_s1 h_t_s2 h_t_s3 h_t_s0_items h_t_s1_items h_t_s2_items h_t_s3_items v_latestFinding v_phours v_pgrowth v_sform v_ssize v_sitems) s.heap.size) (wd_X7_read cI cZ cP cS h_t h_t_red h_t_blue h_t_sky h_t_diary h_t_calendar h_t_awakeIn h_t_worths h_t_plants h_t_sheets h_t_bestFrom h_t_p0 h_t_p1 h_t_p2 h_t_p3 h_t_p0_growth h_t_p1_growth h_t_p2_growth h_t_p3_growth h_t_s0 h_t_s1 h_t_s2 h_t_s3 h_t_s0_items h_t_s1_items h_t_s2_items h_t_s3_items v_latestFinding v_phours u42_pgrowth v_sform v_ssize v_sitems) → va_S (va_A (wd_X7_read cI cZ cP cS h_t h_t_red h_t_blue h_t_sky h_t_diary h_t_calendar h_t_awakeIn h_t_worths h_t_plants h_t_sheets h_t_bestFrom h_t_p0 h_t_p1 h_t_p2 h_t_p3 h_t_p0_growth h_t_p1_growth h_t_p2_growth h_t_p3_growth h_t_s0 h_t_s1 h_t_s2 h_t_s3 h_t_s0_items h_t_s1_items h_t_s2_items h_t_s3_items v_latestFinding v_phours v_pgrowth v_sform v_ssize v_sitems) s.heap.size) s.heap H locs → kx42 z42_5 u42_pgrowth = some (r, o_latestFinding, o_pgrowth) → W p l e (headSpec wsX7_read rm_X7_read).room s m ([.ref h_t, .int x1, .int x2] : List Value).toArray below meth c H locs 0 0 (MQ below (RWi (dC, dI) (TY cI cZ cP cS) r s.heap.size (wd_X7_read cI cZ cP cS h_t h_t_red h_t_blue h_t_sky h_t_diary h_t_calendar h_t_awakeIn h_t_worths h_t_plants h_t_sheets h_t_bestFrom h_t_p0 h_t_p1 h_t_p2 h_t_p3 h_t_p0_growth h_t_p1_growth h_t_p2_growth h_t_p3_growth h_t_s0 h_t_s1 h_t_s2 h_t_s3 h_t_s0_items h_t_s1_items h_t_s2_items h_t_s3_items v_latestFinding v_phours v_pgrowth v_sform v_ssize v_sitems) (wd_X7_read cI cZ cP cS h_t h_t_red h_t_blue h_t_sky h_t_diary h_t_calendar h_t_awakeIn h_t_worths h_t_plants h_t_sheets h_t_bestFrom h_t_p0 h_t_p1 h_t_p2 h_t_p3 h_t_p0_growth h_t_p1_growth h_t_p2_growth h_t_p3_growth h_t_s0 h_t_s1 h_t_s2 h_t_s3 h_t_s0_items h_t_s1_items h_t_s2_items h_t_s3_items o_latestFinding v_phours o_pgrowth v_sform v_ssize v_sitems)) ([.ref h_t, .int x1, .int x2] : List Value).toArray s 0 0 (va_A (wd_X7_read cI cZ cP cS h_t h_t_red h_t_blue h_t_sky h_t_diary h_t_calendar h_t_awakeIn h_t_worths h_t_plants h_t_sheets h_t_bestFrom h_t_p0 h_t_p1 h_t_p2 h_t_p3 h_t_p0_growth h_t_p1_growth h_t_p2_growth h_t_p3_growth h_t_s0 h_t_s1 h_t_s2 h_t_s3 h_t_s0_items h_t_s1_items h_t_s2_items h_t_s3_items v_latestFinding v_phours v_pgrowth v_sform v_ssize v_sitems) s.heap.size)) (F0 m 91 ls []) := by
              intro z42_5 u42_pgrowth H locs ls hl hP hD hS hf
              rw [ekx42] at hf
              refine lv_iload hx hb dX7_read_91 (lv_at hl 0 rfl) ?_
              have hq0 := Option.some.inj hf
              obtain ⟨eq0, hq1⟩ := Prod.mk.inj hq0
              obtain ⟨eq1, hq2⟩ := Prod.mk.inj hq1
              clear hf hq0 hq1
              subst eq0
              subst eq1
              subst hq2
              exact W.iret hx hb hr (fun t ht hW => ⟨⟨_, (), rfl, rfl, by rw [ht]; exact hP, va_K.moved hW.alike hK, hD⟩, hS.F ht⟩) hS.2.2 dX7_read_93
            have hL42 : ∀ (k42 : Nat) (y42_5 : Int32) (w42_pgrowth : Nat → Nat → Int32) (H : Heap) (locs : List Loc) (ls : Array Slot), lv_has ls 6 [(3, .ref h_t_s0), (4, .ref h_t_p2), (5, .int y42_5)] → va_P (dC, dI) vwCl (wd_X7_read cI cZ cP cS h_t h_t_red h_t_blue h_t_sky h_t_diary h_t_calendar h_t_awakeIn h_t_worths h_t_plants h_t_sheets h_t_bestFrom h_t_p0 h_t_p1 h_t_p2 h_t_p3 h_t_p0_growth h_t_p1_growth h_t_p2_growth h_t_p3_growth h_t_s0 h_t_s1 h_t_s2 h_t_s3 h_t_s0_items h_t_s1_items h_t_s2_items h_t_s3_items v_latestFinding v_phours w42_pgrowth v_sform v_ssize v_sitems) H → va_D (va_A (wd_X7_read cI cZ cP cS h_t h_t_red h_t_blue h_t_sky h_t_diary h_t_calendar h_t_awakeIn h_t_worths h_t_plants h_t_sheets h_t_bestFrom h_t_p0 h_t_p1 h_t_p2 h_t_p3 h_t_p0_growth h_t_p1_growth h_t_p2_growth h_t_p3_growth h_t_s0 h_t_s1 h_t_s2 h_t_s3 h_t_s0_items h_t_s1_items h_t_s2_items h_t_s3_items v_latestFinding v_phours v_pgrowth v_sform v_ssize v_sitems) s.heap.size) (wd_X7_read cI cZ cP cS h_t h_t_red h_t_blue h_t_sky h_t_diary h_t_calendar h_t_awakeIn h_t_worths h_t_plants h_t_sheets h_t_bestFrom h_t_p0 h_t_p1 h_t_p2 h_t_p3 h_t_p0_growth h_t_p1_growth h_t_p2_growth h_t_p3_growth h_t_s0 h_t_s1 h_t_s2 h_t_s3 h_t_s0_items h_t_s1_items h_t_s2_items h_t_s3_items v_latestFinding v_phours w42_pgrowth v_sform v_ssize v_sitems) → va_S (va_A (wd_X7_read cI cZ cP cS h_t h_t_red h_t_blue h_t_sky h_t_diary h_t_calendar h_t_awakeIn h_t_worths h_t_plants h_t_sheets h_t_bestFrom h_t_p0 h_t_p1 h_t_p2 h_t_p3 h_t_p0_growth h_t_p1_growth h_t_p2_growth h_t_p3_growth h_t_s0 h_t_s1 h_t_s2 h_t_s3 h_t_s0_items h_t_s1_items h_t_s2_items h_t_s3_items v_latestFinding v_phours v_pgrowth v_sform v_ssize v_sitems) s.heap.size) s.heap H locs → L_X7_read_42q3 n v_ssize v_sitems kx42 k42 y42_5 w42_pgrowth = some (r, o_latestFinding, o_pgrowth) → W p l e (headSpec wsX7_read rm_X7_read).room s m ([.ref h_t, .int x1, .int x2] : List Value).toArray below meth c H locs 0 0 (MQ below (RWi (dC, dI) (TY cI cZ cP cS) r s.heap.size (wd_X7_read cI cZ cP cS h_t h_t_red h_t_blue h_t_sky h_t_diary h_t_calendar h_t_awakeIn h_t_worths h_t_plants h_t_sheets h_t_bestFrom h_t_p0 h_t_p1 h_t_p2 h_t_p3 h_t_p0_growth h_t_p1_growth h_t_p2_growth h_t_p3_growth h_t_s0 h_t_s1 h_t_s2 h_t_s3 h_t_s0_items h_t_s1_items h_t_s2_items h_t_s3_items v_latestFinding v_phours v_pgrowth v_sform v_ssize v_sitems) (wd_X7_read cI cZ cP cS h_t h_t_red h_t_blue h_t_sky h_t_diary h_t_calendar h_t_awakeIn h_t_worths h_t_plants h_t_sheets h_t_bestFrom h_t_p0 h_t_p1 h_t_p2 h_t_p3 h_t_p0_growth h_t_p1_growth h_t_p2_growth h_t_p3_growth h_t_s0 h_t_s1 h_t_s2 h_t_s3 h_t_s0_items h_t_s1_items h_t_s2_items h_t_s3_items o_latestFinding v_phours o_pgrowth v_sform v_ssize v_sitems)) ([.ref h_t, .int x1, .int x2] : List Value).toArray s 0 0 (va_A (wd_X7_read cI cZ cP cS h_t h_t_red h_t_blue h_t_sky h_t_diary h_t_calendar h_t_awakeIn h_t_worths h_t_plants h_t_sheets h_t_bestFrom h_t_p0 h_t_p1 h_t_p2 h_t_p3 h_t_p0_growth h_t_p1_growth h_t_p2_growth h_t_p3_growth h_t_s0 h_t_s1 h_t_s2 h_t_s3 h_t_s0_items h_t_s1_items h_t_s2_items h_t_s3_items v_latestFinding v_phours v_pgrowth v_sform v_ssize v_sitems) s.heap.size)) (F0 m 42 ls []) := by
              intro k42
              induction k42 with
              | zero =>
                intro y42_5 w42_pgrowth H locs ls hl hP hD hS hf
                exact absurd hf (fun h => Option.some_ne_none _ h.symm)
              | succ k42 ih =>
                intro y42_5 w42_pgrowth H locs ls hl hP hD hS hf
                rw [L_X7_read_42q3_s] at hf
                refine lv_iload hx hb dX7_read_42 (lv_at hl 2 rfl) ?_
                refine lv_iconst (v := 4) hx hb dX7_read_44 (by decide) ?_
                refine lv_icmp_ge (tgt := 91) hx hb dX7_read_45 (by decide) (fun c45 => ?_) (fun c45 => ?_)
                · rw [if_pos c45] at hf
                  exact hx42 y42_5 w42_pgrowth H locs ls (lv_sub hl [2] rfl) hP hD hS hf
                · rw [if_neg c45] at hf
                  refine lv_iload hx hb dX7_read_48 (lv_at hl 2 rfl) ?_
                  refine lv_aload_n hx hb dX7_read_50 rfl (lv_at hl 0 rfl) ?_
                  refine va_get (D := (dC, dI)) (ci := 3) (v := .int (v_ssize 0)) (C := RX3) (T := TX3) (N := 3) hx hb hts hinX3 hown hK hP 11 rfl rfl 1 (by decide) (hts (.fieldLink RX7 228 "SecondSunrise$Sheet" "size" "I") (by decide +kernel)) (fun _ h9 => h9) rfl dX7_read_51 ?_
                  refine lv_icmp_ge (tgt := 91) hx hb dX7_read_54 (by decide) (fun c54 => ?_) (fun c54 => ?_)
                  · rw [if_pos c54] at hf
                    exact hx42 y42_5 w42_pgrowth H locs ls (lv_sub hl [2] rfl) hP hD hS hf
                  · rw [if_neg c54] at hf
                    refine lv_aload_n hx hb dX7_read_57 rfl (lv_at hl 0 rfl) ?_
                    refine va_get (D := (dC, dI)) (ci := 3) (v := .ref h_t_s0_items) (C := RX3) (T := TX3) (N := 3) hx hb hts hinX3 hown hK hP 11 rfl rfl 2 (by decide) (hts (.fieldLink RX7 229 "SecondSunrise$Sheet" "items" "[I") (by decide +kernel)) (fun _ h9 => h9) rfl dX7_read_58 ?_
                    refine lv_iload hx hb dX7_read_61 (lv_at hl 2 rfl) ?_
                    obtain ⟨hi_25, hf⟩ := ix_e hf
                    refine va_iald hx hb hK hP 12 0 rfl rfl hi_25 dX7_read_63 ?_
                    obtain ⟨r64_26, hc_27, hf⟩ := bd1_e hf
                    refine vp_callSi (va_runS (As := [.int ((v_sitems 0) y42_5.toNatClampNeg)]) (rest := []) ⟨hx, hb, hml, hown, hts⟩ (c_X7_noGrowth l dC dI cI cZ cP cS   ((v_sitems 0) y42_5.toNatClampNeg) n r64_26 hc_27) (va_cwS 1 hts gX7_read_X7_noGrowth rfl rfl rfl (by decide +kernel) ⟨Nat.le_of_ble_eq_true rfl, Nat.le_of_ble_eq_true rfl⟩) (ps_ro hK (hP.sub (ws' := ([] : va_W)) [] rfl)) rfl rfl hl.1 rfl (lv_room (Nat.le_of_ble_eq_true rfl)) dX7_read_64 ⟨Nat.zero_le _, Nat.zero_le _⟩).run (fun x e_28 => ?_)
                    obtain ⟨e_28, hb_29⟩ := e_28
                    rw [e_28] at hb_29 ⊢
                    refine lv_if_ne (tgt := 91) hx hb dX7_read_67 (by decide) (fun c67 => ?_) (fun c67 => ?_)
                    · rw [if_neg c67] at hf
                      exact hx42 y42_5 w42_pgrowth H locs ls (lv_sub hl [2] rfl) hP hD hS hf
                    · rw [if_pos c67] at hf
                      refine lv_aload hx hb dX7_read_70 (lv_at hl 1 rfl) ?_
                      refine va_get (D := (dC, dI)) (ci := 2) (v := .ref h_t_p2_growth) (C := RX2) (T := TX2) (N := 2) hx hb hts hinX2 hown hK hP 6 rfl rfl 1 (by decide) (hts (.fieldLink RX7 215 "SecondSunrise$Plant" "growth" "[I") (by decide +kernel)) (fun _ h9 => h9) rfl dX7_read_72 ?_
                      refine lv_iload hx hb dX7_read_75 (lv_at hl 2 rfl) ?_
                      refine lv_aload_n hx hb dX7_read_77 rfl (lv_at hl 0 rfl) ?_
                      refine va_get (D := (dC, dI)) (ci := 3) (v := .ref h_t_s0_items) (C := RX3) (T := TX3) (N := 3) hx hb hts hinX3 hown hK hP 11 rfl rfl 2 (by decide) (hts (.fieldLink RX7 229 "SecondSunrise$Sheet" "items" "[I") (by decide +kernel)) (fun _ h9 => h9) rfl dX7_read_78 ?_
                      refine lv_iload hx hb dX7_read_81 (lv_at hl 2 rfl) ?_
                      obtain ⟨hi_30, hf⟩ := ix_e hf
                      refine va_iald hx hb hK hP 12 0 rfl rfl hi_30 dX7_read_83 ?_
                      obtain ⟨hi_31, hf⟩ := ix_e hf
                      refine va_iast hx hb hK hP hD hS 7 0 rfl rfl hi_31 dX7_read_84 (fun H locs hP hD hS => ?_)
                      have hP : va_P (dC, dI) vwCl (wd_X7_read cI cZ cP cS h_t h_t_red h_t_blue h_t_sky h_t_diary h_t_calendar h_t_awakeIn h_t_worths h_t_plants h_t_sheets h_t_bestFrom h_t_p0 h_t_p1 h_t_p2 h_t_p3 h_t_p0_growth h_t_p1_growth h_t_p2_growth h_t_p3_growth h_t_s0 h_t_s1 h_t_s2 h_t_s3 h_t_s0_items h_t_s1_items h_t_s2_items h_t_s3_items v_latestFinding v_phours (va_up w42_pgrowth 2 (upd (w42_pgrowth 2) y42_5.toNatClampNeg ((v_sitems 0) y42_5.toNatClampNeg))) v_sform v_ssize v_sitems) H := hP
                      have hD : va_D (va_A (wd_X7_read cI cZ cP cS h_t h_t_red h_t_blue h_t_sky h_t_diary h_t_calendar h_t_awakeIn h_t_worths h_t_plants h_t_sheets h_t_bestFrom h_t_p0 h_t_p1 h_t_p2 h_t_p3 h_t_p0_growth h_t_p1_growth h_t_p2_growth h_t_p3_growth h_t_s0 h_t_s1 h_t_s2 h_t_s3 h_t_s0_items h_t_s1_items h_t_s2_items h_t_s3_items v_latestFinding v_phours v_pgrowth v_sform v_ssize v_sitems) s.heap.size) (wd_X7_read cI cZ cP cS h_t h_t_red h_t_blue h_t_sky h_t_diary h_t_calendar h_t_awakeIn h_t_worths h_t_plants h_t_sheets h_t_bestFrom h_t_p0 h_t_p1 h_t_p2 h_t_p3 h_t_p0_growth h_t_p1_growth h_t_p2_growth h_t_p3_growth h_t_s0 h_t_s1 h_t_s2 h_t_s3 h_t_s0_items h_t_s1_items h_t_s2_items h_t_s3_items v_latestFinding v_phours (va_up w42_pgrowth 2 (upd (w42_pgrowth 2) y42_5.toNatClampNeg ((v_sitems 0) y42_5.toNatClampNeg))) v_sform v_ssize v_sitems) := hD
                      refine lv_iinc (v := (y42_5 + 1)) (lv' := [(5, .int (y42_5 + 1)), (3, .ref h_t_s0), (4, .ref h_t_p2)]) hx hb dX7_read_85 hl (k := 2) rfl rfl (by decide) rfl (fun ls hl => ?_)
                      refine lv_goto (tgt := 42) hx hb dX7_read_88 (by decide) ?_
                      exact ih (y42_5 + 1) (va_up w42_pgrowth 2 (upd (w42_pgrowth 2) y42_5.toNatClampNeg ((v_sitems 0) y42_5.toNatClampNeg))) H locs ls (lv_sub hl [1, 2, 0] rfl) hP hD hS hf
            exact hL42 n 0 v_pgrowth H locs ls (lv_sub hl [2, 1, 0] rfl) hP hD hS hf
          · rw [if_pos c30] at hf
            refine lv_aload_n hx hb dX7_read_33 rfl (lv_at hl 2 rfl) ?_
            refine lv_iconst (v := 1) hx hb dX7_read_34 (by decide) ?_
            obtain ⟨r35_32, o35_33, hc_34, hf⟩ := bd2_e hf
            refine rwi_call (isC := [0]) (isR := [1, 2, 3, 4, 5, 6, 7, 8, 9, 10, 11, 12, 13, 14, 15, 16, 17, 18]) (perm := [18, 0, 1, 2, 3, 4, 5, 6, 7, 8, 9, 10, 11, 12, 13, 14, 15, 16, 17]) (wr := [(h_t_plants, .inl (cP, 4, .inr (.inr (.inr (.inr (ar4 h_t_p0 h_t_p1 h_t_p2 h_t_p3)))))), (h_t_p0, .inr (2, [.int (v_phours 0), .ref h_t_p0_growth])), (h_t_p0_growth, .inl (cI, 4, .inl (v_pgrowth 0))), (h_t_p1, .inr (2, [.int (v_phours 1), .ref h_t_p1_growth])), (h_t_p1_growth, .inl (cI, 4, .inl (v_pgrowth 1))), (h_t_p2, .inr (2, [.int (v_phours 2), .ref h_t_p2_growth])), (h_t_p2_growth, .inl (cI, 4, .inl (v_pgrowth 2))), (h_t_p3, .inr (2, [.int (v_phours 3), .ref h_t_p3_growth])), (h_t_p3_growth, .inl (cI, 4, .inl (v_pgrowth 3))), (h_t_sheets, .inl (cS, 4, .inr (.inr (.inr (.inr (ar4 h_t_s0 h_t_s1 h_t_s2 h_t_s3)))))), (h_t_s0, .inr (3, [.int (v_sform 0), .int (v_ssize 0), .ref h_t_s0_items])), (h_t_s0_items, .inl (cI, 48, .inl (v_sitems 0))), (h_t_s1, .inr (3, [.int (v_sform 1), .int (v_ssize 1), .ref h_t_s1_items])), (h_t_s1_items, .inl (cI, 48, .inl (v_sitems 1))), (h_t_s2, .inr (3, [.int (v_sform 2), .int (v_ssize 2), .ref h_t_s2_items])), (h_t_s2_items, .inl (cI, 48, .inl (v_sitems 2))), (h_t_s3, .inr (3, [.int (v_sform 3), .int (v_ssize 3), .ref h_t_s3_items])), (h_t_s3_items, .inl (cI, 48, .inl (v_sitems 3)))]) (ws2 := (wd_X7_read cI cZ cP cS h_t h_t_red h_t_blue h_t_sky h_t_diary h_t_calendar h_t_awakeIn h_t_worths h_t_plants h_t_sheets h_t_bestFrom h_t_p0 h_t_p1 h_t_p2 h_t_p3 h_t_p0_growth h_t_p1_growth h_t_p2_growth h_t_p3_growth h_t_s0 h_t_s1 h_t_s2 h_t_s3 h_t_s0_items h_t_s1_items h_t_s2_items h_t_s3_items o35_33 v_phours v_pgrowth v_sform v_ssize v_sitems)) (va_runV (As := [.int 1]) (rest := []) ⟨hx, hb, hml, hown, hts⟩ (c_X7_found l dC dI cI cZ cP cS H.size h_t h_t_red h_t_blue h_t_sky h_t_diary h_t_calendar h_t_awakeIn h_t_worths h_t_plants h_t_sheets h_t_bestFrom v_latestFinding 1 n r35_32 o35_33 hc_34) (cwV 1 hts gX7_read_X7_found rfl rfl rfl (by decide +kernel) ⟨Nat.le_of_ble_eq_true rfl, Nat.le_of_ble_eq_true rfl⟩) (pv_rw (ci := 6) (q0 := 0) hK (hP.sub (ws' := (wd_X7_found cI cZ cP cS h_t h_t_red h_t_blue h_t_sky h_t_diary h_t_calendar h_t_awakeIn h_t_worths h_t_plants h_t_sheets h_t_bestFrom v_latestFinding)) [0] rfl) (hD.sub (ws' := (wd_X7_found cI cZ cP cS h_t h_t_red h_t_blue h_t_sky h_t_diary h_t_calendar h_t_awakeIn h_t_worths h_t_plants h_t_sheets h_t_bestFrom v_latestFinding)) [0] (by decide) rfl) rfl rfl) rfl rfl hl.1 rfl (lv_room (Nat.le_of_ble_eq_true rfl)) dX7_read_35 ⟨Nat.zero_le _, Nat.zero_le _⟩) hS hA hP hD rfl (by decide) (by decide) rfl (by decide) rfl rfl (fun H locs hP hD hS => ?_)
            have hq0 := Option.some.inj hf
            obtain ⟨eq0, hq1⟩ := Prod.mk.inj hq0
            obtain ⟨eq1, hq2⟩ := Prod.mk.inj hq1
            clear hf hq0 hq1
            subst eq0
            subst eq1
            subst hq2
            exact W.iret hx hb hr (fun t ht hW => ⟨⟨_, (), rfl, rfl, by rw [ht]; exact hP, va_K.moved hW.alike hK, hD⟩, hS.F ht⟩) hS.2.2 dX7_read_38
        · rw [if_neg c8_2] at hf e_2
          by_cases c8_3 : x2 = 3
          · rw [if_pos c8_3] at hf e_2
            subst e_2
            refine W.eq (g2 := F0 m 11 ls [.ref h_t_p3]) rfl ?_
            refine lv_astore (lv' := [(4, .ref h_t_p3), (3, .ref h_t_s0), (0, .ref h_t), (1, .int x1), (2, .int x2)]) hx hb dX7_read_11 hl (by decide) rfl (fun ls hl => ?_)
            refine lv_aload_n hx hb dX7_read_13 rfl (lv_at hl 1 rfl) ?_
            refine lv_ifnull hx hb dX7_read_14 ?_
            refine lv_aload hx hb dX7_read_17 (lv_at hl 0 rfl) ?_
            refine lv_ifnonnull (tgt := 25) hx hb dX7_read_19 (by decide) ?_
            refine lv_aload_n hx hb dX7_read_25 rfl (lv_at hl 1 rfl) ?_
            refine va_get (D := (dC, dI)) (ci := 3) (v := .int (v_sform 0)) (C := RX3) (T := TX3) (N := 3) hx hb hts hinX3 hown hK hP 11 rfl rfl 0 (by decide) (hts (.fieldLink RX7 222 "SecondSunrise$Sheet" "form" "I") (by decide +kernel)) (fun _ h9 => h9) rfl dX7_read_26 ?_
            refine lv_iconst (v := (-1)) hx hb dX7_read_29 (by decide) ?_
            refine lv_icmp_ne (tgt := 39) hx hb dX7_read_30 (by decide) (fun c30 => ?_) (fun c30 => ?_)
            · rw [if_neg c30] at hf
              refine lv_iconst (v := 0) hx hb dX7_read_39 (by decide) ?_
              refine lv_istore (lv' := [(5, .int 0), (4, .ref h_t_p3), (3, .ref h_t_s0), (0, .ref h_t), (1, .int x1), (2, .int x2)]) hx hb dX7_read_40 hl (by decide) rfl (fun ls hl => ?_)
              obtain ⟨kx42, ekx42, hf⟩ := jn2_e hf
              have hx42 : ∀ (z42_5 : Int32) (u42_pgrowth : Nat → Nat → Int32) (H : Heap) (locs : List Loc) (ls : Array Slot), lv_has ls 6 [(5, .int z42_5)] → va_P (dC, dI) vwCl (wd_X7_read cI cZ cP cS h_t h_t_red h_t_blue h_t_sky h_t_diary h_t_calendar h_t_awakeIn h_t_worths h_t_plants h_t_sheets h_t_bestFrom h_t_p0 h_t_p1 h_t_p2 h_t_p3 h_t_p0_growth h_t_p1_growth h_t_p2_growth h_t_p3_growth h_t_s0 h_t_s1 h_t_s2 h_t_s3 h_t_s0_items h_t_s1_items h_t_s2_items h_t_s3_items v_latestFinding v_phours u42_pgrowth v_sform v_ssize v_sitems) H → va_D (va_A (wd_X7_read cI cZ cP cS h_t h_t_red h_t_blue h_t_sky h_t_diary h_t_calendar h_t_awakeIn h_t_worths h_t_plants h_t_sheets h_t_bestFrom h_t_p0 h_t_p1 h_t_p2 h_t_p3 h_t_p0_growth h_t_p1_growth h_t_p2_growth h_t_p3_growth h_t_s0 h_t_s1 h_t_s2 h_t_s3 h_t_s0_items h_t_s1_items h_t_s2_items h_t_s3_items v_latestFinding v_phours v_pgrowth v_sform v_ssize v_sitems) s.heap.size) (wd_X7_read cI cZ cP cS h_t h_t_red h_t_blue h_t_sky h_t_diary h_t_calendar h_t_awakeIn h_t_worths h_t_plants h_t_sheets h_t_bestFrom h_t_p0 h_t_p1 h_t_p2 h_t_p3 h_t_p0_growth h_t_p1_growth h_t_p2_growth h_t_p3_growth h_t_s0 h_t_s1 h_t_s2 h_t_s3 h_t_s0_items h_t_s1_items h_t_s2_items h_t_s3_items v_latestFinding v_phours u42_pgrowth v_sform v_ssize v_sitems) → va_S (va_A (wd_X7_read cI cZ cP cS h_t h_t_red h_t_blue h_t_sky h_t_diary h_t_calendar h_t_awakeIn h_t_worths h_t_plants h_t_sheets h_t_bestFrom h_t_p0 h_t_p1 h_t_p2 h_t_p3 h_t_p0_growth h_t_p1_growth h_t_p2_growth h_t_p3_growth h_t_s0 h_t_s1 h_t_s2 h_t_s3 h_t_s0_items h_t_s1_items h_t_s2_items h_t_s3_items v_latestFinding v_phours v_pgrowth v_sform v_ssize v_sitems) s.heap.size) s.heap H locs → kx42 z42_5 u42_pgrowth = some (r, o_latestFinding, o_pgrowth) → W p l e (headSpec wsX7_read rm_X7_read).room s m ([.ref h_t, .int x1, .int x2] : List Value).toArray below meth c H locs 0 0 (MQ below (RWi (dC, dI) (TY cI cZ cP cS) r s.heap.size (wd_X7_read cI cZ cP cS h_t h_t_red h_t_blue h_t_sky h_t_diary h_t_calendar h_t_awakeIn h_t_worths h_t_plants h_t_sheets h_t_bestFrom h_t_p0 h_t_p1 h_t_p2 h_t_p3 h_t_p0_growth h_t_p1_growth h_t_p2_growth h_t_p3_growth h_t_s0 h_t_s1 h_t_s2 h_t_s3 h_t_s0_items h_t_s1_items h_t_s2_items h_t_s3_items v_latestFinding v_phours v_pgrowth v_sform v_ssize v_sitems) (wd_X7_read cI cZ cP cS h_t h_t_red h_t_blue h_t_sky h_t_diary h_t_calendar h_t_awakeIn h_t_worths h_t_plants h_t_sheets h_t_bestFrom h_t_p0 h_t_p1 h_t_p2 h_t_p3 h_t_p0_growth h_t_p1_growth h_t_p2_growth h_t_p3_growth h_t_s0 h_t_s1 h_t_s2 h_t_s3 h_t_s0_items h_t_s1_items h_t_s2_items h_t_s3_items o_latestFinding v_phours o_pgrowth v_sform v_ssize v_sitems)) ([.ref h_t, .int x1, .int x2] : List Value).toArray s 0 0 (va_A (wd_X7_read cI cZ cP cS h_t h_t_red h_t_blue h_t_sky h_t_diary h_t_calendar h_t_awakeIn h_t_worths h_t_plants h_t_sheets h_t_bestFrom h_t_p0 h_t_p1 h_t_p2 h_t_p3 h_t_p0_growth h_t_p1_growth h_t_p2_growth h_t_p3_growth h_t_s0 h_t_s1 h_t_s2 h_t_s3 h_t_s0_items h_t_s1_items h_t_s2_items h_t_s3_items v_latestFinding v_phours v_pgrowth v_sform v_ssize v_sitems) s.heap.size)) (F0 m 91 ls []) := by
                intro z42_5 u42_pgrowth H locs ls hl hP hD hS hf
                rw [ekx42] at hf
                refine lv_iload hx hb dX7_read_91 (lv_at hl 0 rfl) ?_
                have hq0 := Option.some.inj hf
                obtain ⟨eq0, hq1⟩ := Prod.mk.inj hq0
                obtain ⟨eq1, hq2⟩ := Prod.mk.inj hq1
                clear hf hq0 hq1
                subst eq0
                subst eq1
                subst hq2
                exact W.iret hx hb hr (fun t ht hW => ⟨⟨_, (), rfl, rfl, by rw [ht]; exact hP, va_K.moved hW.alike hK, hD⟩, hS.F ht⟩) hS.2.2 dX7_read_93
              have hL42 : ∀ (k42 : Nat) (y42_5 : Int32) (w42_pgrowth : Nat → Nat → Int32) (H : Heap) (locs : List Loc) (ls : Array Slot), lv_has ls 6 [(3, .ref h_t_s0), (4, .ref h_t_p3), (5, .int y42_5)] → va_P (dC, dI) vwCl (wd_X7_read cI cZ cP cS h_t h_t_red h_t_blue h_t_sky h_t_diary h_t_calendar h_t_awakeIn h_t_worths h_t_plants h_t_sheets h_t_bestFrom h_t_p0 h_t_p1 h_t_p2 h_t_p3 h_t_p0_growth h_t_p1_growth h_t_p2_growth h_t_p3_growth h_t_s0 h_t_s1 h_t_s2 h_t_s3 h_t_s0_items h_t_s1_items h_t_s2_items h_t_s3_items v_latestFinding v_phours w42_pgrowth v_sform v_ssize v_sitems) H → va_D (va_A (wd_X7_read cI cZ cP cS h_t h_t_red h_t_blue h_t_sky h_t_diary h_t_calendar h_t_awakeIn h_t_worths h_t_plants h_t_sheets h_t_bestFrom h_t_p0 h_t_p1 h_t_p2 h_t_p3 h_t_p0_growth h_t_p1_growth h_t_p2_growth h_t_p3_growth h_t_s0 h_t_s1 h_t_s2 h_t_s3 h_t_s0_items h_t_s1_items h_t_s2_items h_t_s3_items v_latestFinding v_phours v_pgrowth v_sform v_ssize v_sitems) s.heap.size) (wd_X7_read cI cZ cP cS h_t h_t_red h_t_blue h_t_sky h_t_diary h_t_calendar h_t_awakeIn h_t_worths h_t_plants h_t_sheets h_t_bestFrom h_t_p0 h_t_p1 h_t_p2 h_t_p3 h_t_p0_growth h_t_p1_growth h_t_p2_growth h_t_p3_growth h_t_s0 h_t_s1 h_t_s2 h_t_s3 h_t_s0_items h_t_s1_items h_t_s2_items h_t_s3_items v_latestFinding v_phours w42_pgrowth v_sform v_ssize v_sitems) → va_S (va_A (wd_X7_read cI cZ cP cS h_t h_t_red h_t_blue h_t_sky h_t_diary h_t_calendar h_t_awakeIn h_t_worths h_t_plants h_t_sheets h_t_bestFrom h_t_p0 h_t_p1 h_t_p2 h_t_p3 h_t_p0_growth h_t_p1_growth h_t_p2_growth h_t_p3_growth h_t_s0 h_t_s1 h_t_s2 h_t_s3 h_t_s0_items h_t_s1_items h_t_s2_items h_t_s3_items v_latestFinding v_phours v_pgrowth v_sform v_ssize v_sitems) s.heap.size) s.heap H locs → L_X7_read_42q4 n v_ssize v_sitems kx42 k42 y42_5 w42_pgrowth = some (r, o_latestFinding, o_pgrowth) → W p l e (headSpec wsX7_read rm_X7_read).room s m ([.ref h_t, .int x1, .int x2] : List Value).toArray below meth c H locs 0 0 (MQ below (RWi (dC, dI) (TY cI cZ cP cS) r s.heap.size (wd_X7_read cI cZ cP cS h_t h_t_red h_t_blue h_t_sky h_t_diary h_t_calendar h_t_awakeIn h_t_worths h_t_plants h_t_sheets h_t_bestFrom h_t_p0 h_t_p1 h_t_p2 h_t_p3 h_t_p0_growth h_t_p1_growth h_t_p2_growth h_t_p3_growth h_t_s0 h_t_s1 h_t_s2 h_t_s3 h_t_s0_items h_t_s1_items h_t_s2_items h_t_s3_items v_latestFinding v_phours v_pgrowth v_sform v_ssize v_sitems) (wd_X7_read cI cZ cP cS h_t h_t_red h_t_blue h_t_sky h_t_diary h_t_calendar h_t_awakeIn h_t_worths h_t_plants h_t_sheets h_t_bestFrom h_t_p0 h_t_p1 h_t_p2 h_t_p3 h_t_p0_growth h_t_p1_growth h_t_p2_growth h_t_p3_growth h_t_s0 h_t_s1 h_t_s2 h_t_s3 h_t_s0_items h_t_s1_items h_t_s2_items h_t_s3_items o_latestFinding v_phours o_pgrowth v_sform v_ssize v_sitems)) ([.ref h_t, .int x1, .int x2] : List Value).toArray s 0 0 (va_A (wd_X7_read cI cZ cP cS h_t h_t_red h_t_blue h_t_sky h_t_diary h_t_calendar h_t_awakeIn h_t_worths h_t_plants h_t_sheets h_t_bestFrom h_t_p0 h_t_p1 h_t_p2 h_t_p3 h_t_p0_growth h_t_p1_growth h_t_p2_growth h_t_p3_growth h_t_s0 h_t_s1 h_t_s2 h_t_s3 h_t_s0_items h_t_s1_items h_t_s2_items h_t_s3_items v_latestFinding v_phours v_pgrowth v_sform v_ssize v_sitems) s.heap.size)) (F0 m 42 ls []) := by
                intro k42
                induction k42 with
                | zero =>
                  intro y42_5 w42_pgrowth H locs ls hl hP hD hS hf
                  exact absurd hf (fun h => Option.some_ne_none _ h.symm)
                | succ k42 ih =>
                  intro y42_5 w42_pgrowth H locs ls hl hP hD hS hf
                  rw [L_X7_read_42q4_s] at hf
                  refine lv_iload hx hb dX7_read_42 (lv_at hl 2 rfl) ?_
                  refine lv_iconst (v := 4) hx hb dX7_read_44 (by decide) ?_
                  refine lv_icmp_ge (tgt := 91) hx hb dX7_read_45 (by decide) (fun c45 => ?_) (fun c45 => ?_)
                  · rw [if_pos c45] at hf
                    exact hx42 y42_5 w42_pgrowth H locs ls (lv_sub hl [2] rfl) hP hD hS hf
                  · rw [if_neg c45] at hf
                    refine lv_iload hx hb dX7_read_48 (lv_at hl 2 rfl) ?_
                    refine lv_aload_n hx hb dX7_read_50 rfl (lv_at hl 0 rfl) ?_
                    refine va_get (D := (dC, dI)) (ci := 3) (v := .int (v_ssize 0)) (C := RX3) (T := TX3) (N := 3) hx hb hts hinX3 hown hK hP 11 rfl rfl 1 (by decide) (hts (.fieldLink RX7 228 "SecondSunrise$Sheet" "size" "I") (by decide +kernel)) (fun _ h9 => h9) rfl dX7_read_51 ?_
                    refine lv_icmp_ge (tgt := 91) hx hb dX7_read_54 (by decide) (fun c54 => ?_) (fun c54 => ?_)
                    · rw [if_pos c54] at hf
                      exact hx42 y42_5 w42_pgrowth H locs ls (lv_sub hl [2] rfl) hP hD hS hf
                    · rw [if_neg c54] at hf
                      refine lv_aload_n hx hb dX7_read_57 rfl (lv_at hl 0 rfl) ?_
                      refine va_get (D := (dC, dI)) (ci := 3) (v := .ref h_t_s0_items) (C := RX3) (T := TX3) (N := 3) hx hb hts hinX3 hown hK hP 11 rfl rfl 2 (by decide) (hts (.fieldLink RX7 229 "SecondSunrise$Sheet" "items" "[I") (by decide +kernel)) (fun _ h9 => h9) rfl dX7_read_58 ?_
                      refine lv_iload hx hb dX7_read_61 (lv_at hl 2 rfl) ?_
                      obtain ⟨hi_36, hf⟩ := ix_e hf
                      refine va_iald hx hb hK hP 12 0 rfl rfl hi_36 dX7_read_63 ?_
                      obtain ⟨r64_37, hc_38, hf⟩ := bd1_e hf
                      refine vp_callSi (va_runS (As := [.int ((v_sitems 0) y42_5.toNatClampNeg)]) (rest := []) ⟨hx, hb, hml, hown, hts⟩ (c_X7_noGrowth l dC dI cI cZ cP cS   ((v_sitems 0) y42_5.toNatClampNeg) n r64_37 hc_38) (va_cwS 1 hts gX7_read_X7_noGrowth rfl rfl rfl (by decide +kernel) ⟨Nat.le_of_ble_eq_true rfl, Nat.le_of_ble_eq_true rfl⟩) (ps_ro hK (hP.sub (ws' := ([] : va_W)) [] rfl)) rfl rfl hl.1 rfl (lv_room (Nat.le_of_ble_eq_true rfl)) dX7_read_64 ⟨Nat.zero_le _, Nat.zero_le _⟩).run (fun x e_39 => ?_)
                      obtain ⟨e_39, hb_40⟩ := e_39
                      rw [e_39] at hb_40 ⊢
                      refine lv_if_ne (tgt := 91) hx hb dX7_read_67 (by decide) (fun c67 => ?_) (fun c67 => ?_)
                      · rw [if_neg c67] at hf
                        exact hx42 y42_5 w42_pgrowth H locs ls (lv_sub hl [2] rfl) hP hD hS hf
                      · rw [if_pos c67] at hf
                        refine lv_aload hx hb dX7_read_70 (lv_at hl 1 rfl) ?_
                        refine va_get (D := (dC, dI)) (ci := 2) (v := .ref h_t_p3_growth) (C := RX2) (T := TX2) (N := 2) hx hb hts hinX2 hown hK hP 8 rfl rfl 1 (by decide) (hts (.fieldLink RX7 215 "SecondSunrise$Plant" "growth" "[I") (by decide +kernel)) (fun _ h9 => h9) rfl dX7_read_72 ?_
                        refine lv_iload hx hb dX7_read_75 (lv_at hl 2 rfl) ?_
                        refine lv_aload_n hx hb dX7_read_77 rfl (lv_at hl 0 rfl) ?_
                        refine va_get (D := (dC, dI)) (ci := 3) (v := .ref h_t_s0_items) (C := RX3) (T := TX3) (N := 3) hx hb hts hinX3 hown hK hP 11 rfl rfl 2 (by decide) (hts (.fieldLink RX7 229 "SecondSunrise$Sheet" "items" "[I") (by decide +kernel)) (fun _ h9 => h9) rfl dX7_read_78 ?_
                        refine lv_iload hx hb dX7_read_81 (lv_at hl 2 rfl) ?_
                        obtain ⟨hi_41, hf⟩ := ix_e hf
                        refine va_iald hx hb hK hP 12 0 rfl rfl hi_41 dX7_read_83 ?_
                        obtain ⟨hi_42, hf⟩ := ix_e hf
                        refine va_iast hx hb hK hP hD hS 9 0 rfl rfl hi_42 dX7_read_84 (fun H locs hP hD hS => ?_)
                        have hP : va_P (dC, dI) vwCl (wd_X7_read cI cZ cP cS h_t h_t_red h_t_blue h_t_sky h_t_diary h_t_calendar h_t_awakeIn h_t_worths h_t_plants h_t_sheets h_t_bestFrom h_t_p0 h_t_p1 h_t_p2 h_t_p3 h_t_p0_growth h_t_p1_growth h_t_p2_growth h_t_p3_growth h_t_s0 h_t_s1 h_t_s2 h_t_s3 h_t_s0_items h_t_s1_items h_t_s2_items h_t_s3_items v_latestFinding v_phours (va_up w42_pgrowth 3 (upd (w42_pgrowth 3) y42_5.toNatClampNeg ((v_sitems 0) y42_5.toNatClampNeg))) v_sform v_ssize v_sitems) H := hP
                        have hD : va_D (va_A (wd_X7_read cI cZ cP cS h_t h_t_red h_t_blue h_t_sky h_t_diary h_t_calendar h_t_awakeIn h_t_worths h_t_plants h_t_sheets h_t_bestFrom h_t_p0 h_t_p1 h_t_p2 h_t_p3 h_t_p0_growth h_t_p1_growth h_t_p2_growth h_t_p3_growth h_t_s0 h_t_s1 h_t_s2 h_t_s3 h_t_s0_items h_t_s1_items h_t_s2_items h_t_s3_items v_latestFinding v_phours v_pgrowth v_sform v_ssize v_sitems) s.heap.size) (wd_X7_read cI cZ cP cS h_t h_t_red h_t_blue h_t_sky h_t_diary h_t_calendar h_t_awakeIn h_t_worths h_t_plants h_t_sheets h_t_bestFrom h_t_p0 h_t_p1 h_t_p2 h_t_p3 h_t_p0_growth h_t_p1_growth h_t_p2_growth h_t_p3_growth h_t_s0 h_t_s1 h_t_s2 h_t_s3 h_t_s0_items h_t_s1_items h_t_s2_items h_t_s3_items v_latestFinding v_phours (va_up w42_pgrowth 3 (upd (w42_pgrowth 3) y42_5.toNatClampNeg ((v_sitems 0) y42_5.toNatClampNeg))) v_sform v_ssize v_sitems) := hD
                        refine lv_iinc (v := (y42_5 + 1)) (lv' := [(5, .int (y42_5 + 1)), (3, .ref h_t_s0), (4, .ref h_t_p3)]) hx hb dX7_read_85 hl (k := 2) rfl rfl (by decide) rfl (fun ls hl => ?_)
                        refine lv_goto (tgt := 42) hx hb dX7_read_88 (by decide) ?_
                        exact ih (y42_5 + 1) (va_up w42_pgrowth 3 (upd (w42_pgrowth 3) y42_5.toNatClampNeg ((v_sitems 0) y42_5.toNatClampNeg))) H locs ls (lv_sub hl [1, 2, 0] rfl) hP hD hS hf
              exact hL42 n 0 v_pgrowth H locs ls (lv_sub hl [2, 1, 0] rfl) hP hD hS hf
            · rw [if_pos c30] at hf
              refine lv_aload_n hx hb dX7_read_33 rfl (lv_at hl 2 rfl) ?_
              refine lv_iconst (v := 1) hx hb dX7_read_34 (by decide) ?_
              obtain ⟨r35_43, o35_44, hc_45, hf⟩ := bd2_e hf
              refine rwi_call (isC := [0]) (isR := [1, 2, 3, 4, 5, 6, 7, 8, 9, 10, 11, 12, 13, 14, 15, 16, 17, 18]) (perm := [18, 0, 1, 2, 3, 4, 5, 6, 7, 8, 9, 10, 11, 12, 13, 14, 15, 16, 17]) (wr := [(h_t_plants, .inl (cP, 4, .inr (.inr (.inr (.inr (ar4 h_t_p0 h_t_p1 h_t_p2 h_t_p3)))))), (h_t_p0, .inr (2, [.int (v_phours 0), .ref h_t_p0_growth])), (h_t_p0_growth, .inl (cI, 4, .inl (v_pgrowth 0))), (h_t_p1, .inr (2, [.int (v_phours 1), .ref h_t_p1_growth])), (h_t_p1_growth, .inl (cI, 4, .inl (v_pgrowth 1))), (h_t_p2, .inr (2, [.int (v_phours 2), .ref h_t_p2_growth])), (h_t_p2_growth, .inl (cI, 4, .inl (v_pgrowth 2))), (h_t_p3, .inr (2, [.int (v_phours 3), .ref h_t_p3_growth])), (h_t_p3_growth, .inl (cI, 4, .inl (v_pgrowth 3))), (h_t_sheets, .inl (cS, 4, .inr (.inr (.inr (.inr (ar4 h_t_s0 h_t_s1 h_t_s2 h_t_s3)))))), (h_t_s0, .inr (3, [.int (v_sform 0), .int (v_ssize 0), .ref h_t_s0_items])), (h_t_s0_items, .inl (cI, 48, .inl (v_sitems 0))), (h_t_s1, .inr (3, [.int (v_sform 1), .int (v_ssize 1), .ref h_t_s1_items])), (h_t_s1_items, .inl (cI, 48, .inl (v_sitems 1))), (h_t_s2, .inr (3, [.int (v_sform 2), .int (v_ssize 2), .ref h_t_s2_items])), (h_t_s2_items, .inl (cI, 48, .inl (v_sitems 2))), (h_t_s3, .inr (3, [.int (v_sform 3), .int (v_ssize 3), .ref h_t_s3_items])), (h_t_s3_items, .inl (cI, 48, .inl (v_sitems 3)))]) (ws2 := (wd_X7_read cI cZ cP cS h_t h_t_red h_t_blue h_t_sky h_t_diary h_t_calendar h_t_awakeIn h_t_worths h_t_plants h_t_sheets h_t_bestFrom h_t_p0 h_t_p1 h_t_p2 h_t_p3 h_t_p0_growth h_t_p1_growth h_t_p2_growth h_t_p3_growth h_t_s0 h_t_s1 h_t_s2 h_t_s3 h_t_s0_items h_t_s1_items h_t_s2_items h_t_s3_items o35_44 v_phours v_pgrowth v_sform v_ssize v_sitems)) (va_runV (As := [.int 1]) (rest := []) ⟨hx, hb, hml, hown, hts⟩ (c_X7_found l dC dI cI cZ cP cS H.size h_t h_t_red h_t_blue h_t_sky h_t_diary h_t_calendar h_t_awakeIn h_t_worths h_t_plants h_t_sheets h_t_bestFrom v_latestFinding 1 n r35_43 o35_44 hc_45) (cwV 1 hts gX7_read_X7_found rfl rfl rfl (by decide +kernel) ⟨Nat.le_of_ble_eq_true rfl, Nat.le_of_ble_eq_true rfl⟩) (pv_rw (ci := 6) (q0 := 0) hK (hP.sub (ws' := (wd_X7_found cI cZ cP cS h_t h_t_red h_t_blue h_t_sky h_t_diary h_t_calendar h_t_awakeIn h_t_worths h_t_plants h_t_sheets h_t_bestFrom v_latestFinding)) [0] rfl) (hD.sub (ws' := (wd_X7_found cI cZ cP cS h_t h_t_red h_t_blue h_t_sky h_t_diary h_t_calendar h_t_awakeIn h_t_worths h_t_plants h_t_sheets h_t_bestFrom v_latestFinding)) [0] (by decide) rfl) rfl rfl) rfl rfl hl.1 rfl (lv_room (Nat.le_of_ble_eq_true rfl)) dX7_read_35 ⟨Nat.zero_le _, Nat.zero_le _⟩) hS hA hP hD rfl (by decide) (by decide) rfl (by decide) rfl rfl (fun H locs hP hD hS => ?_)
              have hq0 := Option.some.inj hf
              obtain ⟨eq0, hq1⟩ := Prod.mk.inj hq0
              obtain ⟨eq1, hq2⟩ := Prod.mk.inj hq1
              clear hf hq0 hq1
              subst eq0
              subst eq1
              subst hq2
              exact W.iret hx hb hr (fun t ht hW => ⟨⟨_, (), rfl, rfl, by rw [ht]; exact hP, va_K.moved hW.alike hK, hD⟩, hS.F ht⟩) hS.2.2 dX7_read_38
          · rw [if_neg c8_3] at hf e_2
            subst e_2
            refine W.eq (g2 := F0 m 11 ls [.null]) rfl ?_
            refine lv_astoreN (lv' := [(4, .null), (3, .ref h_t_s0), (0, .ref h_t), (1, .int x1), (2, .int x2)]) hx hb dX7_read_11 hl (by decide) rfl (fun ls hl => ?_)
            refine lv_aload_n hx hb dX7_read_13 rfl (lv_at hl 1 rfl) ?_
            refine lv_ifnull hx hb dX7_read_14 ?_
            refine lv_aloadN hx hb dX7_read_17 (lv_at hl 0 rfl) ?_
            refine lv_ifnonnullN hx hb dX7_read_19 ?_
            refine lv_bipush (v := (-2)) hx hb dX7_read_22 (by decide) ?_
            have hq0 := Option.some.inj hf
            obtain ⟨eq0, hq1⟩ := Prod.mk.inj hq0
            obtain ⟨eq1, hq2⟩ := Prod.mk.inj hq1
            clear hf hq0 hq1
            subst eq0
            subst eq1
            subst hq2
            exact W.iret hx hb hr (fun t ht hW => ⟨⟨_, (), rfl, rfl, by rw [ht]; exact hP, va_K.moved hW.alike hK, hD⟩, hS.F ht⟩) hS.2.2 dX7_read_24
  · rw [if_neg c2_0] at hf e_1
    by_cases c2_1 : x1 = 1
    · rw [if_pos c2_1] at hf e_1
      subst e_1
      refine W.eq (g2 := F0 m 5 ls [.ref h_t_s1]) rfl ?_
      refine lv_astore_n (lv' := [(3, .ref h_t_s1), (0, .ref h_t), (1, .int x1), (2, .int x2)]) hx hb dX7_read_5 rfl hl (by decide) rfl (fun ls hl => ?_)
      refine lv_aload_n hx hb dX7_read_6 rfl (lv_at hl 1 rfl) ?_
      refine lv_iload_n hx hb dX7_read_7 rfl (lv_at hl 3 rfl) ?_
      refine va_csq (va_runV (As := [.int x2]) (rest := []) ⟨hx, hb, hml, hown, hts⟩ (c_X7_plantOf l dC dI cI cZ cP cS h_t h_t_red h_t_blue h_t_sky h_t_diary h_t_calendar h_t_awakeIn h_t_worths h_t_plants h_t_sheets h_t_bestFrom h_t_p0 h_t_p1 h_t_p2 h_t_p3 v_latestFinding x2) (cwV 1 hts gX7_read_X7_plantOf rfl rfl rfl (by decide +kernel) ⟨Nat.le_of_ble_eq_true rfl, Nat.le_of_ble_eq_true rfl⟩) (pv_ro (ci := 6) (q0 := 0) hK (hP.sub (ws' := (wd_X7_plantOf cI cZ cP cS h_t h_t_red h_t_blue h_t_sky h_t_diary h_t_calendar h_t_awakeIn h_t_worths h_t_plants h_t_sheets h_t_bestFrom h_t_p0 h_t_p1 h_t_p2 h_t_p3 v_latestFinding)) [0, 1] rfl) rfl rfl) rfl rfl hl.1 rfl (lv_room (Nat.le_of_ble_eq_true rfl)) dX7_read_8 ⟨Nat.zero_le _, Nat.zero_le _⟩).run (fun x e_47 => ?_)
      by_cases c8_0 : x2 = 0
      · rw [if_pos c8_0] at hf e_47
        subst e_47
        refine W.eq (g2 := F0 m 11 ls [.ref h_t_p0]) rfl ?_
        refine lv_astore (lv' := [(4, .ref h_t_p0), (3, .ref h_t_s1), (0, .ref h_t), (1, .int x1), (2, .int x2)]) hx hb dX7_read_11 hl (by decide) rfl (fun ls hl => ?_)
        refine lv_aload_n hx hb dX7_read_13 rfl (lv_at hl 1 rfl) ?_
        refine lv_ifnull hx hb dX7_read_14 ?_
        refine lv_aload hx hb dX7_read_17 (lv_at hl 0 rfl) ?_
        refine lv_ifnonnull (tgt := 25) hx hb dX7_read_19 (by decide) ?_
        refine lv_aload_n hx hb dX7_read_25 rfl (lv_at hl 1 rfl) ?_
        refine va_get (D := (dC, dI)) (ci := 3) (v := .int (v_sform 1)) (C := RX3) (T := TX3) (N := 3) hx hb hts hinX3 hown hK hP 13 rfl rfl 0 (by decide) (hts (.fieldLink RX7 222 "SecondSunrise$Sheet" "form" "I") (by decide +kernel)) (fun _ h9 => h9) rfl dX7_read_26 ?_
        refine lv_iconst (v := (-1)) hx hb dX7_read_29 (by decide) ?_
        refine lv_icmp_ne (tgt := 39) hx hb dX7_read_30 (by decide) (fun c30 => ?_) (fun c30 => ?_)
        · rw [if_neg c30] at hf
          refine lv_iconst (v := 0) hx hb dX7_read_39 (by decide) ?_
          refine lv_istore (lv' := [(5, .int 0), (4, .ref h_t_p0), (3, .ref h_t_s1), (0, .ref h_t), (1, .int x1), (2, .int x2)]) hx hb dX7_read_40 hl (by decide) rfl (fun ls hl => ?_)
          obtain ⟨kx42, ekx42, hf⟩ := jn2_e hf
          have hx42 : ∀ (z42_5 : Int32) (u42_pgrowth : Nat → Nat → Int32) (H : Heap) (locs : List Loc) (ls : Array Slot), lv_has ls 6 [(5, .int z42_5)] → va_P (dC, dI) vwCl (wd_X7_read cI cZ cP cS h_t h_t_red h_t_blue h_t_sky h_t_diary h_t_calendar h_t_awakeIn h_t_worths h_t_plants h_t_sheets h_t_bestFrom h_t_p0 h_t_p1 h_t_p2 h_t_p3 h_t_p0_growth h_t_p1_growth h_t_p2_growth h_t_p3_growth h_t_s0 h_t_s1 h_t_s2 h_t_s3 h_t_s0_items h_t_s1_items h_t_s2_items h_t_s3_items v_latestFinding v_phours u42_pgrowth v_sform v_ssize v_sitems) H → va_D (va_A (wd_X7_read cI cZ cP cS h_t h_t_red h_t_blue h_t_sky h_t_diary h_t_calendar h_t_awakeIn h_t_worths h_t_plants h_t_sheets h_t_bestFrom h_t_p0 h_t_p1 h_t_p2 h_t_p3 h_t_p0_growth h_t_p1_growth h_t_p2_growth h_t_p3_growth h_t_s0 h_t_s1 h_t_s2 h_t_s3 h_t_s0_items h_t_s1_items h_t_s2_items h_t_s3_items v_latestFinding v_phours v_pgrowth v_sform v_ssize v_sitems) s.heap.size) (wd_X7_read cI cZ cP cS h_t h_t_red h_t_blue h_t_sky h_t_diary h_t_calendar h_t_awakeIn h_t_worths h_t_plants h_t_sheets h_t_bestFrom h_t_p0 h_t_p1 h_t_p2 h_t_p3 h_t_p0_growth h_t_p1_growth h_t_p2_growth h_t_p3_growth h_t_s0 h_t_s1 h_t_s2 h_t_s3 h_t_s0_items h_t_s1_items h_t_s2_items h_t_s3_items v_latestFinding v_phours u42_pgrowth v_sform v_ssize v_sitems) → va_S (va_A (wd_X7_read cI cZ cP cS h_t h_t_red h_t_blue h_t_sky h_t_diary h_t_calendar h_t_awakeIn h_t_worths h_t_plants h_t_sheets h_t_bestFrom h_t_p0 h_t_p1 h_t_p2 h_t_p3 h_t_p0_growth h_t_p1_growth h_t_p2_growth h_t_p3_growth h_t_s0 h_t_s1 h_t_s2 h_t_s3 h_t_s0_items h_t_s1_items h_t_s2_items h_t_s3_items v_latestFinding v_phours v_pgrowth v_sform v_ssize v_sitems) s.heap.size) s.heap H locs → kx42 z42_5 u42_pgrowth = some (r, o_latestFinding, o_pgrowth) → W p l e (headSpec wsX7_read rm_X7_read).room s m ([.ref h_t, .int x1, .int x2] : List Value).toArray below meth c H locs 0 0 (MQ below (RWi (dC, dI) (TY cI cZ cP cS) r s.heap.size (wd_X7_read cI cZ cP cS h_t h_t_red h_t_blue h_t_sky h_t_diary h_t_calendar h_t_awakeIn h_t_worths h_t_plants h_t_sheets h_t_bestFrom h_t_p0 h_t_p1 h_t_p2 h_t_p3 h_t_p0_growth h_t_p1_growth h_t_p2_growth h_t_p3_growth h_t_s0 h_t_s1 h_t_s2 h_t_s3 h_t_s0_items h_t_s1_items h_t_s2_items h_t_s3_items v_latestFinding v_phours v_pgrowth v_sform v_ssize v_sitems) (wd_X7_read cI cZ cP cS h_t h_t_red h_t_blue h_t_sky h_t_diary h_t_calendar h_t_awakeIn h_t_worths h_t_plants h_t_sheets h_t_bestFrom h_t_p0 h_t_p1 h_t_p2 h_t_p3 h_t_p0_growth h_t_p1_growth h_t_p2_growth h_t_p3_growth h_t_s0 h_t_s1 h_t_s2 h_t_s3 h_t_s0_items h_t_s1_items h_t_s2_items h_t_s3_items o_latestFinding v_phours o_pgrowth v_sform v_ssize v_sitems)) ([.ref h_t, .int x1, .int x2] : List Value).toArray s 0 0 (va_A (wd_X7_read cI cZ cP cS h_t h_t_red h_t_blue h_t_sky h_t_diary h_t_calendar h_t_awakeIn h_t_worths h_t_plants h_t_sheets h_t_bestFrom h_t_p0 h_t_p1 h_t_p2 h_t_p3 h_t_p0_growth h_t_p1_growth h_t_p2_growth h_t_p3_growth h_t_s0 h_t_s1 h_t_s2 h_t_s3 h_t_s0_items h_t_s1_items h_t_s2_items h_t_s3_items v_latestFinding v_phours v_pgrowth v_sform v_ssize v_sitems) s.heap.size)) (F0 m 91 ls []) := by
            intro z42_5 u42_pgrowth H locs ls hl hP hD hS hf
            rw [ekx42] at hf
            refine lv_iload hx hb dX7_read_91 (lv_at hl 0 rfl) ?_
            have hq0 := Option.some.inj hf
            obtain ⟨eq0, hq1⟩ := Prod.mk.inj hq0
            obtain ⟨eq1, hq2⟩ := Prod.mk.inj hq1
            clear hf hq0 hq1
            subst eq0
            subst eq1
            subst hq2
            exact W.iret hx hb hr (fun t ht hW => ⟨⟨_, (), rfl, rfl, by rw [ht]; exact hP, va_K.moved hW.alike hK, hD⟩, hS.F ht⟩) hS.2.2 dX7_read_93
          have hL42 : ∀ (k42 : Nat) (y42_5 : Int32) (w42_pgrowth : Nat → Nat → Int32) (H : Heap) (locs : List Loc) (ls : Array Slot), lv_has ls 6 [(3, .ref h_t_s1), (4, .ref h_t_p0), (5, .int y42_5)] → va_P (dC, dI) vwCl (wd_X7_read cI cZ cP cS h_t h_t_red h_t_blue h_t_sky h_t_diary h_t_calendar h_t_awakeIn h_t_worths h_t_plants h_t_sheets h_t_bestFrom h_t_p0 h_t_p1 h_t_p2 h_t_p3 h_t_p0_growth h_t_p1_growth h_t_p2_growth h_t_p3_growth h_t_s0 h_t_s1 h_t_s2 h_t_s3 h_t_s0_items h_t_s1_items h_t_s2_items h_t_s3_items v_latestFinding v_phours w42_pgrowth v_sform v_ssize v_sitems) H → va_D (va_A (wd_X7_read cI cZ cP cS h_t h_t_red h_t_blue h_t_sky h_t_diary h_t_calendar h_t_awakeIn h_t_worths h_t_plants h_t_sheets h_t_bestFrom h_t_p0 h_t_p1 h_t_p2 h_t_p3 h_t_p0_growth h_t_p1_growth h_t_p2_growth h_t_p3_growth h_t_s0 h_t_s1 h_t_s2 h_t_s3 h_t_s0_items h_t_s1_items h_t_s2_items h_t_s3_items v_latestFinding v_phours v_pgrowth v_sform v_ssize v_sitems) s.heap.size) (wd_X7_read cI cZ cP cS h_t h_t_red h_t_blue h_t_sky h_t_diary h_t_calendar h_t_awakeIn h_t_worths h_t_plants h_t_sheets h_t_bestFrom h_t_p0 h_t_p1 h_t_p2 h_t_p3 h_t_p0_growth h_t_p1_growth h_t_p2_growth h_t_p3_growth h_t_s0 h_t_s1 h_t_s2 h_t_s3 h_t_s0_items h_t_s1_items h_t_s2_items h_t_s3_items v_latestFinding v_phours w42_pgrowth v_sform v_ssize v_sitems) → va_S (va_A (wd_X7_read cI cZ cP cS h_t h_t_red h_t_blue h_t_sky h_t_diary h_t_calendar h_t_awakeIn h_t_worths h_t_plants h_t_sheets h_t_bestFrom h_t_p0 h_t_p1 h_t_p2 h_t_p3 h_t_p0_growth h_t_p1_growth h_t_p2_growth h_t_p3_growth h_t_s0 h_t_s1 h_t_s2 h_t_s3 h_t_s0_items h_t_s1_items h_t_s2_items h_t_s3_items v_latestFinding v_phours v_pgrowth v_sform v_ssize v_sitems) s.heap.size) s.heap H locs → L_X7_read_42q5 n v_ssize v_sitems kx42 k42 y42_5 w42_pgrowth = some (r, o_latestFinding, o_pgrowth) → W p l e (headSpec wsX7_read rm_X7_read).room s m ([.ref h_t, .int x1, .int x2] : List Value).toArray below meth c H locs 0 0 (MQ below (RWi (dC, dI) (TY cI cZ cP cS) r s.heap.size (wd_X7_read cI cZ cP cS h_t h_t_red h_t_blue h_t_sky h_t_diary h_t_calendar h_t_awakeIn h_t_worths h_t_plants h_t_sheets h_t_bestFrom h_t_p0 h_t_p1 h_t_p2 h_t_p3 h_t_p0_growth h_t_p1_growth h_t_p2_growth h_t_p3_growth h_t_s0 h_t_s1 h_t_s2 h_t_s3 h_t_s0_items h_t_s1_items h_t_s2_items h_t_s3_items v_latestFinding v_phours v_pgrowth v_sform v_ssize v_sitems) (wd_X7_read cI cZ cP cS h_t h_t_red h_t_blue h_t_sky h_t_diary h_t_calendar h_t_awakeIn h_t_worths h_t_plants h_t_sheets h_t_bestFrom h_t_p0 h_t_p1 h_t_p2 h_t_p3 h_t_p0_growth h_t_p1_growth h_t_p2_growth h_t_p3_growth h_t_s0 h_t_s1 h_t_s2 h_t_s3 h_t_s0_items h_t_s1_items h_t_s2_items h_t_s3_items o_latestFinding v_phours o_pgrowth v_sform v_ssize v_sitems)) ([.ref h_t, .int x1, .int x2] : List Value).toArray s 0 0 (va_A (wd_X7_read cI cZ cP cS h_t h_t_red h_t_blue h_t_sky h_t_diary h_t_calendar h_t_awakeIn h_t_worths h_t_plants h_t_sheets h_t_bestFrom h_t_p0 h_t_p1 h_t_p2 h_t_p3 h_t_p0_growth h_t_p1_growth h_t_p2_growth h_t_p3_growth h_t_s0 h_t_s1 h_t_s2 h_t_s3 h_t_s0_items h_t_s1_items h_t_s2_items h_t_s3_items v_latestFinding v_phours v_pgrowth v_sform v_ssize v_sitems) s.heap.size)) (F0 m 42 ls []) := by
            intro k42
            induction k42 with
            | zero =>
              intro y42_5 w42_pgrowth H locs ls hl hP hD hS hf
              exact absurd hf (fun h => Option.some_ne_none _ h.symm)
            | succ k42 ih =>
              intro y42_5 w42_pgrowth H locs ls hl hP hD hS hf
              rw [L_X7_read_42q5_s] at hf
              refine lv_iload hx hb dX7_read_42 (lv_at hl 2 rfl) ?_
              refine lv_iconst (v := 4) hx hb dX7_read_44 (by decide) ?_
              refine lv_icmp_ge (tgt := 91) hx hb dX7_read_45 (by decide) (fun c45 => ?_) (fun c45 => ?_)
              · rw [if_pos c45] at hf
                exact hx42 y42_5 w42_pgrowth H locs ls (lv_sub hl [2] rfl) hP hD hS hf
              · rw [if_neg c45] at hf
                refine lv_iload hx hb dX7_read_48 (lv_at hl 2 rfl) ?_
                refine lv_aload_n hx hb dX7_read_50 rfl (lv_at hl 0 rfl) ?_
                refine va_get (D := (dC, dI)) (ci := 3) (v := .int (v_ssize 1)) (C := RX3) (T := TX3) (N := 3) hx hb hts hinX3 hown hK hP 13 rfl rfl 1 (by decide) (hts (.fieldLink RX7 228 "SecondSunrise$Sheet" "size" "I") (by decide +kernel)) (fun _ h9 => h9) rfl dX7_read_51 ?_
                refine lv_icmp_ge (tgt := 91) hx hb dX7_read_54 (by decide) (fun c54 => ?_) (fun c54 => ?_)
                · rw [if_pos c54] at hf
                  exact hx42 y42_5 w42_pgrowth H locs ls (lv_sub hl [2] rfl) hP hD hS hf
                · rw [if_neg c54] at hf
                  refine lv_aload_n hx hb dX7_read_57 rfl (lv_at hl 0 rfl) ?_
                  refine va_get (D := (dC, dI)) (ci := 3) (v := .ref h_t_s1_items) (C := RX3) (T := TX3) (N := 3) hx hb hts hinX3 hown hK hP 13 rfl rfl 2 (by decide) (hts (.fieldLink RX7 229 "SecondSunrise$Sheet" "items" "[I") (by decide +kernel)) (fun _ h9 => h9) rfl dX7_read_58 ?_
                  refine lv_iload hx hb dX7_read_61 (lv_at hl 2 rfl) ?_
                  obtain ⟨hi_48, hf⟩ := ix_e hf
                  refine va_iald hx hb hK hP 14 0 rfl rfl hi_48 dX7_read_63 ?_
                  obtain ⟨r64_49, hc_50, hf⟩ := bd1_e hf
                  refine vp_callSi (va_runS (As := [.int ((v_sitems 1) y42_5.toNatClampNeg)]) (rest := []) ⟨hx, hb, hml, hown, hts⟩ (c_X7_noGrowth l dC dI cI cZ cP cS   ((v_sitems 1) y42_5.toNatClampNeg) n r64_49 hc_50) (va_cwS 1 hts gX7_read_X7_noGrowth rfl rfl rfl (by decide +kernel) ⟨Nat.le_of_ble_eq_true rfl, Nat.le_of_ble_eq_true rfl⟩) (ps_ro hK (hP.sub (ws' := ([] : va_W)) [] rfl)) rfl rfl hl.1 rfl (lv_room (Nat.le_of_ble_eq_true rfl)) dX7_read_64 ⟨Nat.zero_le _, Nat.zero_le _⟩).run (fun x e_51 => ?_)
                  obtain ⟨e_51, hb_52⟩ := e_51
                  rw [e_51] at hb_52 ⊢
                  refine lv_if_ne (tgt := 91) hx hb dX7_read_67 (by decide) (fun c67 => ?_) (fun c67 => ?_)
                  · rw [if_neg c67] at hf
                    exact hx42 y42_5 w42_pgrowth H locs ls (lv_sub hl [2] rfl) hP hD hS hf
                  · rw [if_pos c67] at hf
                    refine lv_aload hx hb dX7_read_70 (lv_at hl 1 rfl) ?_
                    refine va_get (D := (dC, dI)) (ci := 2) (v := .ref h_t_p0_growth) (C := RX2) (T := TX2) (N := 2) hx hb hts hinX2 hown hK hP 2 rfl rfl 1 (by decide) (hts (.fieldLink RX7 215 "SecondSunrise$Plant" "growth" "[I") (by decide +kernel)) (fun _ h9 => h9) rfl dX7_read_72 ?_
                    refine lv_iload hx hb dX7_read_75 (lv_at hl 2 rfl) ?_
                    refine lv_aload_n hx hb dX7_read_77 rfl (lv_at hl 0 rfl) ?_
                    refine va_get (D := (dC, dI)) (ci := 3) (v := .ref h_t_s1_items) (C := RX3) (T := TX3) (N := 3) hx hb hts hinX3 hown hK hP 13 rfl rfl 2 (by decide) (hts (.fieldLink RX7 229 "SecondSunrise$Sheet" "items" "[I") (by decide +kernel)) (fun _ h9 => h9) rfl dX7_read_78 ?_
                    refine lv_iload hx hb dX7_read_81 (lv_at hl 2 rfl) ?_
                    obtain ⟨hi_53, hf⟩ := ix_e hf
                    refine va_iald hx hb hK hP 14 0 rfl rfl hi_53 dX7_read_83 ?_
                    obtain ⟨hi_54, hf⟩ := ix_e hf
                    refine va_iast hx hb hK hP hD hS 3 0 rfl rfl hi_54 dX7_read_84 (fun H locs hP hD hS => ?_)
                    have hP : va_P (dC, dI) vwCl (wd_X7_read cI cZ cP cS h_t h_t_red h_t_blue h_t_sky h_t_diary h_t_calendar h_t_awakeIn h_t_worths h_t_plants h_t_sheets h_t_bestFrom h_t_p0 h_t_p1 h_t_p2 h_t_p3 h_t_p0_growth h_t_p1_growth h_t_p2_growth h_t_p3_growth h_t_s0 h_t_s1 h_t_s2 h_t_s3 h_t_s0_items h_t_s1_items h_t_s2_items h_t_s3_items v_latestFinding v_phours (va_up w42_pgrowth 0 (upd (w42_pgrowth 0) y42_5.toNatClampNeg ((v_sitems 1) y42_5.toNatClampNeg))) v_sform v_ssize v_sitems) H := hP
                    have hD : va_D (va_A (wd_X7_read cI cZ cP cS h_t h_t_red h_t_blue h_t_sky h_t_diary h_t_calendar h_t_awakeIn h_t_worths h_t_plants h_t_sheets h_t_bestFrom h_t_p0 h_t_p1 h_t_p2 h_t_p3 h_t_p0_growth h_t_p1_growth h_t_p2_growth h_t_p3_growth h_t_s0 h_t_s1 h_t_s2 h_t_s3 h_t_s0_items h_t_s1_items h_t_s2_items h_t_s3_items v_latestFinding v_phours v_pgrowth v_sform v_ssize v_sitems) s.heap.size) (wd_X7_read cI cZ cP cS h_t h_t_red h_t_blue h_t_sky h_t_diary h_t_calendar h_t_awakeIn h_t_worths h_t_plants h_t_sheets h_t_bestFrom h_t_p0 h_t_p1 h_t_p2 h_t_p3 h_t_p0_growth h_t_p1_growth h_t_p2_growth h_t_p3_growth h_t_s0 h_t_s1 h_t_s2 h_t_s3 h_t_s0_items h_t_s1_items h_t_s2_items h_t_s3_items v_latestFinding v_phours (va_up w42_pgrowth 0 (upd (w42_pgrowth 0) y42_5.toNatClampNeg ((v_sitems 1) y42_5.toNatClampNeg))) v_sform v_ssize v_sitems) := hD
                    refine lv_iinc (v := (y42_5 + 1)) (lv' := [(5, .int (y42_5 + 1)), (3, .ref h_t_s1), (4, .ref h_t_p0)]) hx hb dX7_read_85 hl (k := 2) rfl rfl (by decide) rfl (fun ls hl => ?_)
                    refine lv_goto (tgt := 42) hx hb dX7_read_88 (by decide) ?_
                    exact ih (y42_5 + 1) (va_up w42_pgrowth 0 (upd (w42_pgrowth 0) y42_5.toNatClampNeg ((v_sitems 1) y42_5.toNatClampNeg))) H locs ls (lv_sub hl [1, 2, 0] rfl) hP hD hS hf
          exact hL42 n 0 v_pgrowth H locs ls (lv_sub hl [2, 1, 0] rfl) hP hD hS hf
        · rw [if_pos c30] at hf
          refine lv_aload_n hx hb dX7_read_33 rfl (lv_at hl 2 rfl) ?_
          refine lv_iconst (v := 1) hx hb dX7_read_34 (by decide) ?_
          obtain ⟨r35_55, o35_56, hc_57, hf⟩ := bd2_e hf
          refine rwi_call (isC := [0]) (isR := [1, 2, 3, 4, 5, 6, 7, 8, 9, 10, 11, 12, 13, 14, 15, 16, 17, 18]) (perm := [18, 0, 1, 2, 3, 4, 5, 6, 7, 8, 9, 10, 11, 12, 13, 14, 15, 16, 17]) (wr := [(h_t_plants, .inl (cP, 4, .inr (.inr (.inr (.inr (ar4 h_t_p0 h_t_p1 h_t_p2 h_t_p3)))))), (h_t_p0, .inr (2, [.int (v_phours 0), .ref h_t_p0_growth])), (h_t_p0_growth, .inl (cI, 4, .inl (v_pgrowth 0))), (h_t_p1, .inr (2, [.int (v_phours 1), .ref h_t_p1_growth])), (h_t_p1_growth, .inl (cI, 4, .inl (v_pgrowth 1))), (h_t_p2, .inr (2, [.int (v_phours 2), .ref h_t_p2_growth])), (h_t_p2_growth, .inl (cI, 4, .inl (v_pgrowth 2))), (h_t_p3, .inr (2, [.int (v_phours 3), .ref h_t_p3_growth])), (h_t_p3_growth, .inl (cI, 4, .inl (v_pgrowth 3))), (h_t_sheets, .inl (cS, 4, .inr (.inr (.inr (.inr (ar4 h_t_s0 h_t_s1 h_t_s2 h_t_s3)))))), (h_t_s0, .inr (3, [.int (v_sform 0), .int (v_ssize 0), .ref h_t_s0_items])), (h_t_s0_items, .inl (cI, 48, .inl (v_sitems 0))), (h_t_s1, .inr (3, [.int (v_sform 1), .int (v_ssize 1), .ref h_t_s1_items])), (h_t_s1_items, .inl (cI, 48, .inl (v_sitems 1))), (h_t_s2, .inr (3, [.int (v_sform 2), .int (v_ssize 2), .ref h_t_s2_items])), (h_t_s2_items, .inl (cI, 48, .inl (v_sitems 2))), (h_t_s3, .inr (3, [.int (v_sform 3), .int (v_ssize 3), .ref h_t_s3_items])), (h_t_s3_items, .inl (cI, 48, .inl (v_sitems 3)))]) (ws2 := (wd_X7_read cI cZ cP cS h_t h_t_red h_t_blue h_t_sky h_t_diary h_t_calendar h_t_awakeIn h_t_worths h_t_plants h_t_sheets h_t_bestFrom h_t_p0 h_t_p1 h_t_p2 h_t_p3 h_t_p0_growth h_t_p1_growth h_t_p2_growth h_t_p3_growth h_t_s0 h_t_s1 h_t_s2 h_t_s3 h_t_s0_items h_t_s1_items h_t_s2_items h_t_s3_items o35_56 v_phours v_pgrowth v_sform v_ssize v_sitems)) (va_runV (As := [.int 1]) (rest := []) ⟨hx, hb, hml, hown, hts⟩ (c_X7_found l dC dI cI cZ cP cS H.size h_t h_t_red h_t_blue h_t_sky h_t_diary h_t_calendar h_t_awakeIn h_t_worths h_t_plants h_t_sheets h_t_bestFrom v_latestFinding 1 n r35_55 o35_56 hc_57) (cwV 1 hts gX7_read_X7_found rfl rfl rfl (by decide +kernel) ⟨Nat.le_of_ble_eq_true rfl, Nat.le_of_ble_eq_true rfl⟩) (pv_rw (ci := 6) (q0 := 0) hK (hP.sub (ws' := (wd_X7_found cI cZ cP cS h_t h_t_red h_t_blue h_t_sky h_t_diary h_t_calendar h_t_awakeIn h_t_worths h_t_plants h_t_sheets h_t_bestFrom v_latestFinding)) [0] rfl) (hD.sub (ws' := (wd_X7_found cI cZ cP cS h_t h_t_red h_t_blue h_t_sky h_t_diary h_t_calendar h_t_awakeIn h_t_worths h_t_plants h_t_sheets h_t_bestFrom v_latestFinding)) [0] (by decide) rfl) rfl rfl) rfl rfl hl.1 rfl (lv_room (Nat.le_of_ble_eq_true rfl)) dX7_read_35 ⟨Nat.zero_le _, Nat.zero_le _⟩) hS hA hP hD rfl (by decide) (by decide) rfl (by decide) rfl rfl (fun H locs hP hD hS => ?_)
          have hq0 := Option.some.inj hf
          obtain ⟨eq0, hq1⟩ := Prod.mk.inj hq0
          obtain ⟨eq1, hq2⟩ := Prod.mk.inj hq1
          clear hf hq0 hq1
          subst eq0
          subst eq1
          subst hq2
          exact W.iret hx hb hr (fun t ht hW => ⟨⟨_, (), rfl, rfl, by rw [ht]; exact hP, va_K.moved hW.alike hK, hD⟩, hS.F ht⟩) hS.2.2 dX7_read_38
      · rw [if_neg c8_0] at hf e_47
        by_cases c8_1 : x2 = 1
        · rw [if_pos c8_1] at hf e_47
          subst e_47
          refine W.eq (g2 := F0 m 11 ls [.ref h_t_p1]) rfl ?_
          refine lv_astore (lv' := [(4, .ref h_t_p1), (3, .ref h_t_s1), (0, .ref h_t), (1, .int x1), (2, .int x2)]) hx hb dX7_read_11 hl (by decide) rfl (fun ls hl => ?_)
          refine lv_aload_n hx hb dX7_read_13 rfl (lv_at hl 1 rfl) ?_
          refine lv_ifnull hx hb dX7_read_14 ?_
          refine lv_aload hx hb dX7_read_17 (lv_at hl 0 rfl) ?_
          refine lv_ifnonnull (tgt := 25) hx hb dX7_read_19 (by decide) ?_
          refine lv_aload_n hx hb dX7_read_25 rfl (lv_at hl 1 rfl) ?_
          refine va_get (D := (dC, dI)) (ci := 3) (v := .int (v_sform 1)) (C := RX3) (T := TX3) (N := 3) hx hb hts hinX3 hown hK hP 13 rfl rfl 0 (by decide) (hts (.fieldLink RX7 222 "SecondSunrise$Sheet" "form" "I") (by decide +kernel)) (fun _ h9 => h9) rfl dX7_read_26 ?_
          refine lv_iconst (v := (-1)) hx hb dX7_read_29 (by decide) ?_
          refine lv_icmp_ne (tgt := 39) hx hb dX7_read_30 (by decide) (fun c30 => ?_) (fun c30 => ?_)
          · rw [if_neg c30] at hf
            refine lv_iconst (v := 0) hx hb dX7_read_39 (by decide) ?_
            refine lv_istore (lv' := [(5, .int 0), (4, .ref h_t_p1), (3, .ref h_t_s1), (0, .ref h_t), (1, .int x1), (2, .int x2)]) hx hb dX7_read_40 hl (by decide) rfl (fun ls hl => ?_)
            obtain ⟨kx42, ekx42, hf⟩ := jn2_e hf
            have hx42 : ∀ (z42_5 : Int32) (u42_pgrowth : Nat → Nat → Int32) (H : Heap) (locs : List Loc) (ls : Array Slot), lv_has ls 6 [(5, .int z42_5)] → va_P (dC, dI) vwCl (wd_X7_read cI cZ cP cS h_t h_t_red h_t_blue h_t_sky h_t_diary h_t_calendar h_t_awakeIn h_t_worths h_t_plants h_t_sheets h_t_bestFrom h_t_p0 h_t_p1 h_t_p2 h_t_p3 h_t_p0_growth h_t_p1_growth h_t_p2_growth h_t_p3_growth h_t_s0 h_t_s1 h_t_s2 h_t_s3 h_t_s0_items h_t_s1_items h_t_s2_items h_t_s3_items v_latestFinding v_phours u42_pgrowth v_sform v_ssize v_sitems) H → va_D (va_A (wd_X7_read cI cZ cP cS h_t h_t_red h_t_blue h_t_sky h_t_diary h_t_calendar h_t_awakeIn h_t_worths h_t_plants h_t_sheets h_t_bestFrom h_t_p0 h_t_p1 h_t_p2 h_t_p3 h_t_p0_growth h_t_p1_growth h_t_p2_growth h_t_p3_growth h_t_s0 h_t_s1 h_t_s2 h_t_s3 h_t_s0_items h_t_s1_items h_t_s2_items h_t_s3_items v_latestFinding v_phours v_pgrowth v_sform v_ssize v_sitems) s.heap.size) (wd_X7_read cI cZ cP cS h_t h_t_red h_t_blue h_t_sky h_t_diary h_t_calendar h_t_awakeIn h_t_worths h_t_plants h_t_sheets h_t_bestFrom h_t_p0 h_t_p1 h_t_p2 h_t_p3 h_t_p0_growth h_t_p1_growth h_t_p2_growth h_t_p3_growth h_t_s0 h_t_s1 h_t_s2 h_t_s3 h_t_s0_items h_t_s1_items h_t_s2_items h_t_s3_items v_latestFinding v_phours u42_pgrowth v_sform v_ssize v_sitems) → va_S (va_A (wd_X7_read cI cZ cP cS h_t h_t_red h_t_blue h_t_sky h_t_diary h_t_calendar h_t_awakeIn h_t_worths h_t_plants h_t_sheets h_t_bestFrom h_t_p0 h_t_p1 h_t_p2 h_t_p3 h_t_p0_growth h_t_p1_growth h_t_p2_growth h_t_p3_growth h_t_s0 h_t_s1 h_t_s2 h_t_s3 h_t_s0_items h_t_s1_items h_t_s2_items h_t_s3_items v_latestFinding v_phours v_pgrowth v_sform v_ssize v_sitems) s.heap.size) s.heap H locs → kx42 z42_5 u42_pgrowth = some (r, o_latestFinding, o_pgrowth) → W p l e (headSpec wsX7_read rm_X7_read).room s m ([.ref h_t, .int x1, .int x2] : List Value).toArray below meth c H locs 0 0 (MQ below (RWi (dC, dI) (TY cI cZ cP cS) r s.heap.size (wd_X7_read cI cZ cP cS h_t h_t_red h_t_blue h_t_sky h_t_diary h_t_calendar h_t_awakeIn h_t_worths h_t_plants h_t_sheets h_t_bestFrom h_t_p0 h_t_p1 h_t_p2 h_t_p3 h_t_p0_growth h_t_p1_growth h_t_p2_growth h_t_p3_growth h_t_s0 h_t_s1 h_t_s2 h_t_s3 h_t_s0_items h_t_s1_items h_t_s2_items h_t_s3_items v_latestFinding v_phours v_pgrowth v_sform v_ssize v_sitems) (wd_X7_read cI cZ cP cS h_t h_t_red h_t_blue h_t_sky h_t_diary h_t_calendar h_t_awakeIn h_t_worths h_t_plants h_t_sheets h_t_bestFrom h_t_p0 h_t_p1 h_t_p2 h_t_p3 h_t_p0_growth h_t_p1_growth h_t_p2_growth h_t_p3_growth h_t_s0 h_t_s1 h_t_s2 h_t_s3 h_t_s0_items h_t_s1_items h_t_s2_items h_t_s3_items o_latestFinding v_phours o_pgrowth v_sform v_ssize v_sitems)) ([.ref h_t, .int x1, .int x2] : List Value).toArray s 0 0 (va_A (wd_X7_read cI cZ cP cS h_t h_t_red h_t_blue h_t_sky h_t_diary h_t_calendar h_t_awakeIn h_t_worths h_t_plants h_t_sheets h_t_bestFrom h_t_p0 h_t_p1 h_t_p2 h_t_p3 h_t_p0_growth h_t_p1_growth h_t_p2_growth h_t_p3_growth h_t_s0 h_t_s1 h_t_s2 h_t_s3 h_t_s0_items h_t_s1_items h_t_s2_items h_t_s3_items v_latestFinding v_phours v_pgrowth v_sform v_ssize v_sitems) s.heap.size)) (F0 m 91 ls []) := by
              intro z42_5 u42_pgrowth H locs ls hl hP hD hS hf
              rw [ekx42] at hf
              refine lv_iload hx hb dX7_read_91 (lv_at hl 0 rfl) ?_
              have hq0 := Option.some.inj hf
              obtain ⟨eq0, hq1⟩ := Prod.mk.inj hq0
              obtain ⟨eq1, hq2⟩ := Prod.mk.inj hq1
              clear hf hq0 hq1
              subst eq0
              subst eq1
              subst hq2
              exact W.iret hx hb hr (fun t ht hW => ⟨⟨_, (), rfl, rfl, by rw [ht]; exact hP, va_K.moved hW.alike hK, hD⟩, hS.F ht⟩) hS.2.2 dX7_read_93
            have hL42 : ∀ (k42 : Nat) (y42_5 : Int32) (w42_pgrowth : Nat → Nat → Int32) (H : Heap) (locs : List Loc) (ls : Array Slot), lv_has ls 6 [(3, .ref h_t_s1), (4, .ref h_t_p1), (5, .int y42_5)] → va_P (dC, dI) vwCl (wd_X7_read cI cZ cP cS h_t h_t_red h_t_blue h_t_sky h_t_diary h_t_calendar h_t_awakeIn h_t_worths h_t_plants h_t_sheets h_t_bestFrom h_t_p0 h_t_p1 h_t_p2 h_t_p3 h_t_p0_growth h_t_p1_growth h_t_p2_growth h_t_p3_growth h_t_s0 h_t_s1 h_t_s2 h_t_s3 h_t_s0_items h_t_s1_items h_t_s2_items h_t_s3_items v_latestFinding v_phours w42_pgrowth v_sform v_ssize v_sitems) H → va_D (va_A (wd_X7_read cI cZ cP cS h_t h_t_red h_t_blue h_t_sky h_t_diary h_t_calendar h_t_awakeIn h_t_worths h_t_plants h_t_sheets h_t_bestFrom h_t_p0 h_t_p1 h_t_p2 h_t_p3 h_t_p0_growth h_t_p1_growth h_t_p2_growth h_t_p3_growth h_t_s0 h_t_s1 h_t_s2 h_t_s3 h_t_s0_items h_t_s1_items h_t_s2_items h_t_s3_items v_latestFinding v_phours v_pgrowth v_sform v_ssize v_sitems) s.heap.size) (wd_X7_read cI cZ cP cS h_t h_t_red h_t_blue h_t_sky h_t_diary h_t_calendar h_t_awakeIn h_t_worths h_t_plants h_t_sheets h_t_bestFrom h_t_p0 h_t_p1 h_t_p2 h_t_p3 h_t_p0_growth h_t_p1_growth h_t_p2_growth h_t_p3_growth h_t_s0 h_t_s1 h_t_s2 h_t_s3 h_t_s0_items h_t_s1_items h_t_s2_items h_t_s3_items v_latestFinding v_phours w42_pgrowth v_sform v_ssize v_sitems) → va_S (va_A (wd_X7_read cI cZ cP cS h_t h_t_red h_t_blue h_t_sky h_t_diary h_t_calendar h_t_awakeIn h_t_worths h_t_plants h_t_sheets h_t_bestFrom h_t_p0 h_t_p1 h_t_p2 h_t_p3 h_t_p0_growth h_t_p1_growth h_t_p2_growth h_t_p3_growth h_t_s0 h_t_s1 h_t_s2 h_t_s3 h_t_s0_items h_t_s1_items h_t_s2_items h_t_s3_items v_latestFinding v_phours v_pgrowth v_sform v_ssize v_sitems) s.heap.size) s.heap H locs → L_X7_read_42q6 n v_ssize v_sitems kx42 k42 y42_5 w42_pgrowth = some (r, o_latestFinding, o_pgrowth) → W p l e (headSpec wsX7_read rm_X7_read).room s m ([.ref h_t, .int x1, .int x2] : List Value).toArray below meth c H locs 0 0 (MQ below (RWi (dC, dI) (TY cI cZ cP cS) r s.heap.size (wd_X7_read cI cZ cP cS h_t h_t_red h_t_blue h_t_sky h_t_diary h_t_calendar h_t_awakeIn h_t_worths h_t_plants h_t_sheets h_t_bestFrom h_t_p0 h_t_p1 h_t_p2 h_t_p3 h_t_p0_growth h_t_p1_growth h_t_p2_growth h_t_p3_growth h_t_s0 h_t_s1 h_t_s2 h_t_s3 h_t_s0_items h_t_s1_items h_t_s2_items h_t_s3_items v_latestFinding v_phours v_pgrowth v_sform v_ssize v_sitems) (wd_X7_read cI cZ cP cS h_t h_t_red h_t_blue h_t_sky h_t_diary h_t_calendar h_t_awakeIn h_t_worths h_t_plants h_t_sheets h_t_bestFrom h_t_p0 h_t_p1 h_t_p2 h_t_p3 h_t_p0_growth h_t_p1_growth h_t_p2_growth h_t_p3_growth h_t_s0 h_t_s1 h_t_s2 h_t_s3 h_t_s0_items h_t_s1_items h_t_s2_items h_t_s3_items o_latestFinding v_phours o_pgrowth v_sform v_ssize v_sitems)) ([.ref h_t, .int x1, .int x2] : List Value).toArray s 0 0 (va_A (wd_X7_read cI cZ cP cS h_t h_t_red h_t_blue h_t_sky h_t_diary h_t_calendar h_t_awakeIn h_t_worths h_t_plants h_t_sheets h_t_bestFrom h_t_p0 h_t_p1 h_t_p2 h_t_p3 h_t_p0_growth h_t_p1_growth h_t_p2_growth h_t_p3_growth h_t_s0 h_t_s1 h_t_s2 h_t_s3 h_t_s0_items h_t_s1_items h_t_s2_items h_t_s3_items v_latestFinding v_phours v_pgrowth v_sform v_ssize v_sitems) s.heap.size)) (F0 m 42 ls []) := by
              intro k42
              induction k42 with
              | zero =>
                intro y42_5 w42_pgrowth H locs ls hl hP hD hS hf
                exact absurd hf (fun h => Option.some_ne_none _ h.symm)
              | succ k42 ih =>
                intro y42_5 w42_pgrowth H locs ls hl hP hD hS hf
                rw [L_X7_read_42q6_s] at hf
                refine lv_iload hx hb dX7_read_42 (lv_at hl 2 rfl) ?_
                refine lv_iconst (v := 4) hx hb dX7_read_44 (by decide) ?_
                refine lv_icmp_ge (tgt := 91) hx hb dX7_read_45 (by decide) (fun c45 => ?_) (fun c45 => ?_)
                · rw [if_pos c45] at hf
                  exact hx42 y42_5 w42_pgrowth H locs ls (lv_sub hl [2] rfl) hP hD hS hf
                · rw [if_neg c45] at hf
                  refine lv_iload hx hb dX7_read_48 (lv_at hl 2 rfl) ?_
                  refine lv_aload_n hx hb dX7_read_50 rfl (lv_at hl 0 rfl) ?_
                  refine va_get (D := (dC, dI)) (ci := 3) (v := .int (v_ssize 1)) (C := RX3) (T := TX3) (N := 3) hx hb hts hinX3 hown hK hP 13 rfl rfl 1 (by decide) (hts (.fieldLink RX7 228 "SecondSunrise$Sheet" "size" "I") (by decide +kernel)) (fun _ h9 => h9) rfl dX7_read_51 ?_
                  refine lv_icmp_ge (tgt := 91) hx hb dX7_read_54 (by decide) (fun c54 => ?_) (fun c54 => ?_)
                  · rw [if_pos c54] at hf
                    exact hx42 y42_5 w42_pgrowth H locs ls (lv_sub hl [2] rfl) hP hD hS hf
                  · rw [if_neg c54] at hf
                    refine lv_aload_n hx hb dX7_read_57 rfl (lv_at hl 0 rfl) ?_
                    refine va_get (D := (dC, dI)) (ci := 3) (v := .ref h_t_s1_items) (C := RX3) (T := TX3) (N := 3) hx hb hts hinX3 hown hK hP 13 rfl rfl 2 (by decide) (hts (.fieldLink RX7 229 "SecondSunrise$Sheet" "items" "[I") (by decide +kernel)) (fun _ h9 => h9) rfl dX7_read_58 ?_
                    refine lv_iload hx hb dX7_read_61 (lv_at hl 2 rfl) ?_
                    obtain ⟨hi_59, hf⟩ := ix_e hf
                    refine va_iald hx hb hK hP 14 0 rfl rfl hi_59 dX7_read_63 ?_
                    obtain ⟨r64_60, hc_61, hf⟩ := bd1_e hf
                    refine vp_callSi (va_runS (As := [.int ((v_sitems 1) y42_5.toNatClampNeg)]) (rest := []) ⟨hx, hb, hml, hown, hts⟩ (c_X7_noGrowth l dC dI cI cZ cP cS   ((v_sitems 1) y42_5.toNatClampNeg) n r64_60 hc_61) (va_cwS 1 hts gX7_read_X7_noGrowth rfl rfl rfl (by decide +kernel) ⟨Nat.le_of_ble_eq_true rfl, Nat.le_of_ble_eq_true rfl⟩) (ps_ro hK (hP.sub (ws' := ([] : va_W)) [] rfl)) rfl rfl hl.1 rfl (lv_room (Nat.le_of_ble_eq_true rfl)) dX7_read_64 ⟨Nat.zero_le _, Nat.zero_le _⟩).run (fun x e_62 => ?_)
                    obtain ⟨e_62, hb_63⟩ := e_62
                    rw [e_62] at hb_63 ⊢
                    refine lv_if_ne (tgt := 91) hx hb dX7_read_67 (by decide) (fun c67 => ?_) (fun c67 => ?_)
                    · rw [if_neg c67] at hf
                      exact hx42 y42_5 w42_pgrowth H locs ls (lv_sub hl [2] rfl) hP hD hS hf
                    · rw [if_pos c67] at hf
                      refine lv_aload hx hb dX7_read_70 (lv_at hl 1 rfl) ?_
                      refine va_get (D := (dC, dI)) (ci := 2) (v := .ref h_t_p1_growth) (C := RX2) (T := TX2) (N := 2) hx hb hts hinX2 hown hK hP 4 rfl rfl 1 (by decide) (hts (.fieldLink RX7 215 "SecondSunrise$Plant" "growth" "[I") (by decide +kernel)) (fun _ h9 => h9) rfl dX7_read_72 ?_
                      refine lv_iload hx hb dX7_read_75 (lv_at hl 2 rfl) ?_
                      refine lv_aload_n hx hb dX7_read_77 rfl (lv_at hl 0 rfl) ?_
                      refine va_get (D := (dC, dI)) (ci := 3) (v := .ref h_t_s1_items) (C := RX3) (T := TX3) (N := 3) hx hb hts hinX3 hown hK hP 13 rfl rfl 2 (by decide) (hts (.fieldLink RX7 229 "SecondSunrise$Sheet" "items" "[I") (by decide +kernel)) (fun _ h9 => h9) rfl dX7_read_78 ?_
                      refine lv_iload hx hb dX7_read_81 (lv_at hl 2 rfl) ?_
                      obtain ⟨hi_64, hf⟩ := ix_e hf
                      refine va_iald hx hb hK hP 14 0 rfl rfl hi_64 dX7_read_83 ?_
                      obtain ⟨hi_65, hf⟩ := ix_e hf
                      refine va_iast hx hb hK hP hD hS 5 0 rfl rfl hi_65 dX7_read_84 (fun H locs hP hD hS => ?_)
                      have hP : va_P (dC, dI) vwCl (wd_X7_read cI cZ cP cS h_t h_t_red h_t_blue h_t_sky h_t_diary h_t_calendar h_t_awakeIn h_t_worths h_t_plants h_t_sheets h_t_bestFrom h_t_p0 h_t_p1 h_t_p2 h_t_p3 h_t_p0_growth h_t_p1_growth h_t_p2_growth h_t_p3_growth h_t_s0 h_t_s1 h_t_s2 h_t_s3 h_t_s0_items h_t_s1_items h_t_s2_items h_t_s3_items v_latestFinding v_phours (va_up w42_pgrowth 1 (upd (w42_pgrowth 1) y42_5.toNatClampNeg ((v_sitems 1) y42_5.toNatClampNeg))) v_sform v_ssize v_sitems) H := hP
                      have hD : va_D (va_A (wd_X7_read cI cZ cP cS h_t h_t_red h_t_blue h_t_sky h_t_diary h_t_calendar h_t_awakeIn h_t_worths h_t_plants h_t_sheets h_t_bestFrom h_t_p0 h_t_p1 h_t_p2 h_t_p3 h_t_p0_growth h_t_p1_growth h_t_p2_growth h_t_p3_growth h_t_s0 h_t_s1 h_t_s2 h_t_s3 h_t_s0_items h_t_s1_items h_t_s2_items h_t_s3_items v_latestFinding v_phours v_pgrowth v_sform v_ssize v_sitems) s.heap.size) (wd_X7_read cI cZ cP cS h_t h_t_red h_t_blue h_t_sky h_t_diary h_t_calendar h_t_awakeIn h_t_worths h_t_plants h_t_sheets h_t_bestFrom h_t_p0 h_t_p1 h_t_p2 h_t_p3 h_t_p0_growth h_t_p1_growth h_t_p2_growth h_t_p3_growth h_t_s0 h_t_s1 h_t_s2 h_t_s3 h_t_s0_items h_t_s1_items h_t_s2_items h_t_s3_items v_latestFinding v_phours (va_up w42_pgrowth 1 (upd (w42_pgrowth 1) y42_5.toNatClampNeg ((v_sitems 1) y42_5.toNatClampNeg))) v_sform v_ssize v_sitems) := hD
                      refine lv_iinc (v := (y42_5 + 1)) (lv' := [(5, .int (y42_5 + 1)), (3, .ref h_t_s1), (4, .ref h_t_p1)]) hx hb dX7_read_85 hl (k := 2) rfl rfl (by decide) rfl (fun ls hl => ?_)
                      refine lv_goto (tgt := 42) hx hb dX7_read_88 (by decide) ?_
                      exact ih (y42_5 + 1) (va_up w42_pgrowth 1 (upd (w42_pgrowth 1) y42_5.toNatClampNeg ((v_sitems 1) y42_5.toNatClampNeg))) H locs ls (lv_sub hl [1, 2, 0] rfl) hP hD hS hf
            exact hL42 n 0 v_pgrowth H locs ls (lv_sub hl [2, 1, 0] rfl) hP hD hS hf
          · rw [if_pos c30] at hf
            refine lv_aload_n hx hb dX7_read_33 rfl (lv_at hl 2 rfl) ?_
            refine lv_iconst (v := 1) hx hb dX7_read_34 (by decide) ?_
            obtain ⟨r35_66, o35_67, hc_68, hf⟩ := bd2_e hf
            refine rwi_call (isC := [0]) (isR := [1, 2, 3, 4, 5, 6, 7, 8, 9, 10, 11, 12, 13, 14, 15, 16, 17, 18]) (perm := [18, 0, 1, 2, 3, 4, 5, 6, 7, 8, 9, 10, 11, 12, 13, 14, 15, 16, 17]) (wr := [(h_t_plants, .inl (cP, 4, .inr (.inr (.inr (.inr (ar4 h_t_p0 h_t_p1 h_t_p2 h_t_p3)))))), (h_t_p0, .inr (2, [.int (v_phours 0), .ref h_t_p0_growth])), (h_t_p0_growth, .inl (cI, 4, .inl (v_pgrowth 0))), (h_t_p1, .inr (2, [.int (v_phours 1), .ref h_t_p1_growth])), (h_t_p1_growth, .inl (cI, 4, .inl (v_pgrowth 1))), (h_t_p2, .inr (2, [.int (v_phours 2), .ref h_t_p2_growth])), (h_t_p2_growth, .inl (cI, 4, .inl (v_pgrowth 2))), (h_t_p3, .inr (2, [.int (v_phours 3), .ref h_t_p3_growth])), (h_t_p3_growth, .inl (cI, 4, .inl (v_pgrowth 3))), (h_t_sheets, .inl (cS, 4, .inr (.inr (.inr (.inr (ar4 h_t_s0 h_t_s1 h_t_s2 h_t_s3)))))), (h_t_s0, .inr (3, [.int (v_sform 0), .int (v_ssize 0), .ref h_t_s0_items])), (h_t_s0_items, .inl (cI, 48, .inl (v_sitems 0))), (h_t_s1, .inr (3, [.int (v_sform 1), .int (v_ssize 1), .ref h_t_s1_items])), (h_t_s1_items, .inl (cI, 48, .inl (v_sitems 1))), (h_t_s2, .inr (3, [.int (v_sform 2), .int (v_ssize 2), .ref h_t_s2_items])), (h_t_s2_items, .inl (cI, 48, .inl (v_sitems 2))), (h_t_s3, .inr (3, [.int (v_sform 3), .int (v_ssize 3), .ref h_t_s3_items])), (h_t_s3_items, .inl (cI, 48, .inl (v_sitems 3)))]) (ws2 := (wd_X7_read cI cZ cP cS h_t h_t_red h_t_blue h_t_sky h_t_diary h_t_calendar h_t_awakeIn h_t_worths h_t_plants h_t_sheets h_t_bestFrom h_t_p0 h_t_p1 h_t_p2 h_t_p3 h_t_p0_growth h_t_p1_growth h_t_p2_growth h_t_p3_growth h_t_s0 h_t_s1 h_t_s2 h_t_s3 h_t_s0_items h_t_s1_items h_t_s2_items h_t_s3_items o35_67 v_phours v_pgrowth v_sform v_ssize v_sitems)) (va_runV (As := [.int 1]) (rest := []) ⟨hx, hb, hml, hown, hts⟩ (c_X7_found l dC dI cI cZ cP cS H.size h_t h_t_red h_t_blue h_t_sky h_t_diary h_t_calendar h_t_awakeIn h_t_worths h_t_plants h_t_sheets h_t_bestFrom v_latestFinding 1 n r35_66 o35_67 hc_68) (cwV 1 hts gX7_read_X7_found rfl rfl rfl (by decide +kernel) ⟨Nat.le_of_ble_eq_true rfl, Nat.le_of_ble_eq_true rfl⟩) (pv_rw (ci := 6) (q0 := 0) hK (hP.sub (ws' := (wd_X7_found cI cZ cP cS h_t h_t_red h_t_blue h_t_sky h_t_diary h_t_calendar h_t_awakeIn h_t_worths h_t_plants h_t_sheets h_t_bestFrom v_latestFinding)) [0] rfl) (hD.sub (ws' := (wd_X7_found cI cZ cP cS h_t h_t_red h_t_blue h_t_sky h_t_diary h_t_calendar h_t_awakeIn h_t_worths h_t_plants h_t_sheets h_t_bestFrom v_latestFinding)) [0] (by decide) rfl) rfl rfl) rfl rfl hl.1 rfl (lv_room (Nat.le_of_ble_eq_true rfl)) dX7_read_35 ⟨Nat.zero_le _, Nat.zero_le _⟩) hS hA hP hD rfl (by decide) (by decide) rfl (by decide) rfl rfl (fun H locs hP hD hS => ?_)
            have hq0 := Option.some.inj hf
            obtain ⟨eq0, hq1⟩ := Prod.mk.inj hq0
            obtain ⟨eq1, hq2⟩ := Prod.mk.inj hq1
            clear hf hq0 hq1
            subst eq0
            subst eq1
            subst hq2
            exact W.iret hx hb hr (fun t ht hW => ⟨⟨_, (), rfl, rfl, by rw [ht]; exact hP, va_K.moved hW.alike hK, hD⟩, hS.F ht⟩) hS.2.2 dX7_read_38
        · rw [if_neg c8_1] at hf e_47
          by_cases c8_2 : x2 = 2
          · rw [if_pos c8_2] at hf e_47
            subst e_47
            refine W.eq (g2 := F0 m 11 ls [.ref h_t_p2]) rfl ?_
            refine lv_astore (lv' := [(4, .ref h_t_p2), (3, .ref h_t_s1), (0, .ref h_t), (1, .int x1), (2, .int x2)]) hx hb dX7_read_11 hl (by decide) rfl (fun ls hl => ?_)
            refine lv_aload_n hx hb dX7_read_13 rfl (lv_at hl 1 rfl) ?_
            refine lv_ifnull hx hb dX7_read_14 ?_
            refine lv_aload hx hb dX7_read_17 (lv_at hl 0 rfl) ?_
            refine lv_ifnonnull (tgt := 25) hx hb dX7_read_19 (by decide) ?_
            refine lv_aload_n hx hb dX7_read_25 rfl (lv_at hl 1 rfl) ?_
            refine va_get (D := (dC, dI)) (ci := 3) (v := .int (v_sform 1)) (C := RX3) (T := TX3) (N := 3) hx hb hts hinX3 hown hK hP 13 rfl rfl 0 (by decide) (hts (.fieldLink RX7 222 "SecondSunrise$Sheet" "form" "I") (by decide +kernel)) (fun _ h9 => h9) rfl dX7_read_26 ?_
            refine lv_iconst (v := (-1)) hx hb dX7_read_29 (by decide) ?_
            refine lv_icmp_ne (tgt := 39) hx hb dX7_read_30 (by decide) (fun c30 => ?_) (fun c30 => ?_)
            · rw [if_neg c30] at hf
              refine lv_iconst (v := 0) hx hb dX7_read_39 (by decide) ?_
              refine lv_istore (lv' := [(5, .int 0), (4, .ref h_t_p2), (3, .ref h_t_s1), (0, .ref h_t), (1, .int x1), (2, .int x2)]) hx hb dX7_read_40 hl (by decide) rfl (fun ls hl => ?_)
              obtain ⟨kx42, ekx42, hf⟩ := jn2_e hf
              have hx42 : ∀ (z42_5 : Int32) (u42_pgrowth : Nat → Nat → Int32) (H : Heap) (locs : List Loc) (ls : Array Slot), lv_has ls 6 [(5, .int z42_5)] → va_P (dC, dI) vwCl (wd_X7_read cI cZ cP cS h_t h_t_red h_t_blue h_t_sky h_t_diary h_t_calendar h_t_awakeIn h_t_worths h_t_plants h_t_sheets h_t_bestFrom h_t_p0 h_t_p1 h_t_p2 h_t_p3 h_t_p0_growth h_t_p1_growth h_t_p2_growth h_t_p3_growth h_t_s0 h_t_s1 h_t_s2 h_t_s3 h_t_s0_items h_t_s1_items h_t_s2_items h_t_s3_items v_latestFinding v_phours u42_pgrowth v_sform v_ssize v_sitems) H → va_D (va_A (wd_X7_read cI cZ cP cS h_t h_t_red h_t_blue h_t_sky h_t_diary h_t_calendar h_t_awakeIn h_t_worths h_t_plants h_t_sheets h_t_bestFrom h_t_p0 h_t_p1 h_t_p2 h_t_p3 h_t_p0_growth h_t_p1_growth h_t_p2_growth h_t_p3_growth h_t_s0 h_t_s1 h_t_s2 h_t_s3 h_t_s0_items h_t_s1_items h_t_s2_items h_t_s3_items v_latestFinding v_phours v_pgrowth v_sform v_ssize v_sitems) s.heap.size) (wd_X7_read cI cZ cP cS h_t h_t_red h_t_blue h_t_sky h_t_diary h_t_calendar h_t_awakeIn h_t_worths h_t_plants h_t_sheets h_t_bestFrom h_t_p0 h_t_p1 h_t_p2 h_t_p3 h_t_p0_growth h_t_p1_growth h_t_p2_growth h_t_p3_growth h_t_s0 h_t_s1 h_t_s2 h_t_s3 h_t_s0_items h_t_s1_items h_t_s2_items h_t_s3_items v_latestFinding v_phours u42_pgrowth v_sform v_ssize v_sitems) → va_S (va_A (wd_X7_read cI cZ cP cS h_t h_t_red h_t_blue h_t_sky h_t_diary h_t_calendar h_t_awakeIn h_t_worths h_t_plants h_t_sheets h_t_bestFrom h_t_p0 h_t_p1 h_t_p2 h_t_p3 h_t_p0_growth h_t_p1_growth h_t_p2_growth h_t_p3_growth h_t_s0 h_t_s1 h_t_s2 h_t_s3 h_t_s0_items h_t_s1_items h_t_s2_items h_t_s3_items v_latestFinding v_phours v_pgrowth v_sform v_ssize v_sitems) s.heap.size) s.heap H locs → kx42 z42_5 u42_pgrowth = some (r, o_latestFinding, o_pgrowth) → W p l e (headSpec wsX7_read rm_X7_read).room s m ([.ref h_t, .int x1, .int x2] : List Value).toArray below meth c H locs 0 0 (MQ below (RWi (dC, dI) (TY cI cZ cP cS) r s.heap.size (wd_X7_read cI cZ cP cS h_t h_t_red h_t_blue h_t_sky h_t_diary h_t_calendar h_t_awakeIn h_t_worths h_t_plants h_t_sheets h_t_bestFrom h_t_p0 h_t_p1 h_t_p2 h_t_p3 h_t_p0_growth h_t_p1_growth h_t_p2_growth h_t_p3_growth h_t_s0 h_t_s1 h_t_s2 h_t_s3 h_t_s0_items h_t_s1_items h_t_s2_items h_t_s3_items v_latestFinding v_phours v_pgrowth v_sform v_ssize v_sitems) (wd_X7_read cI cZ cP cS h_t h_t_red h_t_blue h_t_sky h_t_diary h_t_calendar h_t_awakeIn h_t_worths h_t_plants h_t_sheets h_t_bestFrom h_t_p0 h_t_p1 h_t_p2 h_t_p3 h_t_p0_growth h_t_p1_growth h_t_p2_growth h_t_p3_growth h_t_s0 h_t_s1 h_t_s2 h_t_s3 h_t_s0_items h_t_s1_items h_t_s2_items h_t_s3_items o_latestFinding v_phours o_pgrowth v_sform v_ssize v_sitems)) ([.ref h_t, .int x1, .int x2] : List Value).toArray s 0 0 (va_A (wd_X7_read cI cZ cP cS h_t h_t_red h_t_blue h_t_sky h_t_diary h_t_calendar h_t_awakeIn h_t_worths h_t_plants h_t_sheets h_t_bestFrom h_t_p0 h_t_p1 h_t_p2 h_t_p3 h_t_p0_growth h_t_p1_growth h_t_p2_growth h_t_p3_growth h_t_s0 h_t_s1 h_t_s2 h_t_s3 h_t_s0_items h_t_s1_items h_t_s2_items h_t_s3_items v_latestFinding v_phours v_pgrowth v_sform v_ssize v_sitems) s.heap.size)) (F0 m 91 ls []) := by
                intro z42_5 u42_pgrowth H locs ls hl hP hD hS hf
                rw [ekx42] at hf
                refine lv_iload hx hb dX7_read_91 (lv_at hl 0 rfl) ?_
                have hq0 := Option.some.inj hf
                obtain ⟨eq0, hq1⟩ := Prod.mk.inj hq0
                obtain ⟨eq1, hq2⟩ := Prod.mk.inj hq1
                clear hf hq0 hq1
                subst eq0
                subst eq1
                subst hq2
                exact W.iret hx hb hr (fun t ht hW => ⟨⟨_, (), rfl, rfl, by rw [ht]; exact hP, va_K.moved hW.alike hK, hD⟩, hS.F ht⟩) hS.2.2 dX7_read_93
              have hL42 : ∀ (k42 : Nat) (y42_5 : Int32) (w42_pgrowth : Nat → Nat → Int32) (H : Heap) (locs : List Loc) (ls : Array Slot), lv_has ls 6 [(3, .ref h_t_s1), (4, .ref h_t_p2), (5, .int y42_5)] → va_P (dC, dI) vwCl (wd_X7_read cI cZ cP cS h_t h_t_red h_t_blue h_t_sky h_t_diary h_t_calendar h_t_awakeIn h_t_worths h_t_plants h_t_sheets h_t_bestFrom h_t_p0 h_t_p1 h_t_p2 h_t_p3 h_t_p0_growth h_t_p1_growth h_t_p2_growth h_t_p3_growth h_t_s0 h_t_s1 h_t_s2 h_t_s3 h_t_s0_items h_t_s1_items h_t_s2_items h_t_s3_items v_latestFinding v_phours w42_pgrowth v_sform v_ssize v_sitems) H → va_D (va_A (wd_X7_read cI cZ cP cS h_t h_t_red h_t_blue h_t_sky h_t_diary h_t_calendar h_t_awakeIn h_t_worths h_t_plants h_t_sheets h_t_bestFrom h_t_p0 h_t_p1 h_t_p2 h_t_p3 h_t_p0_growth h_t_p1_growth h_t_p2_growth h_t_p3_growth h_t_s0 h_t_s1 h_t_s2 h_t_s3 h_t_s0_items h_t_s1_items h_t_s2_items h_t_s3_items v_latestFinding v_phours v_pgrowth v_sform v_ssize v_sitems) s.heap.size) (wd_X7_read cI cZ cP cS h_t h_t_red h_t_blue h_t_sky h_t_diary h_t_calendar h_t_awakeIn h_t_worths h_t_plants h_t_sheets h_t_bestFrom h_t_p0 h_t_p1 h_t_p2 h_t_p3 h_t_p0_growth h_t_p1_growth h_t_p2_growth h_t_p3_growth h_t_s0 h_t_s1 h_t_s2 h_t_s3 h_t_s0_items h_t_s1_items h_t_s2_items h_t_s3_items v_latestFinding v_phours w42_pgrowth v_sform v_ssize v_sitems) → va_S (va_A (wd_X7_read cI cZ cP cS h_t h_t_red h_t_blue h_t_sky h_t_diary h_t_calendar h_t_awakeIn h_t_worths h_t_plants h_t_sheets h_t_bestFrom h_t_p0 h_t_p1 h_t_p2 h_t_p3 h_t_p0_growth h_t_p1_growth h_t_p2_growth h_t_p3_growth h_t_s0 h_t_s1 h_t_s2 h_t_s3 h_t_s0_items h_t_s1_items h_t_s2_items h_t_s3_items v_latestFinding v_phours v_pgrowth v_sform v_ssize v_sitems) s.heap.size) s.heap H locs → L_X7_read_42q7 n v_ssize v_sitems kx42 k42 y42_5 w42_pgrowth = some (r, o_latestFinding, o_pgrowth) → W p l e (headSpec wsX7_read rm_X7_read).room s m ([.ref h_t, .int x1, .int x2] : List Value).toArray below meth c H locs 0 0 (MQ below (RWi (dC, dI) (TY cI cZ cP cS) r s.heap.size (wd_X7_read cI cZ cP cS h_t h_t_red h_t_blue h_t_sky h_t_diary h_t_calendar h_t_awakeIn h_t_worths h_t_plants h_t_sheets h_t_bestFrom h_t_p0 h_t_p1 h_t_p2 h_t_p3 h_t_p0_growth h_t_p1_growth h_t_p2_growth h_t_p3_growth h_t_s0 h_t_s1 h_t_s2 h_t_s3 h_t_s0_items h_t_s1_items h_t_s2_items h_t_s3_items v_latestFinding v_phours v_pgrowth v_sform v_ssize v_sitems) (wd_X7_read cI cZ cP cS h_t h_t_red h_t_blue h_t_sky h_t_diary h_t_calendar h_t_awakeIn h_t_worths h_t_plants h_t_sheets h_t_bestFrom h_t_p0 h_t_p1 h_t_p2 h_t_p3 h_t_p0_growth h_t_p1_growth h_t_p2_growth h_t_p3_growth h_t_s0 h_t_s1 h_t_s2 h_t_s3 h_t_s0_items h_t_s1_items h_t_s2_items h_t_s3_items o_latestFinding v_phours o_pgrowth v_sform v_ssize v_sitems)) ([.ref h_t, .int x1, .int x2] : List Value).toArray s 0 0 (va_A (wd_X7_read cI cZ cP cS h_t h_t_red h_t_blue h_t_sky h_t_diary h_t_calendar h_t_awakeIn h_t_worths h_t_plants h_t_sheets h_t_bestFrom h_t_p0 h_t_p1 h_t_p2 h_t_p3 h_t_p0_growth h_t_p1_growth h_t_p2_growth h_t_p3_growth h_t_s0 h_t_s1 h_t_s2 h_t_s3 h_t_s0_items h_t_s1_items h_t_s2_items h_t_s3_items v_latestFinding v_phours v_pgrowth v_sform v_ssize v_sitems) s.heap.size)) (F0 m 42 ls []) := by
                intro k42
                induction k42 with
                | zero =>
                  intro y42_5 w42_pgrowth H locs ls hl hP hD hS hf
                  exact absurd hf (fun h => Option.some_ne_none _ h.symm)
                | succ k42 ih =>
                  intro y42_5 w42_pgrowth H locs ls hl hP hD hS hf
                  rw [L_X7_read_42q7_s] at hf
                  refine lv_iload hx hb dX7_read_42 (lv_at hl 2 rfl) ?_
                  refine lv_iconst (v := 4) hx hb dX7_read_44 (by decide) ?_
                  refine lv_icmp_ge (tgt := 91) hx hb dX7_read_45 (by decide) (fun c45 => ?_) (fun c45 => ?_)
                  · rw [if_pos c45] at hf
                    exact hx42 y42_5 w42_pgrowth H locs ls (lv_sub hl [2] rfl) hP hD hS hf
                  · rw [if_neg c45] at hf
                    refine lv_iload hx hb dX7_read_48 (lv_at hl 2 rfl) ?_
                    refine lv_aload_n hx hb dX7_read_50 rfl (lv_at hl 0 rfl) ?_
                    refine va_get (D := (dC, dI)) (ci := 3) (v := .int (v_ssize 1)) (C := RX3) (T := TX3) (N := 3) hx hb hts hinX3 hown hK hP 13 rfl rfl 1 (by decide) (hts (.fieldLink RX7 228 "SecondSunrise$Sheet" "size" "I") (by decide +kernel)) (fun _ h9 => h9) rfl dX7_read_51 ?_
                    refine lv_icmp_ge (tgt := 91) hx hb dX7_read_54 (by decide) (fun c54 => ?_) (fun c54 => ?_)
                    · rw [if_pos c54] at hf
                      exact hx42 y42_5 w42_pgrowth H locs ls (lv_sub hl [2] rfl) hP hD hS hf
                    · rw [if_neg c54] at hf
                      refine lv_aload_n hx hb dX7_read_57 rfl (lv_at hl 0 rfl) ?_
                      refine va_get (D := (dC, dI)) (ci := 3) (v := .ref h_t_s1_items) (C := RX3) (T := TX3) (N := 3) hx hb hts hinX3 hown hK hP 13 rfl rfl 2 (by decide) (hts (.fieldLink RX7 229 "SecondSunrise$Sheet" "items" "[I") (by decide +kernel)) (fun _ h9 => h9) rfl dX7_read_58 ?_
                      refine lv_iload hx hb dX7_read_61 (lv_at hl 2 rfl) ?_
                      obtain ⟨hi_70, hf⟩ := ix_e hf
                      refine va_iald hx hb hK hP 14 0 rfl rfl hi_70 dX7_read_63 ?_
                      obtain ⟨r64_71, hc_72, hf⟩ := bd1_e hf
                      refine vp_callSi (va_runS (As := [.int ((v_sitems 1) y42_5.toNatClampNeg)]) (rest := []) ⟨hx, hb, hml, hown, hts⟩ (c_X7_noGrowth l dC dI cI cZ cP cS   ((v_sitems 1) y42_5.toNatClampNeg) n r64_71 hc_72) (va_cwS 1 hts gX7_read_X7_noGrowth rfl rfl rfl (by decide +kernel) ⟨Nat.le_of_ble_eq_true rfl, Nat.le_of_ble_eq_true rfl⟩) (ps_ro hK (hP.sub (ws' := ([] : va_W)) [] rfl)) rfl rfl hl.1 rfl (lv_room (Nat.le_of_ble_eq_true rfl)) dX7_read_64 ⟨Nat.zero_le _, Nat.zero_le _⟩).run (fun x e_73 => ?_)
                      obtain ⟨e_73, hb_74⟩ := e_73
                      rw [e_73] at hb_74 ⊢
                      refine lv_if_ne (tgt := 91) hx hb dX7_read_67 (by decide) (fun c67 => ?_) (fun c67 => ?_)
                      · rw [if_neg c67] at hf
                        exact hx42 y42_5 w42_pgrowth H locs ls (lv_sub hl [2] rfl) hP hD hS hf
                      · rw [if_pos c67] at hf
                        refine lv_aload hx hb dX7_read_70 (lv_at hl 1 rfl) ?_
                        refine va_get (D := (dC, dI)) (ci := 2) (v := .ref h_t_p2_growth) (C := RX2) (T := TX2) (N := 2) hx hb hts hinX2 hown hK hP 6 rfl rfl 1 (by decide) (hts (.fieldLink RX7 215 "SecondSunrise$Plant" "growth" "[I") (by decide +kernel)) (fun _ h9 => h9) rfl dX7_read_72 ?_
                        refine lv_iload hx hb dX7_read_75 (lv_at hl 2 rfl) ?_
                        refine lv_aload_n hx hb dX7_read_77 rfl (lv_at hl 0 rfl) ?_
                        refine va_get (D := (dC, dI)) (ci := 3) (v := .ref h_t_s1_items) (C := RX3) (T := TX3) (N := 3) hx hb hts hinX3 hown hK hP 13 rfl rfl 2 (by decide) (hts (.fieldLink RX7 229 "SecondSunrise$Sheet" "items" "[I") (by decide +kernel)) (fun _ h9 => h9) rfl dX7_read_78 ?_
                        refine lv_iload hx hb dX7_read_81 (lv_at hl 2 rfl) ?_
                        obtain ⟨hi_75, hf⟩ := ix_e hf
                        refine va_iald hx hb hK hP 14 0 rfl rfl hi_75 dX7_read_83 ?_
                        obtain ⟨hi_76, hf⟩ := ix_e hf
                        refine va_iast hx hb hK hP hD hS 7 0 rfl rfl hi_76 dX7_read_84 (fun H locs hP hD hS => ?_)
                        have hP : va_P (dC, dI) vwCl (wd_X7_read cI cZ cP cS h_t h_t_red h_t_blue h_t_sky h_t_diary h_t_calendar h_t_awakeIn h_t_worths h_t_plants h_t_sheets h_t_bestFrom h_t_p0 h_t_p1 h_t_p2 h_t_p3 h_t_p0_growth h_t_p1_growth h_t_p2_growth h_t_p3_growth h_t_s0 h_t_s1 h_t_s2 h_t_s3 h_t_s0_items h_t_s1_items h_t_s2_items h_t_s3_items v_latestFinding v_phours (va_up w42_pgrowth 2 (upd (w42_pgrowth 2) y42_5.toNatClampNeg ((v_sitems 1) y42_5.toNatClampNeg))) v_sform v_ssize v_sitems) H := hP
                        have hD : va_D (va_A (wd_X7_read cI cZ cP cS h_t h_t_red h_t_blue h_t_sky h_t_diary h_t_calendar h_t_awakeIn h_t_worths h_t_plants h_t_sheets h_t_bestFrom h_t_p0 h_t_p1 h_t_p2 h_t_p3 h_t_p0_growth h_t_p1_growth h_t_p2_growth h_t_p3_growth h_t_s0 h_t_s1 h_t_s2 h_t_s3 h_t_s0_items h_t_s1_items h_t_s2_items h_t_s3_items v_latestFinding v_phours v_pgrowth v_sform v_ssize v_sitems) s.heap.size) (wd_X7_read cI cZ cP cS h_t h_t_red h_t_blue h_t_sky h_t_diary h_t_calendar h_t_awakeIn h_t_worths h_t_plants h_t_sheets h_t_bestFrom h_t_p0 h_t_p1 h_t_p2 h_t_p3 h_t_p0_growth h_t_p1_growth h_t_p2_growth h_t_p3_growth h_t_s0 h_t_s1 h_t_s2 h_t_s3 h_t_s0_items h_t_s1_items h_t_s2_items h_t_s3_items v_latestFinding v_phours (va_up w42_pgrowth 2 (upd (w42_pgrowth 2) y42_5.toNatClampNeg ((v_sitems 1) y42_5.toNatClampNeg))) v_sform v_ssize v_sitems) := hD
                        refine lv_iinc (v := (y42_5 + 1)) (lv' := [(5, .int (y42_5 + 1)), (3, .ref h_t_s1), (4, .ref h_t_p2)]) hx hb dX7_read_85 hl (k := 2) rfl rfl (by decide) rfl (fun ls hl => ?_)
                        refine lv_goto (tgt := 42) hx hb dX7_read_88 (by decide) ?_
                        exact ih (y42_5 + 1) (va_up w42_pgrowth 2 (upd (w42_pgrowth 2) y42_5.toNatClampNeg ((v_sitems 1) y42_5.toNatClampNeg))) H locs ls (lv_sub hl [1, 2, 0] rfl) hP hD hS hf
              exact hL42 n 0 v_pgrowth H locs ls (lv_sub hl [2, 1, 0] rfl) hP hD hS hf
            · rw [if_pos c30] at hf
              refine lv_aload_n hx hb dX7_read_33 rfl (lv_at hl 2 rfl) ?_
              refine lv_iconst (v := 1) hx hb dX7_read_34 (by decide) ?_
              obtain ⟨r35_77, o35_78, hc_79, hf⟩ := bd2_e hf
              refine rwi_call (isC := [0]) (isR := [1, 2, 3, 4, 5, 6, 7, 8, 9, 10, 11, 12, 13, 14, 15, 16, 17, 18]) (perm := [18, 0, 1, 2, 3, 4, 5, 6, 7, 8, 9, 10, 11, 12, 13, 14, 15, 16, 17]) (wr := [(h_t_plants, .inl (cP, 4, .inr (.inr (.inr (.inr (ar4 h_t_p0 h_t_p1 h_t_p2 h_t_p3)))))), (h_t_p0, .inr (2, [.int (v_phours 0), .ref h_t_p0_growth])), (h_t_p0_growth, .inl (cI, 4, .inl (v_pgrowth 0))), (h_t_p1, .inr (2, [.int (v_phours 1), .ref h_t_p1_growth])), (h_t_p1_growth, .inl (cI, 4, .inl (v_pgrowth 1))), (h_t_p2, .inr (2, [.int (v_phours 2), .ref h_t_p2_growth])), (h_t_p2_growth, .inl (cI, 4, .inl (v_pgrowth 2))), (h_t_p3, .inr (2, [.int (v_phours 3), .ref h_t_p3_growth])), (h_t_p3_growth, .inl (cI, 4, .inl (v_pgrowth 3))), (h_t_sheets, .inl (cS, 4, .inr (.inr (.inr (.inr (ar4 h_t_s0 h_t_s1 h_t_s2 h_t_s3)))))), (h_t_s0, .inr (3, [.int (v_sform 0), .int (v_ssize 0), .ref h_t_s0_items])), (h_t_s0_items, .inl (cI, 48, .inl (v_sitems 0))), (h_t_s1, .inr (3, [.int (v_sform 1), .int (v_ssize 1), .ref h_t_s1_items])), (h_t_s1_items, .inl (cI, 48, .inl (v_sitems 1))), (h_t_s2, .inr (3, [.int (v_sform 2), .int (v_ssize 2), .ref h_t_s2_items])), (h_t_s2_items, .inl (cI, 48, .inl (v_sitems 2))), (h_t_s3, .inr (3, [.int (v_sform 3), .int (v_ssize 3), .ref h_t_s3_items])), (h_t_s3_items, .inl (cI, 48, .inl (v_sitems 3)))]) (ws2 := (wd_X7_read cI cZ cP cS h_t h_t_red h_t_blue h_t_sky h_t_diary h_t_calendar h_t_awakeIn h_t_worths h_t_plants h_t_sheets h_t_bestFrom h_t_p0 h_t_p1 h_t_p2 h_t_p3 h_t_p0_growth h_t_p1_growth h_t_p2_growth h_t_p3_growth h_t_s0 h_t_s1 h_t_s2 h_t_s3 h_t_s0_items h_t_s1_items h_t_s2_items h_t_s3_items o35_78 v_phours v_pgrowth v_sform v_ssize v_sitems)) (va_runV (As := [.int 1]) (rest := []) ⟨hx, hb, hml, hown, hts⟩ (c_X7_found l dC dI cI cZ cP cS H.size h_t h_t_red h_t_blue h_t_sky h_t_diary h_t_calendar h_t_awakeIn h_t_worths h_t_plants h_t_sheets h_t_bestFrom v_latestFinding 1 n r35_77 o35_78 hc_79) (cwV 1 hts gX7_read_X7_found rfl rfl rfl (by decide +kernel) ⟨Nat.le_of_ble_eq_true rfl, Nat.le_of_ble_eq_true rfl⟩) (pv_rw (ci := 6) (q0 := 0) hK (hP.sub (ws' := (wd_X7_found cI cZ cP cS h_t h_t_red h_t_blue h_t_sky h_t_diary h_t_calendar h_t_awakeIn h_t_worths h_t_plants h_t_sheets h_t_bestFrom v_latestFinding)) [0] rfl) (hD.sub (ws' := (wd_X7_found cI cZ cP cS h_t h_t_red h_t_blue h_t_sky h_t_diary h_t_calendar h_t_awakeIn h_t_worths h_t_plants h_t_sheets h_t_bestFrom v_latestFinding)) [0] (by decide) rfl) rfl rfl) rfl rfl hl.1 rfl (lv_room (Nat.le_of_ble_eq_true rfl)) dX7_read_35 ⟨Nat.zero_le _, Nat.zero_le _⟩) hS hA hP hD rfl (by decide) (by decide) rfl (by decide) rfl rfl (fun H locs hP hD hS => ?_)
              have hq0 := Option.some.inj hf
              obtain ⟨eq0, hq1⟩ := Prod.mk.inj hq0
              obtain ⟨eq1, hq2⟩ := Prod.mk.inj hq1
              clear hf hq0 hq1
              subst eq0
              subst eq1
              subst hq2
              exact W.iret hx hb hr (fun t ht hW => ⟨⟨_, (), rfl, rfl, by rw [ht]; exact hP, va_K.moved hW.alike hK, hD⟩, hS.F ht⟩) hS.2.2 dX7_read_38
          · rw [if_neg c8_2] at hf e_47
            by_cases c8_3 : x2 = 3
            · rw [if_pos c8_3] at hf e_47
              subst e_47
              refine W.eq (g2 := F0 m 11 ls [.ref h_t_p3]) rfl ?_
              refine lv_astore (lv' := [(4, .ref h_t_p3), (3, .ref h_t_s1), (0, .ref h_t), (1, .int x1), (2, .int x2)]) hx hb dX7_read_11 hl (by decide) rfl (fun ls hl => ?_)
              refine lv_aload_n hx hb dX7_read_13 rfl (lv_at hl 1 rfl) ?_
              refine lv_ifnull hx hb dX7_read_14 ?_
              refine lv_aload hx hb dX7_read_17 (lv_at hl 0 rfl) ?_
              refine lv_ifnonnull (tgt := 25) hx hb dX7_read_19 (by decide) ?_
              refine lv_aload_n hx hb dX7_read_25 rfl (lv_at hl 1 rfl) ?_
              refine va_get (D := (dC, dI)) (ci := 3) (v := .int (v_sform 1)) (C := RX3) (T := TX3) (N := 3) hx hb hts hinX3 hown hK hP 13 rfl rfl 0 (by decide) (hts (.fieldLink RX7 222 "SecondSunrise$Sheet" "form" "I") (by decide +kernel)) (fun _ h9 => h9) rfl dX7_read_26 ?_
              refine lv_iconst (v := (-1)) hx hb dX7_read_29 (by decide) ?_
              refine lv_icmp_ne (tgt := 39) hx hb dX7_read_30 (by decide) (fun c30 => ?_) (fun c30 => ?_)
              · rw [if_neg c30] at hf
                refine lv_iconst (v := 0) hx hb dX7_read_39 (by decide) ?_
                refine lv_istore (lv' := [(5, .int 0), (4, .ref h_t_p3), (3, .ref h_t_s1), (0, .ref h_t), (1, .int x1), (2, .int x2)]) hx hb dX7_read_40 hl (by decide) rfl (fun ls hl => ?_)
                obtain ⟨kx42, ekx42, hf⟩ := jn2_e hf
                have hx42 : ∀ (z42_5 : Int32) (u42_pgrowth : Nat → Nat → Int32) (H : Heap) (locs : List Loc) (ls : Array Slot), lv_has ls 6 [(5, .int z42_5)] → va_P (dC, dI) vwCl (wd_X7_read cI cZ cP cS h_t h_t_red h_t_blue h_t_sky h_t_diary h_t_calendar h_t_awakeIn h_t_worths h_t_plants h_t_sheets h_t_bestFrom h_t_p0 h_t_p1 h_t_p2 h_t_p3 h_t_p0_growth h_t_p1_growth h_t_p2_growth h_t_p3_growth h_t_s0 h_t_s1 h_t_s2 h_t_s3 h_t_s0_items h_t_s1_items h_t_s2_items h_t_s3_items v_latestFinding v_phours u42_pgrowth v_sform v_ssize v_sitems) H → va_D (va_A (wd_X7_read cI cZ cP cS h_t h_t_red h_t_blue h_t_sky h_t_diary h_t_calendar h_t_awakeIn h_t_worths h_t_plants h_t_sheets h_t_bestFrom h_t_p0 h_t_p1 h_t_p2 h_t_p3 h_t_p0_growth h_t_p1_growth h_t_p2_growth h_t_p3_growth h_t_s0 h_t_s1 h_t_s2 h_t_s3 h_t_s0_items h_t_s1_items h_t_s2_items h_t_s3_items v_latestFinding v_phours v_pgrowth v_sform v_ssize v_sitems) s.heap.size) (wd_X7_read cI cZ cP cS h_t h_t_red h_t_blue h_t_sky h_t_diary h_t_calendar h_t_awakeIn h_t_worths h_t_plants h_t_sheets h_t_bestFrom h_t_p0 h_t_p1 h_t_p2 h_t_p3 h_t_p0_growth h_t_p1_growth h_t_p2_growth h_t_p3_growth h_t_s0 h_t_s1 h_t_s2 h_t_s3 h_t_s0_items h_t_s1_items h_t_s2_items h_t_s3_items v_latestFinding v_phours u42_pgrowth v_sform v_ssize v_sitems) → va_S (va_A (wd_X7_read cI cZ cP cS h_t h_t_red h_t_blue h_t_sky h_t_diary h_t_calendar h_t_awakeIn h_t_worths h_t_plants h_t_sheets h_t_bestFrom h_t_p0 h_t_p1 h_t_p2 h_t_p3 h_t_p0_growth h_t_p1_growth h_t_p2_growth h_t_p3_growth h_t_s0 h_t_s1 h_t_s2 h_t_s3 h_t_s0_items h_t_s1_items h_t_s2_items h_t_s3_items v_latestFinding v_phours v_pgrowth v_sform v_ssize v_sitems) s.heap.size) s.heap H locs → kx42 z42_5 u42_pgrowth = some (r, o_latestFinding, o_pgrowth) → W p l e (headSpec wsX7_read rm_X7_read).room s m ([.ref h_t, .int x1, .int x2] : List Value).toArray below meth c H locs 0 0 (MQ below (RWi (dC, dI) (TY cI cZ cP cS) r s.heap.size (wd_X7_read cI cZ cP cS h_t h_t_red h_t_blue h_t_sky h_t_diary h_t_calendar h_t_awakeIn h_t_worths h_t_plants h_t_sheets h_t_bestFrom h_t_p0 h_t_p1 h_t_p2 h_t_p3 h_t_p0_growth h_t_p1_growth h_t_p2_growth h_t_p3_growth h_t_s0 h_t_s1 h_t_s2 h_t_s3 h_t_s0_items h_t_s1_items h_t_s2_items h_t_s3_items v_latestFinding v_phours v_pgrowth v_sform v_ssize v_sitems) (wd_X7_read cI cZ cP cS h_t h_t_red h_t_blue h_t_sky h_t_diary h_t_calendar h_t_awakeIn h_t_worths h_t_plants h_t_sheets h_t_bestFrom h_t_p0 h_t_p1 h_t_p2 h_t_p3 h_t_p0_growth h_t_p1_growth h_t_p2_growth h_t_p3_growth h_t_s0 h_t_s1 h_t_s2 h_t_s3 h_t_s0_items h_t_s1_items h_t_s2_items h_t_s3_items o_latestFinding v_phours o_pgrowth v_sform v_ssize v_sitems)) ([.ref h_t, .int x1, .int x2] : List Value).toArray s 0 0 (va_A (wd_X7_read cI cZ cP cS h_t h_t_red h_t_blue h_t_sky h_t_diary h_t_calendar h_t_awakeIn h_t_worths h_t_plants h_t_sheets h_t_bestFrom h_t_p0 h_t_p1 h_t_p2 h_t_p3 h_t_p0_growth h_t_p1_growth h_t_p2_growth h_t_p3_growth h_t_s0 h_t_s1 h_t_s2 h_t_s3 h_t_s0_items h_t_s1_items h_t_s2_items h_t_s3_items v_latestFinding v_phours v_pgrowth v_sform v_ssize v_sitems) s.heap.size)) (F0 m 91 ls []) := by
                  intro z42_5 u42_pgrowth H locs ls hl hP hD hS hf
                  rw [ekx42] at hf
                  refine lv_iload hx hb dX7_read_91 (lv_at hl 0 rfl) ?_
                  have hq0 := Option.some.inj hf
                  obtain ⟨eq0, hq1⟩ := Prod.mk.inj hq0
                  obtain ⟨eq1, hq2⟩ := Prod.mk.inj hq1
                  clear hf hq0 hq1
                  subst eq0
                  subst eq1
                  subst hq2
                  exact W.iret hx hb hr (fun t ht hW => ⟨⟨_, (), rfl, rfl, by rw [ht]; exact hP, va_K.moved hW.alike hK, hD⟩, hS.F ht⟩) hS.2.2 dX7_read_93
                have hL42 : ∀ (k42 : Nat) (y42_5 : Int32) (w42_pgrowth : Nat → Nat → Int32) (H : Heap) (locs : List Loc) (ls : Array Slot), lv_has ls 6 [(3, .ref h_t_s1), (4, .ref h_t_p3), (5, .int y42_5)] → va_P (dC, dI) vwCl (wd_X7_read cI cZ cP cS h_t h_t_red h_t_blue h_t_sky h_t_diary h_t_calendar h_t_awakeIn h_t_worths h_t_plants h_t_sheets h_t_bestFrom h_t_p0 h_t_p1 h_t_p2 h_t_p3 h_t_p0_growth h_t_p1_growth h_t_p2_growth h_t_p3_growth h_t_s0 h_t_s1 h_t_s2 h_t_s3 h_t_s0_items h_t_s1_items h_t_s2_items h_t_s3_items v_latestFinding v_phours w42_pgrowth v_sform v_ssize v_sitems) H → va_D (va_A (wd_X7_read cI cZ cP cS h_t h_t_red h_t_blue h_t_sky h_t_diary h_t_calendar h_t_awakeIn h_t_worths h_t_plants h_t_sheets h_t_bestFrom h_t_p0 h_t_p1 h_t_p2 h_t_p3 h_t_p0_growth h_t_p1_growth h_t_p2_growth h_t_p3_growth h_t_s0 h_t_s1 h_t_s2 h_t_s3 h_t_s0_items h_t_s1_items h_t_s2_items h_t_s3_items v_latestFinding v_phours v_pgrowth v_sform v_ssize v_sitems) s.heap.size) (wd_X7_read cI cZ cP cS h_t h_t_red h_t_blue h_t_sky h_t_diary h_t_calendar h_t_awakeIn h_t_worths h_t_plants h_t_sheets h_t_bestFrom h_t_p0 h_t_p1 h_t_p2 h_t_p3 h_t_p0_growth h_t_p1_growth h_t_p2_growth h_t_p3_growth h_t_s0 h_t_s1 h_t_s2 h_t_s3 h_t_s0_items h_t_s1_items h_t_s2_items h_t_s3_items v_latestFinding v_phours w42_pgrowth v_sform v_ssize v_sitems) → va_S (va_A (wd_X7_read cI cZ cP cS h_t h_t_red h_t_blue h_t_sky h_t_diary h_t_calendar h_t_awakeIn h_t_worths h_t_plants h_t_sheets h_t_bestFrom h_t_p0 h_t_p1 h_t_p2 h_t_p3 h_t_p0_growth h_t_p1_growth h_t_p2_growth h_t_p3_growth h_t_s0 h_t_s1 h_t_s2 h_t_s3 h_t_s0_items h_t_s1_items h_t_s2_items h_t_s3_items v_latestFinding v_phours v_pgrowth v_sform v_ssize v_sitems) s.heap.size) s.heap H locs → L_X7_read_42q8 n v_ssize v_sitems kx42 k42 y42_5 w42_pgrowth = some (r, o_latestFinding, o_pgrowth) → W p l e (headSpec wsX7_read rm_X7_read).room s m ([.ref h_t, .int x1, .int x2] : List Value).toArray below meth c H locs 0 0 (MQ below (RWi (dC, dI) (TY cI cZ cP cS) r s.heap.size (wd_X7_read cI cZ cP cS h_t h_t_red h_t_blue h_t_sky h_t_diary h_t_calendar h_t_awakeIn h_t_worths h_t_plants h_t_sheets h_t_bestFrom h_t_p0 h_t_p1 h_t_p2 h_t_p3 h_t_p0_growth h_t_p1_growth h_t_p2_growth h_t_p3_growth h_t_s0 h_t_s1 h_t_s2 h_t_s3 h_t_s0_items h_t_s1_items h_t_s2_items h_t_s3_items v_latestFinding v_phours v_pgrowth v_sform v_ssize v_sitems) (wd_X7_read cI cZ cP cS h_t h_t_red h_t_blue h_t_sky h_t_diary h_t_calendar h_t_awakeIn h_t_worths h_t_plants h_t_sheets h_t_bestFrom h_t_p0 h_t_p1 h_t_p2 h_t_p3 h_t_p0_growth h_t_p1_growth h_t_p2_growth h_t_p3_growth h_t_s0 h_t_s1 h_t_s2 h_t_s3 h_t_s0_items h_t_s1_items h_t_s2_items h_t_s3_items o_latestFinding v_phours o_pgrowth v_sform v_ssize v_sitems)) ([.ref h_t, .int x1, .int x2] : List Value).toArray s 0 0 (va_A (wd_X7_read cI cZ cP cS h_t h_t_red h_t_blue h_t_sky h_t_diary h_t_calendar h_t_awakeIn h_t_worths h_t_plants h_t_sheets h_t_bestFrom h_t_p0 h_t_p1 h_t_p2 h_t_p3 h_t_p0_growth h_t_p1_growth h_t_p2_growth h_t_p3_growth h_t_s0 h_t_s1 h_t_s2 h_t_s3 h_t_s0_items h_t_s1_items h_t_s2_items h_t_s3_items v_latestFinding v_phours v_pgrowth v_sform v_ssize v_sitems) s.heap.size)) (F0 m 42 ls []) := by
                  intro k42
                  induction k42 with
                  | zero =>
                    intro y42_5 w42_pgrowth H locs ls hl hP hD hS hf
                    exact absurd hf (fun h => Option.some_ne_none _ h.symm)
                  | succ k42 ih =>
                    intro y42_5 w42_pgrowth H locs ls hl hP hD hS hf
                    rw [L_X7_read_42q8_s] at hf
                    refine lv_iload hx hb dX7_read_42 (lv_at hl 2 rfl) ?_
                    refine lv_iconst (v := 4) hx hb dX7_read_44 (by decide) ?_
                    refine lv_icmp_ge (tgt := 91) hx hb dX7_read_45 (by decide) (fun c45 => ?_) (fun c45 => ?_)
                    · rw [if_pos c45] at hf
                      exact hx42 y42_5 w42_pgrowth H locs ls (lv_sub hl [2] rfl) hP hD hS hf
                    · rw [if_neg c45] at hf
                      refine lv_iload hx hb dX7_read_48 (lv_at hl 2 rfl) ?_
                      refine lv_aload_n hx hb dX7_read_50 rfl (lv_at hl 0 rfl) ?_
                      refine va_get (D := (dC, dI)) (ci := 3) (v := .int (v_ssize 1)) (C := RX3) (T := TX3) (N := 3) hx hb hts hinX3 hown hK hP 13 rfl rfl 1 (by decide) (hts (.fieldLink RX7 228 "SecondSunrise$Sheet" "size" "I") (by decide +kernel)) (fun _ h9 => h9) rfl dX7_read_51 ?_
                      refine lv_icmp_ge (tgt := 91) hx hb dX7_read_54 (by decide) (fun c54 => ?_) (fun c54 => ?_)
                      · rw [if_pos c54] at hf
                        exact hx42 y42_5 w42_pgrowth H locs ls (lv_sub hl [2] rfl) hP hD hS hf
                      · rw [if_neg c54] at hf
                        refine lv_aload_n hx hb dX7_read_57 rfl (lv_at hl 0 rfl) ?_
                        refine va_get (D := (dC, dI)) (ci := 3) (v := .ref h_t_s1_items) (C := RX3) (T := TX3) (N := 3) hx hb hts hinX3 hown hK hP 13 rfl rfl 2 (by decide) (hts (.fieldLink RX7 229 "SecondSunrise$Sheet" "items" "[I") (by decide +kernel)) (fun _ h9 => h9) rfl dX7_read_58 ?_
                        refine lv_iload hx hb dX7_read_61 (lv_at hl 2 rfl) ?_
                        obtain ⟨hi_81, hf⟩ := ix_e hf
                        refine va_iald hx hb hK hP 14 0 rfl rfl hi_81 dX7_read_63 ?_
                        obtain ⟨r64_82, hc_83, hf⟩ := bd1_e hf
                        refine vp_callSi (va_runS (As := [.int ((v_sitems 1) y42_5.toNatClampNeg)]) (rest := []) ⟨hx, hb, hml, hown, hts⟩ (c_X7_noGrowth l dC dI cI cZ cP cS   ((v_sitems 1) y42_5.toNatClampNeg) n r64_82 hc_83) (va_cwS 1 hts gX7_read_X7_noGrowth rfl rfl rfl (by decide +kernel) ⟨Nat.le_of_ble_eq_true rfl, Nat.le_of_ble_eq_true rfl⟩) (ps_ro hK (hP.sub (ws' := ([] : va_W)) [] rfl)) rfl rfl hl.1 rfl (lv_room (Nat.le_of_ble_eq_true rfl)) dX7_read_64 ⟨Nat.zero_le _, Nat.zero_le _⟩).run (fun x e_84 => ?_)
                        obtain ⟨e_84, hb_85⟩ := e_84
                        rw [e_84] at hb_85 ⊢
                        refine lv_if_ne (tgt := 91) hx hb dX7_read_67 (by decide) (fun c67 => ?_) (fun c67 => ?_)
                        · rw [if_neg c67] at hf
                          exact hx42 y42_5 w42_pgrowth H locs ls (lv_sub hl [2] rfl) hP hD hS hf
                        · rw [if_pos c67] at hf
                          refine lv_aload hx hb dX7_read_70 (lv_at hl 1 rfl) ?_
                          refine va_get (D := (dC, dI)) (ci := 2) (v := .ref h_t_p3_growth) (C := RX2) (T := TX2) (N := 2) hx hb hts hinX2 hown hK hP 8 rfl rfl 1 (by decide) (hts (.fieldLink RX7 215 "SecondSunrise$Plant" "growth" "[I") (by decide +kernel)) (fun _ h9 => h9) rfl dX7_read_72 ?_
                          refine lv_iload hx hb dX7_read_75 (lv_at hl 2 rfl) ?_
                          refine lv_aload_n hx hb dX7_read_77 rfl (lv_at hl 0 rfl) ?_
                          refine va_get (D := (dC, dI)) (ci := 3) (v := .ref h_t_s1_items) (C := RX3) (T := TX3) (N := 3) hx hb hts hinX3 hown hK hP 13 rfl rfl 2 (by decide) (hts (.fieldLink RX7 229 "SecondSunrise$Sheet" "items" "[I") (by decide +kernel)) (fun _ h9 => h9) rfl dX7_read_78 ?_
                          refine lv_iload hx hb dX7_read_81 (lv_at hl 2 rfl) ?_
                          obtain ⟨hi_86, hf⟩ := ix_e hf
                          refine va_iald hx hb hK hP 14 0 rfl rfl hi_86 dX7_read_83 ?_
                          obtain ⟨hi_87, hf⟩ := ix_e hf
                          refine va_iast hx hb hK hP hD hS 9 0 rfl rfl hi_87 dX7_read_84 (fun H locs hP hD hS => ?_)
                          have hP : va_P (dC, dI) vwCl (wd_X7_read cI cZ cP cS h_t h_t_red h_t_blue h_t_sky h_t_diary h_t_calendar h_t_awakeIn h_t_worths h_t_plants h_t_sheets h_t_bestFrom h_t_p0 h_t_p1 h_t_p2 h_t_p3 h_t_p0_growth h_t_p1_growth h_t_p2_growth h_t_p3_growth h_t_s0 h_t_s1 h_t_s2 h_t_s3 h_t_s0_items h_t_s1_items h_t_s2_items h_t_s3_items v_latestFinding v_phours (va_up w42_pgrowth 3 (upd (w42_pgrowth 3) y42_5.toNatClampNeg ((v_sitems 1) y42_5.toNatClampNeg))) v_sform v_ssize v_sitems) H := hP
                          have hD : va_D (va_A (wd_X7_read cI cZ cP cS h_t h_t_red h_t_blue h_t_sky h_t_diary h_t_calendar h_t_awakeIn h_t_worths h_t_plants h_t_sheets h_t_bestFrom h_t_p0 h_t_p1 h_t_p2 h_t_p3 h_t_p0_growth h_t_p1_growth h_t_p2_growth h_t_p3_growth h_t_s0 h_t_s1 h_t_s2 h_t_s3 h_t_s0_items h_t_s1_items h_t_s2_items h_t_s3_items v_latestFinding v_phours v_pgrowth v_sform v_ssize v_sitems) s.heap.size) (wd_X7_read cI cZ cP cS h_t h_t_red h_t_blue h_t_sky h_t_diary h_t_calendar h_t_awakeIn h_t_worths h_t_plants h_t_sheets h_t_bestFrom h_t_p0 h_t_p1 h_t_p2 h_t_p3 h_t_p0_growth h_t_p1_growth h_t_p2_growth h_t_p3_growth h_t_s0 h_t_s1 h_t_s2 h_t_s3 h_t_s0_items h_t_s1_items h_t_s2_items h_t_s3_items v_latestFinding v_phours (va_up w42_pgrowth 3 (upd (w42_pgrowth 3) y42_5.toNatClampNeg ((v_sitems 1) y42_5.toNatClampNeg))) v_sform v_ssize v_sitems) := hD
                          refine lv_iinc (v := (y42_5 + 1)) (lv' := [(5, .int (y42_5 + 1)), (3, .ref h_t_s1), (4, .ref h_t_p3)]) hx hb dX7_read_85 hl (k := 2) rfl rfl (by decide) rfl (fun ls hl => ?_)
                          refine lv_goto (tgt := 42) hx hb dX7_read_88 (by decide) ?_
                          exact ih (y42_5 + 1) (va_up w42_pgrowth 3 (upd (w42_pgrowth 3) y42_5.toNatClampNeg ((v_sitems 1) y42_5.toNatClampNeg))) H locs ls (lv_sub hl [1, 2, 0] rfl) hP hD hS hf
                exact hL42 n 0 v_pgrowth H locs ls (lv_sub hl [2, 1, 0] rfl) hP hD hS hf
              · rw [if_pos c30] at hf
                refine lv_aload_n hx hb dX7_read_33 rfl (lv_at hl 2 rfl) ?_
                refine lv_iconst (v := 1) hx hb dX7_read_34 (by decide) ?_
                obtain ⟨r35_88, o35_89, hc_90, hf⟩ := bd2_e hf
                refine rwi_call (isC := [0]) (isR := [1, 2, 3, 4, 5, 6, 7, 8, 9, 10, 11, 12, 13, 14, 15, 16, 17, 18]) (perm := [18, 0, 1, 2, 3, 4, 5, 6, 7, 8, 9, 10, 11, 12, 13, 14, 15, 16, 17]) (wr := [(h_t_plants, .inl (cP, 4, .inr (.inr (.inr (.inr (ar4 h_t_p0 h_t_p1 h_t_p2 h_t_p3)))))), (h_t_p0, .inr (2, [.int (v_phours 0), .ref h_t_p0_growth])), (h_t_p0_growth, .inl (cI, 4, .inl (v_pgrowth 0))), (h_t_p1, .inr (2, [.int (v_phours 1), .ref h_t_p1_growth])), (h_t_p1_growth, .inl (cI, 4, .inl (v_pgrowth 1))), (h_t_p2, .inr (2, [.int (v_phours 2), .ref h_t_p2_growth])), (h_t_p2_growth, .inl (cI, 4, .inl (v_pgrowth 2))), (h_t_p3, .inr (2, [.int (v_phours 3), .ref h_t_p3_growth])), (h_t_p3_growth, .inl (cI, 4, .inl (v_pgrowth 3))), (h_t_sheets, .inl (cS, 4, .inr (.inr (.inr (.inr (ar4 h_t_s0 h_t_s1 h_t_s2 h_t_s3)))))), (h_t_s0, .inr (3, [.int (v_sform 0), .int (v_ssize 0), .ref h_t_s0_items])), (h_t_s0_items, .inl (cI, 48, .inl (v_sitems 0))), (h_t_s1, .inr (3, [.int (v_sform 1), .int (v_ssize 1), .ref h_t_s1_items])), (h_t_s1_items, .inl (cI, 48, .inl (v_sitems 1))), (h_t_s2, .inr (3, [.int (v_sform 2), .int (v_ssize 2), .ref h_t_s2_items])), (h_t_s2_items, .inl (cI, 48, .inl (v_sitems 2))), (h_t_s3, .inr (3, [.int (v_sform 3), .int (v_ssize 3), .ref h_t_s3_items])), (h_t_s3_items, .inl (cI, 48, .inl (v_sitems 3)))]) (ws2 := (wd_X7_read cI cZ cP cS h_t h_t_red h_t_blue h_t_sky h_t_diary h_t_calendar h_t_awakeIn h_t_worths h_t_plants h_t_sheets h_t_bestFrom h_t_p0 h_t_p1 h_t_p2 h_t_p3 h_t_p0_growth h_t_p1_growth h_t_p2_growth h_t_p3_growth h_t_s0 h_t_s1 h_t_s2 h_t_s3 h_t_s0_items h_t_s1_items h_t_s2_items h_t_s3_items o35_89 v_phours v_pgrowth v_sform v_ssize v_sitems)) (va_runV (As := [.int 1]) (rest := []) ⟨hx, hb, hml, hown, hts⟩ (c_X7_found l dC dI cI cZ cP cS H.size h_t h_t_red h_t_blue h_t_sky h_t_diary h_t_calendar h_t_awakeIn h_t_worths h_t_plants h_t_sheets h_t_bestFrom v_latestFinding 1 n r35_88 o35_89 hc_90) (cwV 1 hts gX7_read_X7_found rfl rfl rfl (by decide +kernel) ⟨Nat.le_of_ble_eq_true rfl, Nat.le_of_ble_eq_true rfl⟩) (pv_rw (ci := 6) (q0 := 0) hK (hP.sub (ws' := (wd_X7_found cI cZ cP cS h_t h_t_red h_t_blue h_t_sky h_t_diary h_t_calendar h_t_awakeIn h_t_worths h_t_plants h_t_sheets h_t_bestFrom v_latestFinding)) [0] rfl) (hD.sub (ws' := (wd_X7_found cI cZ cP cS h_t h_t_red h_t_blue h_t_sky h_t_diary h_t_calendar h_t_awakeIn h_t_worths h_t_plants h_t_sheets h_t_bestFrom v_latestFinding)) [0] (by decide) rfl) rfl rfl) rfl rfl hl.1 rfl (lv_room (Nat.le_of_ble_eq_true rfl)) dX7_read_35 ⟨Nat.zero_le _, Nat.zero_le _⟩) hS hA hP hD rfl (by decide) (by decide) rfl (by decide) rfl rfl (fun H locs hP hD hS => ?_)
                have hq0 := Option.some.inj hf
                obtain ⟨eq0, hq1⟩ := Prod.mk.inj hq0
                obtain ⟨eq1, hq2⟩ := Prod.mk.inj hq1
                clear hf hq0 hq1
                subst eq0
                subst eq1
                subst hq2
                exact W.iret hx hb hr (fun t ht hW => ⟨⟨_, (), rfl, rfl, by rw [ht]; exact hP, va_K.moved hW.alike hK, hD⟩, hS.F ht⟩) hS.2.2 dX7_read_38
            · rw [if_neg c8_3] at hf e_47
              subst e_47
              refine W.eq (g2 := F0 m 11 ls [.null]) rfl ?_
              refine lv_astoreN (lv' := [(4, .null), (3, .ref h_t_s1), (0, .ref h_t), (1, .int x1), (2, .int x2)]) hx hb dX7_read_11 hl (by decide) rfl (fun ls hl => ?_)
              refine lv_aload_n hx hb dX7_read_13 rfl (lv_at hl 1 rfl) ?_
              refine lv_ifnull hx hb dX7_read_14 ?_
              refine lv_aloadN hx hb dX7_read_17 (lv_at hl 0 rfl) ?_
              refine lv_ifnonnullN hx hb dX7_read_19 ?_
              refine lv_bipush (v := (-2)) hx hb dX7_read_22 (by decide) ?_
              have hq0 := Option.some.inj hf
              obtain ⟨eq0, hq1⟩ := Prod.mk.inj hq0
              obtain ⟨eq1, hq2⟩ := Prod.mk.inj hq1
              clear hf hq0 hq1
              subst eq0
              subst eq1
              subst hq2
              exact W.iret hx hb hr (fun t ht hW => ⟨⟨_, (), rfl, rfl, by rw [ht]; exact hP, va_K.moved hW.alike hK, hD⟩, hS.F ht⟩) hS.2.2 dX7_read_24
    · rw [if_neg c2_1] at hf e_1
      by_cases c2_2 : x1 = 2
      · rw [if_pos c2_2] at hf e_1
        subst e_1
        refine W.eq (g2 := F0 m 5 ls [.ref h_t_s2]) rfl ?_
        refine lv_astore_n (lv' := [(3, .ref h_t_s2), (0, .ref h_t), (1, .int x1), (2, .int x2)]) hx hb dX7_read_5 rfl hl (by decide) rfl (fun ls hl => ?_)
        refine lv_aload_n hx hb dX7_read_6 rfl (lv_at hl 1 rfl) ?_
        refine lv_iload_n hx hb dX7_read_7 rfl (lv_at hl 3 rfl) ?_
        refine va_csq (va_runV (As := [.int x2]) (rest := []) ⟨hx, hb, hml, hown, hts⟩ (c_X7_plantOf l dC dI cI cZ cP cS h_t h_t_red h_t_blue h_t_sky h_t_diary h_t_calendar h_t_awakeIn h_t_worths h_t_plants h_t_sheets h_t_bestFrom h_t_p0 h_t_p1 h_t_p2 h_t_p3 v_latestFinding x2) (cwV 1 hts gX7_read_X7_plantOf rfl rfl rfl (by decide +kernel) ⟨Nat.le_of_ble_eq_true rfl, Nat.le_of_ble_eq_true rfl⟩) (pv_ro (ci := 6) (q0 := 0) hK (hP.sub (ws' := (wd_X7_plantOf cI cZ cP cS h_t h_t_red h_t_blue h_t_sky h_t_diary h_t_calendar h_t_awakeIn h_t_worths h_t_plants h_t_sheets h_t_bestFrom h_t_p0 h_t_p1 h_t_p2 h_t_p3 v_latestFinding)) [0, 1] rfl) rfl rfl) rfl rfl hl.1 rfl (lv_room (Nat.le_of_ble_eq_true rfl)) dX7_read_8 ⟨Nat.zero_le _, Nat.zero_le _⟩).run (fun x e_92 => ?_)
        by_cases c8_0 : x2 = 0
        · rw [if_pos c8_0] at hf e_92
          subst e_92
          refine W.eq (g2 := F0 m 11 ls [.ref h_t_p0]) rfl ?_
          refine lv_astore (lv' := [(4, .ref h_t_p0), (3, .ref h_t_s2), (0, .ref h_t), (1, .int x1), (2, .int x2)]) hx hb dX7_read_11 hl (by decide) rfl (fun ls hl => ?_)
          refine lv_aload_n hx hb dX7_read_13 rfl (lv_at hl 1 rfl) ?_
          refine lv_ifnull hx hb dX7_read_14 ?_
          refine lv_aload hx hb dX7_read_17 (lv_at hl 0 rfl) ?_
          refine lv_ifnonnull (tgt := 25) hx hb dX7_read_19 (by decide) ?_
          refine lv_aload_n hx hb dX7_read_25 rfl (lv_at hl 1 rfl) ?_
          refine va_get (D := (dC, dI)) (ci := 3) (v := .int (v_sform 2)) (C := RX3) (T := TX3) (N := 3) hx hb hts hinX3 hown hK hP 15 rfl rfl 0 (by decide) (hts (.fieldLink RX7 222 "SecondSunrise$Sheet" "form" "I") (by decide +kernel)) (fun _ h9 => h9) rfl dX7_read_26 ?_
          refine lv_iconst (v := (-1)) hx hb dX7_read_29 (by decide) ?_
          refine lv_icmp_ne (tgt := 39) hx hb dX7_read_30 (by decide) (fun c30 => ?_) (fun c30 => ?_)
          · rw [if_neg c30] at hf
            refine lv_iconst (v := 0) hx hb dX7_read_39 (by decide) ?_
            refine lv_istore (lv' := [(5, .int 0), (4, .ref h_t_p0), (3, .ref h_t_s2), (0, .ref h_t), (1, .int x1), (2, .int x2)]) hx hb dX7_read_40 hl (by decide) rfl (fun ls hl => ?_)
            obtain ⟨kx42, ekx42, hf⟩ := jn2_e hf
            have hx42 : ∀ (z42_5 : Int32) (u42_pgrowth : Nat → Nat → Int32) (H : Heap) (locs : List Loc) (ls : Array Slot), lv_has ls 6 [(5, .int z42_5)] → va_P (dC, dI) vwCl (wd_X7_read cI cZ cP cS h_t h_t_red h_t_blue h_t_sky h_t_diary h_t_calendar h_t_awakeIn h_t_worths h_t_plants h_t_sheets h_t_bestFrom h_t_p0 h_t_p1 h_t_p2 h_t_p3 h_t_p0_growth h_t_p1_growth h_t_p2_growth h_t_p3_growth h_t_s0 h_t_s1 h_t_s2 h_t_s3 h_t_s0_items h_t_s1_items h_t_s2_items h_t_s3_items v_latestFinding v_phours u42_pgrowth v_sform v_ssize v_sitems) H → va_D (va_A (wd_X7_read cI cZ cP cS h_t h_t_red h_t_blue h_t_sky h_t_diary h_t_calendar h_t_awakeIn h_t_worths h_t_plants h_t_sheets h_t_bestFrom h_t_p0 h_t_p1 h_t_p2 h_t_p3 h_t_p0_growth h_t_p1_growth h_t_p2_growth h_t_p3_growth h_t_s0 h_t_s1 h_t_s2 h_t_s3 h_t_s0_items h_t_s1_items h_t_s2_items h_t_s3_items v_latestFinding v_phours v_pgrowth v_sform v_ssize v_sitems) s.heap.size) (wd_X7_read cI cZ cP cS h_t h_t_red h_t_blue h_t_sky h_t_diary h_t_calendar h_t_awakeIn h_t_worths h_t_plants h_t_sheets h_t_bestFrom h_t_p0 h_t_p1 h_t_p2 h_t_p3 h_t_p0_growth h_t_p1_growth h_t_p2_growth h_t_p3_growth h_t_s0 h_t_s1 h_t_s2 h_t_s3 h_t_s0_items h_t_s1_items h_t_s2_items h_t_s3_items v_latestFinding v_phours u42_pgrowth v_sform v_ssize v_sitems) → va_S (va_A (wd_X7_read cI cZ cP cS h_t h_t_red h_t_blue h_t_sky h_t_diary h_t_calendar h_t_awakeIn h_t_worths h_t_plants h_t_sheets h_t_bestFrom h_t_p0 h_t_p1 h_t_p2 h_t_p3 h_t_p0_growth h_t_p1_growth h_t_p2_growth h_t_p3_growth h_t_s0 h_t_s1 h_t_s2 h_t_s3 h_t_s0_items h_t_s1_items h_t_s2_items h_t_s3_items v_latestFinding v_phours v_pgrowth v_sform v_ssize v_sitems) s.heap.size) s.heap H locs → kx42 z42_5 u42_pgrowth = some (r, o_latestFinding, o_pgrowth) → W p l e (headSpec wsX7_read rm_X7_read).room s m ([.ref h_t, .int x1, .int x2] : List Value).toArray below meth c H locs 0 0 (MQ below (RWi (dC, dI) (TY cI cZ cP cS) r s.heap.size (wd_X7_read cI cZ cP cS h_t h_t_red h_t_blue h_t_sky h_t_diary h_t_calendar h_t_awakeIn h_t_worths h_t_plants h_t_sheets h_t_bestFrom h_t_p0 h_t_p1 h_t_p2 h_t_p3 h_t_p0_growth h_t_p1_growth h_t_p2_growth h_t_p3_growth h_t_s0 h_t_s1 h_t_s2 h_t_s3 h_t_s0_items h_t_s1_items h_t_s2_items h_t_s3_items v_latestFinding v_phours v_pgrowth v_sform v_ssize v_sitems) (wd_X7_read cI cZ cP cS h_t h_t_red h_t_blue h_t_sky h_t_diary h_t_calendar h_t_awakeIn h_t_worths h_t_plants h_t_sheets h_t_bestFrom h_t_p0 h_t_p1 h_t_p2 h_t_p3 h_t_p0_growth h_t_p1_growth h_t_p2_growth h_t_p3_growth h_t_s0 h_t_s1 h_t_s2 h_t_s3 h_t_s0_items h_t_s1_items h_t_s2_items h_t_s3_items o_latestFinding v_phours o_pgrowth v_sform v_ssize v_sitems)) ([.ref h_t, .int x1, .int x2] : List Value).toArray s 0 0 (va_A (wd_X7_read cI cZ cP cS h_t h_t_red h_t_blue h_t_sky h_t_diary h_t_calendar h_t_awakeIn h_t_worths h_t_plants h_t_sheets h_t_bestFrom h_t_p0 h_t_p1 h_t_p2 h_t_p3 h_t_p0_growth h_t_p1_growth h_t_p2_growth h_t_p3_growth h_t_s0 h_t_s1 h_t_s2 h_t_s3 h_t_s0_items h_t_s1_items h_t_s2_items h_t_s3_items v_latestFinding v_phours v_pgrowth v_sform v_ssize v_sitems) s.heap.size)) (F0 m 91 ls []) := by
              intro z42_5 u42_pgrowth H locs ls hl hP hD hS hf
              rw [ekx42] at hf
              refine lv_iload hx hb dX7_read_91 (lv_at hl 0 rfl) ?_
              have hq0 := Option.some.inj hf
              obtain ⟨eq0, hq1⟩ := Prod.mk.inj hq0
              obtain ⟨eq1, hq2⟩ := Prod.mk.inj hq1
              clear hf hq0 hq1
              subst eq0
              subst eq1
              subst hq2
              exact W.iret hx hb hr (fun t ht hW => ⟨⟨_, (), rfl, rfl, by rw [ht]; exact hP, va_K.moved hW.alike hK, hD⟩, hS.F ht⟩) hS.2.2 dX7_read_93
            have hL42 : ∀ (k42 : Nat) (y42_5 : Int32) (w42_pgrowth : Nat → Nat → Int32) (H : Heap) (locs : List Loc) (ls : Array Slot), lv_has ls 6 [(3, .ref h_t_s2), (4, .ref h_t_p0), (5, .int y42_5)] → va_P (dC, dI) vwCl (wd_X7_read cI cZ cP cS h_t h_t_red h_t_blue h_t_sky h_t_diary h_t_calendar h_t_awakeIn h_t_worths h_t_plants h_t_sheets h_t_bestFrom h_t_p0 h_t_p1 h_t_p2 h_t_p3 h_t_p0_growth h_t_p1_growth h_t_p2_growth h_t_p3_growth h_t_s0 h_t_s1 h_t_s2 h_t_s3 h_t_s0_items h_t_s1_items h_t_s2_items h_t_s3_items v_latestFinding v_phours w42_pgrowth v_sform v_ssize v_sitems) H → va_D (va_A (wd_X7_read cI cZ cP cS h_t h_t_red h_t_blue h_t_sky h_t_diary h_t_calendar h_t_awakeIn h_t_worths h_t_plants h_t_sheets h_t_bestFrom h_t_p0 h_t_p1 h_t_p2 h_t_p3 h_t_p0_growth h_t_p1_growth h_t_p2_growth h_t_p3_growth h_t_s0 h_t_s1 h_t_s2 h_t_s3 h_t_s0_items h_t_s1_items h_t_s2_items h_t_s3_items v_latestFinding v_phours v_pgrowth v_sform v_ssize v_sitems) s.heap.size) (wd_X7_read cI cZ cP cS h_t h_t_red h_t_blue h_t_sky h_t_diary h_t_calendar h_t_awakeIn h_t_worths h_t_plants h_t_sheets h_t_bestFrom h_t_p0 h_t_p1 h_t_p2 h_t_p3 h_t_p0_growth h_t_p1_growth h_t_p2_growth h_t_p3_growth h_t_s0 h_t_s1 h_t_s2 h_t_s3 h_t_s0_items h_t_s1_items h_t_s2_items h_t_s3_items v_latestFinding v_phours w42_pgrowth v_sform v_ssize v_sitems) → va_S (va_A (wd_X7_read cI cZ cP cS h_t h_t_red h_t_blue h_t_sky h_t_diary h_t_calendar h_t_awakeIn h_t_worths h_t_plants h_t_sheets h_t_bestFrom h_t_p0 h_t_p1 h_t_p2 h_t_p3 h_t_p0_growth h_t_p1_growth h_t_p2_growth h_t_p3_growth h_t_s0 h_t_s1 h_t_s2 h_t_s3 h_t_s0_items h_t_s1_items h_t_s2_items h_t_s3_items v_latestFinding v_phours v_pgrowth v_sform v_ssize v_sitems) s.heap.size) s.heap H locs → L_X7_read_42q9 n v_ssize v_sitems kx42 k42 y42_5 w42_pgrowth = some (r, o_latestFinding, o_pgrowth) → W p l e (headSpec wsX7_read rm_X7_read).room s m ([.ref h_t, .int x1, .int x2] : List Value).toArray below meth c H locs 0 0 (MQ below (RWi (dC, dI) (TY cI cZ cP cS) r s.heap.size (wd_X7_read cI cZ cP cS h_t h_t_red h_t_blue h_t_sky h_t_diary h_t_calendar h_t_awakeIn h_t_worths h_t_plants h_t_sheets h_t_bestFrom h_t_p0 h_t_p1 h_t_p2 h_t_p3 h_t_p0_growth h_t_p1_growth h_t_p2_growth h_t_p3_growth h_t_s0 h_t_s1 h_t_s2 h_t_s3 h_t_s0_items h_t_s1_items h_t_s2_items h_t_s3_items v_latestFinding v_phours v_pgrowth v_sform v_ssize v_sitems) (wd_X7_read cI cZ cP cS h_t h_t_red h_t_blue h_t_sky h_t_diary h_t_calendar h_t_awakeIn h_t_worths h_t_plants h_t_sheets h_t_bestFrom h_t_p0 h_t_p1 h_t_p2 h_t_p3 h_t_p0_growth h_t_p1_growth h_t_p2_growth h_t_p3_growth h_t_s0 h_t_s1 h_t_s2 h_t_s3 h_t_s0_items h_t_s1_items h_t_s2_items h_t_s3_items o_latestFinding v_phours o_pgrowth v_sform v_ssize v_sitems)) ([.ref h_t, .int x1, .int x2] : List Value).toArray s 0 0 (va_A (wd_X7_read cI cZ cP cS h_t h_t_red h_t_blue h_t_sky h_t_diary h_t_calendar h_t_awakeIn h_t_worths h_t_plants h_t_sheets h_t_bestFrom h_t_p0 h_t_p1 h_t_p2 h_t_p3 h_t_p0_growth h_t_p1_growth h_t_p2_growth h_t_p3_growth h_t_s0 h_t_s1 h_t_s2 h_t_s3 h_t_s0_items h_t_s1_items h_t_s2_items h_t_s3_items v_latestFinding v_phours v_pgrowth v_sform v_ssize v_sitems) s.heap.size)) (F0 m 42 ls []) := by
              intro k42
              induction k42 with
              | zero =>
                intro y42_5 w42_pgrowth H locs ls hl hP hD hS hf
                exact absurd hf (fun h => Option.some_ne_none _ h.symm)
              | succ k42 ih =>
                intro y42_5 w42_pgrowth H locs ls hl hP hD hS hf
                rw [L_X7_read_42q9_s] at hf
                refine lv_iload hx hb dX7_read_42 (lv_at hl 2 rfl) ?_
                refine lv_iconst (v := 4) hx hb dX7_read_44 (by decide) ?_
                refine lv_icmp_ge (tgt := 91) hx hb dX7_read_45 (by decide) (fun c45 => ?_) (fun c45 => ?_)
                · rw [if_pos c45] at hf
                  exact hx42 y42_5 w42_pgrowth H locs ls (lv_sub hl [2] rfl) hP hD hS hf
                · rw [if_neg c45] at hf
                  refine lv_iload hx hb dX7_read_48 (lv_at hl 2 rfl) ?_
                  refine lv_aload_n hx hb dX7_read_50 rfl (lv_at hl 0 rfl) ?_
                  refine va_get (D := (dC, dI)) (ci := 3) (v := .int (v_ssize 2)) (C := RX3) (T := TX3) (N := 3) hx hb hts hinX3 hown hK hP 15 rfl rfl 1 (by decide) (hts (.fieldLink RX7 228 "SecondSunrise$Sheet" "size" "I") (by decide +kernel)) (fun _ h9 => h9) rfl dX7_read_51 ?_
                  refine lv_icmp_ge (tgt := 91) hx hb dX7_read_54 (by decide) (fun c54 => ?_) (fun c54 => ?_)
                  · rw [if_pos c54] at hf
                    exact hx42 y42_5 w42_pgrowth H locs ls (lv_sub hl [2] rfl) hP hD hS hf
                  · rw [if_neg c54] at hf
                    refine lv_aload_n hx hb dX7_read_57 rfl (lv_at hl 0 rfl) ?_
                    refine va_get (D := (dC, dI)) (ci := 3) (v := .ref h_t_s2_items) (C := RX3) (T := TX3) (N := 3) hx hb hts hinX3 hown hK hP 15 rfl rfl 2 (by decide) (hts (.fieldLink RX7 229 "SecondSunrise$Sheet" "items" "[I") (by decide +kernel)) (fun _ h9 => h9) rfl dX7_read_58 ?_
                    refine lv_iload hx hb dX7_read_61 (lv_at hl 2 rfl) ?_
                    obtain ⟨hi_93, hf⟩ := ix_e hf
                    refine va_iald hx hb hK hP 16 0 rfl rfl hi_93 dX7_read_63 ?_
                    obtain ⟨r64_94, hc_95, hf⟩ := bd1_e hf
                    refine vp_callSi (va_runS (As := [.int ((v_sitems 2) y42_5.toNatClampNeg)]) (rest := []) ⟨hx, hb, hml, hown, hts⟩ (c_X7_noGrowth l dC dI cI cZ cP cS   ((v_sitems 2) y42_5.toNatClampNeg) n r64_94 hc_95) (va_cwS 1 hts gX7_read_X7_noGrowth rfl rfl rfl (by decide +kernel) ⟨Nat.le_of_ble_eq_true rfl, Nat.le_of_ble_eq_true rfl⟩) (ps_ro hK (hP.sub (ws' := ([] : va_W)) [] rfl)) rfl rfl hl.1 rfl (lv_room (Nat.le_of_ble_eq_true rfl)) dX7_read_64 ⟨Nat.zero_le _, Nat.zero_le _⟩).run (fun x e_96 => ?_)
                    obtain ⟨e_96, hb_97⟩ := e_96
                    rw [e_96] at hb_97 ⊢
                    refine lv_if_ne (tgt := 91) hx hb dX7_read_67 (by decide) (fun c67 => ?_) (fun c67 => ?_)
                    · rw [if_neg c67] at hf
                      exact hx42 y42_5 w42_pgrowth H locs ls (lv_sub hl [2] rfl) hP hD hS hf
                    · rw [if_pos c67] at hf
                      refine lv_aload hx hb dX7_read_70 (lv_at hl 1 rfl) ?_
                      refine va_get (D := (dC, dI)) (ci := 2) (v := .ref h_t_p0_growth) (C := RX2) (T := TX2) (N := 2) hx hb hts hinX2 hown hK hP 2 rfl rfl 1 (by decide) (hts (.fieldLink RX7 215 "SecondSunrise$Plant" "growth" "[I") (by decide +kernel)) (fun _ h9 => h9) rfl dX7_read_72 ?_
                      refine lv_iload hx hb dX7_read_75 (lv_at hl 2 rfl) ?_
                      refine lv_aload_n hx hb dX7_read_77 rfl (lv_at hl 0 rfl) ?_
                      refine va_get (D := (dC, dI)) (ci := 3) (v := .ref h_t_s2_items) (C := RX3) (T := TX3) (N := 3) hx hb hts hinX3 hown hK hP 15 rfl rfl 2 (by decide) (hts (.fieldLink RX7 229 "SecondSunrise$Sheet" "items" "[I") (by decide +kernel)) (fun _ h9 => h9) rfl dX7_read_78 ?_
                      refine lv_iload hx hb dX7_read_81 (lv_at hl 2 rfl) ?_
                      obtain ⟨hi_98, hf⟩ := ix_e hf
                      refine va_iald hx hb hK hP 16 0 rfl rfl hi_98 dX7_read_83 ?_
                      obtain ⟨hi_99, hf⟩ := ix_e hf
                      refine va_iast hx hb hK hP hD hS 3 0 rfl rfl hi_99 dX7_read_84 (fun H locs hP hD hS => ?_)
                      have hP : va_P (dC, dI) vwCl (wd_X7_read cI cZ cP cS h_t h_t_red h_t_blue h_t_sky h_t_diary h_t_calendar h_t_awakeIn h_t_worths h_t_plants h_t_sheets h_t_bestFrom h_t_p0 h_t_p1 h_t_p2 h_t_p3 h_t_p0_growth h_t_p1_growth h_t_p2_growth h_t_p3_growth h_t_s0 h_t_s1 h_t_s2 h_t_s3 h_t_s0_items h_t_s1_items h_t_s2_items h_t_s3_items v_latestFinding v_phours (va_up w42_pgrowth 0 (upd (w42_pgrowth 0) y42_5.toNatClampNeg ((v_sitems 2) y42_5.toNatClampNeg))) v_sform v_ssize v_sitems) H := hP
                      have hD : va_D (va_A (wd_X7_read cI cZ cP cS h_t h_t_red h_t_blue h_t_sky h_t_diary h_t_calendar h_t_awakeIn h_t_worths h_t_plants h_t_sheets h_t_bestFrom h_t_p0 h_t_p1 h_t_p2 h_t_p3 h_t_p0_growth h_t_p1_growth h_t_p2_growth h_t_p3_growth h_t_s0 h_t_s1 h_t_s2 h_t_s3 h_t_s0_items h_t_s1_items h_t_s2_items h_t_s3_items v_latestFinding v_phours v_pgrowth v_sform v_ssize v_sitems) s.heap.size) (wd_X7_read cI cZ cP cS h_t h_t_red h_t_blue h_t_sky h_t_diary h_t_calendar h_t_awakeIn h_t_worths h_t_plants h_t_sheets h_t_bestFrom h_t_p0 h_t_p1 h_t_p2 h_t_p3 h_t_p0_growth h_t_p1_growth h_t_p2_growth h_t_p3_growth h_t_s0 h_t_s1 h_t_s2 h_t_s3 h_t_s0_items h_t_s1_items h_t_s2_items h_t_s3_items v_latestFinding v_phours (va_up w42_pgrowth 0 (upd (w42_pgrowth 0) y42_5.toNatClampNeg ((v_sitems 2) y42_5.toNatClampNeg))) v_sform v_ssize v_sitems) := hD
                      refine lv_iinc (v := (y42_5 + 1)) (lv' := [(5, .int (y42_5 + 1)), (3, .ref h_t_s2), (4, .ref h_t_p0)]) hx hb dX7_read_85 hl (k := 2) rfl rfl (by decide) rfl (fun ls hl => ?_)
                      refine lv_goto (tgt := 42) hx hb dX7_read_88 (by decide) ?_
                      exact ih (y42_5 + 1) (va_up w42_pgrowth 0 (upd (w42_pgrowth 0) y42_5.toNatClampNeg ((v_sitems 2) y42_5.toNatClampNeg))) H locs ls (lv_sub hl [1, 2, 0] rfl) hP hD hS hf
            exact hL42 n 0 v_pgrowth H locs ls (lv_sub hl [2, 1, 0] rfl) hP hD hS hf
          · rw [if_pos c30] at hf
            refine lv_aload_n hx hb dX7_read_33 rfl (lv_at hl 2 rfl) ?_
            refine lv_iconst (v := 1) hx hb dX7_read_34 (by decide) ?_
            obtain ⟨r35_100, o35_101, hc_102, hf⟩ := bd2_e hf
            refine rwi_call (isC := [0]) (isR := [1, 2, 3, 4, 5, 6, 7, 8, 9, 10, 11, 12, 13, 14, 15, 16, 17, 18]) (perm := [18, 0, 1, 2, 3, 4, 5, 6, 7, 8, 9, 10, 11, 12, 13, 14, 15, 16, 17]) (wr := [(h_t_plants, .inl (cP, 4, .inr (.inr (.inr (.inr (ar4 h_t_p0 h_t_p1 h_t_p2 h_t_p3)))))), (h_t_p0, .inr (2, [.int (v_phours 0), .ref h_t_p0_growth])), (h_t_p0_growth, .inl (cI, 4, .inl (v_pgrowth 0))), (h_t_p1, .inr (2, [.int (v_phours 1), .ref h_t_p1_growth])), (h_t_p1_growth, .inl (cI, 4, .inl (v_pgrowth 1))), (h_t_p2, .inr (2, [.int (v_phours 2), .ref h_t_p2_growth])), (h_t_p2_growth, .inl (cI, 4, .inl (v_pgrowth 2))), (h_t_p3, .inr (2, [.int (v_phours 3), .ref h_t_p3_growth])), (h_t_p3_growth, .inl (cI, 4, .inl (v_pgrowth 3))), (h_t_sheets, .inl (cS, 4, .inr (.inr (.inr (.inr (ar4 h_t_s0 h_t_s1 h_t_s2 h_t_s3)))))), (h_t_s0, .inr (3, [.int (v_sform 0), .int (v_ssize 0), .ref h_t_s0_items])), (h_t_s0_items, .inl (cI, 48, .inl (v_sitems 0))), (h_t_s1, .inr (3, [.int (v_sform 1), .int (v_ssize 1), .ref h_t_s1_items])), (h_t_s1_items, .inl (cI, 48, .inl (v_sitems 1))), (h_t_s2, .inr (3, [.int (v_sform 2), .int (v_ssize 2), .ref h_t_s2_items])), (h_t_s2_items, .inl (cI, 48, .inl (v_sitems 2))), (h_t_s3, .inr (3, [.int (v_sform 3), .int (v_ssize 3), .ref h_t_s3_items])), (h_t_s3_items, .inl (cI, 48, .inl (v_sitems 3)))]) (ws2 := (wd_X7_read cI cZ cP cS h_t h_t_red h_t_blue h_t_sky h_t_diary h_t_calendar h_t_awakeIn h_t_worths h_t_plants h_t_sheets h_t_bestFrom h_t_p0 h_t_p1 h_t_p2 h_t_p3 h_t_p0_growth h_t_p1_growth h_t_p2_growth h_t_p3_growth h_t_s0 h_t_s1 h_t_s2 h_t_s3 h_t_s0_items h_t_s1_items h_t_s2_items h_t_s3_items o35_101 v_phours v_pgrowth v_sform v_ssize v_sitems)) (va_runV (As := [.int 1]) (rest := []) ⟨hx, hb, hml, hown, hts⟩ (c_X7_found l dC dI cI cZ cP cS H.size h_t h_t_red h_t_blue h_t_sky h_t_diary h_t_calendar h_t_awakeIn h_t_worths h_t_plants h_t_sheets h_t_bestFrom v_latestFinding 1 n r35_100 o35_101 hc_102) (cwV 1 hts gX7_read_X7_found rfl rfl rfl (by decide +kernel) ⟨Nat.le_of_ble_eq_true rfl, Nat.le_of_ble_eq_true rfl⟩) (pv_rw (ci := 6) (q0 := 0) hK (hP.sub (ws' := (wd_X7_found cI cZ cP cS h_t h_t_red h_t_blue h_t_sky h_t_diary h_t_calendar h_t_awakeIn h_t_worths h_t_plants h_t_sheets h_t_bestFrom v_latestFinding)) [0] rfl) (hD.sub (ws' := (wd_X7_found cI cZ cP cS h_t h_t_red h_t_blue h_t_sky h_t_diary h_t_calendar h_t_awakeIn h_t_worths h_t_plants h_t_sheets h_t_bestFrom v_latestFinding)) [0] (by decide) rfl) rfl rfl) rfl rfl hl.1 rfl (lv_room (Nat.le_of_ble_eq_true rfl)) dX7_read_35 ⟨Nat.zero_le _, Nat.zero_le _⟩) hS hA hP hD rfl (by decide) (by decide) rfl (by decide) rfl rfl (fun H locs hP hD hS => ?_)
            have hq0 := Option.some.inj hf
            obtain ⟨eq0, hq1⟩ := Prod.mk.inj hq0
            obtain ⟨eq1, hq2⟩ := Prod.mk.inj hq1
            clear hf hq0 hq1
            subst eq0
            subst eq1
            subst hq2
            exact W.iret hx hb hr (fun t ht hW => ⟨⟨_, (), rfl, rfl, by rw [ht]; exact hP, va_K.moved hW.alike hK, hD⟩, hS.F ht⟩) hS.2.2 dX7_read_38
        · rw [if_neg c8_0] at hf e_92
          by_cases c8_1 : x2 = 1
          · rw [if_pos c8_1] at hf e_92
            subst e_92
            refine W.eq (g2 := F0 m 11 ls [.ref h_t_p1]) rfl ?_
            refine lv_astore (lv' := [(4, .ref h_t_p1), (3, .ref h_t_s2), (0, .ref h_t), (1, .int x1), (2, .int x2)]) hx hb dX7_read_11 hl (by decide) rfl (fun ls hl => ?_)
            refine lv_aload_n hx hb dX7_read_13 rfl (lv_at hl 1 rfl) ?_
            refine lv_ifnull hx hb dX7_read_14 ?_
            refine lv_aload hx hb dX7_read_17 (lv_at hl 0 rfl) ?_
            refine lv_ifnonnull (tgt := 25) hx hb dX7_read_19 (by decide) ?_
            refine lv_aload_n hx hb dX7_read_25 rfl (lv_at hl 1 rfl) ?_
            refine va_get (D := (dC, dI)) (ci := 3) (v := .int (v_sform 2)) (C := RX3) (T := TX3) (N := 3) hx hb hts hinX3 hown hK hP 15 rfl rfl 0 (by decide) (hts (.fieldLink RX7 222 "SecondSunrise$Sheet" "form" "I") (by decide +kernel)) (fun _ h9 => h9) rfl dX7_read_26 ?_
            refine lv_iconst (v := (-1)) hx hb dX7_read_29 (by decide) ?_
            refine lv_icmp_ne (tgt := 39) hx hb dX7_read_30 (by decide) (fun c30 => ?_) (fun c30 => ?_)
            · rw [if_neg c30] at hf
              refine lv_iconst (v := 0) hx hb dX7_read_39 (by decide) ?_
              refine lv_istore (lv' := [(5, .int 0), (4, .ref h_t_p1), (3, .ref h_t_s2), (0, .ref h_t), (1, .int x1), (2, .int x2)]) hx hb dX7_read_40 hl (by decide) rfl (fun ls hl => ?_)
              obtain ⟨kx42, ekx42, hf⟩ := jn2_e hf
              have hx42 : ∀ (z42_5 : Int32) (u42_pgrowth : Nat → Nat → Int32) (H : Heap) (locs : List Loc) (ls : Array Slot), lv_has ls 6 [(5, .int z42_5)] → va_P (dC, dI) vwCl (wd_X7_read cI cZ cP cS h_t h_t_red h_t_blue h_t_sky h_t_diary h_t_calendar h_t_awakeIn h_t_worths h_t_plants h_t_sheets h_t_bestFrom h_t_p0 h_t_p1 h_t_p2 h_t_p3 h_t_p0_growth h_t_p1_growth h_t_p2_growth h_t_p3_growth h_t_s0 h_t_s1 h_t_s2 h_t_s3 h_t_s0_items h_t_s1_items h_t_s2_items h_t_s3_items v_latestFinding v_phours u42_pgrowth v_sform v_ssize v_sitems) H → va_D (va_A (wd_X7_read cI cZ cP cS h_t h_t_red h_t_blue h_t_sky h_t_diary h_t_calendar h_t_awakeIn h_t_worths h_t_plants h_t_sheets h_t_bestFrom h_t_p0 h_t_p1 h_t_p2 h_t_p3 h_t_p0_growth h_t_p1_growth h_t_p2_growth h_t_p3_growth h_t_s0 h_t_s1 h_t_s2 h_t_s3 h_t_s0_items h_t_s1_items h_t_s2_items h_t_s3_items v_latestFinding v_phours v_pgrowth v_sform v_ssize v_sitems) s.heap.size) (wd_X7_read cI cZ cP cS h_t h_t_red h_t_blue h_t_sky h_t_diary h_t_calendar h_t_awakeIn h_t_worths h_t_plants h_t_sheets h_t_bestFrom h_t_p0 h_t_p1 h_t_p2 h_t_p3 h_t_p0_growth h_t_p1_growth h_t_p2_growth h_t_p3_growth h_t_s0 h_t_s1 h_t_s2 h_t_s3 h_t_s0_items h_t_s1_items h_t_s2_items h_t_s3_items v_latestFinding v_phours u42_pgrowth v_sform v_ssize v_sitems) → va_S (va_A (wd_X7_read cI cZ cP cS h_t h_t_red h_t_blue h_t_sky h_t_diary h_t_calendar h_t_awakeIn h_t_worths h_t_plants h_t_sheets h_t_bestFrom h_t_p0 h_t_p1 h_t_p2 h_t_p3 h_t_p0_growth h_t_p1_growth h_t_p2_growth h_t_p3_growth h_t_s0 h_t_s1 h_t_s2 h_t_s3 h_t_s0_items h_t_s1_items h_t_s2_items h_t_s3_items v_latestFinding v_phours v_pgrowth v_sform v_ssize v_sitems) s.heap.size) s.heap H locs → kx42 z42_5 u42_pgrowth = some (r, o_latestFinding, o_pgrowth) → W p l e (headSpec wsX7_read rm_X7_read).room s m ([.ref h_t, .int x1, .int x2] : List Value).toArray below meth c H locs 0 0 (MQ below (RWi (dC, dI) (TY cI cZ cP cS) r s.heap.size (wd_X7_read cI cZ cP cS h_t h_t_red h_t_blue h_t_sky h_t_diary h_t_calendar h_t_awakeIn h_t_worths h_t_plants h_t_sheets h_t_bestFrom h_t_p0 h_t_p1 h_t_p2 h_t_p3 h_t_p0_growth h_t_p1_growth h_t_p2_growth h_t_p3_growth h_t_s0 h_t_s1 h_t_s2 h_t_s3 h_t_s0_items h_t_s1_items h_t_s2_items h_t_s3_items v_latestFinding v_phours v_pgrowth v_sform v_ssize v_sitems) (wd_X7_read cI cZ cP cS h_t h_t_red h_t_blue h_t_sky h_t_diary h_t_calendar h_t_awakeIn h_t_worths h_t_plants h_t_sheets h_t_bestFrom h_t_p0 h_t_p1 h_t_p2 h_t_p3 h_t_p0_growth h_t_p1_growth h_t_p2_growth h_t_p3_growth h_t_s0 h_t_s1 h_t_s2 h_t_s3 h_t_s0_items h_t_s1_items h_t_s2_items h_t_s3_items o_latestFinding v_phours o_pgrowth v_sform v_ssize v_sitems)) ([.ref h_t, .int x1, .int x2] : List Value).toArray s 0 0 (va_A (wd_X7_read cI cZ cP cS h_t h_t_red h_t_blue h_t_sky h_t_diary h_t_calendar h_t_awakeIn h_t_worths h_t_plants h_t_sheets h_t_bestFrom h_t_p0 h_t_p1 h_t_p2 h_t_p3 h_t_p0_growth h_t_p1_growth h_t_p2_growth h_t_p3_growth h_t_s0 h_t_s1 h_t_s2 h_t_s3 h_t_s0_items h_t_s1_items h_t_s2_items h_t_s3_items v_latestFinding v_phours v_pgrowth v_sform v_ssize v_sitems) s.heap.size)) (F0 m 91 ls []) := by
                intro z42_5 u42_pgrowth H locs ls hl hP hD hS hf
                rw [ekx42] at hf
                refine lv_iload hx hb dX7_read_91 (lv_at hl 0 rfl) ?_
                have hq0 := Option.some.inj hf
                obtain ⟨eq0, hq1⟩ := Prod.mk.inj hq0
                obtain ⟨eq1, hq2⟩ := Prod.mk.inj hq1
                clear hf hq0 hq1
                subst eq0
                subst eq1
                subst hq2
                exact W.iret hx hb hr (fun t ht hW => ⟨⟨_, (), rfl, rfl, by rw [ht]; exact hP, va_K.moved hW.alike hK, hD⟩, hS.F ht⟩) hS.2.2 dX7_read_93
              have hL42 : ∀ (k42 : Nat) (y42_5 : Int32) (w42_pgrowth : Nat → Nat → Int32) (H : Heap) (locs : List Loc) (ls : Array Slot), lv_has ls 6 [(3, .ref h_t_s2), (4, .ref h_t_p1), (5, .int y42_5)] → va_P (dC, dI) vwCl (wd_X7_read cI cZ cP cS h_t h_t_red h_t_blue h_t_sky h_t_diary h_t_calendar h_t_awakeIn h_t_worths h_t_plants h_t_sheets h_t_bestFrom h_t_p0 h_t_p1 h_t_p2 h_t_p3 h_t_p0_growth h_t_p1_growth h_t_p2_growth h_t_p3_growth h_t_s0 h_t_s1 h_t_s2 h_t_s3 h_t_s0_items h_t_s1_items h_t_s2_items h_t_s3_items v_latestFinding v_phours w42_pgrowth v_sform v_ssize v_sitems) H → va_D (va_A (wd_X7_read cI cZ cP cS h_t h_t_red h_t_blue h_t_sky h_t_diary h_t_calendar h_t_awakeIn h_t_worths h_t_plants h_t_sheets h_t_bestFrom h_t_p0 h_t_p1 h_t_p2 h_t_p3 h_t_p0_growth h_t_p1_growth h_t_p2_growth h_t_p3_growth h_t_s0 h_t_s1 h_t_s2 h_t_s3 h_t_s0_items h_t_s1_items h_t_s2_items h_t_s3_items v_latestFinding v_phours v_pgrowth v_sform v_ssize v_sitems) s.heap.size) (wd_X7_read cI cZ cP cS h_t h_t_red h_t_blue h_t_sky h_t_diary h_t_calendar h_t_awakeIn h_t_worths h_t_plants h_t_sheets h_t_bestFrom h_t_p0 h_t_p1 h_t_p2 h_t_p3 h_t_p0_growth h_t_p1_growth h_t_p2_growth h_t_p3_growth h_t_s0 h_t_s1 h_t_s2 h_t_s3 h_t_s0_items h_t_s1_items h_t_s2_items h_t_s3_items v_latestFinding v_phours w42_pgrowth v_sform v_ssize v_sitems) → va_S (va_A (wd_X7_read cI cZ cP cS h_t h_t_red h_t_blue h_t_sky h_t_diary h_t_calendar h_t_awakeIn h_t_worths h_t_plants h_t_sheets h_t_bestFrom h_t_p0 h_t_p1 h_t_p2 h_t_p3 h_t_p0_growth h_t_p1_growth h_t_p2_growth h_t_p3_growth h_t_s0 h_t_s1 h_t_s2 h_t_s3 h_t_s0_items h_t_s1_items h_t_s2_items h_t_s3_items v_latestFinding v_phours v_pgrowth v_sform v_ssize v_sitems) s.heap.size) s.heap H locs → L_X7_read_42q10 n v_ssize v_sitems kx42 k42 y42_5 w42_pgrowth = some (r, o_latestFinding, o_pgrowth) → W p l e (headSpec wsX7_read rm_X7_read).room s m ([.ref h_t, .int x1, .int x2] : List Value).toArray below meth c H locs 0 0 (MQ below (RWi (dC, dI) (TY cI cZ cP cS) r s.heap.size (wd_X7_read cI cZ cP cS h_t h_t_red h_t_blue h_t_sky h_t_diary h_t_calendar h_t_awakeIn h_t_worths h_t_plants h_t_sheets h_t_bestFrom h_t_p0 h_t_p1 h_t_p2 h_t_p3 h_t_p0_growth h_t_p1_growth h_t_p2_growth h_t_p3_growth h_t_s0 h_t_s1 h_t_s2 h_t_s3 h_t_s0_items h_t_s1_items h_t_s2_items h_t_s3_items v_latestFinding v_phours v_pgrowth v_sform v_ssize v_sitems) (wd_X7_read cI cZ cP cS h_t h_t_red h_t_blue h_t_sky h_t_diary h_t_calendar h_t_awakeIn h_t_worths h_t_plants h_t_sheets h_t_bestFrom h_t_p0 h_t_p1 h_t_p2 h_t_p3 h_t_p0_growth h_t_p1_growth h_t_p2_growth h_t_p3_growth h_t_s0 h_t_s1 h_t_s2 h_t_s3 h_t_s0_items h_t_s1_items h_t_s2_items h_t_s3_items o_latestFinding v_phours o_pgrowth v_sform v_ssize v_sitems)) ([.ref h_t, .int x1, .int x2] : List Value).toArray s 0 0 (va_A (wd_X7_read cI cZ cP cS h_t h_t_red h_t_blue h_t_sky h_t_diary h_t_calendar h_t_awakeIn h_t_worths h_t_plants h_t_sheets h_t_bestFrom h_t_p0 h_t_p1 h_t_p2 h_t_p3 h_t_p0_growth h_t_p1_growth h_t_p2_growth h_t_p3_growth h_t_s0 h_t_s1 h_t_s2 h_t_s3 h_t_s0_items h_t_s1_items h_t_s2_items h_t_s3_items v_latestFinding v_phours v_pgrowth v_sform v_ssize v_sitems) s.heap.size)) (F0 m 42 ls []) := by
                intro k42
                induction k42 with
                | zero =>
                  intro y42_5 w42_pgrowth H locs ls hl hP hD hS hf
                  exact absurd hf (fun h => Option.some_ne_none _ h.symm)
                | succ k42 ih =>
                  intro y42_5 w42_pgrowth H locs ls hl hP hD hS hf
                  rw [L_X7_read_42q10_s] at hf
                  refine lv_iload hx hb dX7_read_42 (lv_at hl 2 rfl) ?_
                  refine lv_iconst (v := 4) hx hb dX7_read_44 (by decide) ?_
                  refine lv_icmp_ge (tgt := 91) hx hb dX7_read_45 (by decide) (fun c45 => ?_) (fun c45 => ?_)
                  · rw [if_pos c45] at hf
                    exact hx42 y42_5 w42_pgrowth H locs ls (lv_sub hl [2] rfl) hP hD hS hf
                  · rw [if_neg c45] at hf
                    refine lv_iload hx hb dX7_read_48 (lv_at hl 2 rfl) ?_
                    refine lv_aload_n hx hb dX7_read_50 rfl (lv_at hl 0 rfl) ?_
                    refine va_get (D := (dC, dI)) (ci := 3) (v := .int (v_ssize 2)) (C := RX3) (T := TX3) (N := 3) hx hb hts hinX3 hown hK hP 15 rfl rfl 1 (by decide) (hts (.fieldLink RX7 228 "SecondSunrise$Sheet" "size" "I") (by decide +kernel)) (fun _ h9 => h9) rfl dX7_read_51 ?_
                    refine lv_icmp_ge (tgt := 91) hx hb dX7_read_54 (by decide) (fun c54 => ?_) (fun c54 => ?_)
                    · rw [if_pos c54] at hf
                      exact hx42 y42_5 w42_pgrowth H locs ls (lv_sub hl [2] rfl) hP hD hS hf
                    · rw [if_neg c54] at hf
                      refine lv_aload_n hx hb dX7_read_57 rfl (lv_at hl 0 rfl) ?_
                      refine va_get (D := (dC, dI)) (ci := 3) (v := .ref h_t_s2_items) (C := RX3) (T := TX3) (N := 3) hx hb hts hinX3 hown hK hP 15 rfl rfl 2 (by decide) (hts (.fieldLink RX7 229 "SecondSunrise$Sheet" "items" "[I") (by decide +kernel)) (fun _ h9 => h9) rfl dX7_read_58 ?_
                      refine lv_iload hx hb dX7_read_61 (lv_at hl 2 rfl) ?_
                      obtain ⟨hi_104, hf⟩ := ix_e hf
                      refine va_iald hx hb hK hP 16 0 rfl rfl hi_104 dX7_read_63 ?_
                      obtain ⟨r64_105, hc_106, hf⟩ := bd1_e hf
                      refine vp_callSi (va_runS (As := [.int ((v_sitems 2) y42_5.toNatClampNeg)]) (rest := []) ⟨hx, hb, hml, hown, hts⟩ (c_X7_noGrowth l dC dI cI cZ cP cS   ((v_sitems 2) y42_5.toNatClampNeg) n r64_105 hc_106) (va_cwS 1 hts gX7_read_X7_noGrowth rfl rfl rfl (by decide +kernel) ⟨Nat.le_of_ble_eq_true rfl, Nat.le_of_ble_eq_true rfl⟩) (ps_ro hK (hP.sub (ws' := ([] : va_W)) [] rfl)) rfl rfl hl.1 rfl (lv_room (Nat.le_of_ble_eq_true rfl)) dX7_read_64 ⟨Nat.zero_le _, Nat.zero_le _⟩).run (fun x e_107 => ?_)
                      obtain ⟨e_107, hb_108⟩ := e_107
                      rw [e_107] at hb_108 ⊢
                      refine lv_if_ne (tgt := 91) hx hb dX7_read_67 (by decide) (fun c67 => ?_) (fun c67 => ?_)
                      · rw [if_neg c67] at hf
                        exact hx42 y42_5 w42_pgrowth H locs ls (lv_sub hl [2] rfl) hP hD hS hf
                      · rw [if_pos c67] at hf
                        refine lv_aload hx hb dX7_read_70 (lv_at hl 1 rfl) ?_
                        refine va_get (D := (dC, dI)) (ci := 2) (v := .ref h_t_p1_growth) (C := RX2) (T := TX2) (N := 2) hx hb hts hinX2 hown hK hP 4 rfl rfl 1 (by decide) (hts (.fieldLink RX7 215 "SecondSunrise$Plant" "growth" "[I") (by decide +kernel)) (fun _ h9 => h9) rfl dX7_read_72 ?_
                        refine lv_iload hx hb dX7_read_75 (lv_at hl 2 rfl) ?_
                        refine lv_aload_n hx hb dX7_read_77 rfl (lv_at hl 0 rfl) ?_
                        refine va_get (D := (dC, dI)) (ci := 3) (v := .ref h_t_s2_items) (C := RX3) (T := TX3) (N := 3) hx hb hts hinX3 hown hK hP 15 rfl rfl 2 (by decide) (hts (.fieldLink RX7 229 "SecondSunrise$Sheet" "items" "[I") (by decide +kernel)) (fun _ h9 => h9) rfl dX7_read_78 ?_
                        refine lv_iload hx hb dX7_read_81 (lv_at hl 2 rfl) ?_
                        obtain ⟨hi_109, hf⟩ := ix_e hf
                        refine va_iald hx hb hK hP 16 0 rfl rfl hi_109 dX7_read_83 ?_
                        obtain ⟨hi_110, hf⟩ := ix_e hf
                        refine va_iast hx hb hK hP hD hS 5 0 rfl rfl hi_110 dX7_read_84 (fun H locs hP hD hS => ?_)
                        have hP : va_P (dC, dI) vwCl (wd_X7_read cI cZ cP cS h_t h_t_red h_t_blue h_t_sky h_t_diary h_t_calendar h_t_awakeIn h_t_worths h_t_plants h_t_sheets h_t_bestFrom h_t_p0 h_t_p1 h_t_p2 h_t_p3 h_t_p0_growth h_t_p1_growth h_t_p2_growth h_t_p3_growth h_t_s0 h_t_s1 h_t_s2 h_t_s3 h_t_s0_items h_t_s1_items h_t_s2_items h_t_s3_items v_latestFinding v_phours (va_up w42_pgrowth 1 (upd (w42_pgrowth 1) y42_5.toNatClampNeg ((v_sitems 2) y42_5.toNatClampNeg))) v_sform v_ssize v_sitems) H := hP
                        have hD : va_D (va_A (wd_X7_read cI cZ cP cS h_t h_t_red h_t_blue h_t_sky h_t_diary h_t_calendar h_t_awakeIn h_t_worths h_t_plants h_t_sheets h_t_bestFrom h_t_p0 h_t_p1 h_t_p2 h_t_p3 h_t_p0_growth h_t_p1_growth h_t_p2_growth h_t_p3_growth h_t_s0 h_t_s1 h_t_s2 h_t_s3 h_t_s0_items h_t_s1_items h_t_s2_items h_t_s3_items v_latestFinding v_phours v_pgrowth v_sform v_ssize v_sitems) s.heap.size) (wd_X7_read cI cZ cP cS h_t h_t_red h_t_blue h_t_sky h_t_diary h_t_calendar h_t_awakeIn h_t_worths h_t_plants h_t_sheets h_t_bestFrom h_t_p0 h_t_p1 h_t_p2 h_t_p3 h_t_p0_growth h_t_p1_growth h_t_p2_growth h_t_p3_growth h_t_s0 h_t_s1 h_t_s2 h_t_s3 h_t_s0_items h_t_s1_items h_t_s2_items h_t_s3_items v_latestFinding v_phours (va_up w42_pgrowth 1 (upd (w42_pgrowth 1) y42_5.toNatClampNeg ((v_sitems 2) y42_5.toNatClampNeg))) v_sform v_ssize v_sitems) := hD
                        refine lv_iinc (v := (y42_5 + 1)) (lv' := [(5, .int (y42_5 + 1)), (3, .ref h_t_s2), (4, .ref h_t_p1)]) hx hb dX7_read_85 hl (k := 2) rfl rfl (by decide) rfl (fun ls hl => ?_)
                        refine lv_goto (tgt := 42) hx hb dX7_read_88 (by decide) ?_
                        exact ih (y42_5 + 1) (va_up w42_pgrowth 1 (upd (w42_pgrowth 1) y42_5.toNatClampNeg ((v_sitems 2) y42_5.toNatClampNeg))) H locs ls (lv_sub hl [1, 2, 0] rfl) hP hD hS hf
              exact hL42 n 0 v_pgrowth H locs ls (lv_sub hl [2, 1, 0] rfl) hP hD hS hf
            · rw [if_pos c30] at hf
              refine lv_aload_n hx hb dX7_read_33 rfl (lv_at hl 2 rfl) ?_
              refine lv_iconst (v := 1) hx hb dX7_read_34 (by decide) ?_
              obtain ⟨r35_111, o35_112, hc_113, hf⟩ := bd2_e hf
              refine rwi_call (isC := [0]) (isR := [1, 2, 3, 4, 5, 6, 7, 8, 9, 10, 11, 12, 13, 14, 15, 16, 17, 18]) (perm := [18, 0, 1, 2, 3, 4, 5, 6, 7, 8, 9, 10, 11, 12, 13, 14, 15, 16, 17]) (wr := [(h_t_plants, .inl (cP, 4, .inr (.inr (.inr (.inr (ar4 h_t_p0 h_t_p1 h_t_p2 h_t_p3)))))), (h_t_p0, .inr (2, [.int (v_phours 0), .ref h_t_p0_growth])), (h_t_p0_growth, .inl (cI, 4, .inl (v_pgrowth 0))), (h_t_p1, .inr (2, [.int (v_phours 1), .ref h_t_p1_growth])), (h_t_p1_growth, .inl (cI, 4, .inl (v_pgrowth 1))), (h_t_p2, .inr (2, [.int (v_phours 2), .ref h_t_p2_growth])), (h_t_p2_growth, .inl (cI, 4, .inl (v_pgrowth 2))), (h_t_p3, .inr (2, [.int (v_phours 3), .ref h_t_p3_growth])), (h_t_p3_growth, .inl (cI, 4, .inl (v_pgrowth 3))), (h_t_sheets, .inl (cS, 4, .inr (.inr (.inr (.inr (ar4 h_t_s0 h_t_s1 h_t_s2 h_t_s3)))))), (h_t_s0, .inr (3, [.int (v_sform 0), .int (v_ssize 0), .ref h_t_s0_items])), (h_t_s0_items, .inl (cI, 48, .inl (v_sitems 0))), (h_t_s1, .inr (3, [.int (v_sform 1), .int (v_ssize 1), .ref h_t_s1_items])), (h_t_s1_items, .inl (cI, 48, .inl (v_sitems 1))), (h_t_s2, .inr (3, [.int (v_sform 2), .int (v_ssize 2), .ref h_t_s2_items])), (h_t_s2_items, .inl (cI, 48, .inl (v_sitems 2))), (h_t_s3, .inr (3, [.int (v_sform 3), .int (v_ssize 3), .ref h_t_s3_items])), (h_t_s3_items, .inl (cI, 48, .inl (v_sitems 3)))]) (ws2 := (wd_X7_read cI cZ cP cS h_t h_t_red h_t_blue h_t_sky h_t_diary h_t_calendar h_t_awakeIn h_t_worths h_t_plants h_t_sheets h_t_bestFrom h_t_p0 h_t_p1 h_t_p2 h_t_p3 h_t_p0_growth h_t_p1_growth h_t_p2_growth h_t_p3_growth h_t_s0 h_t_s1 h_t_s2 h_t_s3 h_t_s0_items h_t_s1_items h_t_s2_items h_t_s3_items o35_112 v_phours v_pgrowth v_sform v_ssize v_sitems)) (va_runV (As := [.int 1]) (rest := []) ⟨hx, hb, hml, hown, hts⟩ (c_X7_found l dC dI cI cZ cP cS H.size h_t h_t_red h_t_blue h_t_sky h_t_diary h_t_calendar h_t_awakeIn h_t_worths h_t_plants h_t_sheets h_t_bestFrom v_latestFinding 1 n r35_111 o35_112 hc_113) (cwV 1 hts gX7_read_X7_found rfl rfl rfl (by decide +kernel) ⟨Nat.le_of_ble_eq_true rfl, Nat.le_of_ble_eq_true rfl⟩) (pv_rw (ci := 6) (q0 := 0) hK (hP.sub (ws' := (wd_X7_found cI cZ cP cS h_t h_t_red h_t_blue h_t_sky h_t_diary h_t_calendar h_t_awakeIn h_t_worths h_t_plants h_t_sheets h_t_bestFrom v_latestFinding)) [0] rfl) (hD.sub (ws' := (wd_X7_found cI cZ cP cS h_t h_t_red h_t_blue h_t_sky h_t_diary h_t_calendar h_t_awakeIn h_t_worths h_t_plants h_t_sheets h_t_bestFrom v_latestFinding)) [0] (by decide) rfl) rfl rfl) rfl rfl hl.1 rfl (lv_room (Nat.le_of_ble_eq_true rfl)) dX7_read_35 ⟨Nat.zero_le _, Nat.zero_le _⟩) hS hA hP hD rfl (by decide) (by decide) rfl (by decide) rfl rfl (fun H locs hP hD hS => ?_)
              have hq0 := Option.some.inj hf
              obtain ⟨eq0, hq1⟩ := Prod.mk.inj hq0
              obtain ⟨eq1, hq2⟩ := Prod.mk.inj hq1
              clear hf hq0 hq1
              subst eq0
              subst eq1
              subst hq2
              exact W.iret hx hb hr (fun t ht hW => ⟨⟨_, (), rfl, rfl, by rw [ht]; exact hP, va_K.moved hW.alike hK, hD⟩, hS.F ht⟩) hS.2.2 dX7_read_38
          · rw [if_neg c8_1] at hf e_92
            by_cases c8_2 : x2 = 2
            · rw [if_pos c8_2] at hf e_92
              subst e_92
              refine W.eq (g2 := F0 m 11 ls [.ref h_t_p2]) rfl ?_
              refine lv_astore (lv' := [(4, .ref h_t_p2), (3, .ref h_t_s2), (0, .ref h_t), (1, .int x1), (2, .int x2)]) hx hb dX7_read_11 hl (by decide) rfl (fun ls hl => ?_)
              refine lv_aload_n hx hb dX7_read_13 rfl (lv_at hl 1 rfl) ?_
              refine lv_ifnull hx hb dX7_read_14 ?_
              refine lv_aload hx hb dX7_read_17 (lv_at hl 0 rfl) ?_
              refine lv_ifnonnull (tgt := 25) hx hb dX7_read_19 (by decide) ?_
              refine lv_aload_n hx hb dX7_read_25 rfl (lv_at hl 1 rfl) ?_
              refine va_get (D := (dC, dI)) (ci := 3) (v := .int (v_sform 2)) (C := RX3) (T := TX3) (N := 3) hx hb hts hinX3 hown hK hP 15 rfl rfl 0 (by decide) (hts (.fieldLink RX7 222 "SecondSunrise$Sheet" "form" "I") (by decide +kernel)) (fun _ h9 => h9) rfl dX7_read_26 ?_
              refine lv_iconst (v := (-1)) hx hb dX7_read_29 (by decide) ?_
              refine lv_icmp_ne (tgt := 39) hx hb dX7_read_30 (by decide) (fun c30 => ?_) (fun c30 => ?_)
              · rw [if_neg c30] at hf
                refine lv_iconst (v := 0) hx hb dX7_read_39 (by decide) ?_
                refine lv_istore (lv' := [(5, .int 0), (4, .ref h_t_p2), (3, .ref h_t_s2), (0, .ref h_t), (1, .int x1), (2, .int x2)]) hx hb dX7_read_40 hl (by decide) rfl (fun ls hl => ?_)
                obtain ⟨kx42, ekx42, hf⟩ := jn2_e hf
                have hx42 : ∀ (z42_5 : Int32) (u42_pgrowth : Nat → Nat → Int32) (H : Heap) (locs : List Loc) (ls : Array Slot), lv_has ls 6 [(5, .int z42_5)] → va_P (dC, dI) vwCl (wd_X7_read cI cZ cP cS h_t h_t_red h_t_blue h_t_sky h_t_diary h_t_calendar h_t_awakeIn h_t_worths h_t_plants h_t_sheets h_t_bestFrom h_t_p0 h_t_p1 h_t_p2 h_t_p3 h_t_p0_growth h_t_p1_growth h_t_p2_growth h_t_p3_growth h_t_s0 h_t_s1 h_t_s2 h_t_s3 h_t_s0_items h_t_s1_items h_t_s2_items h_t_s3_items v_latestFinding v_phours u42_pgrowth v_sform v_ssize v_sitems) H → va_D (va_A (wd_X7_read cI cZ cP cS h_t h_t_red h_t_blue h_t_sky h_t_diary h_t_calendar h_t_awakeIn h_t_worths h_t_plants h_t_sheets h_t_bestFrom h_t_p0 h_t_p1 h_t_p2 h_t_p3 h_t_p0_growth h_t_p1_growth h_t_p2_growth h_t_p3_growth h_t_s0 h_t_s1 h_t_s2 h_t_s3 h_t_s0_items h_t_s1_items h_t_s2_items h_t_s3_items v_latestFinding v_phours v_pgrowth v_sform v_ssize v_sitems) s.heap.size) (wd_X7_read cI cZ cP cS h_t h_t_red h_t_blue h_t_sky h_t_diary h_t_calendar h_t_awakeIn h_t_worths h_t_plants h_t_sheets h_t_bestFrom h_t_p0 h_t_p1 h_t_p2 h_t_p3 h_t_p0_growth h_t_p1_growth h_t_p2_growth h_t_p3_growth h_t_s0 h_t_s1 h_t_s2 h_t_s3 h_t_s0_items h_t_s1_items h_t_s2_items h_t_s3_items v_latestFinding v_phours u42_pgrowth v_sform v_ssize v_sitems) → va_S (va_A (wd_X7_read cI cZ cP cS h_t h_t_red h_t_blue h_t_sky h_t_diary h_t_calendar h_t_awakeIn h_t_worths h_t_plants h_t_sheets h_t_bestFrom h_t_p0 h_t_p1 h_t_p2 h_t_p3 h_t_p0_growth h_t_p1_growth h_t_p2_growth h_t_p3_growth h_t_s0 h_t_s1 h_t_s2 h_t_s3 h_t_s0_items h_t_s1_items h_t_s2_items h_t_s3_items v_latestFinding v_phours v_pgrowth v_sform v_ssize v_sitems) s.heap.size) s.heap H locs → kx42 z42_5 u42_pgrowth = some (r, o_latestFinding, o_pgrowth) → W p l e (headSpec wsX7_read rm_X7_read).room s m ([.ref h_t, .int x1, .int x2] : List Value).toArray below meth c H locs 0 0 (MQ below (RWi (dC, dI) (TY cI cZ cP cS) r s.heap.size (wd_X7_read cI cZ cP cS h_t h_t_red h_t_blue h_t_sky h_t_diary h_t_calendar h_t_awakeIn h_t_worths h_t_plants h_t_sheets h_t_bestFrom h_t_p0 h_t_p1 h_t_p2 h_t_p3 h_t_p0_growth h_t_p1_growth h_t_p2_growth h_t_p3_growth h_t_s0 h_t_s1 h_t_s2 h_t_s3 h_t_s0_items h_t_s1_items h_t_s2_items h_t_s3_items v_latestFinding v_phours v_pgrowth v_sform v_ssize v_sitems) (wd_X7_read cI cZ cP cS h_t h_t_red h_t_blue h_t_sky h_t_diary h_t_calendar h_t_awakeIn h_t_worths h_t_plants h_t_sheets h_t_bestFrom h_t_p0 h_t_p1 h_t_p2 h_t_p3 h_t_p0_growth h_t_p1_growth h_t_p2_growth h_t_p3_growth h_t_s0 h_t_s1 h_t_s2 h_t_s3 h_t_s0_items h_t_s1_items h_t_s2_items h_t_s3_items o_latestFinding v_phours o_pgrowth v_sform v_ssize v_sitems)) ([.ref h_t, .int x1, .int x2] : List Value).toArray s 0 0 (va_A (wd_X7_read cI cZ cP cS h_t h_t_red h_t_blue h_t_sky h_t_diary h_t_calendar h_t_awakeIn h_t_worths h_t_plants h_t_sheets h_t_bestFrom h_t_p0 h_t_p1 h_t_p2 h_t_p3 h_t_p0_growth h_t_p1_growth h_t_p2_growth h_t_p3_growth h_t_s0 h_t_s1 h_t_s2 h_t_s3 h_t_s0_items h_t_s1_items h_t_s2_items h_t_s3_items v_latestFinding v_phours v_pgrowth v_sform v_ssize v_sitems) s.heap.size)) (F0 m 91 ls []) := by
                  intro z42_5 u42_pgrowth H locs ls hl hP hD hS hf
                  rw [ekx42] at hf
                  refine lv_iload hx hb dX7_read_91 (lv_at hl 0 rfl) ?_
                  have hq0 := Option.some.inj hf
                  obtain ⟨eq0, hq1⟩ := Prod.mk.inj hq0
                  obtain ⟨eq1, hq2⟩ := Prod.mk.inj hq1
                  clear hf hq0 hq1
                  subst eq0
                  subst eq1
                  subst hq2
                  exact W.iret hx hb hr (fun t ht hW => ⟨⟨_, (), rfl, rfl, by rw [ht]; exact hP, va_K.moved hW.alike hK, hD⟩, hS.F ht⟩) hS.2.2 dX7_read_93
                have hL42 : ∀ (k42 : Nat) (y42_5 : Int32) (w42_pgrowth : Nat → Nat → Int32) (H : Heap) (locs : List Loc) (ls : Array Slot), lv_has ls 6 [(3, .ref h_t_s2), (4, .ref h_t_p2), (5, .int y42_5)] → va_P (dC, dI) vwCl (wd_X7_read cI cZ cP cS h_t h_t_red h_t_blue h_t_sky h_t_diary h_t_calendar h_t_awakeIn h_t_worths h_t_plants h_t_sheets h_t_bestFrom h_t_p0 h_t_p1 h_t_p2 h_t_p3 h_t_p0_growth h_t_p1_growth h_t_p2_growth h_t_p3_growth h_t_s0 h_t_s1 h_t_s2 h_t_s3 h_t_s0_items h_t_s1_items h_t_s2_items h_t_s3_items v_latestFinding v_phours w42_pgrowth v_sform v_ssize v_sitems) H → va_D (va_A (wd_X7_read cI cZ cP cS h_t h_t_red h_t_blue h_t_sky h_t_diary h_t_calendar h_t_awakeIn h_t_worths h_t_plants h_t_sheets h_t_bestFrom h_t_p0 h_t_p1 h_t_p2 h_t_p3 h_t_p0_growth h_t_p1_growth h_t_p2_growth h_t_p3_growth h_t_s0 h_t_s1 h_t_s2 h_t_s3 h_t_s0_items h_t_s1_items h_t_s2_items h_t_s3_items v_latestFinding v_phours v_pgrowth v_sform v_ssize v_sitems) s.heap.size) (wd_X7_read cI cZ cP cS h_t h_t_red h_t_blue h_t_sky h_t_diary h_t_calendar h_t_awakeIn h_t_worths h_t_plants h_t_sheets h_t_bestFrom h_t_p0 h_t_p1 h_t_p2 h_t_p3 h_t_p0_growth h_t_p1_growth h_t_p2_growth h_t_p3_growth h_t_s0 h_t_s1 h_t_s2 h_t_s3 h_t_s0_items h_t_s1_items h_t_s2_items h_t_s3_items v_latestFinding v_phours w42_pgrowth v_sform v_ssize v_sitems) → va_S (va_A (wd_X7_read cI cZ cP cS h_t h_t_red h_t_blue h_t_sky h_t_diary h_t_calendar h_t_awakeIn h_t_worths h_t_plants h_t_sheets h_t_bestFrom h_t_p0 h_t_p1 h_t_p2 h_t_p3 h_t_p0_growth h_t_p1_growth h_t_p2_growth h_t_p3_growth h_t_s0 h_t_s1 h_t_s2 h_t_s3 h_t_s0_items h_t_s1_items h_t_s2_items h_t_s3_items v_latestFinding v_phours v_pgrowth v_sform v_ssize v_sitems) s.heap.size) s.heap H locs → L_X7_read_42q11 n v_ssize v_sitems kx42 k42 y42_5 w42_pgrowth = some (r, o_latestFinding, o_pgrowth) → W p l e (headSpec wsX7_read rm_X7_read).room s m ([.ref h_t, .int x1, .int x2] : List Value).toArray below meth c H locs 0 0 (MQ below (RWi (dC, dI) (TY cI cZ cP cS) r s.heap.size (wd_X7_read cI cZ cP cS h_t h_t_red h_t_blue h_t_sky h_t_diary h_t_calendar h_t_awakeIn h_t_worths h_t_plants h_t_sheets h_t_bestFrom h_t_p0 h_t_p1 h_t_p2 h_t_p3 h_t_p0_growth h_t_p1_growth h_t_p2_growth h_t_p3_growth h_t_s0 h_t_s1 h_t_s2 h_t_s3 h_t_s0_items h_t_s1_items h_t_s2_items h_t_s3_items v_latestFinding v_phours v_pgrowth v_sform v_ssize v_sitems) (wd_X7_read cI cZ cP cS h_t h_t_red h_t_blue h_t_sky h_t_diary h_t_calendar h_t_awakeIn h_t_worths h_t_plants h_t_sheets h_t_bestFrom h_t_p0 h_t_p1 h_t_p2 h_t_p3 h_t_p0_growth h_t_p1_growth h_t_p2_growth h_t_p3_growth h_t_s0 h_t_s1 h_t_s2 h_t_s3 h_t_s0_items h_t_s1_items h_t_s2_items h_t_s3_items o_latestFinding v_phours o_pgrowth v_sform v_ssize v_sitems)) ([.ref h_t, .int x1, .int x2] : List Value).toArray s 0 0 (va_A (wd_X7_read cI cZ cP cS h_t h_t_red h_t_blue h_t_sky h_t_diary h_t_calendar h_t_awakeIn h_t_worths h_t_plants h_t_sheets h_t_bestFrom h_t_p0 h_t_p1 h_t_p2 h_t_p3 h_t_p0_growth h_t_p1_growth h_t_p2_growth h_t_p3_growth h_t_s0 h_t_s1 h_t_s2 h_t_s3 h_t_s0_items h_t_s1_items h_t_s2_items h_t_s3_items v_latestFinding v_phours v_pgrowth v_sform v_ssize v_sitems) s.heap.size)) (F0 m 42 ls []) := by
                  intro k42
                  induction k42 with
                  | zero =>
                    intro y42_5 w42_pgrowth H locs ls hl hP hD hS hf
                    exact absurd hf (fun h => Option.some_ne_none _ h.symm)
                  | succ k42 ih =>
                    intro y42_5 w42_pgrowth H locs ls hl hP hD hS hf
                    rw [L_X7_read_42q11_s] at hf
                    refine lv_iload hx hb dX7_read_42 (lv_at hl 2 rfl) ?_
                    refine lv_iconst (v := 4) hx hb dX7_read_44 (by decide) ?_
                    refine lv_icmp_ge (tgt := 91) hx hb dX7_read_45 (by decide) (fun c45 => ?_) (fun c45 => ?_)
                    · rw [if_pos c45] at hf
                      exact hx42 y42_5 w42_pgrowth H locs ls (lv_sub hl [2] rfl) hP hD hS hf
                    · rw [if_neg c45] at hf
                      refine lv_iload hx hb dX7_read_48 (lv_at hl 2 rfl) ?_
                      refine lv_aload_n hx hb dX7_read_50 rfl (lv_at hl 0 rfl) ?_
                      refine va_get (D := (dC, dI)) (ci := 3) (v := .int (v_ssize 2)) (C := RX3) (T := TX3) (N := 3) hx hb hts hinX3 hown hK hP 15 rfl rfl 1 (by decide) (hts (.fieldLink RX7 228 "SecondSunrise$Sheet" "size" "I") (by decide +kernel)) (fun _ h9 => h9) rfl dX7_read_51 ?_
                      refine lv_icmp_ge (tgt := 91) hx hb dX7_read_54 (by decide) (fun c54 => ?_) (fun c54 => ?_)
                      · rw [if_pos c54] at hf
                        exact hx42 y42_5 w42_pgrowth H locs ls (lv_sub hl [2] rfl) hP hD hS hf
                      · rw [if_neg c54] at hf
                        refine lv_aload_n hx hb dX7_read_57 rfl (lv_at hl 0 rfl) ?_
                        refine va_get (D := (dC, dI)) (ci := 3) (v := .ref h_t_s2_items) (C := RX3) (T := TX3) (N := 3) hx hb hts hinX3 hown hK hP 15 rfl rfl 2 (by decide) (hts (.fieldLink RX7 229 "SecondSunrise$Sheet" "items" "[I") (by decide +kernel)) (fun _ h9 => h9) rfl dX7_read_58 ?_
                        refine lv_iload hx hb dX7_read_61 (lv_at hl 2 rfl) ?_
                        obtain ⟨hi_115, hf⟩ := ix_e hf
                        refine va_iald hx hb hK hP 16 0 rfl rfl hi_115 dX7_read_63 ?_
                        obtain ⟨r64_116, hc_117, hf⟩ := bd1_e hf
                        refine vp_callSi (va_runS (As := [.int ((v_sitems 2) y42_5.toNatClampNeg)]) (rest := []) ⟨hx, hb, hml, hown, hts⟩ (c_X7_noGrowth l dC dI cI cZ cP cS   ((v_sitems 2) y42_5.toNatClampNeg) n r64_116 hc_117) (va_cwS 1 hts gX7_read_X7_noGrowth rfl rfl rfl (by decide +kernel) ⟨Nat.le_of_ble_eq_true rfl, Nat.le_of_ble_eq_true rfl⟩) (ps_ro hK (hP.sub (ws' := ([] : va_W)) [] rfl)) rfl rfl hl.1 rfl (lv_room (Nat.le_of_ble_eq_true rfl)) dX7_read_64 ⟨Nat.zero_le _, Nat.zero_le _⟩).run (fun x e_118 => ?_)
                        obtain ⟨e_118, hb_119⟩ := e_118
                        rw [e_118] at hb_119 ⊢
                        refine lv_if_ne (tgt := 91) hx hb dX7_read_67 (by decide) (fun c67 => ?_) (fun c67 => ?_)
                        · rw [if_neg c67] at hf
                          exact hx42 y42_5 w42_pgrowth H locs ls (lv_sub hl [2] rfl) hP hD hS hf
                        · rw [if_pos c67] at hf
                          refine lv_aload hx hb dX7_read_70 (lv_at hl 1 rfl) ?_
                          refine va_get (D := (dC, dI)) (ci := 2) (v := .ref h_t_p2_growth) (C := RX2) (T := TX2) (N := 2) hx hb hts hinX2 hown hK hP 6 rfl rfl 1 (by decide) (hts (.fieldLink RX7 215 "SecondSunrise$Plant" "growth" "[I") (by decide +kernel)) (fun _ h9 => h9) rfl dX7_read_72 ?_
                          refine lv_iload hx hb dX7_read_75 (lv_at hl 2 rfl) ?_
                          refine lv_aload_n hx hb dX7_read_77 rfl (lv_at hl 0 rfl) ?_
                          refine va_get (D := (dC, dI)) (ci := 3) (v := .ref h_t_s2_items) (C := RX3) (T := TX3) (N := 3) hx hb hts hinX3 hown hK hP 15 rfl rfl 2 (by decide) (hts (.fieldLink RX7 229 "SecondSunrise$Sheet" "items" "[I") (by decide +kernel)) (fun _ h9 => h9) rfl dX7_read_78 ?_
                          refine lv_iload hx hb dX7_read_81 (lv_at hl 2 rfl) ?_
                          obtain ⟨hi_120, hf⟩ := ix_e hf
                          refine va_iald hx hb hK hP 16 0 rfl rfl hi_120 dX7_read_83 ?_
                          obtain ⟨hi_121, hf⟩ := ix_e hf
                          refine va_iast hx hb hK hP hD hS 7 0 rfl rfl hi_121 dX7_read_84 (fun H locs hP hD hS => ?_)
                          have hP : va_P (dC, dI) vwCl (wd_X7_read cI cZ cP cS h_t h_t_red h_t_blue h_t_sky h_t_diary h_t_calendar h_t_awakeIn h_t_worths h_t_plants h_t_sheets h_t_bestFrom h_t_p0 h_t_p1 h_t_p2 h_t_p3 h_t_p0_growth h_t_p1_growth h_t_p2_growth h_t_p3_growth h_t_s0 h_t_s1 h_t_s2 h_t_s3 h_t_s0_items h_t_s1_items h_t_s2_items h_t_s3_items v_latestFinding v_phours (va_up w42_pgrowth 2 (upd (w42_pgrowth 2) y42_5.toNatClampNeg ((v_sitems 2) y42_5.toNatClampNeg))) v_sform v_ssize v_sitems) H := hP
                          have hD : va_D (va_A (wd_X7_read cI cZ cP cS h_t h_t_red h_t_blue h_t_sky h_t_diary h_t_calendar h_t_awakeIn h_t_worths h_t_plants h_t_sheets h_t_bestFrom h_t_p0 h_t_p1 h_t_p2 h_t_p3 h_t_p0_growth h_t_p1_growth h_t_p2_growth h_t_p3_growth h_t_s0 h_t_s1 h_t_s2 h_t_s3 h_t_s0_items h_t_s1_items h_t_s2_items h_t_s3_items v_latestFinding v_phours v_pgrowth v_sform v_ssize v_sitems) s.heap.size) (wd_X7_read cI cZ cP cS h_t h_t_red h_t_blue h_t_sky h_t_diary h_t_calendar h_t_awakeIn h_t_worths h_t_plants h_t_sheets h_t_bestFrom h_t_p0 h_t_p1 h_t_p2 h_t_p3 h_t_p0_growth h_t_p1_growth h_t_p2_growth h_t_p3_growth h_t_s0 h_t_s1 h_t_s2 h_t_s3 h_t_s0_items h_t_s1_items h_t_s2_items h_t_s3_items v_latestFinding v_phours (va_up w42_pgrowth 2 (upd (w42_pgrowth 2) y42_5.toNatClampNeg ((v_sitems 2) y42_5.toNatClampNeg))) v_sform v_ssize v_sitems) := hD
                          refine lv_iinc (v := (y42_5 + 1)) (lv' := [(5, .int (y42_5 + 1)), (3, .ref h_t_s2), (4, .ref h_t_p2)]) hx hb dX7_read_85 hl (k := 2) rfl rfl (by decide) rfl (fun ls hl => ?_)
                          refine lv_goto (tgt := 42) hx hb dX7_read_88 (by decide) ?_
                          exact ih (y42_5 + 1) (va_up w42_pgrowth 2 (upd (w42_pgrowth 2) y42_5.toNatClampNeg ((v_sitems 2) y42_5.toNatClampNeg))) H locs ls (lv_sub hl [1, 2, 0] rfl) hP hD hS hf
                exact hL42 n 0 v_pgrowth H locs ls (lv_sub hl [2, 1, 0] rfl) hP hD hS hf
              · rw [if_pos c30] at hf
                refine lv_aload_n hx hb dX7_read_33 rfl (lv_at hl 2 rfl) ?_
                refine lv_iconst (v := 1) hx hb dX7_read_34 (by decide) ?_
                obtain ⟨r35_122, o35_123, hc_124, hf⟩ := bd2_e hf
                refine rwi_call (isC := [0]) (isR := [1, 2, 3, 4, 5, 6, 7, 8, 9, 10, 11, 12, 13, 14, 15, 16, 17, 18]) (perm := [18, 0, 1, 2, 3, 4, 5, 6, 7, 8, 9, 10, 11, 12, 13, 14, 15, 16, 17]) (wr := [(h_t_plants, .inl (cP, 4, .inr (.inr (.inr (.inr (ar4 h_t_p0 h_t_p1 h_t_p2 h_t_p3)))))), (h_t_p0, .inr (2, [.int (v_phours 0), .ref h_t_p0_growth])), (h_t_p0_growth, .inl (cI, 4, .inl (v_pgrowth 0))), (h_t_p1, .inr (2, [.int (v_phours 1), .ref h_t_p1_growth])), (h_t_p1_growth, .inl (cI, 4, .inl (v_pgrowth 1))), (h_t_p2, .inr (2, [.int (v_phours 2), .ref h_t_p2_growth])), (h_t_p2_growth, .inl (cI, 4, .inl (v_pgrowth 2))), (h_t_p3, .inr (2, [.int (v_phours 3), .ref h_t_p3_growth])), (h_t_p3_growth, .inl (cI, 4, .inl (v_pgrowth 3))), (h_t_sheets, .inl (cS, 4, .inr (.inr (.inr (.inr (ar4 h_t_s0 h_t_s1 h_t_s2 h_t_s3)))))), (h_t_s0, .inr (3, [.int (v_sform 0), .int (v_ssize 0), .ref h_t_s0_items])), (h_t_s0_items, .inl (cI, 48, .inl (v_sitems 0))), (h_t_s1, .inr (3, [.int (v_sform 1), .int (v_ssize 1), .ref h_t_s1_items])), (h_t_s1_items, .inl (cI, 48, .inl (v_sitems 1))), (h_t_s2, .inr (3, [.int (v_sform 2), .int (v_ssize 2), .ref h_t_s2_items])), (h_t_s2_items, .inl (cI, 48, .inl (v_sitems 2))), (h_t_s3, .inr (3, [.int (v_sform 3), .int (v_ssize 3), .ref h_t_s3_items])), (h_t_s3_items, .inl (cI, 48, .inl (v_sitems 3)))]) (ws2 := (wd_X7_read cI cZ cP cS h_t h_t_red h_t_blue h_t_sky h_t_diary h_t_calendar h_t_awakeIn h_t_worths h_t_plants h_t_sheets h_t_bestFrom h_t_p0 h_t_p1 h_t_p2 h_t_p3 h_t_p0_growth h_t_p1_growth h_t_p2_growth h_t_p3_growth h_t_s0 h_t_s1 h_t_s2 h_t_s3 h_t_s0_items h_t_s1_items h_t_s2_items h_t_s3_items o35_123 v_phours v_pgrowth v_sform v_ssize v_sitems)) (va_runV (As := [.int 1]) (rest := []) ⟨hx, hb, hml, hown, hts⟩ (c_X7_found l dC dI cI cZ cP cS H.size h_t h_t_red h_t_blue h_t_sky h_t_diary h_t_calendar h_t_awakeIn h_t_worths h_t_plants h_t_sheets h_t_bestFrom v_latestFinding 1 n r35_122 o35_123 hc_124) (cwV 1 hts gX7_read_X7_found rfl rfl rfl (by decide +kernel) ⟨Nat.le_of_ble_eq_true rfl, Nat.le_of_ble_eq_true rfl⟩) (pv_rw (ci := 6) (q0 := 0) hK (hP.sub (ws' := (wd_X7_found cI cZ cP cS h_t h_t_red h_t_blue h_t_sky h_t_diary h_t_calendar h_t_awakeIn h_t_worths h_t_plants h_t_sheets h_t_bestFrom v_latestFinding)) [0] rfl) (hD.sub (ws' := (wd_X7_found cI cZ cP cS h_t h_t_red h_t_blue h_t_sky h_t_diary h_t_calendar h_t_awakeIn h_t_worths h_t_plants h_t_sheets h_t_bestFrom v_latestFinding)) [0] (by decide) rfl) rfl rfl) rfl rfl hl.1 rfl (lv_room (Nat.le_of_ble_eq_true rfl)) dX7_read_35 ⟨Nat.zero_le _, Nat.zero_le _⟩) hS hA hP hD rfl (by decide) (by decide) rfl (by decide) rfl rfl (fun H locs hP hD hS => ?_)
                have hq0 := Option.some.inj hf
                obtain ⟨eq0, hq1⟩ := Prod.mk.inj hq0
                obtain ⟨eq1, hq2⟩ := Prod.mk.inj hq1
                clear hf hq0 hq1
                subst eq0
                subst eq1
                subst hq2
                exact W.iret hx hb hr (fun t ht hW => ⟨⟨_, (), rfl, rfl, by rw [ht]; exact hP, va_K.moved hW.alike hK, hD⟩, hS.F ht⟩) hS.2.2 dX7_read_38
            · rw [if_neg c8_2] at hf e_92
              by_cases c8_3 : x2 = 3
              · rw [if_pos c8_3] at hf e_92
                subst e_92
                refine W.eq (g2 := F0 m 11 ls [.ref h_t_p3]) rfl ?_
                refine lv_astore (lv' := [(4, .ref h_t_p3), (3, .ref h_t_s2), (0, .ref h_t), (1, .int x1), (2, .int x2)]) hx hb dX7_read_11 hl (by decide) rfl (fun ls hl => ?_)
                refine lv_aload_n hx hb dX7_read_13 rfl (lv_at hl 1 rfl) ?_
                refine lv_ifnull hx hb dX7_read_14 ?_
                refine lv_aload hx hb dX7_read_17 (lv_at hl 0 rfl) ?_
                refine lv_ifnonnull (tgt := 25) hx hb dX7_read_19 (by decide) ?_
                refine lv_aload_n hx hb dX7_read_25 rfl (lv_at hl 1 rfl) ?_
                refine va_get (D := (dC, dI)) (ci := 3) (v := .int (v_sform 2)) (C := RX3) (T := TX3) (N := 3) hx hb hts hinX3 hown hK hP 15 rfl rfl 0 (by decide) (hts (.fieldLink RX7 222 "SecondSunrise$Sheet" "form" "I") (by decide +kernel)) (fun _ h9 => h9) rfl dX7_read_26 ?_
                refine lv_iconst (v := (-1)) hx hb dX7_read_29 (by decide) ?_
                refine lv_icmp_ne (tgt := 39) hx hb dX7_read_30 (by decide) (fun c30 => ?_) (fun c30 => ?_)
                · rw [if_neg c30] at hf
                  refine lv_iconst (v := 0) hx hb dX7_read_39 (by decide) ?_
                  refine lv_istore (lv' := [(5, .int 0), (4, .ref h_t_p3), (3, .ref h_t_s2), (0, .ref h_t), (1, .int x1), (2, .int x2)]) hx hb dX7_read_40 hl (by decide) rfl (fun ls hl => ?_)
                  obtain ⟨kx42, ekx42, hf⟩ := jn2_e hf
                  have hx42 : ∀ (z42_5 : Int32) (u42_pgrowth : Nat → Nat → Int32) (H : Heap) (locs : List Loc) (ls : Array Slot), lv_has ls 6 [(5, .int z42_5)] → va_P (dC, dI) vwCl (wd_X7_read cI cZ cP cS h_t h_t_red h_t_blue h_t_sky h_t_diary h_t_calendar h_t_awakeIn h_t_worths h_t_plants h_t_sheets h_t_bestFrom h_t_p0 h_t_p1 h_t_p2 h_t_p3 h_t_p0_growth h_t_p1_growth h_t_p2_growth h_t_p3_growth h_t_s0 h_t_s1 h_t_s2 h_t_s3 h_t_s0_items h_t_s1_items h_t_s2_items h_t_s3_items v_latestFinding v_phours u42_pgrowth v_sform v_ssize v_sitems) H → va_D (va_A (wd_X7_read cI cZ cP cS h_t h_t_red h_t_blue h_t_sky h_t_diary h_t_calendar h_t_awakeIn h_t_worths h_t_plants h_t_sheets h_t_bestFrom h_t_p0 h_t_p1 h_t_p2 h_t_p3 h_t_p0_growth h_t_p1_growth h_t_p2_growth h_t_p3_growth h_t_s0 h_t_s1 h_t_s2 h_t_s3 h_t_s0_items h_t_s1_items h_t_s2_items h_t_s3_items v_latestFinding v_phours v_pgrowth v_sform v_ssize v_sitems) s.heap.size) (wd_X7_read cI cZ cP cS h_t h_t_red h_t_blue h_t_sky h_t_diary h_t_calendar h_t_awakeIn h_t_worths h_t_plants h_t_sheets h_t_bestFrom h_t_p0 h_t_p1 h_t_p2 h_t_p3 h_t_p0_growth h_t_p1_growth h_t_p2_growth h_t_p3_growth h_t_s0 h_t_s1 h_t_s2 h_t_s3 h_t_s0_items h_t_s1_items h_t_s2_items h_t_s3_items v_latestFinding v_phours u42_pgrowth v_sform v_ssize v_sitems) → va_S (va_A (wd_X7_read cI cZ cP cS h_t h_t_red h_t_blue h_t_sky h_t_diary h_t_calendar h_t_awakeIn h_t_worths h_t_plants h_t_sheets h_t_bestFrom h_t_p0 h_t_p1 h_t_p2 h_t_p3 h_t_p0_growth h_t_p1_growth h_t_p2_growth h_t_p3_growth h_t_s0 h_t_s1 h_t_s2 h_t_s3 h_t_s0_items h_t_s1_items h_t_s2_items h_t_s3_items v_latestFinding v_phours v_pgrowth v_sform v_ssize v_sitems) s.heap.size) s.heap H locs → kx42 z42_5 u42_pgrowth = some (r, o_latestFinding, o_pgrowth) → W p l e (headSpec wsX7_read rm_X7_read).room s m ([.ref h_t, .int x1, .int x2] : List Value).toArray below meth c H locs 0 0 (MQ below (RWi (dC, dI) (TY cI cZ cP cS) r s.heap.size (wd_X7_read cI cZ cP cS h_t h_t_red h_t_blue h_t_sky h_t_diary h_t_calendar h_t_awakeIn h_t_worths h_t_plants h_t_sheets h_t_bestFrom h_t_p0 h_t_p1 h_t_p2 h_t_p3 h_t_p0_growth h_t_p1_growth h_t_p2_growth h_t_p3_growth h_t_s0 h_t_s1 h_t_s2 h_t_s3 h_t_s0_items h_t_s1_items h_t_s2_items h_t_s3_items v_latestFinding v_phours v_pgrowth v_sform v_ssize v_sitems) (wd_X7_read cI cZ cP cS h_t h_t_red h_t_blue h_t_sky h_t_diary h_t_calendar h_t_awakeIn h_t_worths h_t_plants h_t_sheets h_t_bestFrom h_t_p0 h_t_p1 h_t_p2 h_t_p3 h_t_p0_growth h_t_p1_growth h_t_p2_growth h_t_p3_growth h_t_s0 h_t_s1 h_t_s2 h_t_s3 h_t_s0_items h_t_s1_items h_t_s2_items h_t_s3_items o_latestFinding v_phours o_pgrowth v_sform v_ssize v_sitems)) ([.ref h_t, .int x1, .int x2] : List Value).toArray s 0 0 (va_A (wd_X7_read cI cZ cP cS h_t h_t_red h_t_blue h_t_sky h_t_diary h_t_calendar h_t_awakeIn h_t_worths h_t_plants h_t_sheets h_t_bestFrom h_t_p0 h_t_p1 h_t_p2 h_t_p3 h_t_p0_growth h_t_p1_growth h_t_p2_growth h_t_p3_growth h_t_s0 h_t_s1 h_t_s2 h_t_s3 h_t_s0_items h_t_s1_items h_t_s2_items h_t_s3_items v_latestFinding v_phours v_pgrowth v_sform v_ssize v_sitems) s.heap.size)) (F0 m 91 ls []) := by
                    intro z42_5 u42_pgrowth H locs ls hl hP hD hS hf
                    rw [ekx42] at hf
                    refine lv_iload hx hb dX7_read_91 (lv_at hl 0 rfl) ?_
                    have hq0 := Option.some.inj hf
                    obtain ⟨eq0, hq1⟩ := Prod.mk.inj hq0
                    obtain ⟨eq1, hq2⟩ := Prod.mk.inj hq1
                    clear hf hq0 hq1
                    subst eq0
                    subst eq1
                    subst hq2
                    exact W.iret hx hb hr (fun t ht hW => ⟨⟨_, (), rfl, rfl, by rw [ht]; exact hP, va_K.moved hW.alike hK, hD⟩, hS.F ht⟩) hS.2.2 dX7_read_93
                  have hL42 : ∀ (k42 : Nat) (y42_5 : Int32) (w42_pgrowth : Nat → Nat → Int32) (H : Heap) (locs : List Loc) (ls : Array Slot), lv_has ls 6 [(3, .ref h_t_s2), (4, .ref h_t_p3), (5, .int y42_5)] → va_P (dC, dI) vwCl (wd_X7_read cI cZ cP cS h_t h_t_red h_t_blue h_t_sky h_t_diary h_t_calendar h_t_awakeIn h_t_worths h_t_plants h_t_sheets h_t_bestFrom h_t_p0 h_t_p1 h_t_p2 h_t_p3 h_t_p0_growth h_t_p1_growth h_t_p2_growth h_t_p3_growth h_t_s0 h_t_s1 h_t_s2 h_t_s3 h_t_s0_items h_t_s1_items h_t_s2_items h_t_s3_items v_latestFinding v_phours w42_pgrowth v_sform v_ssize v_sitems) H → va_D (va_A (wd_X7_read cI cZ cP cS h_t h_t_red h_t_blue h_t_sky h_t_diary h_t_calendar h_t_awakeIn h_t_worths h_t_plants h_t_sheets h_t_bestFrom h_t_p0 h_t_p1 h_t_p2 h_t_p3 h_t_p0_growth h_t_p1_growth h_t_p2_growth h_t_p3_growth h_t_s0 h_t_s1 h_t_s2 h_t_s3 h_t_s0_items h_t_s1_items h_t_s2_items h_t_s3_items v_latestFinding v_phours v_pgrowth v_sform v_ssize v_sitems) s.heap.size) (wd_X7_read cI cZ cP cS h_t h_t_red h_t_blue h_t_sky h_t_diary h_t_calendar h_t_awakeIn h_t_worths h_t_plants h_t_sheets h_t_bestFrom h_t_p0 h_t_p1 h_t_p2 h_t_p3 h_t_p0_growth h_t_p1_growth h_t_p2_growth h_t_p3_growth h_t_s0 h_t_s1 h_t_s2 h_t_s3 h_t_s0_items h_t_s1_items h_t_s2_items h_t_s3_items v_latestFinding v_phours w42_pgrowth v_sform v_ssize v_sitems) → va_S (va_A (wd_X7_read cI cZ cP cS h_t h_t_red h_t_blue h_t_sky h_t_diary h_t_calendar h_t_awakeIn h_t_worths h_t_plants h_t_sheets h_t_bestFrom h_t_p0 h_t_p1 h_t_p2 h_t_p3 h_t_p0_growth h_t_p1_growth h_t_p2_growth h_t_p3_growth h_t_s0 h_t_s1 h_t_s2 h_t_s3 h_t_s0_items h_t_s1_items h_t_s2_items h_t_s3_items v_latestFinding v_phours v_pgrowth v_sform v_ssize v_sitems) s.heap.size) s.heap H locs → L_X7_read_42q12 n v_ssize v_sitems kx42 k42 y42_5 w42_pgrowth = some (r, o_latestFinding, o_pgrowth) → W p l e (headSpec wsX7_read rm_X7_read).room s m ([.ref h_t, .int x1, .int x2] : List Value).toArray below meth c H locs 0 0 (MQ below (RWi (dC, dI) (TY cI cZ cP cS) r s.heap.size (wd_X7_read cI cZ cP cS h_t h_t_red h_t_blue h_t_sky h_t_diary h_t_calendar h_t_awakeIn h_t_worths h_t_plants h_t_sheets h_t_bestFrom h_t_p0 h_t_p1 h_t_p2 h_t_p3 h_t_p0_growth h_t_p1_growth h_t_p2_growth h_t_p3_growth h_t_s0 h_t_s1 h_t_s2 h_t_s3 h_t_s0_items h_t_s1_items h_t_s2_items h_t_s3_items v_latestFinding v_phours v_pgrowth v_sform v_ssize v_sitems) (wd_X7_read cI cZ cP cS h_t h_t_red h_t_blue h_t_sky h_t_diary h_t_calendar h_t_awakeIn h_t_worths h_t_plants h_t_sheets h_t_bestFrom h_t_p0 h_t_p1 h_t_p2 h_t_p3 h_t_p0_growth h_t_p1_growth h_t_p2_growth h_t_p3_growth h_t_s0 h_t_s1 h_t_s2 h_t_s3 h_t_s0_items h_t_s1_items h_t_s2_items h_t_s3_items o_latestFinding v_phours o_pgrowth v_sform v_ssize v_sitems)) ([.ref h_t, .int x1, .int x2] : List Value).toArray s 0 0 (va_A (wd_X7_read cI cZ cP cS h_t h_t_red h_t_blue h_t_sky h_t_diary h_t_calendar h_t_awakeIn h_t_worths h_t_plants h_t_sheets h_t_bestFrom h_t_p0 h_t_p1 h_t_p2 h_t_p3 h_t_p0_growth h_t_p1_growth h_t_p2_growth h_t_p3_growth h_t_s0 h_t_s1 h_t_s2 h_t_s3 h_t_s0_items h_t_s1_items h_t_s2_items h_t_s3_items v_latestFinding v_phours v_pgrowth v_sform v_ssize v_sitems) s.heap.size)) (F0 m 42 ls []) := by
                    intro k42
                    induction k42 with
                    | zero =>
                      intro y42_5 w42_pgrowth H locs ls hl hP hD hS hf
                      exact absurd hf (fun h => Option.some_ne_none _ h.symm)
                    | succ k42 ih =>
                      intro y42_5 w42_pgrowth H locs ls hl hP hD hS hf
                      rw [L_X7_read_42q12_s] at hf
                      refine lv_iload hx hb dX7_read_42 (lv_at hl 2 rfl) ?_
                      refine lv_iconst (v := 4) hx hb dX7_read_44 (by decide) ?_
                      refine lv_icmp_ge (tgt := 91) hx hb dX7_read_45 (by decide) (fun c45 => ?_) (fun c45 => ?_)
                      · rw [if_pos c45] at hf
                        exact hx42 y42_5 w42_pgrowth H locs ls (lv_sub hl [2] rfl) hP hD hS hf
                      · rw [if_neg c45] at hf
                        refine lv_iload hx hb dX7_read_48 (lv_at hl 2 rfl) ?_
                        refine lv_aload_n hx hb dX7_read_50 rfl (lv_at hl 0 rfl) ?_
                        refine va_get (D := (dC, dI)) (ci := 3) (v := .int (v_ssize 2)) (C := RX3) (T := TX3) (N := 3) hx hb hts hinX3 hown hK hP 15 rfl rfl 1 (by decide) (hts (.fieldLink RX7 228 "SecondSunrise$Sheet" "size" "I") (by decide +kernel)) (fun _ h9 => h9) rfl dX7_read_51 ?_
                        refine lv_icmp_ge (tgt := 91) hx hb dX7_read_54 (by decide) (fun c54 => ?_) (fun c54 => ?_)
                        · rw [if_pos c54] at hf
                          exact hx42 y42_5 w42_pgrowth H locs ls (lv_sub hl [2] rfl) hP hD hS hf
                        · rw [if_neg c54] at hf
                          refine lv_aload_n hx hb dX7_read_57 rfl (lv_at hl 0 rfl) ?_
                          refine va_get (D := (dC, dI)) (ci := 3) (v := .ref h_t_s2_items) (C := RX3) (T := TX3) (N := 3) hx hb hts hinX3 hown hK hP 15 rfl rfl 2 (by decide) (hts (.fieldLink RX7 229 "SecondSunrise$Sheet" "items" "[I") (by decide +kernel)) (fun _ h9 => h9) rfl dX7_read_58 ?_
                          refine lv_iload hx hb dX7_read_61 (lv_at hl 2 rfl) ?_
                          obtain ⟨hi_126, hf⟩ := ix_e hf
                          refine va_iald hx hb hK hP 16 0 rfl rfl hi_126 dX7_read_63 ?_
                          obtain ⟨r64_127, hc_128, hf⟩ := bd1_e hf
                          refine vp_callSi (va_runS (As := [.int ((v_sitems 2) y42_5.toNatClampNeg)]) (rest := []) ⟨hx, hb, hml, hown, hts⟩ (c_X7_noGrowth l dC dI cI cZ cP cS   ((v_sitems 2) y42_5.toNatClampNeg) n r64_127 hc_128) (va_cwS 1 hts gX7_read_X7_noGrowth rfl rfl rfl (by decide +kernel) ⟨Nat.le_of_ble_eq_true rfl, Nat.le_of_ble_eq_true rfl⟩) (ps_ro hK (hP.sub (ws' := ([] : va_W)) [] rfl)) rfl rfl hl.1 rfl (lv_room (Nat.le_of_ble_eq_true rfl)) dX7_read_64 ⟨Nat.zero_le _, Nat.zero_le _⟩).run (fun x e_129 => ?_)
                          obtain ⟨e_129, hb_130⟩ := e_129
                          rw [e_129] at hb_130 ⊢
                          refine lv_if_ne (tgt := 91) hx hb dX7_read_67 (by decide) (fun c67 => ?_) (fun c67 => ?_)
                          · rw [if_neg c67] at hf
                            exact hx42 y42_5 w42_pgrowth H locs ls (lv_sub hl [2] rfl) hP hD hS hf
                          · rw [if_pos c67] at hf
                            refine lv_aload hx hb dX7_read_70 (lv_at hl 1 rfl) ?_
                            refine va_get (D := (dC, dI)) (ci := 2) (v := .ref h_t_p3_growth) (C := RX2) (T := TX2) (N := 2) hx hb hts hinX2 hown hK hP 8 rfl rfl 1 (by decide) (hts (.fieldLink RX7 215 "SecondSunrise$Plant" "growth" "[I") (by decide +kernel)) (fun _ h9 => h9) rfl dX7_read_72 ?_
                            refine lv_iload hx hb dX7_read_75 (lv_at hl 2 rfl) ?_
                            refine lv_aload_n hx hb dX7_read_77 rfl (lv_at hl 0 rfl) ?_
                            refine va_get (D := (dC, dI)) (ci := 3) (v := .ref h_t_s2_items) (C := RX3) (T := TX3) (N := 3) hx hb hts hinX3 hown hK hP 15 rfl rfl 2 (by decide) (hts (.fieldLink RX7 229 "SecondSunrise$Sheet" "items" "[I") (by decide +kernel)) (fun _ h9 => h9) rfl dX7_read_78 ?_
                            refine lv_iload hx hb dX7_read_81 (lv_at hl 2 rfl) ?_
                            obtain ⟨hi_131, hf⟩ := ix_e hf
                            refine va_iald hx hb hK hP 16 0 rfl rfl hi_131 dX7_read_83 ?_
                            obtain ⟨hi_132, hf⟩ := ix_e hf
                            refine va_iast hx hb hK hP hD hS 9 0 rfl rfl hi_132 dX7_read_84 (fun H locs hP hD hS => ?_)
                            have hP : va_P (dC, dI) vwCl (wd_X7_read cI cZ cP cS h_t h_t_red h_t_blue h_t_sky h_t_diary h_t_calendar h_t_awakeIn h_t_worths h_t_plants h_t_sheets h_t_bestFrom h_t_p0 h_t_p1 h_t_p2 h_t_p3 h_t_p0_growth h_t_p1_growth h_t_p2_growth h_t_p3_growth h_t_s0 h_t_s1 h_t_s2 h_t_s3 h_t_s0_items h_t_s1_items h_t_s2_items h_t_s3_items v_latestFinding v_phours (va_up w42_pgrowth 3 (upd (w42_pgrowth 3) y42_5.toNatClampNeg ((v_sitems 2) y42_5.toNatClampNeg))) v_sform v_ssize v_sitems) H := hP
                            have hD : va_D (va_A (wd_X7_read cI cZ cP cS h_t h_t_red h_t_blue h_t_sky h_t_diary h_t_calendar h_t_awakeIn h_t_worths h_t_plants h_t_sheets h_t_bestFrom h_t_p0 h_t_p1 h_t_p2 h_t_p3 h_t_p0_growth h_t_p1_growth h_t_p2_growth h_t_p3_growth h_t_s0 h_t_s1 h_t_s2 h_t_s3 h_t_s0_items h_t_s1_items h_t_s2_items h_t_s3_items v_latestFinding v_phours v_pgrowth v_sform v_ssize v_sitems) s.heap.size) (wd_X7_read cI cZ cP cS h_t h_t_red h_t_blue h_t_sky h_t_diary h_t_calendar h_t_awakeIn h_t_worths h_t_plants h_t_sheets h_t_bestFrom h_t_p0 h_t_p1 h_t_p2 h_t_p3 h_t_p0_growth h_t_p1_growth h_t_p2_growth h_t_p3_growth h_t_s0 h_t_s1 h_t_s2 h_t_s3 h_t_s0_items h_t_s1_items h_t_s2_items h_t_s3_items v_latestFinding v_phours (va_up w42_pgrowth 3 (upd (w42_pgrowth 3) y42_5.toNatClampNeg ((v_sitems 2) y42_5.toNatClampNeg))) v_sform v_ssize v_sitems) := hD
                            refine lv_iinc (v := (y42_5 + 1)) (lv' := [(5, .int (y42_5 + 1)), (3, .ref h_t_s2), (4, .ref h_t_p3)]) hx hb dX7_read_85 hl (k := 2) rfl rfl (by decide) rfl (fun ls hl => ?_)
                            refine lv_goto (tgt := 42) hx hb dX7_read_88 (by decide) ?_
                            exact ih (y42_5 + 1) (va_up w42_pgrowth 3 (upd (w42_pgrowth 3) y42_5.toNatClampNeg ((v_sitems 2) y42_5.toNatClampNeg))) H locs ls (lv_sub hl [1, 2, 0] rfl) hP hD hS hf
                  exact hL42 n 0 v_pgrowth H locs ls (lv_sub hl [2, 1, 0] rfl) hP hD hS hf
                · rw [if_pos c30] at hf
                  refine lv_aload_n hx hb dX7_read_33 rfl (lv_at hl 2 rfl) ?_
                  refine lv_iconst (v := 1) hx hb dX7_read_34 (by decide) ?_
                  obtain ⟨r35_133, o35_134, hc_135, hf⟩ := bd2_e hf
                  refine rwi_call (isC := [0]) (isR := [1, 2, 3, 4, 5, 6, 7, 8, 9, 10, 11, 12, 13, 14, 15, 16, 17, 18]) (perm := [18, 0, 1, 2, 3, 4, 5, 6, 7, 8, 9, 10, 11, 12, 13, 14, 15, 16, 17]) (wr := [(h_t_plants, .inl (cP, 4, .inr (.inr (.inr (.inr (ar4 h_t_p0 h_t_p1 h_t_p2 h_t_p3)))))), (h_t_p0, .inr (2, [.int (v_phours 0), .ref h_t_p0_growth])), (h_t_p0_growth, .inl (cI, 4, .inl (v_pgrowth 0))), (h_t_p1, .inr (2, [.int (v_phours 1), .ref h_t_p1_growth])), (h_t_p1_growth, .inl (cI, 4, .inl (v_pgrowth 1))), (h_t_p2, .inr (2, [.int (v_phours 2), .ref h_t_p2_growth])), (h_t_p2_growth, .inl (cI, 4, .inl (v_pgrowth 2))), (h_t_p3, .inr (2, [.int (v_phours 3), .ref h_t_p3_growth])), (h_t_p3_growth, .inl (cI, 4, .inl (v_pgrowth 3))), (h_t_sheets, .inl (cS, 4, .inr (.inr (.inr (.inr (ar4 h_t_s0 h_t_s1 h_t_s2 h_t_s3)))))), (h_t_s0, .inr (3, [.int (v_sform 0), .int (v_ssize 0), .ref h_t_s0_items])), (h_t_s0_items, .inl (cI, 48, .inl (v_sitems 0))), (h_t_s1, .inr (3, [.int (v_sform 1), .int (v_ssize 1), .ref h_t_s1_items])), (h_t_s1_items, .inl (cI, 48, .inl (v_sitems 1))), (h_t_s2, .inr (3, [.int (v_sform 2), .int (v_ssize 2), .ref h_t_s2_items])), (h_t_s2_items, .inl (cI, 48, .inl (v_sitems 2))), (h_t_s3, .inr (3, [.int (v_sform 3), .int (v_ssize 3), .ref h_t_s3_items])), (h_t_s3_items, .inl (cI, 48, .inl (v_sitems 3)))]) (ws2 := (wd_X7_read cI cZ cP cS h_t h_t_red h_t_blue h_t_sky h_t_diary h_t_calendar h_t_awakeIn h_t_worths h_t_plants h_t_sheets h_t_bestFrom h_t_p0 h_t_p1 h_t_p2 h_t_p3 h_t_p0_growth h_t_p1_growth h_t_p2_growth h_t_p3_growth h_t_s0 h_t_s1 h_t_s2 h_t_s3 h_t_s0_items h_t_s1_items h_t_s2_items h_t_s3_items o35_134 v_phours v_pgrowth v_sform v_ssize v_sitems)) (va_runV (As := [.int 1]) (rest := []) ⟨hx, hb, hml, hown, hts⟩ (c_X7_found l dC dI cI cZ cP cS H.size h_t h_t_red h_t_blue h_t_sky h_t_diary h_t_calendar h_t_awakeIn h_t_worths h_t_plants h_t_sheets h_t_bestFrom v_latestFinding 1 n r35_133 o35_134 hc_135) (cwV 1 hts gX7_read_X7_found rfl rfl rfl (by decide +kernel) ⟨Nat.le_of_ble_eq_true rfl, Nat.le_of_ble_eq_true rfl⟩) (pv_rw (ci := 6) (q0 := 0) hK (hP.sub (ws' := (wd_X7_found cI cZ cP cS h_t h_t_red h_t_blue h_t_sky h_t_diary h_t_calendar h_t_awakeIn h_t_worths h_t_plants h_t_sheets h_t_bestFrom v_latestFinding)) [0] rfl) (hD.sub (ws' := (wd_X7_found cI cZ cP cS h_t h_t_red h_t_blue h_t_sky h_t_diary h_t_calendar h_t_awakeIn h_t_worths h_t_plants h_t_sheets h_t_bestFrom v_latestFinding)) [0] (by decide) rfl) rfl rfl) rfl rfl hl.1 rfl (lv_room (Nat.le_of_ble_eq_true rfl)) dX7_read_35 ⟨Nat.zero_le _, Nat.zero_le _⟩) hS hA hP hD rfl (by decide) (by decide) rfl (by decide) rfl rfl (fun H locs hP hD hS => ?_)
                  have hq0 := Option.some.inj hf
                  obtain ⟨eq0, hq1⟩ := Prod.mk.inj hq0
                  obtain ⟨eq1, hq2⟩ := Prod.mk.inj hq1
                  clear hf hq0 hq1
                  subst eq0
                  subst eq1
                  subst hq2
                  exact W.iret hx hb hr (fun t ht hW => ⟨⟨_, (), rfl, rfl, by rw [ht]; exact hP, va_K.moved hW.alike hK, hD⟩, hS.F ht⟩) hS.2.2 dX7_read_38
              · rw [if_neg c8_3] at hf e_92
                subst e_92
                refine W.eq (g2 := F0 m 11 ls [.null]) rfl ?_
                refine lv_astoreN (lv' := [(4, .null), (3, .ref h_t_s2), (0, .ref h_t), (1, .int x1), (2, .int x2)]) hx hb dX7_read_11 hl (by decide) rfl (fun ls hl => ?_)
                refine lv_aload_n hx hb dX7_read_13 rfl (lv_at hl 1 rfl) ?_
                refine lv_ifnull hx hb dX7_read_14 ?_
                refine lv_aloadN hx hb dX7_read_17 (lv_at hl 0 rfl) ?_
                refine lv_ifnonnullN hx hb dX7_read_19 ?_
                refine lv_bipush (v := (-2)) hx hb dX7_read_22 (by decide) ?_
                have hq0 := Option.some.inj hf
                obtain ⟨eq0, hq1⟩ := Prod.mk.inj hq0
                obtain ⟨eq1, hq2⟩ := Prod.mk.inj hq1
                clear hf hq0 hq1
                subst eq0
                subst eq1
                subst hq2
                exact W.iret hx hb hr (fun t ht hW => ⟨⟨_, (), rfl, rfl, by rw [ht]; exact hP, va_K.moved hW.alike hK, hD⟩, hS.F ht⟩) hS.2.2 dX7_read_24
      · rw [if_neg c2_2] at hf e_1
        by_cases c2_3 : x1 = 3
        · rw [if_pos c2_3] at hf e_1
          subst e_1
          refine W.eq (g2 := F0 m 5 ls [.ref h_t_s3]) rfl ?_
          refine lv_astore_n (lv' := [(3, .ref h_t_s3), (0, .ref h_t), (1, .int x1), (2, .int x2)]) hx hb dX7_read_5 rfl hl (by decide) rfl (fun ls hl => ?_)
          refine lv_aload_n hx hb dX7_read_6 rfl (lv_at hl 1 rfl) ?_
          refine lv_iload_n hx hb dX7_read_7 rfl (lv_at hl 3 rfl) ?_
          refine va_csq (va_runV (As := [.int x2]) (rest := []) ⟨hx, hb, hml, hown, hts⟩ (c_X7_plantOf l dC dI cI cZ cP cS h_t h_t_red h_t_blue h_t_sky h_t_diary h_t_calendar h_t_awakeIn h_t_worths h_t_plants h_t_sheets h_t_bestFrom h_t_p0 h_t_p1 h_t_p2 h_t_p3 v_latestFinding x2) (cwV 1 hts gX7_read_X7_plantOf rfl rfl rfl (by decide +kernel) ⟨Nat.le_of_ble_eq_true rfl, Nat.le_of_ble_eq_true rfl⟩) (pv_ro (ci := 6) (q0 := 0) hK (hP.sub (ws' := (wd_X7_plantOf cI cZ cP cS h_t h_t_red h_t_blue h_t_sky h_t_diary h_t_calendar h_t_awakeIn h_t_worths h_t_plants h_t_sheets h_t_bestFrom h_t_p0 h_t_p1 h_t_p2 h_t_p3 v_latestFinding)) [0, 1] rfl) rfl rfl) rfl rfl hl.1 rfl (lv_room (Nat.le_of_ble_eq_true rfl)) dX7_read_8 ⟨Nat.zero_le _, Nat.zero_le _⟩).run (fun x e_137 => ?_)
          by_cases c8_0 : x2 = 0
          · rw [if_pos c8_0] at hf e_137
            subst e_137
            refine W.eq (g2 := F0 m 11 ls [.ref h_t_p0]) rfl ?_
            refine lv_astore (lv' := [(4, .ref h_t_p0), (3, .ref h_t_s3), (0, .ref h_t), (1, .int x1), (2, .int x2)]) hx hb dX7_read_11 hl (by decide) rfl (fun ls hl => ?_)
            refine lv_aload_n hx hb dX7_read_13 rfl (lv_at hl 1 rfl) ?_
            refine lv_ifnull hx hb dX7_read_14 ?_
            refine lv_aload hx hb dX7_read_17 (lv_at hl 0 rfl) ?_
            refine lv_ifnonnull (tgt := 25) hx hb dX7_read_19 (by decide) ?_
            refine lv_aload_n hx hb dX7_read_25 rfl (lv_at hl 1 rfl) ?_
            refine va_get (D := (dC, dI)) (ci := 3) (v := .int (v_sform 3)) (C := RX3) (T := TX3) (N := 3) hx hb hts hinX3 hown hK hP 17 rfl rfl 0 (by decide) (hts (.fieldLink RX7 222 "SecondSunrise$Sheet" "form" "I") (by decide +kernel)) (fun _ h9 => h9) rfl dX7_read_26 ?_
            refine lv_iconst (v := (-1)) hx hb dX7_read_29 (by decide) ?_
            refine lv_icmp_ne (tgt := 39) hx hb dX7_read_30 (by decide) (fun c30 => ?_) (fun c30 => ?_)
            · rw [if_neg c30] at hf
              refine lv_iconst (v := 0) hx hb dX7_read_39 (by decide) ?_
              refine lv_istore (lv' := [(5, .int 0), (4, .ref h_t_p0), (3, .ref h_t_s3), (0, .ref h_t), (1, .int x1), (2, .int x2)]) hx hb dX7_read_40 hl (by decide) rfl (fun ls hl => ?_)
              obtain ⟨kx42, ekx42, hf⟩ := jn2_e hf
              have hx42 : ∀ (z42_5 : Int32) (u42_pgrowth : Nat → Nat → Int32) (H : Heap) (locs : List Loc) (ls : Array Slot), lv_has ls 6 [(5, .int z42_5)] → va_P (dC, dI) vwCl (wd_X7_read cI cZ cP cS h_t h_t_red h_t_blue h_t_sky h_t_diary h_t_calendar h_t_awakeIn h_t_worths h_t_plants h_t_sheets h_t_bestFrom h_t_p0 h_t_p1 h_t_p2 h_t_p3 h_t_p0_growth h_t_p1_growth h_t_p2_growth h_t_p3_growth h_t_s0 h_t_s1 h_t_s2 h_t_s3 h_t_s0_items h_t_s1_items h_t_s2_items h_t_s3_items v_latestFinding v_phours u42_pgrowth v_sform v_ssize v_sitems) H → va_D (va_A (wd_X7_read cI cZ cP cS h_t h_t_red h_t_blue h_t_sky h_t_diary h_t_calendar h_t_awakeIn h_t_worths h_t_plants h_t_sheets h_t_bestFrom h_t_p0 h_t_p1 h_t_p2 h_t_p3 h_t_p0_growth h_t_p1_growth h_t_p2_growth h_t_p3_growth h_t_s0 h_t_s1 h_t_s2 h_t_s3 h_t_s0_items h_t_s1_items h_t_s2_items h_t_s3_items v_latestFinding v_phours v_pgrowth v_sform v_ssize v_sitems) s.heap.size) (wd_X7_read cI cZ cP cS h_t h_t_red h_t_blue h_t_sky h_t_diary h_t_calendar h_t_awakeIn h_t_worths h_t_plants h_t_sheets h_t_bestFrom h_t_p0 h_t_p1 h_t_p2 h_t_p3 h_t_p0_growth h_t_p1_growth h_t_p2_growth h_t_p3_growth h_t_s0 h_t_s1 h_t_s2 h_t_s3 h_t_s0_items h_t_s1_items h_t_s2_items h_t_s3_items v_latestFinding v_phours u42_pgrowth v_sform v_ssize v_sitems) → va_S (va_A (wd_X7_read cI cZ cP cS h_t h_t_red h_t_blue h_t_sky h_t_diary h_t_calendar h_t_awakeIn h_t_worths h_t_plants h_t_sheets h_t_bestFrom h_t_p0 h_t_p1 h_t_p2 h_t_p3 h_t_p0_growth h_t_p1_growth h_t_p2_growth h_t_p3_growth h_t_s0 h_t_s1 h_t_s2 h_t_s3 h_t_s0_items h_t_s1_items h_t_s2_items h_t_s3_items v_latestFinding v_phours v_pgrowth v_sform v_ssize v_sitems) s.heap.size) s.heap H locs → kx42 z42_5 u42_pgrowth = some (r, o_latestFinding, o_pgrowth) → W p l e (headSpec wsX7_read rm_X7_read).room s m ([.ref h_t, .int x1, .int x2] : List Value).toArray below meth c H locs 0 0 (MQ below (RWi (dC, dI) (TY cI cZ cP cS) r s.heap.size (wd_X7_read cI cZ cP cS h_t h_t_red h_t_blue h_t_sky h_t_diary h_t_calendar h_t_awakeIn h_t_worths h_t_plants h_t_sheets h_t_bestFrom h_t_p0 h_t_p1 h_t_p2 h_t_p3 h_t_p0_growth h_t_p1_growth h_t_p2_growth h_t_p3_growth h_t_s0 h_t_s1 h_t_s2 h_t_s3 h_t_s0_items h_t_s1_items h_t_s2_items h_t_s3_items v_latestFinding v_phours v_pgrowth v_sform v_ssize v_sitems) (wd_X7_read cI cZ cP cS h_t h_t_red h_t_blue h_t_sky h_t_diary h_t_calendar h_t_awakeIn h_t_worths h_t_plants h_t_sheets h_t_bestFrom h_t_p0 h_t_p1 h_t_p2 h_t_p3 h_t_p0_growth h_t_p1_growth h_t_p2_growth h_t_p3_growth h_t_s0 h_t_s1 h_t_s2 h_t_s3 h_t_s0_items h_t_s1_items h_t_s2_items h_t_s3_items o_latestFinding v_phours o_pgrowth v_sform v_ssize v_sitems)) ([.ref h_t, .int x1, .int x2] : List Value).toArray s 0 0 (va_A (wd_X7_read cI cZ cP cS h_t h_t_red h_t_blue h_t_sky h_t_diary h_t_calendar h_t_awakeIn h_t_worths h_t_plants h_t_sheets h_t_bestFrom h_t_p0 h_t_p1 h_t_p2 h_t_p3 h_t_p0_growth h_t_p1_growth h_t_p2_growth h_t_p3_growth h_t_s0 h_t_s1 h_t_s2 h_t_s3 h_t_s0_items h_t_s1_items h_t_s2_items h_t_s3_items v_latestFinding v_phours v_pgrowth v_sform v_ssize v_sitems) s.heap.size)) (F0 m 91 ls []) := by
                intro z42_5 u42_pgrowth H locs ls hl hP hD hS hf
                rw [ekx42] at hf
                refine lv_iload hx hb dX7_read_91 (lv_at hl 0 rfl) ?_
                have hq0 := Option.some.inj hf
                obtain ⟨eq0, hq1⟩ := Prod.mk.inj hq0
                obtain ⟨eq1, hq2⟩ := Prod.mk.inj hq1
                clear hf hq0 hq1
                subst eq0
                subst eq1
                subst hq2
                exact W.iret hx hb hr (fun t ht hW => ⟨⟨_, (), rfl, rfl, by rw [ht]; exact hP, va_K.moved hW.alike hK, hD⟩, hS.F ht⟩) hS.2.2 dX7_read_93
              have hL42 : ∀ (k42 : Nat) (y42_5 : Int32) (w42_pgrowth : Nat → Nat → Int32) (H : Heap) (locs : List Loc) (ls : Array Slot), lv_has ls 6 [(3, .ref h_t_s3), (4, .ref h_t_p0), (5, .int y42_5)] → va_P (dC, dI) vwCl (wd_X7_read cI cZ cP cS h_t h_t_red h_t_blue h_t_sky h_t_diary h_t_calendar h_t_awakeIn h_t_worths h_t_plants h_t_sheets h_t_bestFrom h_t_p0 h_t_p1 h_t_p2 h_t_p3 h_t_p0_growth h_t_p1_growth h_t_p2_growth h_t_p3_growth h_t_s0 h_t_s1 h_t_s2 h_t_s3 h_t_s0_items h_t_s1_items h_t_s2_items h_t_s3_items v_latestFinding v_phours w42_pgrowth v_sform v_ssize v_sitems) H → va_D (va_A (wd_X7_read cI cZ cP cS h_t h_t_red h_t_blue h_t_sky h_t_diary h_t_calendar h_t_awakeIn h_t_worths h_t_plants h_t_sheets h_t_bestFrom h_t_p0 h_t_p1 h_t_p2 h_t_p3 h_t_p0_growth h_t_p1_growth h_t_p2_growth h_t_p3_growth h_t_s0 h_t_s1 h_t_s2 h_t_s3 h_t_s0_items h_t_s1_items h_t_s2_items h_t_s3_items v_latestFinding v_phours v_pgrowth v_sform v_ssize v_sitems) s.heap.size) (wd_X7_read cI cZ cP cS h_t h_t_red h_t_blue h_t_sky h_t_diary h_t_calendar h_t_awakeIn h_t_worths h_t_plants h_t_sheets h_t_bestFrom h_t_p0 h_t_p1 h_t_p2 h_t_p3 h_t_p0_growth h_t_p1_growth h_t_p2_growth h_t_p3_growth h_t_s0 h_t_s1 h_t_s2 h_t_s3 h_t_s0_items h_t_s1_items h_t_s2_items h_t_s3_items v_latestFinding v_phours w42_pgrowth v_sform v_ssize v_sitems) → va_S (va_A (wd_X7_read cI cZ cP cS h_t h_t_red h_t_blue h_t_sky h_t_diary h_t_calendar h_t_awakeIn h_t_worths h_t_plants h_t_sheets h_t_bestFrom h_t_p0 h_t_p1 h_t_p2 h_t_p3 h_t_p0_growth h_t_p1_growth h_t_p2_growth h_t_p3_growth h_t_s0 h_t_s1 h_t_s2 h_t_s3 h_t_s0_items h_t_s1_items h_t_s2_items h_t_s3_items v_latestFinding v_phours v_pgrowth v_sform v_ssize v_sitems) s.heap.size) s.heap H locs → L_X7_read_42q13 n v_ssize v_sitems kx42 k42 y42_5 w42_pgrowth = some (r, o_latestFinding, o_pgrowth) → W p l e (headSpec wsX7_read rm_X7_read).room s m ([.ref h_t, .int x1, .int x2] : List Value).toArray below meth c H locs 0 0 (MQ below (RWi (dC, dI) (TY cI cZ cP cS) r s.heap.size (wd_X7_read cI cZ cP cS h_t h_t_red h_t_blue h_t_sky h_t_diary h_t_calendar h_t_awakeIn h_t_worths h_t_plants h_t_sheets h_t_bestFrom h_t_p0 h_t_p1 h_t_p2 h_t_p3 h_t_p0_growth h_t_p1_growth h_t_p2_growth h_t_p3_growth h_t_s0 h_t_s1 h_t_s2 h_t_s3 h_t_s0_items h_t_s1_items h_t_s2_items h_t_s3_items v_latestFinding v_phours v_pgrowth v_sform v_ssize v_sitems) (wd_X7_read cI cZ cP cS h_t h_t_red h_t_blue h_t_sky h_t_diary h_t_calendar h_t_awakeIn h_t_worths h_t_plants h_t_sheets h_t_bestFrom h_t_p0 h_t_p1 h_t_p2 h_t_p3 h_t_p0_growth h_t_p1_growth h_t_p2_growth h_t_p3_growth h_t_s0 h_t_s1 h_t_s2 h_t_s3 h_t_s0_items h_t_s1_items h_t_s2_items h_t_s3_items o_latestFinding v_phours o_pgrowth v_sform v_ssize v_sitems)) ([.ref h_t, .int x1, .int x2] : List Value).toArray s 0 0 (va_A (wd_X7_read cI cZ cP cS h_t h_t_red h_t_blue h_t_sky h_t_diary h_t_calendar h_t_awakeIn h_t_worths h_t_plants h_t_sheets h_t_bestFrom h_t_p0 h_t_p1 h_t_p2 h_t_p3 h_t_p0_growth h_t_p1_growth h_t_p2_growth h_t_p3_growth h_t_s0 h_t_s1 h_t_s2 h_t_s3 h_t_s0_items h_t_s1_items h_t_s2_items h_t_s3_items v_latestFinding v_phours v_pgrowth v_sform v_ssize v_sitems) s.heap.size)) (F0 m 42 ls []) := by
                intro k42
                induction k42 with
                | zero =>
                  intro y42_5 w42_pgrowth H locs ls hl hP hD hS hf
                  exact absurd hf (fun h => Option.some_ne_none _ h.symm)
                | succ k42 ih =>
                  intro y42_5 w42_pgrowth H locs ls hl hP hD hS hf
                  rw [L_X7_read_42q13_s] at hf
                  refine lv_iload hx hb dX7_read_42 (lv_at hl 2 rfl) ?_
                  refine lv_iconst (v := 4) hx hb dX7_read_44 (by decide) ?_
                  refine lv_icmp_ge (tgt := 91) hx hb dX7_read_45 (by decide) (fun c45 => ?_) (fun c45 => ?_)
                  · rw [if_pos c45] at hf
                    exact hx42 y42_5 w42_pgrowth H locs ls (lv_sub hl [2] rfl) hP hD hS hf
                  · rw [if_neg c45] at hf
                    refine lv_iload hx hb dX7_read_48 (lv_at hl 2 rfl) ?_
                    refine lv_aload_n hx hb dX7_read_50 rfl (lv_at hl 0 rfl) ?_
                    refine va_get (D := (dC, dI)) (ci := 3) (v := .int (v_ssize 3)) (C := RX3) (T := TX3) (N := 3) hx hb hts hinX3 hown hK hP 17 rfl rfl 1 (by decide) (hts (.fieldLink RX7 228 "SecondSunrise$Sheet" "size" "I") (by decide +kernel)) (fun _ h9 => h9) rfl dX7_read_51 ?_
                    refine lv_icmp_ge (tgt := 91) hx hb dX7_read_54 (by decide) (fun c54 => ?_) (fun c54 => ?_)
                    · rw [if_pos c54] at hf
                      exact hx42 y42_5 w42_pgrowth H locs ls (lv_sub hl [2] rfl) hP hD hS hf
                    · rw [if_neg c54] at hf
                      refine lv_aload_n hx hb dX7_read_57 rfl (lv_at hl 0 rfl) ?_
                      refine va_get (D := (dC, dI)) (ci := 3) (v := .ref h_t_s3_items) (C := RX3) (T := TX3) (N := 3) hx hb hts hinX3 hown hK hP 17 rfl rfl 2 (by decide) (hts (.fieldLink RX7 229 "SecondSunrise$Sheet" "items" "[I") (by decide +kernel)) (fun _ h9 => h9) rfl dX7_read_58 ?_
                      refine lv_iload hx hb dX7_read_61 (lv_at hl 2 rfl) ?_
                      obtain ⟨hi_138, hf⟩ := ix_e hf
                      refine va_iald hx hb hK hP 18 0 rfl rfl hi_138 dX7_read_63 ?_
                      obtain ⟨r64_139, hc_140, hf⟩ := bd1_e hf
                      refine vp_callSi (va_runS (As := [.int ((v_sitems 3) y42_5.toNatClampNeg)]) (rest := []) ⟨hx, hb, hml, hown, hts⟩ (c_X7_noGrowth l dC dI cI cZ cP cS   ((v_sitems 3) y42_5.toNatClampNeg) n r64_139 hc_140) (va_cwS 1 hts gX7_read_X7_noGrowth rfl rfl rfl (by decide +kernel) ⟨Nat.le_of_ble_eq_true rfl, Nat.le_of_ble_eq_true rfl⟩) (ps_ro hK (hP.sub (ws' := ([] : va_W)) [] rfl)) rfl rfl hl.1 rfl (lv_room (Nat.le_of_ble_eq_true rfl)) dX7_read_64 ⟨Nat.zero_le _, Nat.zero_le _⟩).run (fun x e_141 => ?_)
                      obtain ⟨e_141, hb_142⟩ := e_141
                      rw [e_141] at hb_142 ⊢
                      refine lv_if_ne (tgt := 91) hx hb dX7_read_67 (by decide) (fun c67 => ?_) (fun c67 => ?_)
                      · rw [if_neg c67] at hf
                        exact hx42 y42_5 w42_pgrowth H locs ls (lv_sub hl [2] rfl) hP hD hS hf
                      · rw [if_pos c67] at hf
                        refine lv_aload hx hb dX7_read_70 (lv_at hl 1 rfl) ?_
                        refine va_get (D := (dC, dI)) (ci := 2) (v := .ref h_t_p0_growth) (C := RX2) (T := TX2) (N := 2) hx hb hts hinX2 hown hK hP 2 rfl rfl 1 (by decide) (hts (.fieldLink RX7 215 "SecondSunrise$Plant" "growth" "[I") (by decide +kernel)) (fun _ h9 => h9) rfl dX7_read_72 ?_
                        refine lv_iload hx hb dX7_read_75 (lv_at hl 2 rfl) ?_
                        refine lv_aload_n hx hb dX7_read_77 rfl (lv_at hl 0 rfl) ?_
                        refine va_get (D := (dC, dI)) (ci := 3) (v := .ref h_t_s3_items) (C := RX3) (T := TX3) (N := 3) hx hb hts hinX3 hown hK hP 17 rfl rfl 2 (by decide) (hts (.fieldLink RX7 229 "SecondSunrise$Sheet" "items" "[I") (by decide +kernel)) (fun _ h9 => h9) rfl dX7_read_78 ?_
                        refine lv_iload hx hb dX7_read_81 (lv_at hl 2 rfl) ?_
                        obtain ⟨hi_143, hf⟩ := ix_e hf
                        refine va_iald hx hb hK hP 18 0 rfl rfl hi_143 dX7_read_83 ?_
                        obtain ⟨hi_144, hf⟩ := ix_e hf
                        refine va_iast hx hb hK hP hD hS 3 0 rfl rfl hi_144 dX7_read_84 (fun H locs hP hD hS => ?_)
                        have hP : va_P (dC, dI) vwCl (wd_X7_read cI cZ cP cS h_t h_t_red h_t_blue h_t_sky h_t_diary h_t_calendar h_t_awakeIn h_t_worths h_t_plants h_t_sheets h_t_bestFrom h_t_p0 h_t_p1 h_t_p2 h_t_p3 h_t_p0_growth h_t_p1_growth h_t_p2_growth h_t_p3_growth h_t_s0 h_t_s1 h_t_s2 h_t_s3 h_t_s0_items h_t_s1_items h_t_s2_items h_t_s3_items v_latestFinding v_phours (va_up w42_pgrowth 0 (upd (w42_pgrowth 0) y42_5.toNatClampNeg ((v_sitems 3) y42_5.toNatClampNeg))) v_sform v_ssize v_sitems) H := hP
                        have hD : va_D (va_A (wd_X7_read cI cZ cP cS h_t h_t_red h_t_blue h_t_sky h_t_diary h_t_calendar h_t_awakeIn h_t_worths h_t_plants h_t_sheets h_t_bestFrom h_t_p0 h_t_p1 h_t_p2 h_t_p3 h_t_p0_growth h_t_p1_growth h_t_p2_growth h_t_p3_growth h_t_s0 h_t_s1 h_t_s2 h_t_s3 h_t_s0_items h_t_s1_items h_t_s2_items h_t_s3_items v_latestFinding v_phours v_pgrowth v_sform v_ssize v_sitems) s.heap.size) (wd_X7_read cI cZ cP cS h_t h_t_red h_t_blue h_t_sky h_t_diary h_t_calendar h_t_awakeIn h_t_worths h_t_plants h_t_sheets h_t_bestFrom h_t_p0 h_t_p1 h_t_p2 h_t_p3 h_t_p0_growth h_t_p1_growth h_t_p2_growth h_t_p3_growth h_t_s0 h_t_s1 h_t_s2 h_t_s3 h_t_s0_items h_t_s1_items h_t_s2_items h_t_s3_items v_latestFinding v_phours (va_up w42_pgrowth 0 (upd (w42_pgrowth 0) y42_5.toNatClampNeg ((v_sitems 3) y42_5.toNatClampNeg))) v_sform v_ssize v_sitems) := hD
                        refine lv_iinc (v := (y42_5 + 1)) (lv' := [(5, .int (y42_5 + 1)), (3, .ref h_t_s3), (4, .ref h_t_p0)]) hx hb dX7_read_85 hl (k := 2) rfl rfl (by decide) rfl (fun ls hl => ?_)
                        refine lv_goto (tgt := 42) hx hb dX7_read_88 (by decide) ?_
                        exact ih (y42_5 + 1) (va_up w42_pgrowth 0 (upd (w42_pgrowth 0) y42_5.toNatClampNeg ((v_sitems 3) y42_5.toNatClampNeg))) H locs ls (lv_sub hl [1, 2, 0] rfl) hP hD hS hf
              exact hL42 n 0 v_pgrowth H locs ls (lv_sub hl [2, 1, 0] rfl) hP hD hS hf
            · rw [if_pos c30] at hf
              refine lv_aload_n hx hb dX7_read_33 rfl (lv_at hl 2 rfl) ?_
              refine lv_iconst (v := 1) hx hb dX7_read_34 (by decide) ?_
              obtain ⟨r35_145, o35_146, hc_147, hf⟩ := bd2_e hf
              refine rwi_call (isC := [0]) (isR := [1, 2, 3, 4, 5, 6, 7, 8, 9, 10, 11, 12, 13, 14, 15, 16, 17, 18]) (perm := [18, 0, 1, 2, 3, 4, 5, 6, 7, 8, 9, 10, 11, 12, 13, 14, 15, 16, 17]) (wr := [(h_t_plants, .inl (cP, 4, .inr (.inr (.inr (.inr (ar4 h_t_p0 h_t_p1 h_t_p2 h_t_p3)))))), (h_t_p0, .inr (2, [.int (v_phours 0), .ref h_t_p0_growth])), (h_t_p0_growth, .inl (cI, 4, .inl (v_pgrowth 0))), (h_t_p1, .inr (2, [.int (v_phours 1), .ref h_t_p1_growth])), (h_t_p1_growth, .inl (cI, 4, .inl (v_pgrowth 1))), (h_t_p2, .inr (2, [.int (v_phours 2), .ref h_t_p2_growth])), (h_t_p2_growth, .inl (cI, 4, .inl (v_pgrowth 2))), (h_t_p3, .inr (2, [.int (v_phours 3), .ref h_t_p3_growth])), (h_t_p3_growth, .inl (cI, 4, .inl (v_pgrowth 3))), (h_t_sheets, .inl (cS, 4, .inr (.inr (.inr (.inr (ar4 h_t_s0 h_t_s1 h_t_s2 h_t_s3)))))), (h_t_s0, .inr (3, [.int (v_sform 0), .int (v_ssize 0), .ref h_t_s0_items])), (h_t_s0_items, .inl (cI, 48, .inl (v_sitems 0))), (h_t_s1, .inr (3, [.int (v_sform 1), .int (v_ssize 1), .ref h_t_s1_items])), (h_t_s1_items, .inl (cI, 48, .inl (v_sitems 1))), (h_t_s2, .inr (3, [.int (v_sform 2), .int (v_ssize 2), .ref h_t_s2_items])), (h_t_s2_items, .inl (cI, 48, .inl (v_sitems 2))), (h_t_s3, .inr (3, [.int (v_sform 3), .int (v_ssize 3), .ref h_t_s3_items])), (h_t_s3_items, .inl (cI, 48, .inl (v_sitems 3)))]) (ws2 := (wd_X7_read cI cZ cP cS h_t h_t_red h_t_blue h_t_sky h_t_diary h_t_calendar h_t_awakeIn h_t_worths h_t_plants h_t_sheets h_t_bestFrom h_t_p0 h_t_p1 h_t_p2 h_t_p3 h_t_p0_growth h_t_p1_growth h_t_p2_growth h_t_p3_growth h_t_s0 h_t_s1 h_t_s2 h_t_s3 h_t_s0_items h_t_s1_items h_t_s2_items h_t_s3_items o35_146 v_phours v_pgrowth v_sform v_ssize v_sitems)) (va_runV (As := [.int 1]) (rest := []) ⟨hx, hb, hml, hown, hts⟩ (c_X7_found l dC dI cI cZ cP cS H.size h_t h_t_red h_t_blue h_t_sky h_t_diary h_t_calendar h_t_awakeIn h_t_worths h_t_plants h_t_sheets h_t_bestFrom v_latestFinding 1 n r35_145 o35_146 hc_147) (cwV 1 hts gX7_read_X7_found rfl rfl rfl (by decide +kernel) ⟨Nat.le_of_ble_eq_true rfl, Nat.le_of_ble_eq_true rfl⟩) (pv_rw (ci := 6) (q0 := 0) hK (hP.sub (ws' := (wd_X7_found cI cZ cP cS h_t h_t_red h_t_blue h_t_sky h_t_diary h_t_calendar h_t_awakeIn h_t_worths h_t_plants h_t_sheets h_t_bestFrom v_latestFinding)) [0] rfl) (hD.sub (ws' := (wd_X7_found cI cZ cP cS h_t h_t_red h_t_blue h_t_sky h_t_diary h_t_calendar h_t_awakeIn h_t_worths h_t_plants h_t_sheets h_t_bestFrom v_latestFinding)) [0] (by decide) rfl) rfl rfl) rfl rfl hl.1 rfl (lv_room (Nat.le_of_ble_eq_true rfl)) dX7_read_35 ⟨Nat.zero_le _, Nat.zero_le _⟩) hS hA hP hD rfl (by decide) (by decide) rfl (by decide) rfl rfl (fun H locs hP hD hS => ?_)
              have hq0 := Option.some.inj hf
              obtain ⟨eq0, hq1⟩ := Prod.mk.inj hq0
              obtain ⟨eq1, hq2⟩ := Prod.mk.inj hq1
              clear hf hq0 hq1
              subst eq0
              subst eq1
              subst hq2
              exact W.iret hx hb hr (fun t ht hW => ⟨⟨_, (), rfl, rfl, by rw [ht]; exact hP, va_K.moved hW.alike hK, hD⟩, hS.F ht⟩) hS.2.2 dX7_read_38
          · rw [if_neg c8_0] at hf e_137
            by_cases c8_1 : x2 = 1
            · rw [if_pos c8_1] at hf e_137
              subst e_137
              refine W.eq (g2 := F0 m 11 ls [.ref h_t_p1]) rfl ?_
              refine lv_astore (lv' := [(4, .ref h_t_p1), (3, .ref h_t_s3), (0, .ref h_t), (1, .int x1), (2, .int x2)]) hx hb dX7_read_11 hl (by decide) rfl (fun ls hl => ?_)
              refine lv_aload_n hx hb dX7_read_13 rfl (lv_at hl 1 rfl) ?_
              refine lv_ifnull hx hb dX7_read_14 ?_
              refine lv_aload hx hb dX7_read_17 (lv_at hl 0 rfl) ?_
              refine lv_ifnonnull (tgt := 25) hx hb dX7_read_19 (by decide) ?_
              refine lv_aload_n hx hb dX7_read_25 rfl (lv_at hl 1 rfl) ?_
              refine va_get (D := (dC, dI)) (ci := 3) (v := .int (v_sform 3)) (C := RX3) (T := TX3) (N := 3) hx hb hts hinX3 hown hK hP 17 rfl rfl 0 (by decide) (hts (.fieldLink RX7 222 "SecondSunrise$Sheet" "form" "I") (by decide +kernel)) (fun _ h9 => h9) rfl dX7_read_26 ?_
              refine lv_iconst (v := (-1)) hx hb dX7_read_29 (by decide) ?_
              refine lv_icmp_ne (tgt := 39) hx hb dX7_read_30 (by decide) (fun c30 => ?_) (fun c30 => ?_)
              · rw [if_neg c30] at hf
                refine lv_iconst (v := 0) hx hb dX7_read_39 (by decide) ?_
                refine lv_istore (lv' := [(5, .int 0), (4, .ref h_t_p1), (3, .ref h_t_s3), (0, .ref h_t), (1, .int x1), (2, .int x2)]) hx hb dX7_read_40 hl (by decide) rfl (fun ls hl => ?_)
                obtain ⟨kx42, ekx42, hf⟩ := jn2_e hf
                have hx42 : ∀ (z42_5 : Int32) (u42_pgrowth : Nat → Nat → Int32) (H : Heap) (locs : List Loc) (ls : Array Slot), lv_has ls 6 [(5, .int z42_5)] → va_P (dC, dI) vwCl (wd_X7_read cI cZ cP cS h_t h_t_red h_t_blue h_t_sky h_t_diary h_t_calendar h_t_awakeIn h_t_worths h_t_plants h_t_sheets h_t_bestFrom h_t_p0 h_t_p1 h_t_p2 h_t_p3 h_t_p0_growth h_t_p1_growth h_t_p2_growth h_t_p3_growth h_t_s0 h_t_s1 h_t_s2 h_t_s3 h_t_s0_items h_t_s1_items h_t_s2_items h_t_s3_items v_latestFinding v_phours u42_pgrowth v_sform v_ssize v_sitems) H → va_D (va_A (wd_X7_read cI cZ cP cS h_t h_t_red h_t_blue h_t_sky h_t_diary h_t_calendar h_t_awakeIn h_t_worths h_t_plants h_t_sheets h_t_bestFrom h_t_p0 h_t_p1 h_t_p2 h_t_p3 h_t_p0_growth h_t_p1_growth h_t_p2_growth h_t_p3_growth h_t_s0 h_t_s1 h_t_s2 h_t_s3 h_t_s0_items h_t_s1_items h_t_s2_items h_t_s3_items v_latestFinding v_phours v_pgrowth v_sform v_ssize v_sitems) s.heap.size) (wd_X7_read cI cZ cP cS h_t h_t_red h_t_blue h_t_sky h_t_diary h_t_calendar h_t_awakeIn h_t_worths h_t_plants h_t_sheets h_t_bestFrom h_t_p0 h_t_p1 h_t_p2 h_t_p3 h_t_p0_growth h_t_p1_growth h_t_p2_growth h_t_p3_growth h_t_s0 h_t_s1 h_t_s2 h_t_s3 h_t_s0_items h_t_s1_items h_t_s2_items h_t_s3_items v_latestFinding v_phours u42_pgrowth v_sform v_ssize v_sitems) → va_S (va_A (wd_X7_read cI cZ cP cS h_t h_t_red h_t_blue h_t_sky h_t_diary h_t_calendar h_t_awakeIn h_t_worths h_t_plants h_t_sheets h_t_bestFrom h_t_p0 h_t_p1 h_t_p2 h_t_p3 h_t_p0_growth h_t_p1_growth h_t_p2_growth h_t_p3_growth h_t_s0 h_t_s1 h_t_s2 h_t_s3 h_t_s0_items h_t_s1_items h_t_s2_items h_t_s3_items v_latestFinding v_phours v_pgrowth v_sform v_ssize v_sitems) s.heap.size) s.heap H locs → kx42 z42_5 u42_pgrowth = some (r, o_latestFinding, o_pgrowth) → W p l e (headSpec wsX7_read rm_X7_read).room s m ([.ref h_t, .int x1, .int x2] : List Value).toArray below meth c H locs 0 0 (MQ below (RWi (dC, dI) (TY cI cZ cP cS) r s.heap.size (wd_X7_read cI cZ cP cS h_t h_t_red h_t_blue h_t_sky h_t_diary h_t_calendar h_t_awakeIn h_t_worths h_t_plants h_t_sheets h_t_bestFrom h_t_p0 h_t_p1 h_t_p2 h_t_p3 h_t_p0_growth h_t_p1_growth h_t_p2_growth h_t_p3_growth h_t_s0 h_t_s1 h_t_s2 h_t_s3 h_t_s0_items h_t_s1_items h_t_s2_items h_t_s3_items v_latestFinding v_phours v_pgrowth v_sform v_ssize v_sitems) (wd_X7_read cI cZ cP cS h_t h_t_red h_t_blue h_t_sky h_t_diary h_t_calendar h_t_awakeIn h_t_worths h_t_plants h_t_sheets h_t_bestFrom h_t_p0 h_t_p1 h_t_p2 h_t_p3 h_t_p0_growth h_t_p1_growth h_t_p2_growth h_t_p3_growth h_t_s0 h_t_s1 h_t_s2 h_t_s3 h_t_s0_items h_t_s1_items h_t_s2_items h_t_s3_items o_latestFinding v_phours o_pgrowth v_sform v_ssize v_sitems)) ([.ref h_t, .int x1, .int x2] : List Value).toArray s 0 0 (va_A (wd_X7_read cI cZ cP cS h_t h_t_red h_t_blue h_t_sky h_t_diary h_t_calendar h_t_awakeIn h_t_worths h_t_plants h_t_sheets h_t_bestFrom h_t_p0 h_t_p1 h_t_p2 h_t_p3 h_t_p0_growth h_t_p1_growth h_t_p2_growth h_t_p3_growth h_t_s0 h_t_s1 h_t_s2 h_t_s3 h_t_s0_items h_t_s1_items h_t_s2_items h_t_s3_items v_latestFinding v_phours v_pgrowth v_sform v_ssize v_sitems) s.heap.size)) (F0 m 91 ls []) := by
                  intro z42_5 u42_pgrowth H locs ls hl hP hD hS hf
                  rw [ekx42] at hf
                  refine lv_iload hx hb dX7_read_91 (lv_at hl 0 rfl) ?_
                  have hq0 := Option.some.inj hf
                  obtain ⟨eq0, hq1⟩ := Prod.mk.inj hq0
                  obtain ⟨eq1, hq2⟩ := Prod.mk.inj hq1
                  clear hf hq0 hq1
                  subst eq0
                  subst eq1
                  subst hq2
                  exact W.iret hx hb hr (fun t ht hW => ⟨⟨_, (), rfl, rfl, by rw [ht]; exact hP, va_K.moved hW.alike hK, hD⟩, hS.F ht⟩) hS.2.2 dX7_read_93
                have hL42 : ∀ (k42 : Nat) (y42_5 : Int32) (w42_pgrowth : Nat → Nat → Int32) (H : Heap) (locs : List Loc) (ls : Array Slot), lv_has ls 6 [(3, .ref h_t_s3), (4, .ref h_t_p1), (5, .int y42_5)] → va_P (dC, dI) vwCl (wd_X7_read cI cZ cP cS h_t h_t_red h_t_blue h_t_sky h_t_diary h_t_calendar h_t_awakeIn h_t_worths h_t_plants h_t_sheets h_t_bestFrom h_t_p0 h_t_p1 h_t_p2 h_t_p3 h_t_p0_growth h_t_p1_growth h_t_p2_growth h_t_p3_growth h_t_s0 h_t_s1 h_t_s2 h_t_s3 h_t_s0_items h_t_s1_items h_t_s2_items h_t_s3_items v_latestFinding v_phours w42_pgrowth v_sform v_ssize v_sitems) H → va_D (va_A (wd_X7_read cI cZ cP cS h_t h_t_red h_t_blue h_t_sky h_t_diary h_t_calendar h_t_awakeIn h_t_worths h_t_plants h_t_sheets h_t_bestFrom h_t_p0 h_t_p1 h_t_p2 h_t_p3 h_t_p0_growth h_t_p1_growth h_t_p2_growth h_t_p3_growth h_t_s0 h_t_s1 h_t_s2 h_t_s3 h_t_s0_items h_t_s1_items h_t_s2_items h_t_s3_items v_latestFinding v_phours v_pgrowth v_sform v_ssize v_sitems) s.heap.size) (wd_X7_read cI cZ cP cS h_t h_t_red h_t_blue h_t_sky h_t_diary h_t_calendar h_t_awakeIn h_t_worths h_t_plants h_t_sheets h_t_bestFrom h_t_p0 h_t_p1 h_t_p2 h_t_p3 h_t_p0_growth h_t_p1_growth h_t_p2_growth h_t_p3_growth h_t_s0 h_t_s1 h_t_s2 h_t_s3 h_t_s0_items h_t_s1_items h_t_s2_items h_t_s3_items v_latestFinding v_phours w42_pgrowth v_sform v_ssize v_sitems) → va_S (va_A (wd_X7_read cI cZ cP cS h_t h_t_red h_t_blue h_t_sky h_t_diary h_t_calendar h_t_awakeIn h_t_worths h_t_plants h_t_sheets h_t_bestFrom h_t_p0 h_t_p1 h_t_p2 h_t_p3 h_t_p0_growth h_t_p1_growth h_t_p2_growth h_t_p3_growth h_t_s0 h_t_s1 h_t_s2 h_t_s3 h_t_s0_items h_t_s1_items h_t_s2_items h_t_s3_items v_latestFinding v_phours v_pgrowth v_sform v_ssize v_sitems) s.heap.size) s.heap H locs → L_X7_read_42q14 n v_ssize v_sitems kx42 k42 y42_5 w42_pgrowth = some (r, o_latestFinding, o_pgrowth) → W p l e (headSpec wsX7_read rm_X7_read).room s m ([.ref h_t, .int x1, .int x2] : List Value).toArray below meth c H locs 0 0 (MQ below (RWi (dC, dI) (TY cI cZ cP cS) r s.heap.size (wd_X7_read cI cZ cP cS h_t h_t_red h_t_blue h_t_sky h_t_diary h_t_calendar h_t_awakeIn h_t_worths h_t_plants h_t_sheets h_t_bestFrom h_t_p0 h_t_p1 h_t_p2 h_t_p3 h_t_p0_growth h_t_p1_growth h_t_p2_growth h_t_p3_growth h_t_s0 h_t_s1 h_t_s2 h_t_s3 h_t_s0_items h_t_s1_items h_t_s2_items h_t_s3_items v_latestFinding v_phours v_pgrowth v_sform v_ssize v_sitems) (wd_X7_read cI cZ cP cS h_t h_t_red h_t_blue h_t_sky h_t_diary h_t_calendar h_t_awakeIn h_t_worths h_t_plants h_t_sheets h_t_bestFrom h_t_p0 h_t_p1 h_t_p2 h_t_p3 h_t_p0_growth h_t_p1_growth h_t_p2_growth h_t_p3_growth h_t_s0 h_t_s1 h_t_s2 h_t_s3 h_t_s0_items h_t_s1_items h_t_s2_items h_t_s3_items o_latestFinding v_phours o_pgrowth v_sform v_ssize v_sitems)) ([.ref h_t, .int x1, .int x2] : List Value).toArray s 0 0 (va_A (wd_X7_read cI cZ cP cS h_t h_t_red h_t_blue h_t_sky h_t_diary h_t_calendar h_t_awakeIn h_t_worths h_t_plants h_t_sheets h_t_bestFrom h_t_p0 h_t_p1 h_t_p2 h_t_p3 h_t_p0_growth h_t_p1_growth h_t_p2_growth h_t_p3_growth h_t_s0 h_t_s1 h_t_s2 h_t_s3 h_t_s0_items h_t_s1_items h_t_s2_items h_t_s3_items v_latestFinding v_phours v_pgrowth v_sform v_ssize v_sitems) s.heap.size)) (F0 m 42 ls []) := by
                  intro k42
                  induction k42 with
                  | zero =>
                    intro y42_5 w42_pgrowth H locs ls hl hP hD hS hf
                    exact absurd hf (fun h => Option.some_ne_none _ h.symm)
                  | succ k42 ih =>
                    intro y42_5 w42_pgrowth H locs ls hl hP hD hS hf
                    rw [L_X7_read_42q14_s] at hf
                    refine lv_iload hx hb dX7_read_42 (lv_at hl 2 rfl) ?_
                    refine lv_iconst (v := 4) hx hb dX7_read_44 (by decide) ?_
                    refine lv_icmp_ge (tgt := 91) hx hb dX7_read_45 (by decide) (fun c45 => ?_) (fun c45 => ?_)
                    · rw [if_pos c45] at hf
                      exact hx42 y42_5 w42_pgrowth H locs ls (lv_sub hl [2] rfl) hP hD hS hf
                    · rw [if_neg c45] at hf
                      refine lv_iload hx hb dX7_read_48 (lv_at hl 2 rfl) ?_
                      refine lv_aload_n hx hb dX7_read_50 rfl (lv_at hl 0 rfl) ?_
                      refine va_get (D := (dC, dI)) (ci := 3) (v := .int (v_ssize 3)) (C := RX3) (T := TX3) (N := 3) hx hb hts hinX3 hown hK hP 17 rfl rfl 1 (by decide) (hts (.fieldLink RX7 228 "SecondSunrise$Sheet" "size" "I") (by decide +kernel)) (fun _ h9 => h9) rfl dX7_read_51 ?_
                      refine lv_icmp_ge (tgt := 91) hx hb dX7_read_54 (by decide) (fun c54 => ?_) (fun c54 => ?_)
                      · rw [if_pos c54] at hf
                        exact hx42 y42_5 w42_pgrowth H locs ls (lv_sub hl [2] rfl) hP hD hS hf
                      · rw [if_neg c54] at hf
                        refine lv_aload_n hx hb dX7_read_57 rfl (lv_at hl 0 rfl) ?_
                        refine va_get (D := (dC, dI)) (ci := 3) (v := .ref h_t_s3_items) (C := RX3) (T := TX3) (N := 3) hx hb hts hinX3 hown hK hP 17 rfl rfl 2 (by decide) (hts (.fieldLink RX7 229 "SecondSunrise$Sheet" "items" "[I") (by decide +kernel)) (fun _ h9 => h9) rfl dX7_read_58 ?_
                        refine lv_iload hx hb dX7_read_61 (lv_at hl 2 rfl) ?_
                        obtain ⟨hi_149, hf⟩ := ix_e hf
                        refine va_iald hx hb hK hP 18 0 rfl rfl hi_149 dX7_read_63 ?_
                        obtain ⟨r64_150, hc_151, hf⟩ := bd1_e hf
                        refine vp_callSi (va_runS (As := [.int ((v_sitems 3) y42_5.toNatClampNeg)]) (rest := []) ⟨hx, hb, hml, hown, hts⟩ (c_X7_noGrowth l dC dI cI cZ cP cS   ((v_sitems 3) y42_5.toNatClampNeg) n r64_150 hc_151) (va_cwS 1 hts gX7_read_X7_noGrowth rfl rfl rfl (by decide +kernel) ⟨Nat.le_of_ble_eq_true rfl, Nat.le_of_ble_eq_true rfl⟩) (ps_ro hK (hP.sub (ws' := ([] : va_W)) [] rfl)) rfl rfl hl.1 rfl (lv_room (Nat.le_of_ble_eq_true rfl)) dX7_read_64 ⟨Nat.zero_le _, Nat.zero_le _⟩).run (fun x e_152 => ?_)
                        obtain ⟨e_152, hb_153⟩ := e_152
                        rw [e_152] at hb_153 ⊢
                        refine lv_if_ne (tgt := 91) hx hb dX7_read_67 (by decide) (fun c67 => ?_) (fun c67 => ?_)
                        · rw [if_neg c67] at hf
                          exact hx42 y42_5 w42_pgrowth H locs ls (lv_sub hl [2] rfl) hP hD hS hf
                        · rw [if_pos c67] at hf
                          refine lv_aload hx hb dX7_read_70 (lv_at hl 1 rfl) ?_
                          refine va_get (D := (dC, dI)) (ci := 2) (v := .ref h_t_p1_growth) (C := RX2) (T := TX2) (N := 2) hx hb hts hinX2 hown hK hP 4 rfl rfl 1 (by decide) (hts (.fieldLink RX7 215 "SecondSunrise$Plant" "growth" "[I") (by decide +kernel)) (fun _ h9 => h9) rfl dX7_read_72 ?_
                          refine lv_iload hx hb dX7_read_75 (lv_at hl 2 rfl) ?_
                          refine lv_aload_n hx hb dX7_read_77 rfl (lv_at hl 0 rfl) ?_
                          refine va_get (D := (dC, dI)) (ci := 3) (v := .ref h_t_s3_items) (C := RX3) (T := TX3) (N := 3) hx hb hts hinX3 hown hK hP 17 rfl rfl 2 (by decide) (hts (.fieldLink RX7 229 "SecondSunrise$Sheet" "items" "[I") (by decide +kernel)) (fun _ h9 => h9) rfl dX7_read_78 ?_
                          refine lv_iload hx hb dX7_read_81 (lv_at hl 2 rfl) ?_
                          obtain ⟨hi_154, hf⟩ := ix_e hf
                          refine va_iald hx hb hK hP 18 0 rfl rfl hi_154 dX7_read_83 ?_
                          obtain ⟨hi_155, hf⟩ := ix_e hf
                          refine va_iast hx hb hK hP hD hS 5 0 rfl rfl hi_155 dX7_read_84 (fun H locs hP hD hS => ?_)
                          have hP : va_P (dC, dI) vwCl (wd_X7_read cI cZ cP cS h_t h_t_red h_t_blue h_t_sky h_t_diary h_t_calendar h_t_awakeIn h_t_worths h_t_plants h_t_sheets h_t_bestFrom h_t_p0 h_t_p1 h_t_p2 h_t_p3 h_t_p0_growth h_t_p1_growth h_t_p2_growth h_t_p3_growth h_t_s0 h_t_s1 h_t_s2 h_t_s3 h_t_s0_items h_t_s1_items h_t_s2_items h_t_s3_items v_latestFinding v_phours (va_up w42_pgrowth 1 (upd (w42_pgrowth 1) y42_5.toNatClampNeg ((v_sitems 3) y42_5.toNatClampNeg))) v_sform v_ssize v_sitems) H := hP
                          have hD : va_D (va_A (wd_X7_read cI cZ cP cS h_t h_t_red h_t_blue h_t_sky h_t_diary h_t_calendar h_t_awakeIn h_t_worths h_t_plants h_t_sheets h_t_bestFrom h_t_p0 h_t_p1 h_t_p2 h_t_p3 h_t_p0_growth h_t_p1_growth h_t_p2_growth h_t_p3_growth h_t_s0 h_t_s1 h_t_s2 h_t_s3 h_t_s0_items h_t_s1_items h_t_s2_items h_t_s3_items v_latestFinding v_phours v_pgrowth v_sform v_ssize v_sitems) s.heap.size) (wd_X7_read cI cZ cP cS h_t h_t_red h_t_blue h_t_sky h_t_diary h_t_calendar h_t_awakeIn h_t_worths h_t_plants h_t_sheets h_t_bestFrom h_t_p0 h_t_p1 h_t_p2 h_t_p3 h_t_p0_growth h_t_p1_growth h_t_p2_growth h_t_p3_growth h_t_s0 h_t_s1 h_t_s2 h_t_s3 h_t_s0_items h_t_s1_items h_t_s2_items h_t_s3_items v_latestFinding v_phours (va_up w42_pgrowth 1 (upd (w42_pgrowth 1) y42_5.toNatClampNeg ((v_sitems 3) y42_5.toNatClampNeg))) v_sform v_ssize v_sitems) := hD
                          refine lv_iinc (v := (y42_5 + 1)) (lv' := [(5, .int (y42_5 + 1)), (3, .ref h_t_s3), (4, .ref h_t_p1)]) hx hb dX7_read_85 hl (k := 2) rfl rfl (by decide) rfl (fun ls hl => ?_)
                          refine lv_goto (tgt := 42) hx hb dX7_read_88 (by decide) ?_
                          exact ih (y42_5 + 1) (va_up w42_pgrowth 1 (upd (w42_pgrowth 1) y42_5.toNatClampNeg ((v_sitems 3) y42_5.toNatClampNeg))) H locs ls (lv_sub hl [1, 2, 0] rfl) hP hD hS hf
                exact hL42 n 0 v_pgrowth H locs ls (lv_sub hl [2, 1, 0] rfl) hP hD hS hf
              · rw [if_pos c30] at hf
                refine lv_aload_n hx hb dX7_read_33 rfl (lv_at hl 2 rfl) ?_
                refine lv_iconst (v := 1) hx hb dX7_read_34 (by decide) ?_
                obtain ⟨r35_156, o35_157, hc_158, hf⟩ := bd2_e hf
                refine rwi_call (isC := [0]) (isR := [1, 2, 3, 4, 5, 6, 7, 8, 9, 10, 11, 12, 13, 14, 15, 16, 17, 18]) (perm := [18, 0, 1, 2, 3, 4, 5, 6, 7, 8, 9, 10, 11, 12, 13, 14, 15, 16, 17]) (wr := [(h_t_plants, .inl (cP, 4, .inr (.inr (.inr (.inr (ar4 h_t_p0 h_t_p1 h_t_p2 h_t_p3)))))), (h_t_p0, .inr (2, [.int (v_phours 0), .ref h_t_p0_growth])), (h_t_p0_growth, .inl (cI, 4, .inl (v_pgrowth 0))), (h_t_p1, .inr (2, [.int (v_phours 1), .ref h_t_p1_growth])), (h_t_p1_growth, .inl (cI, 4, .inl (v_pgrowth 1))), (h_t_p2, .inr (2, [.int (v_phours 2), .ref h_t_p2_growth])), (h_t_p2_growth, .inl (cI, 4, .inl (v_pgrowth 2))), (h_t_p3, .inr (2, [.int (v_phours 3), .ref h_t_p3_growth])), (h_t_p3_growth, .inl (cI, 4, .inl (v_pgrowth 3))), (h_t_sheets, .inl (cS, 4, .inr (.inr (.inr (.inr (ar4 h_t_s0 h_t_s1 h_t_s2 h_t_s3)))))), (h_t_s0, .inr (3, [.int (v_sform 0), .int (v_ssize 0), .ref h_t_s0_items])), (h_t_s0_items, .inl (cI, 48, .inl (v_sitems 0))), (h_t_s1, .inr (3, [.int (v_sform 1), .int (v_ssize 1), .ref h_t_s1_items])), (h_t_s1_items, .inl (cI, 48, .inl (v_sitems 1))), (h_t_s2, .inr (3, [.int (v_sform 2), .int (v_ssize 2), .ref h_t_s2_items])), (h_t_s2_items, .inl (cI, 48, .inl (v_sitems 2))), (h_t_s3, .inr (3, [.int (v_sform 3), .int (v_ssize 3), .ref h_t_s3_items])), (h_t_s3_items, .inl (cI, 48, .inl (v_sitems 3)))]) (ws2 := (wd_X7_read cI cZ cP cS h_t h_t_red h_t_blue h_t_sky h_t_diary h_t_calendar h_t_awakeIn h_t_worths h_t_plants h_t_sheets h_t_bestFrom h_t_p0 h_t_p1 h_t_p2 h_t_p3 h_t_p0_growth h_t_p1_growth h_t_p2_growth h_t_p3_growth h_t_s0 h_t_s1 h_t_s2 h_t_s3 h_t_s0_items h_t_s1_items h_t_s2_items h_t_s3_items o35_157 v_phours v_pgrowth v_sform v_ssize v_sitems)) (va_runV (As := [.int 1]) (rest := []) ⟨hx, hb, hml, hown, hts⟩ (c_X7_found l dC dI cI cZ cP cS H.size h_t h_t_red h_t_blue h_t_sky h_t_diary h_t_calendar h_t_awakeIn h_t_worths h_t_plants h_t_sheets h_t_bestFrom v_latestFinding 1 n r35_156 o35_157 hc_158) (cwV 1 hts gX7_read_X7_found rfl rfl rfl (by decide +kernel) ⟨Nat.le_of_ble_eq_true rfl, Nat.le_of_ble_eq_true rfl⟩) (pv_rw (ci := 6) (q0 := 0) hK (hP.sub (ws' := (wd_X7_found cI cZ cP cS h_t h_t_red h_t_blue h_t_sky h_t_diary h_t_calendar h_t_awakeIn h_t_worths h_t_plants h_t_sheets h_t_bestFrom v_latestFinding)) [0] rfl) (hD.sub (ws' := (wd_X7_found cI cZ cP cS h_t h_t_red h_t_blue h_t_sky h_t_diary h_t_calendar h_t_awakeIn h_t_worths h_t_plants h_t_sheets h_t_bestFrom v_latestFinding)) [0] (by decide) rfl) rfl rfl) rfl rfl hl.1 rfl (lv_room (Nat.le_of_ble_eq_true rfl)) dX7_read_35 ⟨Nat.zero_le _, Nat.zero_le _⟩) hS hA hP hD rfl (by decide) (by decide) rfl (by decide) rfl rfl (fun H locs hP hD hS => ?_)
                have hq0 := Option.some.inj hf
                obtain ⟨eq0, hq1⟩ := Prod.mk.inj hq0
                obtain ⟨eq1, hq2⟩ := Prod.mk.inj hq1
                clear hf hq0 hq1
                subst eq0
                subst eq1
                subst hq2
                exact W.iret hx hb hr (fun t ht hW => ⟨⟨_, (), rfl, rfl, by rw [ht]; exact hP, va_K.moved hW.alike hK, hD⟩, hS.F ht⟩) hS.2.2 dX7_read_38
            · rw [if_neg c8_1] at hf e_137
              by_cases c8_2 : x2 = 2
              · rw [if_pos c8_2] at hf e_137
                subst e_137
                refine W.eq (g2 := F0 m 11 ls [.ref h_t_p2]) rfl ?_
                refine lv_astore (lv' := [(4, .ref h_t_p2), (3, .ref h_t_s3), (0, .ref h_t), (1, .int x1), (2, .int x2)]) hx hb dX7_read_11 hl (by decide) rfl (fun ls hl => ?_)
                refine lv_aload_n hx hb dX7_read_13 rfl (lv_at hl 1 rfl) ?_
                refine lv_ifnull hx hb dX7_read_14 ?_
                refine lv_aload hx hb dX7_read_17 (lv_at hl 0 rfl) ?_
                refine lv_ifnonnull (tgt := 25) hx hb dX7_read_19 (by decide) ?_
                refine lv_aload_n hx hb dX7_read_25 rfl (lv_at hl 1 rfl) ?_
                refine va_get (D := (dC, dI)) (ci := 3) (v := .int (v_sform 3)) (C := RX3) (T := TX3) (N := 3) hx hb hts hinX3 hown hK hP 17 rfl rfl 0 (by decide) (hts (.fieldLink RX7 222 "SecondSunrise$Sheet" "form" "I") (by decide +kernel)) (fun _ h9 => h9) rfl dX7_read_26 ?_
                refine lv_iconst (v := (-1)) hx hb dX7_read_29 (by decide) ?_
                refine lv_icmp_ne (tgt := 39) hx hb dX7_read_30 (by decide) (fun c30 => ?_) (fun c30 => ?_)
                · rw [if_neg c30] at hf
                  refine lv_iconst (v := 0) hx hb dX7_read_39 (by decide) ?_
                  refine lv_istore (lv' := [(5, .int 0), (4, .ref h_t_p2), (3, .ref h_t_s3), (0, .ref h_t), (1, .int x1), (2, .int x2)]) hx hb dX7_read_40 hl (by decide) rfl (fun ls hl => ?_)
                  obtain ⟨kx42, ekx42, hf⟩ := jn2_e hf
                  have hx42 : ∀ (z42_5 : Int32) (u42_pgrowth : Nat → Nat → Int32) (H : Heap) (locs : List Loc) (ls : Array Slot), lv_has ls 6 [(5, .int z42_5)] → va_P (dC, dI) vwCl (wd_X7_read cI cZ cP cS h_t h_t_red h_t_blue h_t_sky h_t_diary h_t_calendar h_t_awakeIn h_t_worths h_t_plants h_t_sheets h_t_bestFrom h_t_p0 h_t_p1 h_t_p2 h_t_p3 h_t_p0_growth h_t_p1_growth h_t_p2_growth h_t_p3_growth h_t_s0 h_t_s1 h_t_s2 h_t_s3 h_t_s0_items h_t_s1_items h_t_s2_items h_t_s3_items v_latestFinding v_phours u42_pgrowth v_sform v_ssize v_sitems) H → va_D (va_A (wd_X7_read cI cZ cP cS h_t h_t_red h_t_blue h_t_sky h_t_diary h_t_calendar h_t_awakeIn h_t_worths h_t_plants h_t_sheets h_t_bestFrom h_t_p0 h_t_p1 h_t_p2 h_t_p3 h_t_p0_growth h_t_p1_growth h_t_p2_growth h_t_p3_growth h_t_s0 h_t_s1 h_t_s2 h_t_s3 h_t_s0_items h_t_s1_items h_t_s2_items h_t_s3_items v_latestFinding v_phours v_pgrowth v_sform v_ssize v_sitems) s.heap.size) (wd_X7_read cI cZ cP cS h_t h_t_red h_t_blue h_t_sky h_t_diary h_t_calendar h_t_awakeIn h_t_worths h_t_plants h_t_sheets h_t_bestFrom h_t_p0 h_t_p1 h_t_p2 h_t_p3 h_t_p0_growth h_t_p1_growth h_t_p2_growth h_t_p3_growth h_t_s0 h_t_s1 h_t_s2 h_t_s3 h_t_s0_items h_t_s1_items h_t_s2_items h_t_s3_items v_latestFinding v_phours u42_pgrowth v_sform v_ssize v_sitems) → va_S (va_A (wd_X7_read cI cZ cP cS h_t h_t_red h_t_blue h_t_sky h_t_diary h_t_calendar h_t_awakeIn h_t_worths h_t_plants h_t_sheets h_t_bestFrom h_t_p0 h_t_p1 h_t_p2 h_t_p3 h_t_p0_growth h_t_p1_growth h_t_p2_growth h_t_p3_growth h_t_s0 h_t_s1 h_t_s2 h_t_s3 h_t_s0_items h_t_s1_items h_t_s2_items h_t_s3_items v_latestFinding v_phours v_pgrowth v_sform v_ssize v_sitems) s.heap.size) s.heap H locs → kx42 z42_5 u42_pgrowth = some (r, o_latestFinding, o_pgrowth) → W p l e (headSpec wsX7_read rm_X7_read).room s m ([.ref h_t, .int x1, .int x2] : List Value).toArray below meth c H locs 0 0 (MQ below (RWi (dC, dI) (TY cI cZ cP cS) r s.heap.size (wd_X7_read cI cZ cP cS h_t h_t_red h_t_blue h_t_sky h_t_diary h_t_calendar h_t_awakeIn h_t_worths h_t_plants h_t_sheets h_t_bestFrom h_t_p0 h_t_p1 h_t_p2 h_t_p3 h_t_p0_growth h_t_p1_growth h_t_p2_growth h_t_p3_growth h_t_s0 h_t_s1 h_t_s2 h_t_s3 h_t_s0_items h_t_s1_items h_t_s2_items h_t_s3_items v_latestFinding v_phours v_pgrowth v_sform v_ssize v_sitems) (wd_X7_read cI cZ cP cS h_t h_t_red h_t_blue h_t_sky h_t_diary h_t_calendar h_t_awakeIn h_t_worths h_t_plants h_t_sheets h_t_bestFrom h_t_p0 h_t_p1 h_t_p2 h_t_p3 h_t_p0_growth h_t_p1_growth h_t_p2_growth h_t_p3_growth h_t_s0 h_t_s1 h_t_s2 h_t_s3 h_t_s0_items h_t_s1_items h_t_s2_items h_t_s3_items o_latestFinding v_phours o_pgrowth v_sform v_ssize v_sitems)) ([.ref h_t, .int x1, .int x2] : List Value).toArray s 0 0 (va_A (wd_X7_read cI cZ cP cS h_t h_t_red h_t_blue h_t_sky h_t_diary h_t_calendar h_t_awakeIn h_t_worths h_t_plants h_t_sheets h_t_bestFrom h_t_p0 h_t_p1 h_t_p2 h_t_p3 h_t_p0_growth h_t_p1_growth h_t_p2_growth h_t_p3_growth h_t_s0 h_t_s1 h_t_s2 h_t_s3 h_t_s0_items h_t_s1_items h_t_s2_items h_t_s3_items v_latestFinding v_phours v_pgrowth v_sform v_ssize v_sitems) s.heap.size)) (F0 m 91 ls []) := by
                    intro z42_5 u42_pgrowth H locs ls hl hP hD hS hf
                    rw [ekx42] at hf
                    refine lv_iload hx hb dX7_read_91 (lv_at hl 0 rfl) ?_
                    have hq0 := Option.some.inj hf
                    obtain ⟨eq0, hq1⟩ := Prod.mk.inj hq0
                    obtain ⟨eq1, hq2⟩ := Prod.mk.inj hq1
                    clear hf hq0 hq1
                    subst eq0
                    subst eq1
                    subst hq2
                    exact W.iret hx hb hr (fun t ht hW => ⟨⟨_, (), rfl, rfl, by rw [ht]; exact hP, va_K.moved hW.alike hK, hD⟩, hS.F ht⟩) hS.2.2 dX7_read_93
                  have hL42 : ∀ (k42 : Nat) (y42_5 : Int32) (w42_pgrowth : Nat → Nat → Int32) (H : Heap) (locs : List Loc) (ls : Array Slot), lv_has ls 6 [(3, .ref h_t_s3), (4, .ref h_t_p2), (5, .int y42_5)] → va_P (dC, dI) vwCl (wd_X7_read cI cZ cP cS h_t h_t_red h_t_blue h_t_sky h_t_diary h_t_calendar h_t_awakeIn h_t_worths h_t_plants h_t_sheets h_t_bestFrom h_t_p0 h_t_p1 h_t_p2 h_t_p3 h_t_p0_growth h_t_p1_growth h_t_p2_growth h_t_p3_growth h_t_s0 h_t_s1 h_t_s2 h_t_s3 h_t_s0_items h_t_s1_items h_t_s2_items h_t_s3_items v_latestFinding v_phours w42_pgrowth v_sform v_ssize v_sitems) H → va_D (va_A (wd_X7_read cI cZ cP cS h_t h_t_red h_t_blue h_t_sky h_t_diary h_t_calendar h_t_awakeIn h_t_worths h_t_plants h_t_sheets h_t_bestFrom h_t_p0 h_t_p1 h_t_p2 h_t_p3 h_t_p0_growth h_t_p1_growth h_t_p2_growth h_t_p3_growth h_t_s0 h_t_s1 h_t_s2 h_t_s3 h_t_s0_items h_t_s1_items h_t_s2_items h_t_s3_items v_latestFinding v_phours v_pgrowth v_sform v_ssize v_sitems) s.heap.size) (wd_X7_read cI cZ cP cS h_t h_t_red h_t_blue h_t_sky h_t_diary h_t_calendar h_t_awakeIn h_t_worths h_t_plants h_t_sheets h_t_bestFrom h_t_p0 h_t_p1 h_t_p2 h_t_p3 h_t_p0_growth h_t_p1_growth h_t_p2_growth h_t_p3_growth h_t_s0 h_t_s1 h_t_s2 h_t_s3 h_t_s0_items h_t_s1_items h_t_s2_items h_t_s3_items v_latestFinding v_phours w42_pgrowth v_sform v_ssize v_sitems) → va_S (va_A (wd_X7_read cI cZ cP cS h_t h_t_red h_t_blue h_t_sky h_t_diary h_t_calendar h_t_awakeIn h_t_worths h_t_plants h_t_sheets h_t_bestFrom h_t_p0 h_t_p1 h_t_p2 h_t_p3 h_t_p0_growth h_t_p1_growth h_t_p2_growth h_t_p3_growth h_t_s0 h_t_s1 h_t_s2 h_t_s3 h_t_s0_items h_t_s1_items h_t_s2_items h_t_s3_items v_latestFinding v_phours v_pgrowth v_sform v_ssize v_sitems) s.heap.size) s.heap H locs → L_X7_read_42q15 n v_ssize v_sitems kx42 k42 y42_5 w42_pgrowth = some (r, o_latestFinding, o_pgrowth) → W p l e (headSpec wsX7_read rm_X7_read).room s m ([.ref h_t, .int x1, .int x2] : List Value).toArray below meth c H locs 0 0 (MQ below (RWi (dC, dI) (TY cI cZ cP cS) r s.heap.size (wd_X7_read cI cZ cP cS h_t h_t_red h_t_blue h_t_sky h_t_diary h_t_calendar h_t_awakeIn h_t_worths h_t_plants h_t_sheets h_t_bestFrom h_t_p0 h_t_p1 h_t_p2 h_t_p3 h_t_p0_growth h_t_p1_growth h_t_p2_growth h_t_p3_growth h_t_s0 h_t_s1 h_t_s2 h_t_s3 h_t_s0_items h_t_s1_items h_t_s2_items h_t_s3_items v_latestFinding v_phours v_pgrowth v_sform v_ssize v_sitems) (wd_X7_read cI cZ cP cS h_t h_t_red h_t_blue h_t_sky h_t_diary h_t_calendar h_t_awakeIn h_t_worths h_t_plants h_t_sheets h_t_bestFrom h_t_p0 h_t_p1 h_t_p2 h_t_p3 h_t_p0_growth h_t_p1_growth h_t_p2_growth h_t_p3_growth h_t_s0 h_t_s1 h_t_s2 h_t_s3 h_t_s0_items h_t_s1_items h_t_s2_items h_t_s3_items o_latestFinding v_phours o_pgrowth v_sform v_ssize v_sitems)) ([.ref h_t, .int x1, .int x2] : List Value).toArray s 0 0 (va_A (wd_X7_read cI cZ cP cS h_t h_t_red h_t_blue h_t_sky h_t_diary h_t_calendar h_t_awakeIn h_t_worths h_t_plants h_t_sheets h_t_bestFrom h_t_p0 h_t_p1 h_t_p2 h_t_p3 h_t_p0_growth h_t_p1_growth h_t_p2_growth h_t_p3_growth h_t_s0 h_t_s1 h_t_s2 h_t_s3 h_t_s0_items h_t_s1_items h_t_s2_items h_t_s3_items v_latestFinding v_phours v_pgrowth v_sform v_ssize v_sitems) s.heap.size)) (F0 m 42 ls []) := by
                    intro k42
                    induction k42 with
                    | zero =>
                      intro y42_5 w42_pgrowth H locs ls hl hP hD hS hf
                      exact absurd hf (fun h => Option.some_ne_none _ h.symm)
                    | succ k42 ih =>
                      intro y42_5 w42_pgrowth H locs ls hl hP hD hS hf
                      rw [L_X7_read_42q15_s] at hf
                      refine lv_iload hx hb dX7_read_42 (lv_at hl 2 rfl) ?_
                      refine lv_iconst (v := 4) hx hb dX7_read_44 (by decide) ?_
                      refine lv_icmp_ge (tgt := 91) hx hb dX7_read_45 (by decide) (fun c45 => ?_) (fun c45 => ?_)
                      · rw [if_pos c45] at hf
                        exact hx42 y42_5 w42_pgrowth H locs ls (lv_sub hl [2] rfl) hP hD hS hf
                      · rw [if_neg c45] at hf
                        refine lv_iload hx hb dX7_read_48 (lv_at hl 2 rfl) ?_
                        refine lv_aload_n hx hb dX7_read_50 rfl (lv_at hl 0 rfl) ?_
                        refine va_get (D := (dC, dI)) (ci := 3) (v := .int (v_ssize 3)) (C := RX3) (T := TX3) (N := 3) hx hb hts hinX3 hown hK hP 17 rfl rfl 1 (by decide) (hts (.fieldLink RX7 228 "SecondSunrise$Sheet" "size" "I") (by decide +kernel)) (fun _ h9 => h9) rfl dX7_read_51 ?_
                        refine lv_icmp_ge (tgt := 91) hx hb dX7_read_54 (by decide) (fun c54 => ?_) (fun c54 => ?_)
                        · rw [if_pos c54] at hf
                          exact hx42 y42_5 w42_pgrowth H locs ls (lv_sub hl [2] rfl) hP hD hS hf
                        · rw [if_neg c54] at hf
                          refine lv_aload_n hx hb dX7_read_57 rfl (lv_at hl 0 rfl) ?_
                          refine va_get (D := (dC, dI)) (ci := 3) (v := .ref h_t_s3_items) (C := RX3) (T := TX3) (N := 3) hx hb hts hinX3 hown hK hP 17 rfl rfl 2 (by decide) (hts (.fieldLink RX7 229 "SecondSunrise$Sheet" "items" "[I") (by decide +kernel)) (fun _ h9 => h9) rfl dX7_read_58 ?_
                          refine lv_iload hx hb dX7_read_61 (lv_at hl 2 rfl) ?_
                          obtain ⟨hi_160, hf⟩ := ix_e hf
                          refine va_iald hx hb hK hP 18 0 rfl rfl hi_160 dX7_read_63 ?_
                          obtain ⟨r64_161, hc_162, hf⟩ := bd1_e hf
                          refine vp_callSi (va_runS (As := [.int ((v_sitems 3) y42_5.toNatClampNeg)]) (rest := []) ⟨hx, hb, hml, hown, hts⟩ (c_X7_noGrowth l dC dI cI cZ cP cS   ((v_sitems 3) y42_5.toNatClampNeg) n r64_161 hc_162) (va_cwS 1 hts gX7_read_X7_noGrowth rfl rfl rfl (by decide +kernel) ⟨Nat.le_of_ble_eq_true rfl, Nat.le_of_ble_eq_true rfl⟩) (ps_ro hK (hP.sub (ws' := ([] : va_W)) [] rfl)) rfl rfl hl.1 rfl (lv_room (Nat.le_of_ble_eq_true rfl)) dX7_read_64 ⟨Nat.zero_le _, Nat.zero_le _⟩).run (fun x e_163 => ?_)
                          obtain ⟨e_163, hb_164⟩ := e_163
                          rw [e_163] at hb_164 ⊢
                          refine lv_if_ne (tgt := 91) hx hb dX7_read_67 (by decide) (fun c67 => ?_) (fun c67 => ?_)
                          · rw [if_neg c67] at hf
                            exact hx42 y42_5 w42_pgrowth H locs ls (lv_sub hl [2] rfl) hP hD hS hf
                          · rw [if_pos c67] at hf
                            refine lv_aload hx hb dX7_read_70 (lv_at hl 1 rfl) ?_
                            refine va_get (D := (dC, dI)) (ci := 2) (v := .ref h_t_p2_growth) (C := RX2) (T := TX2) (N := 2) hx hb hts hinX2 hown hK hP 6 rfl rfl 1 (by decide) (hts (.fieldLink RX7 215 "SecondSunrise$Plant" "growth" "[I") (by decide +kernel)) (fun _ h9 => h9) rfl dX7_read_72 ?_
                            refine lv_iload hx hb dX7_read_75 (lv_at hl 2 rfl) ?_
                            refine lv_aload_n hx hb dX7_read_77 rfl (lv_at hl 0 rfl) ?_
                            refine va_get (D := (dC, dI)) (ci := 3) (v := .ref h_t_s3_items) (C := RX3) (T := TX3) (N := 3) hx hb hts hinX3 hown hK hP 17 rfl rfl 2 (by decide) (hts (.fieldLink RX7 229 "SecondSunrise$Sheet" "items" "[I") (by decide +kernel)) (fun _ h9 => h9) rfl dX7_read_78 ?_
                            refine lv_iload hx hb dX7_read_81 (lv_at hl 2 rfl) ?_
                            obtain ⟨hi_165, hf⟩ := ix_e hf
                            refine va_iald hx hb hK hP 18 0 rfl rfl hi_165 dX7_read_83 ?_
                            obtain ⟨hi_166, hf⟩ := ix_e hf
                            refine va_iast hx hb hK hP hD hS 7 0 rfl rfl hi_166 dX7_read_84 (fun H locs hP hD hS => ?_)
                            have hP : va_P (dC, dI) vwCl (wd_X7_read cI cZ cP cS h_t h_t_red h_t_blue h_t_sky h_t_diary h_t_calendar h_t_awakeIn h_t_worths h_t_plants h_t_sheets h_t_bestFrom h_t_p0 h_t_p1 h_t_p2 h_t_p3 h_t_p0_growth h_t_p1_growth h_t_p2_growth h_t_p3_growth h_t_s0 h_t_s1 h_t_s2 h_t_s3 h_t_s0_items h_t_s1_items h_t_s2_items h_t_s3_items v_latestFinding v_phours (va_up w42_pgrowth 2 (upd (w42_pgrowth 2) y42_5.toNatClampNeg ((v_sitems 3) y42_5.toNatClampNeg))) v_sform v_ssize v_sitems) H := hP
                            have hD : va_D (va_A (wd_X7_read cI cZ cP cS h_t h_t_red h_t_blue h_t_sky h_t_diary h_t_calendar h_t_awakeIn h_t_worths h_t_plants h_t_sheets h_t_bestFrom h_t_p0 h_t_p1 h_t_p2 h_t_p3 h_t_p0_growth h_t_p1_growth h_t_p2_growth h_t_p3_growth h_t_s0 h_t_s1 h_t_s2 h_t_s3 h_t_s0_items h_t_s1_items h_t_s2_items h_t_s3_items v_latestFinding v_phours v_pgrowth v_sform v_ssize v_sitems) s.heap.size) (wd_X7_read cI cZ cP cS h_t h_t_red h_t_blue h_t_sky h_t_diary h_t_calendar h_t_awakeIn h_t_worths h_t_plants h_t_sheets h_t_bestFrom h_t_p0 h_t_p1 h_t_p2 h_t_p3 h_t_p0_growth h_t_p1_growth h_t_p2_growth h_t_p3_growth h_t_s0 h_t_s1 h_t_s2 h_t_s3 h_t_s0_items h_t_s1_items h_t_s2_items h_t_s3_items v_latestFinding v_phours (va_up w42_pgrowth 2 (upd (w42_pgrowth 2) y42_5.toNatClampNeg ((v_sitems 3) y42_5.toNatClampNeg))) v_sform v_ssize v_sitems) := hD
                            refine lv_iinc (v := (y42_5 + 1)) (lv' := [(5, .int (y42_5 + 1)), (3, .ref h_t_s3), (4, .ref h_t_p2)]) hx hb dX7_read_85 hl (k := 2) rfl rfl (by decide) rfl (fun ls hl => ?_)
                            refine lv_goto (tgt := 42) hx hb dX7_read_88 (by decide) ?_
                            exact ih (y42_5 + 1) (va_up w42_pgrowth 2 (upd (w42_pgrowth 2) y42_5.toNatClampNeg ((v_sitems 3) y42_5.toNatClampNeg))) H locs ls (lv_sub hl [1, 2, 0] rfl) hP hD hS hf
                  exact hL42 n 0 v_pgrowth H locs ls (lv_sub hl [2, 1, 0] rfl) hP hD hS hf
                · rw [if_pos c30] at hf
                  refine lv_aload_n hx hb dX7_read_33 rfl (lv_at hl 2 rfl) ?_
                  refine lv_iconst (v := 1) hx hb dX7_read_34 (by decide) ?_
                  obtain ⟨r35_167, o35_168, hc_169, hf⟩ := bd2_e hf
                  refine rwi_call (isC := [0]) (isR := [1, 2, 3, 4, 5, 6, 7, 8, 9, 10, 11, 12, 13, 14, 15, 16, 17, 18]) (perm := [18, 0, 1, 2, 3, 4, 5, 6, 7, 8, 9, 10, 11, 12, 13, 14, 15, 16, 17]) (wr := [(h_t_plants, .inl (cP, 4, .inr (.inr (.inr (.inr (ar4 h_t_p0 h_t_p1 h_t_p2 h_t_p3)))))), (h_t_p0, .inr (2, [.int (v_phours 0), .ref h_t_p0_growth])), (h_t_p0_growth, .inl (cI, 4, .inl (v_pgrowth 0))), (h_t_p1, .inr (2, [.int (v_phours 1), .ref h_t_p1_growth])), (h_t_p1_growth, .inl (cI, 4, .inl (v_pgrowth 1))), (h_t_p2, .inr (2, [.int (v_phours 2), .ref h_t_p2_growth])), (h_t_p2_growth, .inl (cI, 4, .inl (v_pgrowth 2))), (h_t_p3, .inr (2, [.int (v_phours 3), .ref h_t_p3_growth])), (h_t_p3_growth, .inl (cI, 4, .inl (v_pgrowth 3))), (h_t_sheets, .inl (cS, 4, .inr (.inr (.inr (.inr (ar4 h_t_s0 h_t_s1 h_t_s2 h_t_s3)))))), (h_t_s0, .inr (3, [.int (v_sform 0), .int (v_ssize 0), .ref h_t_s0_items])), (h_t_s0_items, .inl (cI, 48, .inl (v_sitems 0))), (h_t_s1, .inr (3, [.int (v_sform 1), .int (v_ssize 1), .ref h_t_s1_items])), (h_t_s1_items, .inl (cI, 48, .inl (v_sitems 1))), (h_t_s2, .inr (3, [.int (v_sform 2), .int (v_ssize 2), .ref h_t_s2_items])), (h_t_s2_items, .inl (cI, 48, .inl (v_sitems 2))), (h_t_s3, .inr (3, [.int (v_sform 3), .int (v_ssize 3), .ref h_t_s3_items])), (h_t_s3_items, .inl (cI, 48, .inl (v_sitems 3)))]) (ws2 := (wd_X7_read cI cZ cP cS h_t h_t_red h_t_blue h_t_sky h_t_diary h_t_calendar h_t_awakeIn h_t_worths h_t_plants h_t_sheets h_t_bestFrom h_t_p0 h_t_p1 h_t_p2 h_t_p3 h_t_p0_growth h_t_p1_growth h_t_p2_growth h_t_p3_growth h_t_s0 h_t_s1 h_t_s2 h_t_s3 h_t_s0_items h_t_s1_items h_t_s2_items h_t_s3_items o35_168 v_phours v_pgrowth v_sform v_ssize v_sitems)) (va_runV (As := [.int 1]) (rest := []) ⟨hx, hb, hml, hown, hts⟩ (c_X7_found l dC dI cI cZ cP cS H.size h_t h_t_red h_t_blue h_t_sky h_t_diary h_t_calendar h_t_awakeIn h_t_worths h_t_plants h_t_sheets h_t_bestFrom v_latestFinding 1 n r35_167 o35_168 hc_169) (cwV 1 hts gX7_read_X7_found rfl rfl rfl (by decide +kernel) ⟨Nat.le_of_ble_eq_true rfl, Nat.le_of_ble_eq_true rfl⟩) (pv_rw (ci := 6) (q0 := 0) hK (hP.sub (ws' := (wd_X7_found cI cZ cP cS h_t h_t_red h_t_blue h_t_sky h_t_diary h_t_calendar h_t_awakeIn h_t_worths h_t_plants h_t_sheets h_t_bestFrom v_latestFinding)) [0] rfl) (hD.sub (ws' := (wd_X7_found cI cZ cP cS h_t h_t_red h_t_blue h_t_sky h_t_diary h_t_calendar h_t_awakeIn h_t_worths h_t_plants h_t_sheets h_t_bestFrom v_latestFinding)) [0] (by decide) rfl) rfl rfl) rfl rfl hl.1 rfl (lv_room (Nat.le_of_ble_eq_true rfl)) dX7_read_35 ⟨Nat.zero_le _, Nat.zero_le _⟩) hS hA hP hD rfl (by decide) (by decide) rfl (by decide) rfl rfl (fun H locs hP hD hS => ?_)
                  have hq0 := Option.some.inj hf
                  obtain ⟨eq0, hq1⟩ := Prod.mk.inj hq0
                  obtain ⟨eq1, hq2⟩ := Prod.mk.inj hq1
                  clear hf hq0 hq1
                  subst eq0
                  subst eq1
                  subst hq2
                  exact W.iret hx hb hr (fun t ht hW => ⟨⟨_, (), rfl, rfl, by rw [ht]; exact hP, va_K.moved hW.alike hK, hD⟩, hS.F ht⟩) hS.2.2 dX7_read_38
              · rw [if_neg c8_2] at hf e_137
                by_cases c8_3 : x2 = 3
                · rw [if_pos c8_3] at hf e_137
                  subst e_137
                  refine W.eq (g2 := F0 m 11 ls [.ref h_t_p3]) rfl ?_
                  refine lv_astore (lv' := [(4, .ref h_t_p3), (3, .ref h_t_s3), (0, .ref h_t), (1, .int x1), (2, .int x2)]) hx hb dX7_read_11 hl (by decide) rfl (fun ls hl => ?_)
                  refine lv_aload_n hx hb dX7_read_13 rfl (lv_at hl 1 rfl) ?_
                  refine lv_ifnull hx hb dX7_read_14 ?_
                  refine lv_aload hx hb dX7_read_17 (lv_at hl 0 rfl) ?_
                  refine lv_ifnonnull (tgt := 25) hx hb dX7_read_19 (by decide) ?_
                  refine lv_aload_n hx hb dX7_read_25 rfl (lv_at hl 1 rfl) ?_
                  refine va_get (D := (dC, dI)) (ci := 3) (v := .int (v_sform 3)) (C := RX3) (T := TX3) (N := 3) hx hb hts hinX3 hown hK hP 17 rfl rfl 0 (by decide) (hts (.fieldLink RX7 222 "SecondSunrise$Sheet" "form" "I") (by decide +kernel)) (fun _ h9 => h9) rfl dX7_read_26 ?_
                  refine lv_iconst (v := (-1)) hx hb dX7_read_29 (by decide) ?_
                  refine lv_icmp_ne (tgt := 39) hx hb dX7_read_30 (by decide) (fun c30 => ?_) (fun c30 => ?_)
                  · rw [if_neg c30] at hf
                    refine lv_iconst (v := 0) hx hb dX7_read_39 (by decide) ?_
                    refine lv_istore (lv' := [(5, .int 0), (4, .ref h_t_p3), (3, .ref h_t_s3), (0, .ref h_t), (1, .int x1), (2, .int x2)]) hx hb dX7_read_40 hl (by decide) rfl (fun ls hl => ?_)
                    obtain ⟨kx42, ekx42, hf⟩ := jn2_e hf
                    have hx42 : ∀ (z42_5 : Int32) (u42_pgrowth : Nat → Nat → Int32) (H : Heap) (locs : List Loc) (ls : Array Slot), lv_has ls 6 [(5, .int z42_5)] → va_P (dC, dI) vwCl (wd_X7_read cI cZ cP cS h_t h_t_red h_t_blue h_t_sky h_t_diary h_t_calendar h_t_awakeIn h_t_worths h_t_plants h_t_sheets h_t_bestFrom h_t_p0 h_t_p1 h_t_p2 h_t_p3 h_t_p0_growth h_t_p1_growth h_t_p2_growth h_t_p3_growth h_t_s0 h_t_s1 h_t_s2 h_t_s3 h_t_s0_items h_t_s1_items h_t_s2_items h_t_s3_items v_latestFinding v_phours u42_pgrowth v_sform v_ssize v_sitems) H → va_D (va_A (wd_X7_read cI cZ cP cS h_t h_t_red h_t_blue h_t_sky h_t_diary h_t_calendar h_t_awakeIn h_t_worths h_t_plants h_t_sheets h_t_bestFrom h_t_p0 h_t_p1 h_t_p2 h_t_p3 h_t_p0_growth h_t_p1_growth h_t_p2_growth h_t_p3_growth h_t_s0 h_t_s1 h_t_s2 h_t_s3 h_t_s0_items h_t_s1_items h_t_s2_items h_t_s3_items v_latestFinding v_phours v_pgrowth v_sform v_ssize v_sitems) s.heap.size) (wd_X7_read cI cZ cP cS h_t h_t_red h_t_blue h_t_sky h_t_diary h_t_calendar h_t_awakeIn h_t_worths h_t_plants h_t_sheets h_t_bestFrom h_t_p0 h_t_p1 h_t_p2 h_t_p3 h_t_p0_growth h_t_p1_growth h_t_p2_growth h_t_p3_growth h_t_s0 h_t_s1 h_t_s2 h_t_s3 h_t_s0_items h_t_s1_items h_t_s2_items h_t_s3_items v_latestFinding v_phours u42_pgrowth v_sform v_ssize v_sitems) → va_S (va_A (wd_X7_read cI cZ cP cS h_t h_t_red h_t_blue h_t_sky h_t_diary h_t_calendar h_t_awakeIn h_t_worths h_t_plants h_t_sheets h_t_bestFrom h_t_p0 h_t_p1 h_t_p2 h_t_p3 h_t_p0_growth h_t_p1_growth h_t_p2_growth h_t_p3_growth h_t_s0 h_t_s1 h_t_s2 h_t_s3 h_t_s0_items h_t_s1_items h_t_s2_items h_t_s3_items v_latestFinding v_phours v_pgrowth v_sform v_ssize v_sitems) s.heap.size) s.heap H locs → kx42 z42_5 u42_pgrowth = some (r, o_latestFinding, o_pgrowth) → W p l e (headSpec wsX7_read rm_X7_read).room s m ([.ref h_t, .int x1, .int x2] : List Value).toArray below meth c H locs 0 0 (MQ below (RWi (dC, dI) (TY cI cZ cP cS) r s.heap.size (wd_X7_read cI cZ cP cS h_t h_t_red h_t_blue h_t_sky h_t_diary h_t_calendar h_t_awakeIn h_t_worths h_t_plants h_t_sheets h_t_bestFrom h_t_p0 h_t_p1 h_t_p2 h_t_p3 h_t_p0_growth h_t_p1_growth h_t_p2_growth h_t_p3_growth h_t_s0 h_t_s1 h_t_s2 h_t_s3 h_t_s0_items h_t_s1_items h_t_s2_items h_t_s3_items v_latestFinding v_phours v_pgrowth v_sform v_ssize v_sitems) (wd_X7_read cI cZ cP cS h_t h_t_red h_t_blue h_t_sky h_t_diary h_t_calendar h_t_awakeIn h_t_worths h_t_plants h_t_sheets h_t_bestFrom h_t_p0 h_t_p1 h_t_p2 h_t_p3 h_t_p0_growth h_t_p1_growth h_t_p2_growth h_t_p3_growth h_t_s0 h_t_s1 h_t_s2 h_t_s3 h_t_s0_items h_t_s1_items h_t_s2_items h_t_s3_items o_latestFinding v_phours o_pgrowth v_sform v_ssize v_sitems)) ([.ref h_t, .int x1, .int x2] : List Value).toArray s 0 0 (va_A (wd_X7_read cI cZ cP cS h_t h_t_red h_t_blue h_t_sky h_t_diary h_t_calendar h_t_awakeIn h_t_worths h_t_plants h_t_sheets h_t_bestFrom h_t_p0 h_t_p1 h_t_p2 h_t_p3 h_t_p0_growth h_t_p1_growth h_t_p2_growth h_t_p3_growth h_t_s0 h_t_s1 h_t_s2 h_t_s3 h_t_s0_items h_t_s1_items h_t_s2_items h_t_s3_items v_latestFinding v_phours v_pgrowth v_sform v_ssize v_sitems) s.heap.size)) (F0 m 91 ls []) := by
                      intro z42_5 u42_pgrowth H locs ls hl hP hD hS hf
                      rw [ekx42] at hf
                      refine lv_iload hx hb dX7_read_91 (lv_at hl 0 rfl) ?_
                      have hq0 := Option.some.inj hf
                      obtain ⟨eq0, hq1⟩ := Prod.mk.inj hq0
                      obtain ⟨eq1, hq2⟩ := Prod.mk.inj hq1
                      clear hf hq0 hq1
                      subst eq0
                      subst eq1
                      subst hq2
                      exact W.iret hx hb hr (fun t ht hW => ⟨⟨_, (), rfl, rfl, by rw [ht]; exact hP, va_K.moved hW.alike hK, hD⟩, hS.F ht⟩) hS.2.2 dX7_read_93
                    have hL42 : ∀ (k42 : Nat) (y42_5 : Int32) (w42_pgrowth : Nat → Nat → Int32) (H : Heap) (locs : List Loc) (ls : Array Slot), lv_has ls 6 [(3, .ref h_t_s3), (4, .ref h_t_p3), (5, .int y42_5)] → va_P (dC, dI) vwCl (wd_X7_read cI cZ cP cS h_t h_t_red h_t_blue h_t_sky h_t_diary h_t_calendar h_t_awakeIn h_t_worths h_t_plants h_t_sheets h_t_bestFrom h_t_p0 h_t_p1 h_t_p2 h_t_p3 h_t_p0_growth h_t_p1_growth h_t_p2_growth h_t_p3_growth h_t_s0 h_t_s1 h_t_s2 h_t_s3 h_t_s0_items h_t_s1_items h_t_s2_items h_t_s3_items v_latestFinding v_phours w42_pgrowth v_sform v_ssize v_sitems) H → va_D (va_A (wd_X7_read cI cZ cP cS h_t h_t_red h_t_blue h_t_sky h_t_diary h_t_calendar h_t_awakeIn h_t_worths h_t_plants h_t_sheets h_t_bestFrom h_t_p0 h_t_p1 h_t_p2 h_t_p3 h_t_p0_growth h_t_p1_growth h_t_p2_growth h_t_p3_growth h_t_s0 h_t_s1 h_t_s2 h_t_s3 h_t_s0_items h_t_s1_items h_t_s2_items h_t_s3_items v_latestFinding v_phours v_pgrowth v_sform v_ssize v_sitems) s.heap.size) (wd_X7_read cI cZ cP cS h_t h_t_red h_t_blue h_t_sky h_t_diary h_t_calendar h_t_awakeIn h_t_worths h_t_plants h_t_sheets h_t_bestFrom h_t_p0 h_t_p1 h_t_p2 h_t_p3 h_t_p0_growth h_t_p1_growth h_t_p2_growth h_t_p3_growth h_t_s0 h_t_s1 h_t_s2 h_t_s3 h_t_s0_items h_t_s1_items h_t_s2_items h_t_s3_items v_latestFinding v_phours w42_pgrowth v_sform v_ssize v_sitems) → va_S (va_A (wd_X7_read cI cZ cP cS h_t h_t_red h_t_blue h_t_sky h_t_diary h_t_calendar h_t_awakeIn h_t_worths h_t_plants h_t_sheets h_t_bestFrom h_t_p0 h_t_p1 h_t_p2 h_t_p3 h_t_p0_growth h_t_p1_growth h_t_p2_growth h_t_p3_growth h_t_s0 h_t_s1 h_t_s2 h_t_s3 h_t_s0_items h_t_s1_items h_t_s2_items h_t_s3_items v_latestFinding v_phours v_pgrowth v_sform v_ssize v_sitems) s.heap.size) s.heap H locs → L_X7_read_42q16 n v_ssize v_sitems kx42 k42 y42_5 w42_pgrowth = some (r, o_latestFinding, o_pgrowth) → W p l e (headSpec wsX7_read rm_X7_read).room s m ([.ref h_t, .int x1, .int x2] : List Value).toArray below meth c H locs 0 0 (MQ below (RWi (dC, dI) (TY cI cZ cP cS) r s.heap.size (wd_X7_read cI cZ cP cS h_t h_t_red h_t_blue h_t_sky h_t_diary h_t_calendar h_t_awakeIn h_t_worths h_t_plants h_t_sheets h_t_bestFrom h_t_p0 h_t_p1 h_t_p2 h_t_p3 h_t_p0_growth h_t_p1_growth h_t_p2_growth h_t_p3_growth h_t_s0 h_t_s1 h_t_s2 h_t_s3 h_t_s0_items h_t_s1_items h_t_s2_items h_t_s3_items v_latestFinding v_phours v_pgrowth v_sform v_ssize v_sitems) (wd_X7_read cI cZ cP cS h_t h_t_red h_t_blue h_t_sky h_t_diary h_t_calendar h_t_awakeIn h_t_worths h_t_plants h_t_sheets h_t_bestFrom h_t_p0 h_t_p1 h_t_p2 h_t_p3 h_t_p0_growth h_t_p1_growth h_t_p2_growth h_t_p3_growth h_t_s0 h_t_s1 h_t_s2 h_t_s3 h_t_s0_items h_t_s1_items h_t_s2_items h_t_s3_items o_latestFinding v_phours o_pgrowth v_sform v_ssize v_sitems)) ([.ref h_t, .int x1, .int x2] : List Value).toArray s 0 0 (va_A (wd_X7_read cI cZ cP cS h_t h_t_red h_t_blue h_t_sky h_t_diary h_t_calendar h_t_awakeIn h_t_worths h_t_plants h_t_sheets h_t_bestFrom h_t_p0 h_t_p1 h_t_p2 h_t_p3 h_t_p0_growth h_t_p1_growth h_t_p2_growth h_t_p3_growth h_t_s0 h_t_s1 h_t_s2 h_t_s3 h_t_s0_items h_t_s1_items h_t_s2_items h_t_s3_items v_latestFinding v_phours v_pgrowth v_sform v_ssize v_sitems) s.heap.size)) (F0 m 42 ls []) := by
                      intro k42
                      induction k42 with
                      | zero =>
                        intro y42_5 w42_pgrowth H locs ls hl hP hD hS hf
                        exact absurd hf (fun h => Option.some_ne_none _ h.symm)
                      | succ k42 ih =>
                        intro y42_5 w42_pgrowth H locs ls hl hP hD hS hf
                        rw [L_X7_read_42q16_s] at hf
                        refine lv_iload hx hb dX7_read_42 (lv_at hl 2 rfl) ?_
                        refine lv_iconst (v := 4) hx hb dX7_read_44 (by decide) ?_
                        refine lv_icmp_ge (tgt := 91) hx hb dX7_read_45 (by decide) (fun c45 => ?_) (fun c45 => ?_)
                        · rw [if_pos c45] at hf
                          exact hx42 y42_5 w42_pgrowth H locs ls (lv_sub hl [2] rfl) hP hD hS hf
                        · rw [if_neg c45] at hf
                          refine lv_iload hx hb dX7_read_48 (lv_at hl 2 rfl) ?_
                          refine lv_aload_n hx hb dX7_read_50 rfl (lv_at hl 0 rfl) ?_
                          refine va_get (D := (dC, dI)) (ci := 3) (v := .int (v_ssize 3)) (C := RX3) (T := TX3) (N := 3) hx hb hts hinX3 hown hK hP 17 rfl rfl 1 (by decide) (hts (.fieldLink RX7 228 "SecondSunrise$Sheet" "size" "I") (by decide +kernel)) (fun _ h9 => h9) rfl dX7_read_51 ?_
                          refine lv_icmp_ge (tgt := 91) hx hb dX7_read_54 (by decide) (fun c54 => ?_) (fun c54 => ?_)
                          · rw [if_pos c54] at hf
                            exact hx42 y42_5 w42_pgrowth H locs ls (lv_sub hl [2] rfl) hP hD hS hf
                          · rw [if_neg c54] at hf
                            refine lv_aload_n hx hb dX7_read_57 rfl (lv_at hl 0 rfl) ?_
                            refine va_get (D := (dC, dI)) (ci := 3) (v := .ref h_t_s3_items) (C := RX3) (T := TX3) (N := 3) hx hb hts hinX3 hown hK hP 17 rfl rfl 2 (by decide) (hts (.fieldLink RX7 229 "SecondSunrise$Sheet" "items" "[I") (by decide +kernel)) (fun _ h9 => h9) rfl dX7_read_58 ?_
                            refine lv_iload hx hb dX7_read_61 (lv_at hl 2 rfl) ?_
                            obtain ⟨hi_171, hf⟩ := ix_e hf
                            refine va_iald hx hb hK hP 18 0 rfl rfl hi_171 dX7_read_63 ?_
                            obtain ⟨r64_172, hc_173, hf⟩ := bd1_e hf
                            refine vp_callSi (va_runS (As := [.int ((v_sitems 3) y42_5.toNatClampNeg)]) (rest := []) ⟨hx, hb, hml, hown, hts⟩ (c_X7_noGrowth l dC dI cI cZ cP cS   ((v_sitems 3) y42_5.toNatClampNeg) n r64_172 hc_173) (va_cwS 1 hts gX7_read_X7_noGrowth rfl rfl rfl (by decide +kernel) ⟨Nat.le_of_ble_eq_true rfl, Nat.le_of_ble_eq_true rfl⟩) (ps_ro hK (hP.sub (ws' := ([] : va_W)) [] rfl)) rfl rfl hl.1 rfl (lv_room (Nat.le_of_ble_eq_true rfl)) dX7_read_64 ⟨Nat.zero_le _, Nat.zero_le _⟩).run (fun x e_174 => ?_)
                            obtain ⟨e_174, hb_175⟩ := e_174
                            rw [e_174] at hb_175 ⊢
                            refine lv_if_ne (tgt := 91) hx hb dX7_read_67 (by decide) (fun c67 => ?_) (fun c67 => ?_)
                            · rw [if_neg c67] at hf
                              exact hx42 y42_5 w42_pgrowth H locs ls (lv_sub hl [2] rfl) hP hD hS hf
                            · rw [if_pos c67] at hf
                              refine lv_aload hx hb dX7_read_70 (lv_at hl 1 rfl) ?_
                              refine va_get (D := (dC, dI)) (ci := 2) (v := .ref h_t_p3_growth) (C := RX2) (T := TX2) (N := 2) hx hb hts hinX2 hown hK hP 8 rfl rfl 1 (by decide) (hts (.fieldLink RX7 215 "SecondSunrise$Plant" "growth" "[I") (by decide +kernel)) (fun _ h9 => h9) rfl dX7_read_72 ?_
                              refine lv_iload hx hb dX7_read_75 (lv_at hl 2 rfl) ?_
                              refine lv_aload_n hx hb dX7_read_77 rfl (lv_at hl 0 rfl) ?_
                              refine va_get (D := (dC, dI)) (ci := 3) (v := .ref h_t_s3_items) (C := RX3) (T := TX3) (N := 3) hx hb hts hinX3 hown hK hP 17 rfl rfl 2 (by decide) (hts (.fieldLink RX7 229 "SecondSunrise$Sheet" "items" "[I") (by decide +kernel)) (fun _ h9 => h9) rfl dX7_read_78 ?_
                              refine lv_iload hx hb dX7_read_81 (lv_at hl 2 rfl) ?_
                              obtain ⟨hi_176, hf⟩ := ix_e hf
                              refine va_iald hx hb hK hP 18 0 rfl rfl hi_176 dX7_read_83 ?_
                              obtain ⟨hi_177, hf⟩ := ix_e hf
                              refine va_iast hx hb hK hP hD hS 9 0 rfl rfl hi_177 dX7_read_84 (fun H locs hP hD hS => ?_)
                              have hP : va_P (dC, dI) vwCl (wd_X7_read cI cZ cP cS h_t h_t_red h_t_blue h_t_sky h_t_diary h_t_calendar h_t_awakeIn h_t_worths h_t_plants h_t_sheets h_t_bestFrom h_t_p0 h_t_p1 h_t_p2 h_t_p3 h_t_p0_growth h_t_p1_growth h_t_p2_growth h_t_p3_growth h_t_s0 h_t_s1 h_t_s2 h_t_s3 h_t_s0_items h_t_s1_items h_t_s2_items h_t_s3_items v_latestFinding v_phours (va_up w42_pgrowth 3 (upd (w42_pgrowth 3) y42_5.toNatClampNeg ((v_sitems 3) y42_5.toNatClampNeg))) v_sform v_ssize v_sitems) H := hP
                              have hD : va_D (va_A (wd_X7_read cI cZ cP cS h_t h_t_red h_t_blue h_t_sky h_t_diary h_t_calendar h_t_awakeIn h_t_worths h_t_plants h_t_sheets h_t_bestFrom h_t_p0 h_t_p1 h_t_p2 h_t_p3 h_t_p0_growth h_t_p1_growth h_t_p2_growth h_t_p3_growth h_t_s0 h_t_s1 h_t_s2 h_t_s3 h_t_s0_items h_t_s1_items h_t_s2_items h_t_s3_items v_latestFinding v_phours v_pgrowth v_sform v_ssize v_sitems) s.heap.size) (wd_X7_read cI cZ cP cS h_t h_t_red h_t_blue h_t_sky h_t_diary h_t_calendar h_t_awakeIn h_t_worths h_t_plants h_t_sheets h_t_bestFrom h_t_p0 h_t_p1 h_t_p2 h_t_p3 h_t_p0_growth h_t_p1_growth h_t_p2_growth h_t_p3_growth h_t_s0 h_t_s1 h_t_s2 h_t_s3 h_t_s0_items h_t_s1_items h_t_s2_items h_t_s3_items v_latestFinding v_phours (va_up w42_pgrowth 3 (upd (w42_pgrowth 3) y42_5.toNatClampNeg ((v_sitems 3) y42_5.toNatClampNeg))) v_sform v_ssize v_sitems) := hD
                              refine lv_iinc (v := (y42_5 + 1)) (lv' := [(5, .int (y42_5 + 1)), (3, .ref h_t_s3), (4, .ref h_t_p3)]) hx hb dX7_read_85 hl (k := 2) rfl rfl (by decide) rfl (fun ls hl => ?_)
                              refine lv_goto (tgt := 42) hx hb dX7_read_88 (by decide) ?_
                              exact ih (y42_5 + 1) (va_up w42_pgrowth 3 (upd (w42_pgrowth 3) y42_5.toNatClampNeg ((v_sitems 3) y42_5.toNatClampNeg))) H locs ls (lv_sub hl [1, 2, 0] rfl) hP hD hS hf
                    exact hL42 n 0 v_pgrowth H locs ls (lv_sub hl [2, 1, 0] rfl) hP hD hS hf
                  · rw [if_pos c30] at hf
                    refine lv_aload_n hx hb dX7_read_33 rfl (lv_at hl 2 rfl) ?_
                    refine lv_iconst (v := 1) hx hb dX7_read_34 (by decide) ?_
                    obtain ⟨r35_178, o35_179, hc_180, hf⟩ := bd2_e hf
                    refine rwi_call (isC := [0]) (isR := [1, 2, 3, 4, 5, 6, 7, 8, 9, 10, 11, 12, 13, 14, 15, 16, 17, 18]) (perm := [18, 0, 1, 2, 3, 4, 5, 6, 7, 8, 9, 10, 11, 12, 13, 14, 15, 16, 17]) (wr := [(h_t_plants, .inl (cP, 4, .inr (.inr (.inr (.inr (ar4 h_t_p0 h_t_p1 h_t_p2 h_t_p3)))))), (h_t_p0, .inr (2, [.int (v_phours 0), .ref h_t_p0_growth])), (h_t_p0_growth, .inl (cI, 4, .inl (v_pgrowth 0))), (h_t_p1, .inr (2, [.int (v_phours 1), .ref h_t_p1_growth])), (h_t_p1_growth, .inl (cI, 4, .inl (v_pgrowth 1))), (h_t_p2, .inr (2, [.int (v_phours 2), .ref h_t_p2_growth])), (h_t_p2_growth, .inl (cI, 4, .inl (v_pgrowth 2))), (h_t_p3, .inr (2, [.int (v_phours 3), .ref h_t_p3_growth])), (h_t_p3_growth, .inl (cI, 4, .inl (v_pgrowth 3))), (h_t_sheets, .inl (cS, 4, .inr (.inr (.inr (.inr (ar4 h_t_s0 h_t_s1 h_t_s2 h_t_s3)))))), (h_t_s0, .inr (3, [.int (v_sform 0), .int (v_ssize 0), .ref h_t_s0_items])), (h_t_s0_items, .inl (cI, 48, .inl (v_sitems 0))), (h_t_s1, .inr (3, [.int (v_sform 1), .int (v_ssize 1), .ref h_t_s1_items])), (h_t_s1_items, .inl (cI, 48, .inl (v_sitems 1))), (h_t_s2, .inr (3, [.int (v_sform 2), .int (v_ssize 2), .ref h_t_s2_items])), (h_t_s2_items, .inl (cI, 48, .inl (v_sitems 2))), (h_t_s3, .inr (3, [.int (v_sform 3), .int (v_ssize 3), .ref h_t_s3_items])), (h_t_s3_items, .inl (cI, 48, .inl (v_sitems 3)))]) (ws2 := (wd_X7_read cI cZ cP cS h_t h_t_red h_t_blue h_t_sky h_t_diary h_t_calendar h_t_awakeIn h_t_worths h_t_plants h_t_sheets h_t_bestFrom h_t_p0 h_t_p1 h_t_p2 h_t_p3 h_t_p0_growth h_t_p1_growth h_t_p2_growth h_t_p3_growth h_t_s0 h_t_s1 h_t_s2 h_t_s3 h_t_s0_items h_t_s1_items h_t_s2_items h_t_s3_items o35_179 v_phours v_pgrowth v_sform v_ssize v_sitems)) (va_runV (As := [.int 1]) (rest := []) ⟨hx, hb, hml, hown, hts⟩ (c_X7_found l dC dI cI cZ cP cS H.size h_t h_t_red h_t_blue h_t_sky h_t_diary h_t_calendar h_t_awakeIn h_t_worths h_t_plants h_t_sheets h_t_bestFrom v_latestFinding 1 n r35_178 o35_179 hc_180) (cwV 1 hts gX7_read_X7_found rfl rfl rfl (by decide +kernel) ⟨Nat.le_of_ble_eq_true rfl, Nat.le_of_ble_eq_true rfl⟩) (pv_rw (ci := 6) (q0 := 0) hK (hP.sub (ws' := (wd_X7_found cI cZ cP cS h_t h_t_red h_t_blue h_t_sky h_t_diary h_t_calendar h_t_awakeIn h_t_worths h_t_plants h_t_sheets h_t_bestFrom v_latestFinding)) [0] rfl) (hD.sub (ws' := (wd_X7_found cI cZ cP cS h_t h_t_red h_t_blue h_t_sky h_t_diary h_t_calendar h_t_awakeIn h_t_worths h_t_plants h_t_sheets h_t_bestFrom v_latestFinding)) [0] (by decide) rfl) rfl rfl) rfl rfl hl.1 rfl (lv_room (Nat.le_of_ble_eq_true rfl)) dX7_read_35 ⟨Nat.zero_le _, Nat.zero_le _⟩) hS hA hP hD rfl (by decide) (by decide) rfl (by decide) rfl rfl (fun H locs hP hD hS => ?_)
                    have hq0 := Option.some.inj hf
                    obtain ⟨eq0, hq1⟩ := Prod.mk.inj hq0
                    obtain ⟨eq1, hq2⟩ := Prod.mk.inj hq1
                    clear hf hq0 hq1
                    subst eq0
                    subst eq1
                    subst hq2
                    exact W.iret hx hb hr (fun t ht hW => ⟨⟨_, (), rfl, rfl, by rw [ht]; exact hP, va_K.moved hW.alike hK, hD⟩, hS.F ht⟩) hS.2.2 dX7_read_38
                · rw [if_neg c8_3] at hf e_137
                  subst e_137
                  refine W.eq (g2 := F0 m 11 ls [.null]) rfl ?_
                  refine lv_astoreN (lv' := [(4, .null), (3, .ref h_t_s3), (0, .ref h_t), (1, .int x1), (2, .int x2)]) hx hb dX7_read_11 hl (by decide) rfl (fun ls hl => ?_)
                  refine lv_aload_n hx hb dX7_read_13 rfl (lv_at hl 1 rfl) ?_
                  refine lv_ifnull hx hb dX7_read_14 ?_
                  refine lv_aloadN hx hb dX7_read_17 (lv_at hl 0 rfl) ?_
                  refine lv_ifnonnullN hx hb dX7_read_19 ?_
                  refine lv_bipush (v := (-2)) hx hb dX7_read_22 (by decide) ?_
                  have hq0 := Option.some.inj hf
                  obtain ⟨eq0, hq1⟩ := Prod.mk.inj hq0
                  obtain ⟨eq1, hq2⟩ := Prod.mk.inj hq1
                  clear hf hq0 hq1
                  subst eq0
                  subst eq1
                  subst hq2
                  exact W.iret hx hb hr (fun t ht hW => ⟨⟨_, (), rfl, rfl, by rw [ht]; exact hP, va_K.moved hW.alike hK, hD⟩, hS.F ht⟩) hS.2.2 dX7_read_24
        · rw [if_neg c2_3] at hf e_1
          subst e_1
          refine W.eq (g2 := F0 m 5 ls [.null]) rfl ?_
          refine lv_astore_nN (lv' := [(3, .null), (0, .ref h_t), (1, .int x1), (2, .int x2)]) hx hb dX7_read_5 rfl hl (by decide) rfl (fun ls hl => ?_)
          refine lv_aload_n hx hb dX7_read_6 rfl (lv_at hl 1 rfl) ?_
          refine lv_iload_n hx hb dX7_read_7 rfl (lv_at hl 3 rfl) ?_
          refine va_csq (va_runV (As := [.int x2]) (rest := []) ⟨hx, hb, hml, hown, hts⟩ (c_X7_plantOf l dC dI cI cZ cP cS h_t h_t_red h_t_blue h_t_sky h_t_diary h_t_calendar h_t_awakeIn h_t_worths h_t_plants h_t_sheets h_t_bestFrom h_t_p0 h_t_p1 h_t_p2 h_t_p3 v_latestFinding x2) (cwV 1 hts gX7_read_X7_plantOf rfl rfl rfl (by decide +kernel) ⟨Nat.le_of_ble_eq_true rfl, Nat.le_of_ble_eq_true rfl⟩) (pv_ro (ci := 6) (q0 := 0) hK (hP.sub (ws' := (wd_X7_plantOf cI cZ cP cS h_t h_t_red h_t_blue h_t_sky h_t_diary h_t_calendar h_t_awakeIn h_t_worths h_t_plants h_t_sheets h_t_bestFrom h_t_p0 h_t_p1 h_t_p2 h_t_p3 v_latestFinding)) [0, 1] rfl) rfl rfl) rfl rfl hl.1 rfl (lv_room (Nat.le_of_ble_eq_true rfl)) dX7_read_8 ⟨Nat.zero_le _, Nat.zero_le _⟩).run (fun x e_182 => ?_)
          by_cases c8_0 : x2 = 0
          · rw [if_pos c8_0] at hf e_182
            subst e_182
            refine W.eq (g2 := F0 m 11 ls [.ref h_t_p0]) rfl ?_
            refine lv_astore (lv' := [(4, .ref h_t_p0), (3, .null), (0, .ref h_t), (1, .int x1), (2, .int x2)]) hx hb dX7_read_11 hl (by decide) rfl (fun ls hl => ?_)
            refine lv_aload_nN hx hb dX7_read_13 rfl (lv_at hl 1 rfl) ?_
            refine lv_ifnullN (tgt := 22) hx hb dX7_read_14 (by decide) ?_
            refine lv_bipush (v := (-2)) hx hb dX7_read_22 (by decide) ?_
            have hq0 := Option.some.inj hf
            obtain ⟨eq0, hq1⟩ := Prod.mk.inj hq0
            obtain ⟨eq1, hq2⟩ := Prod.mk.inj hq1
            clear hf hq0 hq1
            subst eq0
            subst eq1
            subst hq2
            exact W.iret hx hb hr (fun t ht hW => ⟨⟨_, (), rfl, rfl, by rw [ht]; exact hP, va_K.moved hW.alike hK, hD⟩, hS.F ht⟩) hS.2.2 dX7_read_24
          · rw [if_neg c8_0] at hf e_182
            by_cases c8_1 : x2 = 1
            · rw [if_pos c8_1] at hf e_182
              subst e_182
              refine W.eq (g2 := F0 m 11 ls [.ref h_t_p1]) rfl ?_
              refine lv_astore (lv' := [(4, .ref h_t_p1), (3, .null), (0, .ref h_t), (1, .int x1), (2, .int x2)]) hx hb dX7_read_11 hl (by decide) rfl (fun ls hl => ?_)
              refine lv_aload_nN hx hb dX7_read_13 rfl (lv_at hl 1 rfl) ?_
              refine lv_ifnullN (tgt := 22) hx hb dX7_read_14 (by decide) ?_
              refine lv_bipush (v := (-2)) hx hb dX7_read_22 (by decide) ?_
              have hq0 := Option.some.inj hf
              obtain ⟨eq0, hq1⟩ := Prod.mk.inj hq0
              obtain ⟨eq1, hq2⟩ := Prod.mk.inj hq1
              clear hf hq0 hq1
              subst eq0
              subst eq1
              subst hq2
              exact W.iret hx hb hr (fun t ht hW => ⟨⟨_, (), rfl, rfl, by rw [ht]; exact hP, va_K.moved hW.alike hK, hD⟩, hS.F ht⟩) hS.2.2 dX7_read_24
            · rw [if_neg c8_1] at hf e_182
              by_cases c8_2 : x2 = 2
              · rw [if_pos c8_2] at hf e_182
                subst e_182
                refine W.eq (g2 := F0 m 11 ls [.ref h_t_p2]) rfl ?_
                refine lv_astore (lv' := [(4, .ref h_t_p2), (3, .null), (0, .ref h_t), (1, .int x1), (2, .int x2)]) hx hb dX7_read_11 hl (by decide) rfl (fun ls hl => ?_)
                refine lv_aload_nN hx hb dX7_read_13 rfl (lv_at hl 1 rfl) ?_
                refine lv_ifnullN (tgt := 22) hx hb dX7_read_14 (by decide) ?_
                refine lv_bipush (v := (-2)) hx hb dX7_read_22 (by decide) ?_
                have hq0 := Option.some.inj hf
                obtain ⟨eq0, hq1⟩ := Prod.mk.inj hq0
                obtain ⟨eq1, hq2⟩ := Prod.mk.inj hq1
                clear hf hq0 hq1
                subst eq0
                subst eq1
                subst hq2
                exact W.iret hx hb hr (fun t ht hW => ⟨⟨_, (), rfl, rfl, by rw [ht]; exact hP, va_K.moved hW.alike hK, hD⟩, hS.F ht⟩) hS.2.2 dX7_read_24
              · rw [if_neg c8_2] at hf e_182
                by_cases c8_3 : x2 = 3
                · rw [if_pos c8_3] at hf e_182
                  subst e_182
                  refine W.eq (g2 := F0 m 11 ls [.ref h_t_p3]) rfl ?_
                  refine lv_astore (lv' := [(4, .ref h_t_p3), (3, .null), (0, .ref h_t), (1, .int x1), (2, .int x2)]) hx hb dX7_read_11 hl (by decide) rfl (fun ls hl => ?_)
                  refine lv_aload_nN hx hb dX7_read_13 rfl (lv_at hl 1 rfl) ?_
                  refine lv_ifnullN (tgt := 22) hx hb dX7_read_14 (by decide) ?_
                  refine lv_bipush (v := (-2)) hx hb dX7_read_22 (by decide) ?_
                  have hq0 := Option.some.inj hf
                  obtain ⟨eq0, hq1⟩ := Prod.mk.inj hq0
                  obtain ⟨eq1, hq2⟩ := Prod.mk.inj hq1
                  clear hf hq0 hq1
                  subst eq0
                  subst eq1
                  subst hq2
                  exact W.iret hx hb hr (fun t ht hW => ⟨⟨_, (), rfl, rfl, by rw [ht]; exact hP, va_K.moved hW.alike hK, hD⟩, hS.F ht⟩) hS.2.2 dX7_read_24
                · rw [if_neg c8_3] at hf e_182
                  subst e_182
                  refine W.eq (g2 := F0 m 11 ls [.null]) rfl ?_
                  refine lv_astoreN (lv' := [(4, .null), (3, .null), (0, .ref h_t), (1, .int x1), (2, .int x2)]) hx hb dX7_read_11 hl (by decide) rfl (fun ls hl => ?_)
                  refine lv_aload_nN hx hb dX7_read_13 rfl (lv_at hl 1 rfl) ?_
                  refine lv_ifnullN (tgt := 22) hx hb dX7_read_14 (by decide) ?_
                  refine lv_bipush (v := (-2)) hx hb dX7_read_22 (by decide) ?_
                  have hq0 := Option.some.inj hf
                  obtain ⟨eq0, hq1⟩ := Prod.mk.inj hq0
                  obtain ⟨eq1, hq2⟩ := Prod.mk.inj hq1
                  clear hf hq0 hq1
                  subst eq0
                  subst eq1
                  subst hq2
                  exact W.iret hx hb hr (fun t ht hW => ⟨⟨_, (), rfl, rfl, by rw [ht]; exact hP, va_K.moved hW.alike hK, hD⟩, hS.F ht⟩) hS.2.2 dX7_read_24
