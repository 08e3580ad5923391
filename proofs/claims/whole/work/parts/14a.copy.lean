def ac_ {R : Type} (sp dp n : Int32) (n0 n1 : Nat) (x : Option R) : Option R := if sp < 0 ∨ dp < 0 ∨ n < 0 ∨ n0 < sp.toNatClampNeg + n.toNatClampNeg ∨ n1 < dp.toNatClampNeg + n.toNatClampNeg then none else x
theorem ac_e {R : Type} {sp dp n : Int32} {n0 n1 : Nat} {x : Option R} {r : R} (h : ac_ sp dp n n0 n1 x = some r) : ((¬ sp < 0) ∧ (¬ dp < 0) ∧ (¬ n < 0) ∧ sp.toNatClampNeg + n.toNatClampNeg ≤ n0 ∧ dp.toNatClampNeg + n.toNatClampNeg ≤ n1) ∧ x = some r := by
  unfold ac_ at h
  by_cases q : sp < 0 ∨ dp < 0 ∨ n < 0 ∨ n0 < sp.toNatClampNeg + n.toNatClampNeg ∨ n1 < dp.toNatClampNeg + n.toNatClampNeg
  · rw [if_pos q] at h; exact absurd h (fun h => Option.some_ne_none _ h.symm)
  · rw [if_neg q] at h
    exact ⟨⟨fun z => q (Or.inl z), fun z => q (Or.inr (Or.inl z)), fun z => q (Or.inr (Or.inr (Or.inl z))), Nat.not_lt.mp (fun z => q (Or.inr (Or.inr (Or.inr (Or.inl z))))), Nat.not_lt.mp (fun z => q (Or.inr (Or.inr (Or.inr (Or.inr z)))))⟩, h⟩
abbrev wd_X7_copy (cI cZ cP cS : ClassId) (h_t h_t_red h_t_blue h_t_sky h_t_diary h_t_calendar h_t_awakeIn h_t_worths h_t_plants h_t_sheets h_t_bestFrom h_t_s0 h_t_s1 h_t_s2 h_t_s3 h_t_s0_items h_t_s1_items h_t_s2_items h_t_s3_items : Nat) (v_latestFinding : Int32) (v_sform : Nat → Int32) (v_ssize : Nat → Int32) (v_sitems : Nat → Nat → Int32) : va_W := [(h_t, .inr (6, [.ref h_t_red, .ref h_t_blue, .ref h_t_sky, .ref h_t_diary, .ref h_t_calendar, .ref h_t_awakeIn, .ref h_t_worths, .ref h_t_plants, .ref h_t_sheets, .ref h_t_bestFrom, .int v_latestFinding])), (h_t_sheets, .inl (cS, 4, .inr (.inr (.inr (.inr (ar4 h_t_s0 h_t_s1 h_t_s2 h_t_s3)))))), (h_t_s0, .inr (3, [.int (v_sform 0), .int (v_ssize 0), .ref h_t_s0_items])), (h_t_s0_items, .inl (cI, 48, .inl (v_sitems 0))), (h_t_s1, .inr (3, [.int (v_sform 1), .int (v_ssize 1), .ref h_t_s1_items])), (h_t_s1_items, .inl (cI, 48, .inl (v_sitems 1))), (h_t_s2, .inr (3, [.int (v_sform 2), .int (v_ssize 2), .ref h_t_s2_items])), (h_t_s2_items, .inl (cI, 48, .inl (v_sitems 2))), (h_t_s3, .inr (3, [.int (v_sform 3), .int (v_ssize 3), .ref h_t_s3_items])), (h_t_s3_items, .inl (cI, 48, .inl (v_sitems 3)))]
abbrev rm_X7_copy : Room := { frames := 2, cells := 0, slots := 0, locals := 60 }
def f_X7_copy (n : Nat) (v_latestFinding : Int32) (v_sform : Nat → Int32) (v_ssize : Nat → Int32) (v_sitems : Nat → Nat → Int32) (x1 : Int32) (x2 : Int32) (x3 : Int32) (x4 : Int32) (x5 : Int32) : Option (Int32 × Int32 × (Nat → Nat → Int32)) := if x1 = 0 then if x3 = 0 then jn0_ (bd2_ (f_X7_found n v_latestFinding 1) (fun (r47_3 : Int32) (o47_4 : Int32) => some (r47_3, o47_4, v_sitems))) (fun k45 => if (v_sform 0) = (-1) then k45 else if (v_sform 0) = (-1) then k45 else if (v_sform 0) = (v_sform 0) then bd1_ (f_X3_holds n (v_ssize 0) x2 x5) (fun (r75_7 : Int32) => jn0_ (bd2_ (f_X7_found n v_latestFinding 2) (fun (r95_11 : Int32) (o95_12 : Int32) => some (r95_11, o95_12, v_sitems))) (fun k93 => if r75_7 = 0 then k93 else bd1_ (f_X3_holds n (v_ssize 0) x4 x5) (fun (r87_15 : Int32) => if r87_15 = 0 then k93 else ac_ x2 x4 x5 48 48 (some (1, v_latestFinding, (va_up v_sitems 0 (va_cpy (v_sitems 0) (v_sitems 0) x2.toNatClampNeg x4.toNatClampNeg x5.toNatClampNeg))))))) else bd2_ (f_X7_found n v_latestFinding 4) (fun (r66_20 : Int32) (o66_21 : Int32) => some (r66_20, o66_21, v_sitems))) else if x3 = 1 then jn0_ (bd2_ (f_X7_found n v_latestFinding 1) (fun (r47_24 : Int32) (o47_25 : Int32) => some (r47_24, o47_25, v_sitems))) (fun k45 => if (v_sform 0) = (-1) then k45 else if (v_sform 1) = (-1) then k45 else if (v_sform 0) = (v_sform 1) then bd1_ (f_X3_holds n (v_ssize 0) x2 x5) (fun (r75_28 : Int32) => jn0_ (bd2_ (f_X7_found n v_latestFinding 2) (fun (r95_32 : Int32) (o95_33 : Int32) => some (r95_32, o95_33, v_sitems))) (fun k93 => if r75_28 = 0 then k93 else bd1_ (f_X3_holds n (v_ssize 1) x4 x5) (fun (r87_36 : Int32) => if r87_36 = 0 then k93 else ac_ x2 x4 x5 48 48 (some (1, v_latestFinding, (va_up v_sitems 1 (va_cpy (v_sitems 0) (v_sitems 1) x2.toNatClampNeg x4.toNatClampNeg x5.toNatClampNeg))))))) else bd2_ (f_X7_found n v_latestFinding 4) (fun (r66_41 : Int32) (o66_42 : Int32) => some (r66_41, o66_42, v_sitems))) else if x3 = 2 then jn0_ (bd2_ (f_X7_found n v_latestFinding 1) (fun (r47_45 : Int32) (o47_46 : Int32) => some (r47_45, o47_46, v_sitems))) (fun k45 => if (v_sform 0) = (-1) then k45 else if (v_sform 2) = (-1) then k45 else if (v_sform 0) = (v_sform 2) then bd1_ (f_X3_holds n (v_ssize 0) x2 x5) (fun (r75_49 : Int32) => jn0_ (bd2_ (f_X7_found n v_latestFinding 2) (fun (r95_53 : Int32) (o95_54 : Int32) => some (r95_53, o95_54, v_sitems))) (fun k93 => if r75_49 = 0 then k93 else bd1_ (f_X3_holds n (v_ssize 2) x4 x5) (fun (r87_57 : Int32) => if r87_57 = 0 then k93 else ac_ x2 x4 x5 48 48 (some (1, v_latestFinding, (va_up v_sitems 2 (va_cpy (v_sitems 0) (v_sitems 2) x2.toNatClampNeg x4.toNatClampNeg x5.toNatClampNeg))))))) else bd2_ (f_X7_found n v_latestFinding 4) (fun (r66_62 : Int32) (o66_63 : Int32) => some (r66_62, o66_63, v_sitems))) else if x3 = 3 then jn0_ (bd2_ (f_X7_found n v_latestFinding 1) (fun (r47_66 : Int32) (o47_67 : Int32) => some (r47_66, o47_67, v_sitems))) (fun k45 => if (v_sform 0) = (-1) then k45 else if (v_sform 3) = (-1) then k45 else if (v_sform 0) = (v_sform 3) then bd1_ (f_X3_holds n (v_ssize 0) x2 x5) (fun (r75_70 : Int32) => jn0_ (bd2_ (f_X7_found n v_latestFinding 2) (fun (r95_74 : Int32) (o95_75 : Int32) => some (r95_74, o95_75, v_sitems))) (fun k93 => if r75_70 = 0 then k93 else bd1_ (f_X3_holds n (v_ssize 3) x4 x5) (fun (r87_78 : Int32) => if r87_78 = 0 then k93 else ac_ x2 x4 x5 48 48 (some (1, v_latestFinding, (va_up v_sitems 3 (va_cpy (v_sitems 0) (v_sitems 3) x2.toNatClampNeg x4.toNatClampNeg x5.toNatClampNeg))))))) else bd2_ (f_X7_found n v_latestFinding 4) (fun (r66_83 : Int32) (o66_84 : Int32) => some (r66_83, o66_84, v_sitems))) else some ((-2), v_latestFinding, v_sitems) else if x1 = 1 then if x3 = 0 then jn0_ (bd2_ (f_X7_found n v_latestFinding 1) (fun (r47_88 : Int32) (o47_89 : Int32) => some (r47_88, o47_89, v_sitems))) (fun k45 => if (v_sform 1) = (-1) then k45 else if (v_sform 0) = (-1) then k45 else if (v_sform 1) = (v_sform 0) then bd1_ (f_X3_holds n (v_ssize 1) x2 x5) (fun (r75_92 : Int32) => jn0_ (bd2_ (f_X7_found n v_latestFinding 2) (fun (r95_96 : Int32) (o95_97 : Int32) => some (r95_96, o95_97, v_sitems))) (fun k93 => if r75_92 = 0 then k93 else bd1_ (f_X3_holds n (v_ssize 0) x4 x5) (fun (r87_100 : Int32) => if r87_100 = 0 then k93 else ac_ x2 x4 x5 48 48 (some (1, v_latestFinding, (va_up v_sitems 0 (va_cpy (v_sitems 1) (v_sitems 0) x2.toNatClampNeg x4.toNatClampNeg x5.toNatClampNeg))))))) else bd2_ (f_X7_found n v_latestFinding 4) (fun (r66_105 : Int32) (o66_106 : Int32) => some (r66_105, o66_106, v_sitems))) else if x3 = 1 then jn0_ (bd2_ (f_X7_found n v_latestFinding 1) (fun (r47_109 : Int32) (o47_110 : Int32) => some (r47_109, o47_110, v_sitems))) (fun k45 => if (v_sform 1) = (-1) then k45 else if (v_sform 1) = (-1) then k45 else if (v_sform 1) = (v_sform 1) then bd1_ (f_X3_holds n (v_ssize 1) x2 x5) (fun (r75_113 : Int32) => jn0_ (bd2_ (f_X7_found n v_latestFinding 2) (fun (r95_117 : Int32) (o95_118 : Int32) => some (r95_117, o95_118, v_sitems))) (fun k93 => if r75_113 = 0 then k93 else bd1_ (f_X3_holds n (v_ssize 1) x4 x5) (fun (r87_121 : Int32) => if r87_121 = 0 then k93 else ac_ x2 x4 x5 48 48 (some (1, v_latestFinding, (va_up v_sitems 1 (va_cpy (v_sitems 1) (v_sitems 1) x2.toNatClampNeg x4.toNatClampNeg x5.toNatClampNeg))))))) else bd2_ (f_X7_found n v_latestFinding 4) (fun (r66_126 : Int32) (o66_127 : Int32) => some (r66_126, o66_127, v_sitems))) else if x3 = 2 then jn0_ (bd2_ (f_X7_found n v_latestFinding 1) (fun (r47_130 : Int32) (o47_131 : Int32) => some (r47_130, o47_131, v_sitems))) (fun k45 => if (v_sform 1) = (-1) then k45 else if (v_sform 2) = (-1) then k45 else if (v_sform 1) = (v_sform 2) then bd1_ (f_X3_holds n (v_ssize 1) x2 x5) (fun (r75_134 : Int32) => jn0_ (bd2_ (f_X7_found n v_latestFinding 2) (fun (r95_138 : Int32) (o95_139 : Int32) => some (r95_138, o95_139, v_sitems))) (fun k93 => if r75_134 = 0 then k93 else bd1_ (f_X3_holds n (v_ssize 2) x4 x5) (fun (r87_142 : Int32) => if r87_142 = 0 then k93 else ac_ x2 x4 x5 48 48 (some (1, v_latestFinding, (va_up v_sitems 2 (va_cpy (v_sitems 1) (v_sitems 2) x2.toNatClampNeg x4.toNatClampNeg x5.toNatClampNeg))))))) else bd2_ (f_X7_found n v_latestFinding 4) (fun (r66_147 : Int32) (o66_148 : Int32) => some (r66_147, o66_148, v_sitems))) else if x3 = 3 then jn0_ (bd2_ (f_X7_found n v_latestFinding 1) (fun (r47_151 : Int32) (o47_152 : Int32) => some (r47_151, o47_152, v_sitems))) (fun k45 => if (v_sform 1) = (-1) then k45 else if (v_sform 3) = (-1) then k45 else if (v_sform 1) = (v_sform 3) then bd1_ (f_X3_holds n (v_ssize 1) x2 x5) (fun (r75_155 : Int32) => jn0_ (bd2_ (f_X7_found n v_latestFinding 2) (fun (r95_159 : Int32) (o95_160 : Int32) => some (r95_159, o95_160, v_sitems))) (fun k93 => if r75_155 = 0 then k93 else bd1_ (f_X3_holds n (v_ssize 3) x4 x5) (fun (r87_163 : Int32) => if r87_163 = 0 then k93 else ac_ x2 x4 x5 48 48 (some (1, v_latestFinding, (va_up v_sitems 3 (va_cpy (v_sitems 1) (v_sitems 3) x2.toNatClampNeg x4.toNatClampNeg x5.toNatClampNeg))))))) else bd2_ (f_X7_found n v_latestFinding 4) (fun (r66_168 : Int32) (o66_169 : Int32) => some (r66_168, o66_169, v_sitems))) else some ((-2), v_latestFinding, v_sitems) else if x1 = 2 then if x3 = 0 then jn0_ (bd2_ (f_X7_found n v_latestFinding 1) (fun (r47_173 : Int32) (o47_174 : Int32) => some (r47_173, o47_174, v_sitems))) (fun k45 => if (v_sform 2) = (-1) then k45 else if (v_sform 0) = (-1) then k45 else if (v_sform 2) = (v_sform 0) then bd1_ (f_X3_holds n (v_ssize 2) x2 x5) (fun (r75_177 : Int32) => jn0_ (bd2_ (f_X7_found n v_latestFinding 2) (fun (r95_181 : Int32) (o95_182 : Int32) => some (r95_181, o95_182, v_sitems))) (fun k93 => if r75_177 = 0 then k93 else bd1_ (f_X3_holds n (v_ssize 0) x4 x5) (fun (r87_185 : Int32) => if r87_185 = 0 then k93 else ac_ x2 x4 x5 48 48 (some (1, v_latestFinding, (va_up v_sitems 0 (va_cpy (v_sitems 2) (v_sitems 0) x2.toNatClampNeg x4.toNatClampNeg x5.toNatClampNeg))))))) else bd2_ (f_X7_found n v_latestFinding 4) (fun (r66_190 : Int32) (o66_191 : Int32) => some (r66_190, o66_191, v_sitems))) else if x3 = 1 then jn0_ (bd2_ (f_X7_found n v_latestFinding 1) (fun (r47_194 : Int32) (o47_195 : Int32) => some (r47_194, o47_195, v_sitems))) (fun k45 => if (v_sform 2) = (-1) then k45 else if (v_sform 1) = (-1) then k45 else if (v_sform 2) = (v_sform 1) then bd1_ (f_X3_holds n (v_ssize 2) x2 x5) (fun (r75_198 : Int32) => jn0_ (bd2_ (f_X7_found n v_latestFinding 2) (fun (r95_202 : Int32) (o95_203 : Int32) => some (r95_202, o95_203, v_sitems))) (fun k93 => if r75_198 = 0 then k93 else bd1_ (f_X3_holds n (v_ssize 1) x4 x5) (fun (r87_206 : Int32) => if r87_206 = 0 then k93 else ac_ x2 x4 x5 48 48 (some (1, v_latestFinding, (va_up v_sitems 1 (va_cpy (v_sitems 2) (v_sitems 1) x2.toNatClampNeg x4.toNatClampNeg x5.toNatClampNeg))))))) else bd2_ (f_X7_found n v_latestFinding 4) (fun (r66_211 : Int32) (o66_212 : Int32) => some (r66_211, o66_212, v_sitems))) else if x3 = 2 then jn0_ (bd2_ (f_X7_found n v_latestFinding 1) (fun (r47_215 : Int32) (o47_216 : Int32) => some (r47_215, o47_216, v_sitems))) (fun k45 => if (v_sform 2) = (-1) then k45 else if (v_sform 2) = (-1) then k45 else if (v_sform 2) = (v_sform 2) then bd1_ (f_X3_holds n (v_ssize 2) x2 x5) (fun (r75_219 : Int32) => jn0_ (bd2_ (f_X7_found n v_latestFinding 2) (fun (r95_223 : Int32) (o95_224 : Int32) => some (r95_223, o95_224, v_sitems))) (fun k93 => if r75_219 = 0 then k93 else bd1_ (f_X3_holds n (v_ssize 2) x4 x5) (fun (r87_227 : Int32) => if r87_227 = 0 then k93 else ac_ x2 x4 x5 48 48 (some (1, v_latestFinding, (va_up v_sitems 2 (va_cpy (v_sitems 2) (v_sitems 2) x2.toNatClampNeg x4.toNatClampNeg x5.toNatClampNeg))))))) else bd2_ (f_X7_found n v_latestFinding 4) (fun (r66_232 : Int32) (o66_233 : Int32) => some (r66_232, o66_233, v_sitems))) else if x3 = 3 then jn0_ (bd2_ (f_X7_found n v_latestFinding 1) (fun (r47_236 : Int32) (o47_237 : Int32) => some (r47_236, o47_237, v_sitems))) (fun k45 => if (v_sform 2) = (-1) then k45 else if (v_sform 3) = (-1) then k45 else if (v_sform 2) = (v_sform 3) then bd1_ (f_X3_holds n (v_ssize 2) x2 x5) (fun (r75_240 : Int32) => jn0_ (bd2_ (f_X7_found n v_latestFinding 2) (fun (r95_244 : Int32) (o95_245 : Int32) => some (r95_244, o95_245, v_sitems))) (fun k93 => if r75_240 = 0 then k93 else bd1_ (f_X3_holds n (v_ssize 3) x4 x5) (fun (r87_248 : Int32) => if r87_248 = 0 then k93 else ac_ x2 x4 x5 48 48 (some (1, v_latestFinding, (va_up v_sitems 3 (va_cpy (v_sitems 2) (v_sitems 3) x2.toNatClampNeg x4.toNatClampNeg x5.toNatClampNeg))))))) else bd2_ (f_X7_found n v_latestFinding 4) (fun (r66_253 : Int32) (o66_254 : Int32) => some (r66_253, o66_254, v_sitems))) else some ((-2), v_latestFinding, v_sitems) else if x1 = 3 then if x3 = 0 then jn0_ (bd2_ (f_X7_found n v_latestFinding 1) (fun (r47_258 : Int32) (o47_259 : Int32) => some (r47_258, o47_259, v_sitems))) (fun k45 => if (v_sform 3) = (-1) then k45 else if (v_sform 0) = (-1) then k45 else if (v_sform 3) = (v_sform 0) then bd1_ (f_X3_holds n (v_ssize 3) x2 x5) (fun (r75_262 : Int32) => jn0_ (bd2_ (f_X7_found n v_latestFinding 2) (fun (r95_266 : Int32) (o95_267 : Int32) => some (r95_266, o95_267, v_sitems))) (fun k93 => if r75_262 = 0 then k93 else bd1_ (f_X3_holds n (v_ssize 0) x4 x5) (fun (r87_270 : Int32) => if r87_270 = 0 then k93 else ac_ x2 x4 x5 48 48 (some (1, v_latestFinding, (va_up v_sitems 0 (va_cpy (v_sitems 3) (v_sitems 0) x2.toNatClampNeg x4.toNatClampNeg x5.toNatClampNeg))))))) else bd2_ (f_X7_found n v_latestFinding 4) (fun (r66_275 : Int32) (o66_276 : Int32) => some (r66_275, o66_276, v_sitems))) else if x3 = 1 then jn0_ (bd2_ (f_X7_found n v_latestFinding 1) (fun (r47_279 : Int32) (o47_280 : Int32) => some (r47_279, o47_280, v_sitems))) (fun k45 => if (v_sform 3) = (-1) then k45 else if (v_sform 1) = (-1) then k45 else if (v_sform 3) = (v_sform 1) then bd1_ (f_X3_holds n (v_ssize 3) x2 x5) (fun (r75_283 : Int32) => jn0_ (bd2_ (f_X7_found n v_latestFinding 2) (fun (r95_287 : Int32) (o95_288 : Int32) => some (r95_287, o95_288, v_sitems))) (fun k93 => if r75_283 = 0 then k93 else bd1_ (f_X3_holds n (v_ssize 1) x4 x5) (fun (r87_291 : Int32) => if r87_291 = 0 then k93 else ac_ x2 x4 x5 48 48 (some (1, v_latestFinding, (va_up v_sitems 1 (va_cpy (v_sitems 3) (v_sitems 1) x2.toNatClampNeg x4.toNatClampNeg x5.toNatClampNeg))))))) else bd2_ (f_X7_found n v_latestFinding 4) (fun (r66_296 : Int32) (o66_297 : Int32) => some (r66_296, o66_297, v_sitems))) else if x3 = 2 then jn0_ (bd2_ (f_X7_found n v_latestFinding 1) (fun (r47_300 : Int32) (o47_301 : Int32) => some (r47_300, o47_301, v_sitems))) (fun k45 => if (v_sform 3) = (-1) then k45 else if (v_sform 2) = (-1) then k45 else if (v_sform 3) = (v_sform 2) then bd1_ (f_X3_holds n (v_ssize 3) x2 x5) (fun (r75_304 : Int32) => jn0_ (bd2_ (f_X7_found n v_latestFinding 2) (fun (r95_308 : Int32) (o95_309 : Int32) => some (r95_308, o95_309, v_sitems))) (fun k93 => if r75_304 = 0 then k93 else bd1_ (f_X3_holds n (v_ssize 2) x4 x5) (fun (r87_312 : Int32) => if r87_312 = 0 then k93 else ac_ x2 x4 x5 48 48 (some (1, v_latestFinding, (va_up v_sitems 2 (va_cpy (v_sitems 3) (v_sitems 2) x2.toNatClampNeg x4.toNatClampNeg x5.toNatClampNeg))))))) else bd2_ (f_X7_found n v_latestFinding 4) (fun (r66_317 : Int32) (o66_318 : Int32) => some (r66_317, o66_318, v_sitems))) else if x3 = 3 then jn0_ (bd2_ (f_X7_found n v_latestFinding 1) (fun (r47_321 : Int32) (o47_322 : Int32) => some (r47_321, o47_322, v_sitems))) (fun k45 => if (v_sform 3) = (-1) then k45 else if (v_sform 3) = (-1) then k45 else if (v_sform 3) = (v_sform 3) then bd1_ (f_X3_holds n (v_ssize 3) x2 x5) (fun (r75_325 : Int32) => jn0_ (bd2_ (f_X7_found n v_latestFinding 2) (fun (r95_329 : Int32) (o95_330 : Int32) => some (r95_329, o95_330, v_sitems))) (fun k93 => if r75_325 = 0 then k93 else bd1_ (f_X3_holds n (v_ssize 3) x4 x5) (fun (r87_333 : Int32) => if r87_333 = 0 then k93 else ac_ x2 x4 x5 48 48 (some (1, v_latestFinding, (va_up v_sitems 3 (va_cpy (v_sitems 3) (v_sitems 3) x2.toNatClampNeg x4.toNatClampNeg x5.toNatClampNeg))))))) else bd2_ (f_X7_found n v_latestFinding 4) (fun (r66_338 : Int32) (o66_339 : Int32) => some (r66_338, o66_339, v_sitems))) else some ((-2), v_latestFinding, v_sitems) else if x3 = 0 then some ((-2), v_latestFinding, v_sitems) else if x3 = 1 then some ((-2), v_latestFinding, v_sitems) else if x3 = 2 then some ((-2), v_latestFinding, v_sitems) else if x3 = 3 then some ((-2), v_latestFinding, v_sitems) else some ((-2), v_latestFinding, v_sitems)
set_option maxHeartbeats 4000000 in
set_option maxRecDepth 100000 in
theorem c_X7_copy (l : Launch) (dC : Nat → ClassId) (dI : Nat → Nat → Nat) (cI cZ cP cS : ClassId) (sz : Nat) (h_t h_t_red h_t_blue h_t_sky h_t_diary h_t_calendar h_t_awakeIn h_t_worths h_t_plants h_t_sheets h_t_bestFrom h_t_s0 h_t_s1 h_t_s2 h_t_s3 h_t_s0_items h_t_s1_items h_t_s2_items h_t_s3_items : Nat) (v_latestFinding : Int32) (v_sform : Nat → Int32) (v_ssize : Nat → Int32) (v_sitems : Nat → Nat → Int32) (x1 : Int32) (x2 : Int32) (x3 : Int32) (x4 : Int32) (x5 : Int32) (n : Nat) (r : Int32) (o_latestFinding : Int32) (o_sitems : Nat → Nat → Int32) (hf : f_X7_copy n v_latestFinding v_sform v_ssize v_sitems x1 x2 x3 x4 x5 = some (r, o_latestFinding, o_sitems)) : Met l yX7_copy wsX7_copy rm_X7_copy (RW (dC, dI) (TY cI cZ cP cS) [.ref h_t, .int x1, .int x2, .int x3, .int x4, .int x5] sz (wd_X7_copy cI cZ cP cS h_t h_t_red h_t_blue h_t_sky h_t_diary h_t_calendar h_t_awakeIn h_t_worths h_t_plants h_t_sheets h_t_bestFrom h_t_s0 h_t_s1 h_t_s2 h_t_s3 h_t_s0_items h_t_s1_items h_t_s2_items h_t_s3_items v_latestFinding v_sform v_ssize v_sitems)) (RWi (dC, dI) (TY cI cZ cP cS) r sz (wd_X7_copy cI cZ cP cS h_t h_t_red h_t_blue h_t_sky h_t_diary h_t_calendar h_t_awakeIn h_t_worths h_t_plants h_t_sheets h_t_bestFrom h_t_s0 h_t_s1 h_t_s2 h_t_s3 h_t_s0_items h_t_s1_items h_t_s2_items h_t_s3_items v_latestFinding v_sform v_ssize v_sitems) (wd_X7_copy cI cZ cP cS h_t h_t_red h_t_blue h_t_sky h_t_diary h_t_calendar h_t_awakeIn h_t_worths h_t_plants h_t_sheets h_t_bestFrom h_t_s0 h_t_s1 h_t_s2 h_t_s3 h_t_s0_items h_t_s1_items h_t_s2_items h_t_s3_items o_latestFinding v_sform v_ssize o_sitems)) 0 0 (va_A (wd_X7_copy cI cZ cP cS h_t h_t_red h_t_blue h_t_sky h_t_diary h_t_calendar h_t_awakeIn h_t_worths h_t_plants h_t_sheets h_t_bestFrom h_t_s0 h_t_s1 h_t_s2 h_t_s3 h_t_s0_items h_t_s1_items h_t_s2_items h_t_s3_items v_latestFinding v_sform v_ssize v_sitems) sz) := by
  refine Met.ofW (cc := cX7_copy) (maxL := 8) (ret := (some .int)) (by decide) rfl ?_
  intro p e s m args below meth c s₁ B hml hv
  obtain ⟨rfl, hsz, hP, hK, hD0⟩ := hv
  have hx := B.exec
  have hb := B.bytes
  have hr := B.returns
  have hts := atoms_spec (ws := wsX7_copy) B.pre
  have hown : s.vm.findClass RX7 = some m.cls := findClass_of_methodNamed B.named
  have hlocks := B.notSynchronized
  subst hsz
  have hD := hD0.self (sz := s.heap.size)
  have hA : ∀ q : Nat, s.heap.size ≤ q → (va_A (wd_X7_copy cI cZ cP cS h_t h_t_red h_t_blue h_t_sky h_t_diary h_t_calendar h_t_awakeIn h_t_worths h_t_plants h_t_sheets h_t_bestFrom h_t_s0 h_t_s1 h_t_s2 h_t_s3 h_t_s0_items h_t_s1_items h_t_s2_items h_t_s3_items v_latestFinding v_sform v_ssize v_sitems) s.heap.size) q := fun q h => Or.inr h
  have hS : va_S (va_A (wd_X7_copy cI cZ cP cS h_t h_t_red h_t_blue h_t_sky h_t_diary h_t_calendar h_t_awakeIn h_t_worths h_t_plants h_t_sheets h_t_bestFrom h_t_s0 h_t_s1 h_t_s2 h_t_s3 h_t_s0_items h_t_s1_items h_t_s2_items h_t_s3_items v_latestFinding v_sform v_ssize v_sitems) s.heap.size) s.heap s.heap [] := va_S.rf
  have hinX3 : ∀ w ∈ wsX30, w ∈ wsX7_copy := by decide +kernel
  have hl := lv_entry ([.ref h_t, .int x1, .int x2, .int x3, .int x4, .int x5]) (n := 8) (Nat.le_of_ble_eq_true rfl)
  rw [lg_entry_eq]
  generalize (lg_sl ([.ref h_t, .int x1, .int x2, .int x3, .int x4, .int x5]) ++ List.replicate (8 - (lg_sl ([.ref h_t, .int x1, .int x2, .int x3, .int x4, .int x5])).length) Slot.unset).toArray = ls at hl ⊢
  have hl : lv_has ls 8 [(0, .ref h_t), (1, .int x1), (2, .int x2), (3, .int x3), (4, .int x4), (5, .int x5)] := hl
  obtain ⟨H, hH⟩ : ∃ H : Heap, H = s.heap := ⟨_, rfl⟩
  have hP : va_P (dC, dI) vwCl (wd_X7_copy cI cZ cP cS h_t h_t_red h_t_blue h_t_sky h_t_diary h_t_calendar h_t_awakeIn h_t_worths h_t_plants h_t_sheets h_t_bestFrom h_t_s0 h_t_s1 h_t_s2 h_t_s3 h_t_s0_items h_t_s1_items h_t_s2_items h_t_s3_items v_latestFinding v_sform v_ssize v_sitems) H := by rw [hH]; exact hP
  have hS : va_S (va_A (wd_X7_copy cI cZ cP cS h_t h_t_red h_t_blue h_t_sky h_t_diary h_t_calendar h_t_awakeIn h_t_worths h_t_plants h_t_sheets h_t_bestFrom h_t_s0 h_t_s1 h_t_s2 h_t_s3 h_t_s0_items h_t_s1_items h_t_s2_items h_t_s3_items v_latestFinding v_sform v_ssize v_sitems) s.heap.size) s.heap H [] := by rw [hH]; exact hS
  obtain ⟨locs, hlo⟩ : ∃ L : List Loc, L = [] := ⟨_, rfl⟩
  rw [← hlo] at hS
  suffices hgo : W p l e (headSpec wsX7_copy rm_X7_copy).room s m ([.ref h_t, .int x1, .int x2, .int x3, .int x4, .int x5] : List Value).toArray below meth c H locs 0 0 (MQ below (RWi (dC, dI) (TY cI cZ cP cS) r s.heap.size (wd_X7_copy cI cZ cP cS h_t h_t_red h_t_blue h_t_sky h_t_diary h_t_calendar h_t_awakeIn h_t_worths h_t_plants h_t_sheets h_t_bestFrom h_t_s0 h_t_s1 h_t_s2 h_t_s3 h_t_s0_items h_t_s1_items h_t_s2_items h_t_s3_items v_latestFinding v_sform v_ssize v_sitems) (wd_X7_copy cI cZ cP cS h_t h_t_red h_t_blue h_t_sky h_t_diary h_t_calendar h_t_awakeIn h_t_worths h_t_plants h_t_sheets h_t_bestFrom h_t_s0 h_t_s1 h_t_s2 h_t_s3 h_t_s0_items h_t_s1_items h_t_s2_items h_t_s3_items o_latestFinding v_sform v_ssize o_sitems)) ([.ref h_t, .int x1, .int x2, .int x3, .int x4, .int x5] : List Value).toArray s 0 0 (va_A (wd_X7_copy cI cZ cP cS h_t h_t_red h_t_blue h_t_sky h_t_diary h_t_calendar h_t_awakeIn h_t_worths h_t_plants h_t_sheets h_t_bestFrom h_t_s0 h_t_s1 h_t_s2 h_t_s3 h_t_s0_items h_t_s1_items h_t_s2_items h_t_s3_items v_latestFinding v_sform v_ssize v_sitems) s.heap.size)) (F0 m 0 ls []) by rw [hH, hlo] at hgo; exact hgo
  clear hH hlo
  unfold f_X7_copy at hf
  refine lv_aload_n hx hb dX7_copy_0 rfl (lv_at hl 0 rfl) ?_
  refine lv_iload_n hx hb dX7_copy_1 rfl (lv_at hl 1 rfl) ?_
  refine va_csq (va_runV (As := [.int x1]) (rest := []) ⟨hx, hb, hml, hown, hts⟩ (c_X7_sheetOf l dC dI cI cZ cP cS h_t h_t_red h_t_blue h_t_sky h_t_diary h_t_calendar h_t_awakeIn h_t_worths h_t_plants h_t_sheets h_t_bestFrom h_t_s0 h_t_s1 h_t_s2 h_t_s3 v_latestFinding x1) (cwV 1 hts gX7_copy_X7_sheetOf rfl rfl rfl (by decide +kernel) ⟨Nat.le_of_ble_eq_true rfl, Nat.le_of_ble_eq_true rfl⟩) (pv_ro (ci := 6) (q0 := 0) hK (hP.sub (ws' := (wd_X7_sheetOf cI cZ cP cS h_t h_t_red h_t_blue h_t_sky h_t_diary h_t_calendar h_t_awakeIn h_t_worths h_t_plants h_t_sheets h_t_bestFrom h_t_s0 h_t_s1 h_t_s2 h_t_s3 v_latestFinding)) [0, 1] rfl) rfl rfl) rfl rfl hl.1 rfl (lv_room (Nat.le_of_ble_eq_true rfl)) dX7_copy_2 ⟨Nat.zero_le _, Nat.zero_le _⟩).run (fun x e_1 => ?_)
  by_cases c2_0 : x1 = 0
  · rw [if_pos c2_0] at hf e_1
    subst e_1
    refine W.eq (g2 := F0 m 5 ls [.ref h_t_s0]) rfl ?_
    refine lv_astore (lv' := [(6, .ref h_t_s0), (0, .ref h_t), (1, .int x1), (2, .int x2), (3, .int x3), (4, .int x4), (5, .int x5)]) hx hb dX7_copy_5 hl (by decide) rfl (fun ls hl => ?_)
    refine lv_aload_n hx hb dX7_copy_7 rfl (lv_at hl 1 rfl) ?_
    refine lv_iload_n hx hb dX7_copy_8 rfl (lv_at hl 4 rfl) ?_
    refine va_csq (va_runV (As := [.int x3]) (rest := []) ⟨hx, hb, hml, hown, hts⟩ (c_X7_sheetOf l dC dI cI cZ cP cS h_t h_t_red h_t_blue h_t_sky h_t_diary h_t_calendar h_t_awakeIn h_t_worths h_t_plants h_t_sheets h_t_bestFrom h_t_s0 h_t_s1 h_t_s2 h_t_s3 v_latestFinding x3) (cwV 1 hts gX7_copy_X7_sheetOf rfl rfl rfl (by decide +kernel) ⟨Nat.le_of_ble_eq_true rfl, Nat.le_of_ble_eq_true rfl⟩) (pv_ro (ci := 6) (q0 := 0) hK (hP.sub (ws' := (wd_X7_sheetOf cI cZ cP cS h_t h_t_red h_t_blue h_t_sky h_t_diary h_t_calendar h_t_awakeIn h_t_worths h_t_plants h_t_sheets h_t_bestFrom h_t_s0 h_t_s1 h_t_s2 h_t_s3 v_latestFinding)) [0, 1] rfl) rfl rfl) rfl rfl hl.1 rfl (lv_room (Nat.le_of_ble_eq_true rfl)) dX7_copy_9 ⟨Nat.zero_le _, Nat.zero_le _⟩).run (fun x e_2 => ?_)
    by_cases c9_0 : x3 = 0
    · rw [if_pos c9_0] at hf e_2
      subst e_2
      refine W.eq (g2 := F0 m 12 ls [.ref h_t_s0]) rfl ?_
      refine lv_astore (lv' := [(7, .ref h_t_s0), (6, .ref h_t_s0), (0, .ref h_t), (1, .int x1), (2, .int x2), (3, .int x3), (4, .int x4), (5, .int x5)]) hx hb dX7_copy_12 hl (by decide) rfl (fun ls hl => ?_)
      refine lv_aload hx hb dX7_copy_14 (lv_at hl 1 rfl) ?_
      refine lv_ifnull hx hb dX7_copy_16 ?_
      refine lv_aload hx hb dX7_copy_19 (lv_at hl 0 rfl) ?_
      refine lv_ifnonnull (tgt := 27) hx hb dX7_copy_21 (by decide) ?_
      refine lv_aload hx hb dX7_copy_27 (lv_at hl 1 rfl) ?_
      refine va_get (D := (dC, dI)) (ci := 3) (v := .int (v_sform 0)) (C := RX3) (T := TX3) (N := 3) hx hb hts hinX3 hown hK hP 2 rfl rfl 0 (by decide) (hts (.fieldLink RX7 222 "SecondSunrise$Sheet" "form" "I") (by decide +kernel)) (fun _ h9 => h9) rfl dX7_copy_29 ?_
      refine lv_iconst (v := (-1)) hx hb dX7_copy_32 (by decide) ?_
      obtain ⟨k45, ek45, hf⟩ := jn0_e hf
      have hj45 : ∀ (ls : Array Slot), lv_has ls 8 [(0, .ref h_t)] → k45 = some (r, o_latestFinding, o_sitems) → W p l e (headSpec wsX7_copy rm_X7_copy).room s m ([.ref h_t, .int x1, .int x2, .int x3, .int x4, .int x5] : List Value).toArray below meth c H locs 0 0 (MQ below (RWi (dC, dI) (TY cI cZ cP cS) r s.heap.size (wd_X7_copy cI cZ cP cS h_t h_t_red h_t_blue h_t_sky h_t_diary h_t_calendar h_t_awakeIn h_t_worths h_t_plants h_t_sheets h_t_bestFrom h_t_s0 h_t_s1 h_t_s2 h_t_s3 h_t_s0_items h_t_s1_items h_t_s2_items h_t_s3_items v_latestFinding v_sform v_ssize v_sitems) (wd_X7_copy cI cZ cP cS h_t h_t_red h_t_blue h_t_sky h_t_diary h_t_calendar h_t_awakeIn h_t_worths h_t_plants h_t_sheets h_t_bestFrom h_t_s0 h_t_s1 h_t_s2 h_t_s3 h_t_s0_items h_t_s1_items h_t_s2_items h_t_s3_items o_latestFinding v_sform v_ssize o_sitems)) ([.ref h_t, .int x1, .int x2, .int x3, .int x4, .int x5] : List Value).toArray s 0 0 (va_A (wd_X7_copy cI cZ cP cS h_t h_t_red h_t_blue h_t_sky h_t_diary h_t_calendar h_t_awakeIn h_t_worths h_t_plants h_t_sheets h_t_bestFrom h_t_s0 h_t_s1 h_t_s2 h_t_s3 h_t_s0_items h_t_s1_items h_t_s2_items h_t_s3_items v_latestFinding v_sform v_ssize v_sitems) s.heap.size)) (F0 m 45 ls []) := by
        intro ls hl hf
        rw [ek45] at hf
        refine lv_aload_n hx hb dX7_copy_45 rfl (lv_at hl 0 rfl) ?_
        refine lv_iconst (v := 1) hx hb dX7_copy_46 (by decide) ?_
        obtain ⟨r47_3, o47_4, hc_5, hf⟩ := bd2_e hf
        refine rwi_call (isC := [0]) (isR := [1, 2, 3, 4, 5, 6, 7, 8, 9]) (perm := [9, 0, 1, 2, 3, 4, 5, 6, 7, 8]) (wr := [(h_t_sheets, .inl (cS, 4, .inr (.inr (.inr (.inr (ar4 h_t_s0 h_t_s1 h_t_s2 h_t_s3)))))), (h_t_s0, .inr (3, [.int (v_sform 0), .int (v_ssize 0), .ref h_t_s0_items])), (h_t_s0_items, .inl (cI, 48, .inl (v_sitems 0))), (h_t_s1, .inr (3, [.int (v_sform 1), .int (v_ssize 1), .ref h_t_s1_items])), (h_t_s1_items, .inl (cI, 48, .inl (v_sitems 1))), (h_t_s2, .inr (3, [.int (v_sform 2), .int (v_ssize 2), .ref h_t_s2_items])), (h_t_s2_items, .inl (cI, 48, .inl (v_sitems 2))), (h_t_s3, .inr (3, [.int (v_sform 3), .int (v_ssize 3), .ref h_t_s3_items])), (h_t_s3_items, .inl (cI, 48, .inl (v_sitems 3)))]) (ws2 := (wd_X7_copy cI cZ cP cS h_t h_t_red h_t_blue h_t_sky h_t_diary h_t_calendar h_t_awakeIn h_t_worths h_t_plants h_t_sheets h_t_bestFrom h_t_s0 h_t_s1 h_t_s2 h_t_s3 h_t_s0_items h_t_s1_items h_t_s2_items h_t_s3_items o47_4 v_sform v_ssize v_sitems)) (va_runV (As := [.int 1]) (rest := []) ⟨hx, hb, hml, hown, hts⟩ (c_X7_found l dC dI cI cZ cP cS H.size h_t h_t_red h_t_blue h_t_sky h_t_diary h_t_calendar h_t_awakeIn h_t_worths h_t_plants h_t_sheets h_t_bestFrom v_latestFinding 1 n r47_3 o47_4 hc_5) (cwV 1 hts gX7_copy_X7_found rfl rfl rfl (by decide +kernel) ⟨Nat.le_of_ble_eq_true rfl, Nat.le_of_ble_eq_true rfl⟩) (pv_rw (ci := 6) (q0 := 0) hK (hP.sub (ws' := (wd_X7_found cI cZ cP cS h_t h_t_red h_t_blue h_t_sky h_t_diary h_t_calendar h_t_awakeIn h_t_worths h_t_plants h_t_sheets h_t_bestFrom v_latestFinding)) [0] rfl) (hD.sub (ws' := (wd_X7_found cI cZ cP cS h_t h_t_red h_t_blue h_t_sky h_t_diary h_t_calendar h_t_awakeIn h_t_worths h_t_plants h_t_sheets h_t_bestFrom v_latestFinding)) [0] (by decide) rfl) rfl rfl) rfl rfl hl.1 rfl (lv_room (Nat.le_of_ble_eq_true rfl)) dX7_copy_47 ⟨Nat.zero_le _, Nat.zero_le _⟩) hS hA hP hD rfl (by decide) (by decide) rfl (by decide) rfl rfl (fun H locs hP hD hS => ?_)
        have hq0 := Option.some.inj hf
        obtain ⟨eq0, hq1⟩ := Prod.mk.inj hq0
        obtain ⟨eq1, hq2⟩ := Prod.mk.inj hq1
        clear hf hq0 hq1
        subst eq0
        subst eq1
        subst hq2
        exact W.iret hx hb hr (fun t ht hW => ⟨⟨_, (), rfl, rfl, by rw [ht]; exact hP, va_K.moved hW.alike hK, hD⟩, hS.F ht⟩) hS.2.2 dX7_copy_50
      refine lv_icmp_eq (tgt := 45) hx hb dX7_copy_33 (by decide) (fun c33 => ?_) (fun c33 => ?_)
      · rw [if_pos c33] at hf
        exact hj45 ls (lv_sub hl [2] rfl) hf
      · rw [if_neg c33] at hf
        refine lv_aload hx hb dX7_copy_36 (lv_at hl 0 rfl) ?_
        refine va_get (D := (dC, dI)) (ci := 3) (v := .int (v_sform 0)) (C := RX3) (T := TX3) (N := 3) hx hb hts hinX3 hown hK hP 2 rfl rfl 0 (by decide) (hts (.fieldLink RX7 222 "SecondSunrise$Sheet" "form" "I") (by decide +kernel)) (fun _ h9 => h9) rfl dX7_copy_38 ?_
        refine lv_iconst (v := (-1)) hx hb dX7_copy_41 (by decide) ?_
        refine lv_icmp_ne (tgt := 51) hx hb dX7_copy_42 (by decide) (fun c42 => ?_) (fun c42 => ?_)
        · rw [if_neg c42] at hf
          refine lv_aload hx hb dX7_copy_51 (lv_at hl 1 rfl) ?_
          refine va_get (D := (dC, dI)) (ci := 3) (v := .int (v_sform 0)) (C := RX3) (T := TX3) (N := 3) hx hb hts hinX3 hown hK hP 2 rfl rfl 0 (by decide) (hts (.fieldLink RX7 222 "SecondSunrise$Sheet" "form" "I") (by decide +kernel)) (fun _ h9 => h9) rfl dX7_copy_53 ?_
          refine lv_aload hx hb dX7_copy_56 (lv_at hl 0 rfl) ?_
          refine va_get (D := (dC, dI)) (ci := 3) (v := .int (v_sform 0)) (C := RX3) (T := TX3) (N := 3) hx hb hts hinX3 hown hK hP 2 rfl rfl 0 (by decide) (hts (.fieldLink RX7 222 "SecondSunrise$Sheet" "form" "I") (by decide +kernel)) (fun _ h9 => h9) rfl dX7_copy_58 ?_
          refine lv_icmp_eq (tgt := 70) hx hb dX7_copy_61 (by decide) (fun c61 => ?_) (fun c61 => ?_)
          · rw [if_pos c61] at hf
            refine lv_aload hx hb dX7_copy_70 (lv_at hl 1 rfl) ?_
            refine lv_iload_n hx hb dX7_copy_72 rfl (lv_at hl 4 rfl) ?_
            refine lv_iload hx hb dX7_copy_73 (lv_at hl 7 rfl) ?_
            obtain ⟨r75_7, hc_8, hf⟩ := bd1_e hf
            refine vp_callSi (va_runV (As := [.int x2, .int x5]) (rest := []) ⟨hx, hb, hml, hown, hts⟩ (c_X3_holds l dC dI cI cZ cP cS h_t_s0 h_t_s0_items (v_sform 0) (v_ssize 0) x2 x5 n r75_7 hc_8) (cwV 2 hts gX7_copy_X3_holds rfl rfl rfl (by decide +kernel) ⟨Nat.le_of_ble_eq_true rfl, Nat.le_of_ble_eq_true rfl⟩) (pv_ro (ci := 3) (q0 := 0) hK (hP.sub (ws' := (wd_X3_holds cI cZ cP cS h_t_s0 h_t_s0_items (v_sform 0) (v_ssize 0))) [2] rfl) rfl rfl) rfl rfl hl.1 rfl (lv_room (Nat.le_of_ble_eq_true rfl)) dX7_copy_75 ⟨Nat.zero_le _, Nat.zero_le _⟩).run (fun x e_9 => ?_)
            obtain ⟨e_9, hb_10⟩ := e_9
            rw [e_9] at hb_10 ⊢
            obtain ⟨k93, ek93, hf⟩ := jn0_e hf
            have hj93 : ∀ (ls : Array Slot), lv_has ls 8 [(0, .ref h_t)] → k93 = some (r, o_latestFinding, o_sitems) → W p l e (headSpec wsX7_copy rm_X7_copy).room s m ([.ref h_t, .int x1, .int x2, .int x3, .int x4, .int x5] : List Value).toArray below meth c H locs 0 0 (MQ below (RWi (dC, dI) (TY cI cZ cP cS) r s.heap.size (wd_X7_copy cI cZ cP cS h_t h_t_red h_t_blue h_t_sky h_t_diary h_t_calendar h_t_awakeIn h_t_worths h_t_plants h_t_sheets h_t_bestFrom h_t_s0 h_t_s1 h_t_s2 h_t_s3 h_t_s0_items h_t_s1_items h_t_s2_items h_t_s3_items v_latestFinding v_sform v_ssize v_sitems) (wd_X7_copy cI cZ cP cS h_t h_t_red h_t_blue h_t_sky h_t_diary h_t_calendar h_t_awakeIn h_t_worths h_t_plants h_t_sheets h_t_bestFrom h_t_s0 h_t_s1 h_t_s2 h_t_s3 h_t_s0_items h_t_s1_items h_t_s2_items h_t_s3_items o_latestFinding v_sform v_ssize o_sitems)) ([.ref h_t, .int x1, .int x2, .int x3, .int x4, .int x5] : List Value).toArray s 0 0 (va_A (wd_X7_copy cI cZ cP cS h_t h_t_red h_t_blue h_t_sky h_t_diary h_t_calendar h_t_awakeIn h_t_worths h_t_plants h_t_sheets h_t_bestFrom h_t_s0 h_t_s1 h_t_s2 h_t_s3 h_t_s0_items h_t_s1_items h_t_s2_items h_t_s3_items v_latestFinding v_sform v_ssize v_sitems) s.heap.size)) (F0 m 93 ls []) := by
              intro ls hl hf
              rw [ek93] at hf
              refine lv_aload_n hx hb dX7_copy_93 rfl (lv_at hl 0 rfl) ?_
              refine lv_iconst (v := 2) hx hb dX7_copy_94 (by decide) ?_
              obtain ⟨r95_11, o95_12, hc_13, hf⟩ := bd2_e hf
              refine rwi_call (isC := [0]) (isR := [1, 2, 3, 4, 5, 6, 7, 8, 9]) (perm := [9, 0, 1, 2, 3, 4, 5, 6, 7, 8]) (wr := [(h_t_sheets, .inl (cS, 4, .inr (.inr (.inr (.inr (ar4 h_t_s0 h_t_s1 h_t_s2 h_t_s3)))))), (h_t_s0, .inr (3, [.int (v_sform 0), .int (v_ssize 0), .ref h_t_s0_items])), (h_t_s0_items, .inl (cI, 48, .inl (v_sitems 0))), (h_t_s1, .inr (3, [.int (v_sform 1), .int (v_ssize 1), .ref h_t_s1_items])), (h_t_s1_items, .inl (cI, 48, .inl (v_sitems 1))), (h_t_s2, .inr (3, [.int (v_sform 2), .int (v_ssize 2), .ref h_t_s2_items])), (h_t_s2_items, .inl (cI, 48, .inl (v_sitems 2))), (h_t_s3, .inr (3, [.int (v_sform 3), .int (v_ssize 3), .ref h_t_s3_items])), (h_t_s3_items, .inl (cI, 48, .inl (v_sitems 3)))]) (ws2 := (wd_X7_copy cI cZ cP cS h_t h_t_red h_t_blue h_t_sky h_t_diary h_t_calendar h_t_awakeIn h_t_worths h_t_plants h_t_sheets h_t_bestFrom h_t_s0 h_t_s1 h_t_s2 h_t_s3 h_t_s0_items h_t_s1_items h_t_s2_items h_t_s3_items o95_12 v_sform v_ssize v_sitems)) (va_runV (As := [.int 2]) (rest := []) ⟨hx, hb, hml, hown, hts⟩ (c_X7_found l dC dI cI cZ cP cS H.size h_t h_t_red h_t_blue h_t_sky h_t_diary h_t_calendar h_t_awakeIn h_t_worths h_t_plants h_t_sheets h_t_bestFrom v_latestFinding 2 n r95_11 o95_12 hc_13) (cwV 1 hts gX7_copy_X7_found rfl rfl rfl (by decide +kernel) ⟨Nat.le_of_ble_eq_true rfl, Nat.le_of_ble_eq_true rfl⟩) (pv_rw (ci := 6) (q0 := 0) hK (hP.sub (ws' := (wd_X7_found cI cZ cP cS h_t h_t_red h_t_blue h_t_sky h_t_diary h_t_calendar h_t_awakeIn h_t_worths h_t_plants h_t_sheets h_t_bestFrom v_latestFinding)) [0] rfl) (hD.sub (ws' := (wd_X7_found cI cZ cP cS h_t h_t_red h_t_blue h_t_sky h_t_diary h_t_calendar h_t_awakeIn h_t_worths h_t_plants h_t_sheets h_t_bestFrom v_latestFinding)) [0] (by decide) rfl) rfl rfl) rfl rfl hl.1 rfl (lv_room (Nat.le_of_ble_eq_true rfl)) dX7_copy_95 ⟨Nat.zero_le _, Nat.zero_le _⟩) hS hA hP hD rfl (by decide) (by decide) rfl (by decide) rfl rfl (fun H locs hP hD hS => ?_)
              have hq0 := Option.some.inj hf
              obtain ⟨eq0, hq1⟩ := Prod.mk.inj hq0
              obtain ⟨eq1, hq2⟩ := Prod.mk.inj hq1
              clear hf hq0 hq1
              subst eq0
              subst eq1
              subst hq2
              exact W.iret hx hb hr (fun t ht hW => ⟨⟨_, (), rfl, rfl, by rw [ht]; exact hP, va_K.moved hW.alike hK, hD⟩, hS.F ht⟩) hS.2.2 dX7_copy_98
            refine lv_if_eq (tgt := 93) hx hb dX7_copy_78 (by decide) (fun c78 => ?_) (fun c78 => ?_)
            · rw [if_pos c78] at hf
              exact hj93 ls (lv_sub hl [2] rfl) hf
            · rw [if_neg c78] at hf
              refine lv_aload hx hb dX7_copy_81 (lv_at hl 0 rfl) ?_
              refine lv_iload hx hb dX7_copy_83 (lv_at hl 6 rfl) ?_
              refine lv_iload hx hb dX7_copy_85 (lv_at hl 7 rfl) ?_
              obtain ⟨r87_15, hc_16, hf⟩ := bd1_e hf
              refine vp_callSi (va_runV (As := [.int x4, .int x5]) (rest := []) ⟨hx, hb, hml, hown, hts⟩ (c_X3_holds l dC dI cI cZ cP cS h_t_s0 h_t_s0_items (v_sform 0) (v_ssize 0) x4 x5 n r87_15 hc_16) (cwV 2 hts gX7_copy_X3_holds rfl rfl rfl (by decide +kernel) ⟨Nat.le_of_ble_eq_true rfl, Nat.le_of_ble_eq_true rfl⟩) (pv_ro (ci := 3) (q0 := 0) hK (hP.sub (ws' := (wd_X3_holds cI cZ cP cS h_t_s0 h_t_s0_items (v_sform 0) (v_ssize 0))) [2] rfl) rfl rfl) rfl rfl hl.1 rfl (lv_room (Nat.le_of_ble_eq_true rfl)) dX7_copy_87 ⟨Nat.zero_le _, Nat.zero_le _⟩).run (fun x e_17 => ?_)
              obtain ⟨e_17, hb_18⟩ := e_17
              rw [e_17] at hb_18 ⊢
              refine lv_if_ne (tgt := 99) hx hb dX7_copy_90 (by decide) (fun c90 => ?_) (fun c90 => ?_)
              · rw [if_neg c90] at hf
                refine lv_aload hx hb dX7_copy_99 (lv_at hl 1 rfl) ?_
                refine va_get (D := (dC, dI)) (ci := 3) (v := .ref h_t_s0_items) (C := RX3) (T := TX3) (N := 3) hx hb hts hinX3 hown hK hP 2 rfl rfl 2 (by decide) (hts (.fieldLink RX7 229 "SecondSunrise$Sheet" "items" "[I") (by decide +kernel)) (fun _ h9 => h9) rfl dX7_copy_101 ?_
                refine lv_iload_n hx hb dX7_copy_104 rfl (lv_at hl 4 rfl) ?_
                refine lv_aload hx hb dX7_copy_105 (lv_at hl 0 rfl) ?_
                refine va_get (D := (dC, dI)) (ci := 3) (v := .ref h_t_s0_items) (C := RX3) (T := TX3) (N := 3) hx hb hts hinX3 hown hK hP 2 rfl rfl 2 (by decide) (hts (.fieldLink RX7 229 "SecondSunrise$Sheet" "items" "[I") (by decide +kernel)) (fun _ h9 => h9) rfl dX7_copy_107 ?_
                refine lv_iload hx hb dX7_copy_110 (lv_at hl 6 rfl) ?_
                refine lv_iload hx hb dX7_copy_112 (lv_at hl 7 rfl) ?_
                obtain ⟨⟨ha_191, ha_192, ha_193, ha_194, ha_195⟩, hf⟩ := ac_e hf
                refine va_copyi hx hb (hml.trans hl.1.symm) hown (hts (.methodLink RX7 274 arraycopyName) (by decide +kernel)) (hts (.native arraycopyName) (by decide +kernel)) (hts (.static arraycopyName) (by decide +kernel)) (hts (.initialized "java/lang/System") (by decide +kernel)) hK hP hD hS 3 3 0 0 rfl rfl rfl rfl rfl ha_191 ha_192 ha_193 ha_194 ha_195 (fun _ _ => rfl) (Nat.le_of_ble_eq_true rfl) (by decide) dX7_copy_114 (fun H locs hP hD hS => ?_)
                have hP : va_P (dC, dI) vwCl (wd_X7_copy cI cZ cP cS h_t h_t_red h_t_blue h_t_sky h_t_diary h_t_calendar h_t_awakeIn h_t_worths h_t_plants h_t_sheets h_t_bestFrom h_t_s0 h_t_s1 h_t_s2 h_t_s3 h_t_s0_items h_t_s1_items h_t_s2_items h_t_s3_items v_latestFinding v_sform v_ssize (va_up v_sitems 0 (va_cpy (v_sitems 0) (v_sitems 0) x2.toNatClampNeg x4.toNatClampNeg x5.toNatClampNeg))) H := hP
                have hD : va_D (va_A (wd_X7_copy cI cZ cP cS h_t h_t_red h_t_blue h_t_sky h_t_diary h_t_calendar h_t_awakeIn h_t_worths h_t_plants h_t_sheets h_t_bestFrom h_t_s0 h_t_s1 h_t_s2 h_t_s3 h_t_s0_items h_t_s1_items h_t_s2_items h_t_s3_items v_latestFinding v_sform v_ssize v_sitems) s.heap.size) (wd_X7_copy cI cZ cP cS h_t h_t_red h_t_blue h_t_sky h_t_diary h_t_calendar h_t_awakeIn h_t_worths h_t_plants h_t_sheets h_t_bestFrom h_t_s0 h_t_s1 h_t_s2 h_t_s3 h_t_s0_items h_t_s1_items h_t_s2_items h_t_s3_items v_latestFinding v_sform v_ssize (va_up v_sitems 0 (va_cpy (v_sitems 0) (v_sitems 0) x2.toNatClampNeg x4.toNatClampNeg x5.toNatClampNeg))) := hD
                refine lv_iconst (v := 1) hx hb dX7_copy_117 (by decide) ?_
                have hq0 := Option.some.inj hf
                obtain ⟨eq0, hq1⟩ := Prod.mk.inj hq0
                obtain ⟨eq1, hq2⟩ := Prod.mk.inj hq1
                clear hf hq0 hq1
                subst eq0
                subst eq1
                subst hq2
                exact W.iret hx hb hr (fun t ht hW => ⟨⟨_, (), rfl, rfl, by rw [ht]; exact hP, va_K.moved hW.alike hK, hD⟩, hS.F ht⟩) hS.2.2 dX7_copy_118
              · rw [if_pos c90] at hf
                exact hj93 ls (lv_sub hl [2] rfl) hf
          · rw [if_neg c61] at hf
            refine lv_aload_n hx hb dX7_copy_64 rfl (lv_at hl 2 rfl) ?_
            refine lv_iconst (v := 4) hx hb dX7_copy_65 (by decide) ?_
            obtain ⟨r66_20, o66_21, hc_22, hf⟩ := bd2_e hf
            refine rwi_call (isC := [0]) (isR := [1, 2, 3, 4, 5, 6, 7, 8, 9]) (perm := [9, 0, 1, 2, 3, 4, 5, 6, 7, 8]) (wr := [(h_t_sheets, .inl (cS, 4, .inr (.inr (.inr (.inr (ar4 h_t_s0 h_t_s1 h_t_s2 h_t_s3)))))), (h_t_s0, .inr (3, [.int (v_sform 0), .int (v_ssize 0), .ref h_t_s0_items])), (h_t_s0_items, .inl (cI, 48, .inl (v_sitems 0))), (h_t_s1, .inr (3, [.int (v_sform 1), .int (v_ssize 1), .ref h_t_s1_items])), (h_t_s1_items, .inl (cI, 48, .inl (v_sitems 1))), (h_t_s2, .inr (3, [.int (v_sform 2), .int (v_ssize 2), .ref h_t_s2_items])), (h_t_s2_items, .inl (cI, 48, .inl (v_sitems 2))), (h_t_s3, .inr (3, [.int (v_sform 3), .int (v_ssize 3), .ref h_t_s3_items])), (h_t_s3_items, .inl (cI, 48, .inl (v_sitems 3)))]) (ws2 := (wd_X7_copy cI cZ cP cS h_t h_t_red h_t_blue h_t_sky h_t_diary h_t_calendar h_t_awakeIn h_t_worths h_t_plants h_t_sheets h_t_bestFrom h_t_s0 h_t_s1 h_t_s2 h_t_s3 h_t_s0_items h_t_s1_items h_t_s2_items h_t_s3_items o66_21 v_sform v_ssize v_sitems)) (va_runV (As := [.int 4]) (rest := []) ⟨hx, hb, hml, hown, hts⟩ (c_X7_found l dC dI cI cZ cP cS H.size h_t h_t_red h_t_blue h_t_sky h_t_diary h_t_calendar h_t_awakeIn h_t_worths h_t_plants h_t_sheets h_t_bestFrom v_latestFinding 4 n r66_20 o66_21 hc_22) (cwV 1 hts gX7_copy_X7_found rfl rfl rfl (by decide +kernel) ⟨Nat.le_of_ble_eq_true rfl, Nat.le_of_ble_eq_true rfl⟩) (pv_rw (ci := 6) (q0 := 0) hK (hP.sub (ws' := (wd_X7_found cI cZ cP cS h_t h_t_red h_t_blue h_t_sky h_t_diary h_t_calendar h_t_awakeIn h_t_worths h_t_plants h_t_sheets h_t_bestFrom v_latestFinding)) [0] rfl) (hD.sub (ws' := (wd_X7_found cI cZ cP cS h_t h_t_red h_t_blue h_t_sky h_t_diary h_t_calendar h_t_awakeIn h_t_worths h_t_plants h_t_sheets h_t_bestFrom v_latestFinding)) [0] (by decide) rfl) rfl rfl) rfl rfl hl.1 rfl (lv_room (Nat.le_of_ble_eq_true rfl)) dX7_copy_66 ⟨Nat.zero_le _, Nat.zero_le _⟩) hS hA hP hD rfl (by decide) (by decide) rfl (by decide) rfl rfl (fun H locs hP hD hS => ?_)
            have hq0 := Option.some.inj hf
            obtain ⟨eq0, hq1⟩ := Prod.mk.inj hq0
            obtain ⟨eq1, hq2⟩ := Prod.mk.inj hq1
            clear hf hq0 hq1
            subst eq0
            subst eq1
            subst hq2
            exact W.iret hx hb hr (fun t ht hW => ⟨⟨_, (), rfl, rfl, by rw [ht]; exact hP, va_K.moved hW.alike hK, hD⟩, hS.F ht⟩) hS.2.2 dX7_copy_69
        · rw [if_pos c42] at hf
          exact hj45 ls (lv_sub hl [2] rfl) hf
    · rw [if_neg c9_0] at hf e_2
      by_cases c9_1 : x3 = 1
      · rw [if_pos c9_1] at hf e_2
        subst e_2
        refine W.eq (g2 := F0 m 12 ls [.ref h_t_s1]) rfl ?_
        refine lv_astore (lv' := [(7, .ref h_t_s1), (6, .ref h_t_s0), (0, .ref h_t), (1, .int x1), (2, .int x2), (3, .int x3), (4, .int x4), (5, .int x5)]) hx hb dX7_copy_12 hl (by decide) rfl (fun ls hl => ?_)
        refine lv_aload hx hb dX7_copy_14 (lv_at hl 1 rfl) ?_
        refine lv_ifnull hx hb dX7_copy_16 ?_
        refine lv_aload hx hb dX7_copy_19 (lv_at hl 0 rfl) ?_
        refine lv_ifnonnull (tgt := 27) hx hb dX7_copy_21 (by decide) ?_
        refine lv_aload hx hb dX7_copy_27 (lv_at hl 1 rfl) ?_
        refine va_get (D := (dC, dI)) (ci := 3) (v := .int (v_sform 0)) (C := RX3) (T := TX3) (N := 3) hx hb hts hinX3 hown hK hP 2 rfl rfl 0 (by decide) (hts (.fieldLink RX7 222 "SecondSunrise$Sheet" "form" "I") (by decide +kernel)) (fun _ h9 => h9) rfl dX7_copy_29 ?_
        refine lv_iconst (v := (-1)) hx hb dX7_copy_32 (by decide) ?_
        obtain ⟨k45, ek45, hf⟩ := jn0_e hf
        have hj45 : ∀ (ls : Array Slot), lv_has ls 8 [(0, .ref h_t)] → k45 = some (r, o_latestFinding, o_sitems) → W p l e (headSpec wsX7_copy rm_X7_copy).room s m ([.ref h_t, .int x1, .int x2, .int x3, .int x4, .int x5] : List Value).toArray below meth c H locs 0 0 (MQ below (RWi (dC, dI) (TY cI cZ cP cS) r s.heap.size (wd_X7_copy cI cZ cP cS h_t h_t_red h_t_blue h_t_sky h_t_diary h_t_calendar h_t_awakeIn h_t_worths h_t_plants h_t_sheets h_t_bestFrom h_t_s0 h_t_s1 h_t_s2 h_t_s3 h_t_s0_items h_t_s1_items h_t_s2_items h_t_s3_items v_latestFinding v_sform v_ssize v_sitems) (wd_X7_copy cI cZ cP cS h_t h_t_red h_t_blue h_t_sky h_t_diary h_t_calendar h_t_awakeIn h_t_worths h_t_plants h_t_sheets h_t_bestFrom h_t_s0 h_t_s1 h_t_s2 h_t_s3 h_t_s0_items h_t_s1_items h_t_s2_items h_t_s3_items o_latestFinding v_sform v_ssize o_sitems)) ([.ref h_t, .int x1, .int x2, .int x3, .int x4, .int x5] : List Value).toArray s 0 0 (va_A (wd_X7_copy cI cZ cP cS h_t h_t_red h_t_blue h_t_sky h_t_diary h_t_calendar h_t_awakeIn h_t_worths h_t_plants h_t_sheets h_t_bestFrom h_t_s0 h_t_s1 h_t_s2 h_t_s3 h_t_s0_items h_t_s1_items h_t_s2_items h_t_s3_items v_latestFinding v_sform v_ssize v_sitems) s.heap.size)) (F0 m 45 ls []) := by
          intro ls hl hf
          rw [ek45] at hf
          refine lv_aload_n hx hb dX7_copy_45 rfl (lv_at hl 0 rfl) ?_
          refine lv_iconst (v := 1) hx hb dX7_copy_46 (by decide) ?_
          obtain ⟨r47_24, o47_25, hc_26, hf⟩ := bd2_e hf
          refine rwi_call (isC := [0]) (isR := [1, 2, 3, 4, 5, 6, 7, 8, 9]) (perm := [9, 0, 1, 2, 3, 4, 5, 6, 7, 8]) (wr := [(h_t_sheets, .inl (cS, 4, .inr (.inr (.inr (.inr (ar4 h_t_s0 h_t_s1 h_t_s2 h_t_s3)))))), (h_t_s0, .inr (3, [.int (v_sform 0), .int (v_ssize 0), .ref h_t_s0_items])), (h_t_s0_items, .inl (cI, 48, .inl (v_sitems 0))), (h_t_s1, .inr (3, [.int (v_sform 1), .int (v_ssize 1), .ref h_t_s1_items])), (h_t_s1_items, .inl (cI, 48, .inl (v_sitems 1))), (h_t_s2, .inr (3, [.int (v_sform 2), .int (v_ssize 2), .ref h_t_s2_items])), (h_t_s2_items, .inl (cI, 48, .inl (v_sitems 2))), (h_t_s3, .inr (3, [.int (v_sform 3), .int (v_ssize 3), .ref h_t_s3_items])), (h_t_s3_items, .inl (cI, 48, .inl (v_sitems 3)))]) (ws2 := (wd_X7_copy cI cZ cP cS h_t h_t_red h_t_blue h_t_sky h_t_diary h_t_calendar h_t_awakeIn h_t_worths h_t_plants h_t_sheets h_t_bestFrom h_t_s0 h_t_s1 h_t_s2 h_t_s3 h_t_s0_items h_t_s1_items h_t_s2_items h_t_s3_items o47_25 v_sform v_ssize v_sitems)) (va_runV (As := [.int 1]) (rest := []) ⟨hx, hb, hml, hown, hts⟩ (c_X7_found l dC dI cI cZ cP cS H.size h_t h_t_red h_t_blue h_t_sky h_t_diary h_t_calendar h_t_awakeIn h_t_worths h_t_plants h_t_sheets h_t_bestFrom v_latestFinding 1 n r47_24 o47_25 hc_26) (cwV 1 hts gX7_copy_X7_found rfl rfl rfl (by decide +kernel) ⟨Nat.le_of_ble_eq_true rfl, Nat.le_of_ble_eq_true rfl⟩) (pv_rw (ci := 6) (q0 := 0) hK (hP.sub (ws' := (wd_X7_found cI cZ cP cS h_t h_t_red h_t_blue h_t_sky h_t_diary h_t_calendar h_t_awakeIn h_t_worths h_t_plants h_t_sheets h_t_bestFrom v_latestFinding)) [0] rfl) (hD.sub (ws' := (wd_X7_found cI cZ cP cS h_t h_t_red h_t_blue h_t_sky h_t_diary h_t_calendar h_t_awakeIn h_t_worths h_t_plants h_t_sheets h_t_bestFrom v_latestFinding)) [0] (by decide) rfl) rfl rfl) rfl rfl hl.1 rfl (lv_room (Nat.le_of_ble_eq_true rfl)) dX7_copy_47 ⟨Nat.zero_le _, Nat.zero_le _⟩) hS hA hP hD rfl (by decide) (by decide) rfl (by decide) rfl rfl (fun H locs hP hD hS => ?_)
          have hq0 := Option.some.inj hf
          obtain ⟨eq0, hq1⟩ := Prod.mk.inj hq0
          obtain ⟨eq1, hq2⟩ := Prod.mk.inj hq1
          clear hf hq0 hq1
          subst eq0
          subst eq1
          subst hq2
          exact W.iret hx hb hr (fun t ht hW => ⟨⟨_, (), rfl, rfl, by rw [ht]; exact hP, va_K.moved hW.alike hK, hD⟩, hS.F ht⟩) hS.2.2 dX7_copy_50
        refine lv_icmp_eq (tgt := 45) hx hb dX7_copy_33 (by decide) (fun c33 => ?_) (fun c33 => ?_)
        · rw [if_pos c33] at hf
          exact hj45 ls (lv_sub hl [2] rfl) hf
        · rw [if_neg c33] at hf
          refine lv_aload hx hb dX7_copy_36 (lv_at hl 0 rfl) ?_
          refine va_get (D := (dC, dI)) (ci := 3) (v := .int (v_sform 1)) (C := RX3) (T := TX3) (N := 3) hx hb hts hinX3 hown hK hP 4 rfl rfl 0 (by decide) (hts (.fieldLink RX7 222 "SecondSunrise$Sheet" "form" "I") (by decide +kernel)) (fun _ h9 => h9) rfl dX7_copy_38 ?_
          refine lv_iconst (v := (-1)) hx hb dX7_copy_41 (by decide) ?_
          refine lv_icmp_ne (tgt := 51) hx hb dX7_copy_42 (by decide) (fun c42 => ?_) (fun c42 => ?_)
          · rw [if_neg c42] at hf
            refine lv_aload hx hb dX7_copy_51 (lv_at hl 1 rfl) ?_
            refine va_get (D := (dC, dI)) (ci := 3) (v := .int (v_sform 0)) (C := RX3) (T := TX3) (N := 3) hx hb hts hinX3 hown hK hP 2 rfl rfl 0 (by decide) (hts (.fieldLink RX7 222 "SecondSunrise$Sheet" "form" "I") (by decide +kernel)) (fun _ h9 => h9) rfl dX7_copy_53 ?_
            refine lv_aload hx hb dX7_copy_56 (lv_at hl 0 rfl) ?_
            refine va_get (D := (dC, dI)) (ci := 3) (v := .int (v_sform 1)) (C := RX3) (T := TX3) (N := 3) hx hb hts hinX3 hown hK hP 4 rfl rfl 0 (by decide) (hts (.fieldLink RX7 222 "SecondSunrise$Sheet" "form" "I") (by decide +kernel)) (fun _ h9 => h9) rfl dX7_copy_58 ?_
            refine lv_icmp_eq (tgt := 70) hx hb dX7_copy_61 (by decide) (fun c61 => ?_) (fun c61 => ?_)
            · rw [if_pos c61] at hf
              refine lv_aload hx hb dX7_copy_70 (lv_at hl 1 rfl) ?_
              refine lv_iload_n hx hb dX7_copy_72 rfl (lv_at hl 4 rfl) ?_
              refine lv_iload hx hb dX7_copy_73 (lv_at hl 7 rfl) ?_
              obtain ⟨r75_28, hc_29, hf⟩ := bd1_e hf
              refine vp_callSi (va_runV (As := [.int x2, .int x5]) (rest := []) ⟨hx, hb, hml, hown, hts⟩ (c_X3_holds l dC dI cI cZ cP cS h_t_s0 h_t_s0_items (v_sform 0) (v_ssize 0) x2 x5 n r75_28 hc_29) (cwV 2 hts gX7_copy_X3_holds rfl rfl rfl (by decide +kernel) ⟨Nat.le_of_ble_eq_true rfl, Nat.le_of_ble_eq_true rfl⟩) (pv_ro (ci := 3) (q0 := 0) hK (hP.sub (ws' := (wd_X3_holds cI cZ cP cS h_t_s0 h_t_s0_items (v_sform 0) (v_ssize 0))) [2] rfl) rfl rfl) rfl rfl hl.1 rfl (lv_room (Nat.le_of_ble_eq_true rfl)) dX7_copy_75 ⟨Nat.zero_le _, Nat.zero_le _⟩).run (fun x e_30 => ?_)
              obtain ⟨e_30, hb_31⟩ := e_30
              rw [e_30] at hb_31 ⊢
              obtain ⟨k93, ek93, hf⟩ := jn0_e hf
              have hj93 : ∀ (ls : Array Slot), lv_has ls 8 [(0, .ref h_t)] → k93 = some (r, o_latestFinding, o_sitems) → W p l e (headSpec wsX7_copy rm_X7_copy).room s m ([.ref h_t, .int x1, .int x2, .int x3, .int x4, .int x5] : List Value).toArray below meth c H locs 0 0 (MQ below (RWi (dC, dI) (TY cI cZ cP cS) r s.heap.size (wd_X7_copy cI cZ cP cS h_t h_t_red h_t_blue h_t_sky h_t_diary h_t_calendar h_t_awakeIn h_t_worths h_t_plants h_t_sheets h_t_bestFrom h_t_s0 h_t_s1 h_t_s2 h_t_s3 h_t_s0_items h_t_s1_items h_t_s2_items h_t_s3_items v_latestFinding v_sform v_ssize v_sitems) (wd_X7_copy cI cZ cP cS h_t h_t_red h_t_blue h_t_sky h_t_diary h_t_calendar h_t_awakeIn h_t_worths h_t_plants h_t_sheets h_t_bestFrom h_t_s0 h_t_s1 h_t_s2 h_t_s3 h_t_s0_items h_t_s1_items h_t_s2_items h_t_s3_items o_latestFinding v_sform v_ssize o_sitems)) ([.ref h_t, .int x1, .int x2, .int x3, .int x4, .int x5] : List Value).toArray s 0 0 (va_A (wd_X7_copy cI cZ cP cS h_t h_t_red h_t_blue h_t_sky h_t_diary h_t_calendar h_t_awakeIn h_t_worths h_t_plants h_t_sheets h_t_bestFrom h_t_s0 h_t_s1 h_t_s2 h_t_s3 h_t_s0_items h_t_s1_items h_t_s2_items h_t_s3_items v_latestFinding v_sform v_ssize v_sitems) s.heap.size)) (F0 m 93 ls []) := by
                intro ls hl hf
                rw [ek93] at hf
                refine lv_aload_n hx hb dX7_copy_93 rfl (lv_at hl 0 rfl) ?_
                refine lv_iconst (v := 2) hx hb dX7_copy_94 (by decide) ?_
                obtain ⟨r95_32, o95_33, hc_34, hf⟩ := bd2_e hf
                refine rwi_call (isC := [0]) (isR := [1, 2, 3, 4, 5, 6, 7, 8, 9]) (perm := [9, 0, 1, 2, 3, 4, 5, 6, 7, 8]) (wr := [(h_t_sheets, .inl (cS, 4, .inr (.inr (.inr (.inr (ar4 h_t_s0 h_t_s1 h_t_s2 h_t_s3)))))), (h_t_s0, .inr (3, [.int (v_sform 0), .int (v_ssize 0), .ref h_t_s0_items])), (h_t_s0_items, .inl (cI, 48, .inl (v_sitems 0))), (h_t_s1, .inr (3, [.int (v_sform 1), .int (v_ssize 1), .ref h_t_s1_items])), (h_t_s1_items, .inl (cI, 48, .inl (v_sitems 1))), (h_t_s2, .inr (3, [.int (v_sform 2), .int (v_ssize 2), .ref h_t_s2_items])), (h_t_s2_items, .inl (cI, 48, .inl (v_sitems 2))), (h_t_s3, .inr (3, [.int (v_sform 3), .int (v_ssize 3), .ref h_t_s3_items])), (h_t_s3_items, .inl (cI, 48, .inl (v_sitems 3)))]) (ws2 := (wd_X7_copy cI cZ cP cS h_t h_t_red h_t_blue h_t_sky h_t_diary h_t_calendar h_t_awakeIn h_t_worths h_t_plants h_t_sheets h_t_bestFrom h_t_s0 h_t_s1 h_t_s2 h_t_s3 h_t_s0_items h_t_s1_items h_t_s2_items h_t_s3_items o95_33 v_sform v_ssize v_sitems)) (va_runV (As := [.int 2]) (rest := []) ⟨hx, hb, hml, hown, hts⟩ (c_X7_found l dC dI cI cZ cP cS H.size h_t h_t_red h_t_blue h_t_sky h_t_diary h_t_calendar h_t_awakeIn h_t_worths h_t_plants h_t_sheets h_t_bestFrom v_latestFinding 2 n r95_32 o95_33 hc_34) (cwV 1 hts gX7_copy_X7_found rfl rfl rfl (by decide +kernel) ⟨Nat.le_of_ble_eq_true rfl, Nat.le_of_ble_eq_true rfl⟩) (pv_rw (ci := 6) (q0 := 0) hK (hP.sub (ws' := (wd_X7_found cI cZ cP cS h_t h_t_red h_t_blue h_t_sky h_t_diary h_t_calendar h_t_awakeIn h_t_worths h_t_plants h_t_sheets h_t_bestFrom v_latestFinding)) [0] rfl) (hD.sub (ws' := (wd_X7_found cI cZ cP cS h_t h_t_red h_t_blue h_t_sky h_t_diary h_t_calendar h_t_awakeIn h_t_worths h_t_plants h_t_sheets h_t_bestFrom v_latestFinding)) [0] (by decide) rfl) rfl rfl) rfl rfl hl.1 rfl (lv_room (Nat.le_of_ble_eq_true rfl)) dX7_copy_95 ⟨Nat.zero_le _, Nat.zero_le _⟩) hS hA hP hD rfl (by decide) (by decide) rfl (by decide) rfl rfl (fun H locs hP hD hS => ?_)
                have hq0 := Option.some.inj hf
                obtain ⟨eq0, hq1⟩ := Prod.mk.inj hq0
                obtain ⟨eq1, hq2⟩ := Prod.mk.inj hq1
                clear hf hq0 hq1
                subst eq0
                subst eq1
                subst hq2
                exact W.iret hx hb hr (fun t ht hW => ⟨⟨_, (), rfl, rfl, by rw [ht]; exact hP, va_K.moved hW.alike hK, hD⟩, hS.F ht⟩) hS.2.2 dX7_copy_98
              refine lv_if_eq (tgt := 93) hx hb dX7_copy_78 (by decide) (fun c78 => ?_) (fun c78 => ?_)
              · rw [if_pos c78] at hf
                exact hj93 ls (lv_sub hl [2] rfl) hf
              · rw [if_neg c78] at hf
                refine lv_aload hx hb dX7_copy_81 (lv_at hl 0 rfl) ?_
                refine lv_iload hx hb dX7_copy_83 (lv_at hl 6 rfl) ?_
                refine lv_iload hx hb dX7_copy_85 (lv_at hl 7 rfl) ?_
                obtain ⟨r87_36, hc_37, hf⟩ := bd1_e hf
                refine vp_callSi (va_runV (As := [.int x4, .int x5]) (rest := []) ⟨hx, hb, hml, hown, hts⟩ (c_X3_holds l dC dI cI cZ cP cS h_t_s1 h_t_s1_items (v_sform 1) (v_ssize 1) x4 x5 n r87_36 hc_37) (cwV 2 hts gX7_copy_X3_holds rfl rfl rfl (by decide +kernel) ⟨Nat.le_of_ble_eq_true rfl, Nat.le_of_ble_eq_true rfl⟩) (pv_ro (ci := 3) (q0 := 0) hK (hP.sub (ws' := (wd_X3_holds cI cZ cP cS h_t_s1 h_t_s1_items (v_sform 1) (v_ssize 1))) [4] rfl) rfl rfl) rfl rfl hl.1 rfl (lv_room (Nat.le_of_ble_eq_true rfl)) dX7_copy_87 ⟨Nat.zero_le _, Nat.zero_le _⟩).run (fun x e_38 => ?_)
                obtain ⟨e_38, hb_39⟩ := e_38
                rw [e_38] at hb_39 ⊢
                refine lv_if_ne (tgt := 99) hx hb dX7_copy_90 (by decide) (fun c90 => ?_) (fun c90 => ?_)
                · rw [if_neg c90] at hf
                  refine lv_aload hx hb dX7_copy_99 (lv_at hl 1 rfl) ?_
                  refine va_get (D := (dC, dI)) (ci := 3) (v := .ref h_t_s0_items) (C := RX3) (T := TX3) (N := 3) hx hb hts hinX3 hown hK hP 2 rfl rfl 2 (by decide) (hts (.fieldLink RX7 229 "SecondSunrise$Sheet" "items" "[I") (by decide +kernel)) (fun _ h9 => h9) rfl dX7_copy_101 ?_
                  refine lv_iload_n hx hb dX7_copy_104 rfl (lv_at hl 4 rfl) ?_
                  refine lv_aload hx hb dX7_copy_105 (lv_at hl 0 rfl) ?_
                  refine va_get (D := (dC, dI)) (ci := 3) (v := .ref h_t_s1_items) (C := RX3) (T := TX3) (N := 3) hx hb hts hinX3 hown hK hP 4 rfl rfl 2 (by decide) (hts (.fieldLink RX7 229 "SecondSunrise$Sheet" "items" "[I") (by decide +kernel)) (fun _ h9 => h9) rfl dX7_copy_107 ?_
                  refine lv_iload hx hb dX7_copy_110 (lv_at hl 6 rfl) ?_
                  refine lv_iload hx hb dX7_copy_112 (lv_at hl 7 rfl) ?_
                  obtain ⟨⟨ha_401, ha_402, ha_403, ha_404, ha_405⟩, hf⟩ := ac_e hf
                  refine va_copyi hx hb (hml.trans hl.1.symm) hown (hts (.methodLink RX7 274 arraycopyName) (by decide +kernel)) (hts (.native arraycopyName) (by decide +kernel)) (hts (.static arraycopyName) (by decide +kernel)) (hts (.initialized "java/lang/System") (by decide +kernel)) hK hP hD hS 3 5 0 0 rfl rfl rfl rfl rfl ha_401 ha_402 ha_403 ha_404 ha_405 (fun _ _ => rfl) (Nat.le_of_ble_eq_true rfl) (by decide) dX7_copy_114 (fun H locs hP hD hS => ?_)
                  have hP : va_P (dC, dI) vwCl (wd_X7_copy cI cZ cP cS h_t h_t_red h_t_blue h_t_sky h_t_diary h_t_calendar h_t_awakeIn h_t_worths h_t_plants h_t_sheets h_t_bestFrom h_t_s0 h_t_s1 h_t_s2 h_t_s3 h_t_s0_items h_t_s1_items h_t_s2_items h_t_s3_items v_latestFinding v_sform v_ssize (va_up v_sitems 1 (va_cpy (v_sitems 0) (v_sitems 1) x2.toNatClampNeg x4.toNatClampNeg x5.toNatClampNeg))) H := hP
                  have hD : va_D (va_A (wd_X7_copy cI cZ cP cS h_t h_t_red h_t_blue h_t_sky h_t_diary h_t_calendar h_t_awakeIn h_t_worths h_t_plants h_t_sheets h_t_bestFrom h_t_s0 h_t_s1 h_t_s2 h_t_s3 h_t_s0_items h_t_s1_items h_t_s2_items h_t_s3_items v_latestFinding v_sform v_ssize v_sitems) s.heap.size) (wd_X7_copy cI cZ cP cS h_t h_t_red h_t_blue h_t_sky h_t_diary h_t_calendar h_t_awakeIn h_t_worths h_t_plants h_t_sheets h_t_bestFrom h_t_s0 h_t_s1 h_t_s2 h_t_s3 h_t_s0_items h_t_s1_items h_t_s2_items h_t_s3_items v_latestFinding v_sform v_ssize (va_up v_sitems 1 (va_cpy (v_sitems 0) (v_sitems 1) x2.toNatClampNeg x4.toNatClampNeg x5.toNatClampNeg))) := hD
                  refine lv_iconst (v := 1) hx hb dX7_copy_117 (by decide) ?_
                  have hq0 := Option.some.inj hf
                  obtain ⟨eq0, hq1⟩ := Prod.mk.inj hq0
                  obtain ⟨eq1, hq2⟩ := Prod.mk.inj hq1
                  clear hf hq0 hq1
                  subst eq0
                  subst eq1
                  subst hq2
                  exact W.iret hx hb hr (fun t ht hW => ⟨⟨_, (), rfl, rfl, by rw [ht]; exact hP, va_K.moved hW.alike hK, hD⟩, hS.F ht⟩) hS.2.2 dX7_copy_118
                · rw [if_pos c90] at hf
                  exact hj93 ls (lv_sub hl [2] rfl) hf
            · rw [if_neg c61] at hf
              refine lv_aload_n hx hb dX7_copy_64 rfl (lv_at hl 2 rfl) ?_
              refine lv_iconst (v := 4) hx hb dX7_copy_65 (by decide) ?_
              obtain ⟨r66_41, o66_42, hc_43, hf⟩ := bd2_e hf
              refine rwi_call (isC := [0]) (isR := [1, 2, 3, 4, 5, 6, 7, 8, 9]) (perm := [9, 0, 1, 2, 3, 4, 5, 6, 7, 8]) (wr := [(h_t_sheets, .inl (cS, 4, .inr (.inr (.inr (.inr (ar4 h_t_s0 h_t_s1 h_t_s2 h_t_s3)))))), (h_t_s0, .inr (3, [.int (v_sform 0), .int (v_ssize 0), .ref h_t_s0_items])), (h_t_s0_items, .inl (cI, 48, .inl (v_sitems 0))), (h_t_s1, .inr (3, [.int (v_sform 1), .int (v_ssize 1), .ref h_t_s1_items])), (h_t_s1_items, .inl (cI, 48, .inl (v_sitems 1))), (h_t_s2, .inr (3, [.int (v_sform 2), .int (v_ssize 2), .ref h_t_s2_items])), (h_t_s2_items, .inl (cI, 48, .inl (v_sitems 2))), (h_t_s3, .inr (3, [.int (v_sform 3), .int (v_ssize 3), .ref h_t_s3_items])), (h_t_s3_items, .inl (cI, 48, .inl (v_sitems 3)))]) (ws2 := (wd_X7_copy cI cZ cP cS h_t h_t_red h_t_blue h_t_sky h_t_diary h_t_calendar h_t_awakeIn h_t_worths h_t_plants h_t_sheets h_t_bestFrom h_t_s0 h_t_s1 h_t_s2 h_t_s3 h_t_s0_items h_t_s1_items h_t_s2_items h_t_s3_items o66_42 v_sform v_ssize v_sitems)) (va_runV (As := [.int 4]) (rest := []) ⟨hx, hb, hml, hown, hts⟩ (c_X7_found l dC dI cI cZ cP cS H.size h_t h_t_red h_t_blue h_t_sky h_t_diary h_t_calendar h_t_awakeIn h_t_worths h_t_plants h_t_sheets h_t_bestFrom v_latestFinding 4 n r66_41 o66_42 hc_43) (cwV 1 hts gX7_copy_X7_found rfl rfl rfl (by decide +kernel) ⟨Nat.le_of_ble_eq_true rfl, Nat.le_of_ble_eq_true rfl⟩) (pv_rw (ci := 6) (q0 := 0) hK (hP.sub (ws' := (wd_X7_found cI cZ cP cS h_t h_t_red h_t_blue h_t_sky h_t_diary h_t_calendar h_t_awakeIn h_t_worths h_t_plants h_t_sheets h_t_bestFrom v_latestFinding)) [0] rfl) (hD.sub (ws' := (wd_X7_found cI cZ cP cS h_t h_t_red h_t_blue h_t_sky h_t_diary h_t_calendar h_t_awakeIn h_t_worths h_t_plants h_t_sheets h_t_bestFrom v_latestFinding)) [0] (by decide) rfl) rfl rfl) rfl rfl hl.1 rfl (lv_room (Nat.le_of_ble_eq_true rfl)) dX7_copy_66 ⟨Nat.zero_le _, Nat.zero_le _⟩) hS hA hP hD rfl (by decide) (by decide) rfl (by decide) rfl rfl (fun H locs hP hD hS => ?_)
              have hq0 := Option.some.inj hf
              obtain ⟨eq0, hq1⟩ := Prod.mk.inj hq0
              obtain ⟨eq1, hq2⟩ := Prod.mk.inj hq1
              clear hf hq0 hq1
              subst eq0
              subst eq1
              subst hq2
              exact W.iret hx hb hr (fun t ht hW => ⟨⟨_, (), rfl, rfl, by rw [ht]; exact hP, va_K.moved hW.alike hK, hD⟩, hS.F ht⟩) hS.2.2 dX7_copy_69
          · rw [if_pos c42] at hf
            exact hj45 ls (lv_sub hl [2] rfl) hf
      · rw [if_neg c9_1] at hf e_2
        by_cases c9_2 : x3 = 2
        · rw [if_pos c9_2] at hf e_2
          subst e_2
          refine W.eq (g2 := F0 m 12 ls [.ref h_t_s2]) rfl ?_
          refine lv_astore (lv' := [(7, .ref h_t_s2), (6, .ref h_t_s0), (0, .ref h_t), (1, .int x1), (2, .int x2), (3, .int x3), (4, .int x4), (5, .int x5)]) hx hb dX7_copy_12 hl (by decide) rfl (fun ls hl => ?_)
          refine lv_aload hx hb dX7_copy_14 (lv_at hl 1 rfl) ?_
          refine lv_ifnull hx hb dX7_copy_16 ?_
          refine lv_aload hx hb dX7_copy_19 (lv_at hl 0 rfl) ?_
          refine lv_ifnonnull (tgt := 27) hx hb dX7_copy_21 (by decide) ?_
          refine lv_aload hx hb dX7_copy_27 (lv_at hl 1 rfl) ?_
          refine va_get (D := (dC, dI)) (ci := 3) (v := .int (v_sform 0)) (C := RX3) (T := TX3) (N := 3) hx hb hts hinX3 hown hK hP 2 rfl rfl 0 (by decide) (hts (.fieldLink RX7 222 "SecondSunrise$Sheet" "form" "I") (by decide +kernel)) (fun _ h9 => h9) rfl dX7_copy_29 ?_
          refine lv_iconst (v := (-1)) hx hb dX7_copy_32 (by decide) ?_
          obtain ⟨k45, ek45, hf⟩ := jn0_e hf
          have hj45 : ∀ (ls : Array Slot), lv_has ls 8 [(0, .ref h_t)] → k45 = some (r, o_latestFinding, o_sitems) → W p l e (headSpec wsX7_copy rm_X7_copy).room s m ([.ref h_t, .int x1, .int x2, .int x3, .int x4, .int x5] : List Value).toArray below meth c H locs 0 0 (MQ below (RWi (dC, dI) (TY cI cZ cP cS) r s.heap.size (wd_X7_copy cI cZ cP cS h_t h_t_red h_t_blue h_t_sky h_t_diary h_t_calendar h_t_awakeIn h_t_worths h_t_plants h_t_sheets h_t_bestFrom h_t_s0 h_t_s1 h_t_s2 h_t_s3 h_t_s0_items h_t_s1_items h_t_s2_items h_t_s3_items v_latestFinding v_sform v_ssize v_sitems) (wd_X7_copy cI cZ cP cS h_t h_t_red h_t_blue h_t_sky h_t_diary h_t_calendar h_t_awakeIn h_t_worths h_t_plants h_t_sheets h_t_bestFrom h_t_s0 h_t_s1 h_t_s2 h_t_s3 h_t_s0_items h_t_s1_items h_t_s2_items h_t_s3_items o_latestFinding v_sform v_ssize o_sitems)) ([.ref h_t, .int x1, .int x2, .int x3, .int x4, .int x5] : List Value).toArray s 0 0 (va_A (wd_X7_copy cI cZ cP cS h_t h_t_red h_t_blue h_t_sky h_t_diary h_t_calendar h_t_awakeIn h_t_worths h_t_plants h_t_sheets h_t_bestFrom h_t_s0 h_t_s1 h_t_s2 h_t_s3 h_t_s0_items h_t_s1_items h_t_s2_items h_t_s3_items v_latestFinding v_sform v_ssize v_sitems) s.heap.size)) (F0 m 45 ls []) := by
            intro ls hl hf
            rw [ek45] at hf
            refine lv_aload_n hx hb dX7_copy_45 rfl (lv_at hl 0 rfl) ?_
            refine lv_iconst (v := 1) hx hb dX7_copy_46 (by decide) ?_
            obtain ⟨r47_45, o47_46, hc_47, hf⟩ := bd2_e hf
            refine rwi_call (isC := [0]) (isR := [1, 2, 3, 4, 5, 6, 7, 8, 9]) (perm := [9, 0, 1, 2, 3, 4, 5, 6, 7, 8]) (wr := [(h_t_sheets, .inl (cS, 4, .inr (.inr (.inr (.inr (ar4 h_t_s0 h_t_s1 h_t_s2 h_t_s3)))))), (h_t_s0, .inr (3, [.int (v_sform 0), .int (v_ssize 0), .ref h_t_s0_items])), (h_t_s0_items, .inl (cI, 48, .inl (v_sitems 0))), (h_t_s1, .inr (3, [.int (v_sform 1), .int (v_ssize 1), .ref h_t_s1_items])), (h_t_s1_items, .inl (cI, 48, .inl (v_sitems 1))), (h_t_s2, .inr (3, [.int (v_sform 2), .int (v_ssize 2), .ref h_t_s2_items])), (h_t_s2_items, .inl (cI, 48, .inl (v_sitems 2))), (h_t_s3, .inr (3, [.int (v_sform 3), .int (v_ssize 3), .ref h_t_s3_items])), (h_t_s3_items, .inl (cI, 48, .inl (v_sitems 3)))]) (ws2 := (wd_X7_copy cI cZ cP cS h_t h_t_red h_t_blue h_t_sky h_t_diary h_t_calendar h_t_awakeIn h_t_worths h_t_plants h_t_sheets h_t_bestFrom h_t_s0 h_t_s1 h_t_s2 h_t_s3 h_t_s0_items h_t_s1_items h_t_s2_items h_t_s3_items o47_46 v_sform v_ssize v_sitems)) (va_runV (As := [.int 1]) (rest := []) ⟨hx, hb, hml, hown, hts⟩ (c_X7_found l dC dI cI cZ cP cS H.size h_t h_t_red h_t_blue h_t_sky h_t_diary h_t_calendar h_t_awakeIn h_t_worths h_t_plants h_t_sheets h_t_bestFrom v_latestFinding 1 n r47_45 o47_46 hc_47) (cwV 1 hts gX7_copy_X7_found rfl rfl rfl (by decide +kernel) ⟨Nat.le_of_ble_eq_true rfl, Nat.le_of_ble_eq_true rfl⟩) (pv_rw (ci := 6) (q0 := 0) hK (hP.sub (ws' := (wd_X7_found cI cZ cP cS h_t h_t_red h_t_blue h_t_sky h_t_diary h_t_calendar h_t_awakeIn h_t_worths h_t_plants h_t_sheets h_t_bestFrom v_latestFinding)) [0] rfl) (hD.sub (ws' := (wd_X7_found cI cZ cP cS h_t h_t_red h_t_blue h_t_sky h_t_diary h_t_calendar h_t_awakeIn h_t_worths h_t_plants h_t_sheets h_t_bestFrom v_latestFinding)) [0] (by decide) rfl) rfl rfl) rfl rfl hl.1 rfl (lv_room (Nat.le_of_ble_eq_true rfl)) dX7_copy_47 ⟨Nat.zero_le _, Nat.zero_le _⟩) hS hA hP hD rfl (by decide) (by decide) rfl (by decide) rfl rfl (fun H locs hP hD hS => ?_)
            have hq0 := Option.some.inj hf
            obtain ⟨eq0, hq1⟩ := Prod.mk.inj hq0
            obtain ⟨eq1, hq2⟩ := Prod.mk.inj hq1
            clear hf hq0 hq1
            subst eq0
            subst eq1
            subst hq2
            exact W.iret hx hb hr (fun t ht hW => ⟨⟨_, (), rfl, rfl, by rw [ht]; exact hP, va_K.moved hW.alike hK, hD⟩, hS.F ht⟩) hS.2.2 dX7_copy_50
          refine lv_icmp_eq (tgt := 45) hx hb dX7_copy_33 (by decide) (fun c33 => ?_) (fun c33 => ?_)
          · rw [if_pos c33] at hf
            exact hj45 ls (lv_sub hl [2] rfl) hf
          · rw [if_neg c33] at hf
            refine lv_aload hx hb dX7_copy_36 (lv_at hl 0 rfl) ?_
            refine va_get (D := (dC, dI)) (ci := 3) (v := .int (v_sform 2)) (C := RX3) (T := TX3) (N := 3) hx hb hts hinX3 hown hK hP 6 rfl rfl 0 (by decide) (hts (.fieldLink RX7 222 "SecondSunrise$Sheet" "form" "I") (by decide +kernel)) (fun _ h9 => h9) rfl dX7_copy_38 ?_
            refine lv_iconst (v := (-1)) hx hb dX7_copy_41 (by decide) ?_
            refine lv_icmp_ne (tgt := 51) hx hb dX7_copy_42 (by decide) (fun c42 => ?_) (fun c42 => ?_)
            · rw [if_neg c42] at hf
              refine lv_aload hx hb dX7_copy_51 (lv_at hl 1 rfl) ?_
              refine va_get (D := (dC, dI)) (ci := 3) (v := .int (v_sform 0)) (C := RX3) (T := TX3) (N := 3) hx hb hts hinX3 hown hK hP 2 rfl rfl 0 (by decide) (hts (.fieldLink RX7 222 "SecondSunrise$Sheet" "form" "I") (by decide +kernel)) (fun _ h9 => h9) rfl dX7_copy_53 ?_
              refine lv_aload hx hb dX7_copy_56 (lv_at hl 0 rfl) ?_
              refine va_get (D := (dC, dI)) (ci := 3) (v := .int (v_sform 2)) (C := RX3) (T := TX3) (N := 3) hx hb hts hinX3 hown hK hP 6 rfl rfl 0 (by decide) (hts (.fieldLink RX7 222 "SecondSunrise$Sheet" "form" "I") (by decide +kernel)) (fun _ h9 => h9) rfl dX7_copy_58 ?_
              refine lv_icmp_eq (tgt := 70) hx hb dX7_copy_61 (by decide) (fun c61 => ?_) (fun c61 => ?_)
              · rw [if_pos c61] at hf
                refine lv_aload hx hb dX7_copy_70 (lv_at hl 1 rfl) ?_
                refine lv_iload_n hx hb dX7_copy_72 rfl (lv_at hl 4 rfl) ?_
                refine lv_iload hx hb dX7_copy_73 (lv_at hl 7 rfl) ?_
                obtain ⟨r75_49, hc_50, hf⟩ := bd1_e hf
                refine vp_callSi (va_runV (As := [.int x2, .int x5]) (rest := []) ⟨hx, hb, hml, hown, hts⟩ (c_X3_holds l dC dI cI cZ cP cS h_t_s0 h_t_s0_items (v_sform 0) (v_ssize 0) x2 x5 n r75_49 hc_50) (cwV 2 hts gX7_copy_X3_holds rfl rfl rfl (by decide +kernel) ⟨Nat.le_of_ble_eq_true rfl, Nat.le_of_ble_eq_true rfl⟩) (pv_ro (ci := 3) (q0 := 0) hK (hP.sub (ws' := (wd_X3_holds cI cZ cP cS h_t_s0 h_t_s0_items (v_sform 0) (v_ssize 0))) [2] rfl) rfl rfl) rfl rfl hl.1 rfl (lv_room (Nat.le_of_ble_eq_true rfl)) dX7_copy_75 ⟨Nat.zero_le _, Nat.zero_le _⟩).run (fun x e_51 => ?_)
                obtain ⟨e_51, hb_52⟩ := e_51
                rw [e_51] at hb_52 ⊢
                obtain ⟨k93, ek93, hf⟩ := jn0_e hf
                have hj93 : ∀ (ls : Array Slot), lv_has ls 8 [(0, .ref h_t)] → k93 = some (r, o_latestFinding, o_sitems) → W p l e (headSpec wsX7_copy rm_X7_copy).room s m ([.ref h_t, .int x1, .int x2, .int x3, .int x4, .int x5] : List Value).toArray below meth c H locs 0 0 (MQ below (RWi (dC, dI) (TY cI cZ cP cS) r s.heap.size (wd_X7_copy cI cZ cP cS h_t h_t_red h_t_blue h_t_sky h_t_diary h_t_calendar h_t_awakeIn h_t_worths h_t_plants h_t_sheets h_t_bestFrom h_t_s0 h_t_s1 h_t_s2 h_t_s3 h_t_s0_items h_t_s1_items h_t_s2_items h_t_s3_items v_latestFinding v_sform v_ssize v_sitems) (wd_X7_copy cI cZ cP cS h_t h_t_red h_t_blue h_t_sky h_t_diary h_t_calendar h_t_awakeIn h_t_worths h_t_plants h_t_sheets h_t_bestFrom h_t_s0 h_t_s1 h_t_s2 h_t_s3 h_t_s0_items h_t_s1_items h_t_s2_items h_t_s3_items o_latestFinding v_sform v_ssize o_sitems)) ([.ref h_t, .int x1, .int x2, .int x3, .int x4, .int x5] : List Value).toArray s 0 0 (va_A (wd_X7_copy cI cZ cP cS h_t h_t_red h_t_blue h_t_sky h_t_diary h_t_calendar h_t_awakeIn h_t_worths h_t_plants h_t_sheets h_t_bestFrom h_t_s0 h_t_s1 h_t_s2 h_t_s3 h_t_s0_items h_t_s1_items h_t_s2_items h_t_s3_items v_latestFinding v_sform v_ssize v_sitems) s.heap.size)) (F0 m 93 ls []) := by
                  intro ls hl hf
                  rw [ek93] at hf
                  refine lv_aload_n hx hb dX7_copy_93 rfl (lv_at hl 0 rfl) ?_
                  refine lv_iconst (v := 2) hx hb dX7_copy_94 (by decide) ?_
                  obtain ⟨r95_53, o95_54, hc_55, hf⟩ := bd2_e hf
                  refine rwi_call (isC := [0]) (isR := [1, 2, 3, 4, 5, 6, 7, 8, 9]) (perm := [9, 0, 1, 2, 3, 4, 5, 6, 7, 8]) (wr := [(h_t_sheets, .inl (cS, 4, .inr (.inr (.inr (.inr (ar4 h_t_s0 h_t_s1 h_t_s2 h_t_s3)))))), (h_t_s0, .inr (3, [.int (v_sform 0), .int (v_ssize 0), .ref h_t_s0_items])), (h_t_s0_items, .inl (cI, 48, .inl (v_sitems 0))), (h_t_s1, .inr (3, [.int (v_sform 1), .int (v_ssize 1), .ref h_t_s1_items])), (h_t_s1_items, .inl (cI, 48, .inl (v_sitems 1))), (h_t_s2, .inr (3, [.int (v_sform 2), .int (v_ssize 2), .ref h_t_s2_items])), (h_t_s2_items, .inl (cI, 48, .inl (v_sitems 2))), (h_t_s3, .inr (3, [.int (v_sform 3), .int (v_ssize 3), .ref h_t_s3_items])), (h_t_s3_items, .inl (cI, 48, .inl (v_sitems 3)))]) (ws2 := (wd_X7_copy cI cZ cP cS h_t h_t_red h_t_blue h_t_sky h_t_diary h_t_calendar h_t_awakeIn h_t_worths h_t_plants h_t_sheets h_t_bestFrom h_t_s0 h_t_s1 h_t_s2 h_t_s3 h_t_s0_items h_t_s1_items h_t_s2_items h_t_s3_items o95_54 v_sform v_ssize v_sitems)) (va_runV (As := [.int 2]) (rest := []) ⟨hx, hb, hml, hown, hts⟩ (c_X7_found l dC dI cI cZ cP cS H.size h_t h_t_red h_t_blue h_t_sky h_t_diary h_t_calendar h_t_awakeIn h_t_worths h_t_plants h_t_sheets h_t_bestFrom v_latestFinding 2 n r95_53 o95_54 hc_55) (cwV 1 hts gX7_copy_X7_found rfl rfl rfl (by decide +kernel) ⟨Nat.le_of_ble_eq_true rfl, Nat.le_of_ble_eq_true rfl⟩) (pv_rw (ci := 6) (q0 := 0) hK (hP.sub (ws' := (wd_X7_found cI cZ cP cS h_t h_t_red h_t_blue h_t_sky h_t_diary h_t_calendar h_t_awakeIn h_t_worths h_t_plants h_t_sheets h_t_bestFrom v_latestFinding)) [0] rfl) (hD.sub (ws' := (wd_X7_found cI cZ cP cS h_t h_t_red h_t_blue h_t_sky h_t_diary h_t_calendar h_t_awakeIn h_t_worths h_t_plants h_t_sheets h_t_bestFrom v_latestFinding)) [0] (by decide) rfl) rfl rfl) rfl rfl hl.1 rfl (lv_room (Nat.le_of_ble_eq_true rfl)) dX7_copy_95 ⟨Nat.zero_le _, Nat.zero_le _⟩) hS hA hP hD rfl (by decide) (by decide) rfl (by decide) rfl rfl (fun H locs hP hD hS => ?_)
                  have hq0 := Option.some.inj hf
                  obtain ⟨eq0, hq1⟩ := Prod.mk.inj hq0
                  obtain ⟨eq1, hq2⟩ := Prod.mk.inj hq1
                  clear hf hq0 hq1
                  subst eq0
                  subst eq1
                  subst hq2
                  exact W.iret hx hb hr (fun t ht hW => ⟨⟨_, (), rfl, rfl, by rw [ht]; exact hP, va_K.moved hW.alike hK, hD⟩, hS.F ht⟩) hS.2.2 dX7_copy_98
                refine lv_if_eq (tgt := 93) hx hb dX7_copy_78 (by decide) (fun c78 => ?_) (fun c78 => ?_)
                · rw [if_pos c78] at hf
                  exact hj93 ls (lv_sub hl [2] rfl) hf
                · rw [if_neg c78] at hf
                  refine lv_aload hx hb dX7_copy_81 (lv_at hl 0 rfl) ?_
                  refine lv_iload hx hb dX7_copy_83 (lv_at hl 6 rfl) ?_
                  refine lv_iload hx hb dX7_copy_85 (lv_at hl 7 rfl) ?_
                  obtain ⟨r87_57, hc_58, hf⟩ := bd1_e hf
                  refine vp_callSi (va_runV (As := [.int x4, .int x5]) (rest := []) ⟨hx, hb, hml, hown, hts⟩ (c_X3_holds l dC dI cI cZ cP cS h_t_s2 h_t_s2_items (v_sform 2) (v_ssize 2) x4 x5 n r87_57 hc_58) (cwV 2 hts gX7_copy_X3_holds rfl rfl rfl (by decide +kernel) ⟨Nat.le_of_ble_eq_true rfl, Nat.le_of_ble_eq_true rfl⟩) (pv_ro (ci := 3) (q0 := 0) hK (hP.sub (ws' := (wd_X3_holds cI cZ cP cS h_t_s2 h_t_s2_items (v_sform 2) (v_ssize 2))) [6] rfl) rfl rfl) rfl rfl hl.1 rfl (lv_room (Nat.le_of_ble_eq_true rfl)) dX7_copy_87 ⟨Nat.zero_le _, Nat.zero_le _⟩).run (fun x e_59 => ?_)
                  obtain ⟨e_59, hb_60⟩ := e_59
                  rw [e_59] at hb_60 ⊢
                  refine lv_if_ne (tgt := 99) hx hb dX7_copy_90 (by decide) (fun c90 => ?_) (fun c90 => ?_)
                  · rw [if_neg c90] at hf
                    refine lv_aload hx hb dX7_copy_99 (lv_at hl 1 rfl) ?_
                    refine va_get (D := (dC, dI)) (ci := 3) (v := .ref h_t_s0_items) (C := RX3) (T := TX3) (N := 3) hx hb hts hinX3 hown hK hP 2 rfl rfl 2 (by decide) (hts (.fieldLink RX7 229 "SecondSunrise$Sheet" "items" "[I") (by decide +kernel)) (fun _ h9 => h9) rfl dX7_copy_101 ?_
                    refine lv_iload_n hx hb dX7_copy_104 rfl (lv_at hl 4 rfl) ?_
                    refine lv_aload hx hb dX7_copy_105 (lv_at hl 0 rfl) ?_
                    refine va_get (D := (dC, dI)) (ci := 3) (v := .ref h_t_s2_items) (C := RX3) (T := TX3) (N := 3) hx hb hts hinX3 hown hK hP 6 rfl rfl 2 (by decide) (hts (.fieldLink RX7 229 "SecondSunrise$Sheet" "items" "[I") (by decide +kernel)) (fun _ h9 => h9) rfl dX7_copy_107 ?_
                    refine lv_iload hx hb dX7_copy_110 (lv_at hl 6 rfl) ?_
                    refine lv_iload hx hb dX7_copy_112 (lv_at hl 7 rfl) ?_
                    obtain ⟨⟨ha_611, ha_612, ha_613, ha_614, ha_615⟩, hf⟩ := ac_e hf
                    refine va_copyi hx hb (hml.trans hl.1.symm) hown (hts (.methodLink RX7 274 arraycopyName) (by decide +kernel)) (hts (.native arraycopyName) (by decide +kernel)) (hts (.static arraycopyName) (by decide +kernel)) (hts (.initialized "java/lang/System") (by decide +kernel)) hK hP hD hS 3 7 0 0 rfl rfl rfl rfl rfl ha_611 ha_612 ha_613 ha_614 ha_615 (fun _ _ => rfl) (Nat.le_of_ble_eq_true rfl) (by decide) dX7_copy_114 (fun H locs hP hD hS => ?_)
                    have hP : va_P (dC, dI) vwCl (wd_X7_copy cI cZ cP cS h_t h_t_red h_t_blue h_t_sky h_t_diary h_t_calendar h_t_awakeIn h_t_worths h_t_plants h_t_sheets h_t_bestFrom h_t_s0 h_t_s1 h_t_s2 h_t_s3 h_t_s0_items h_t_s1_items h_t_s2_items h_t_s3_items v_latestFinding v_sform v_ssize (va_up v_sitems 2 (va_cpy (v_sitems 0) (v_sitems 2) x2.toNatClampNeg x4.toNatClampNeg x5.toNatClampNeg))) H := hP
                    have hD : va_D (va_A (wd_X7_copy cI cZ cP cS h_t h_t_red h_t_blue h_t_sky h_t_diary h_t_calendar h_t_awakeIn h_t_worths h_t_plants h_t_sheets h_t_bestFrom h_t_s0 h_t_s1 h_t_s2 h_t_s3 h_t_s0_items h_t_s1_items h_t_s2_items h_t_s3_items v_latestFinding v_sform v_ssize v_sitems) s.heap.size) (wd_X7_copy cI cZ cP cS h_t h_t_red h_t_blue h_t_sky h_t_diary h_t_calendar h_t_awakeIn h_t_worths h_t_plants h_t_sheets h_t_bestFrom h_t_s0 h_t_s1 h_t_s2 h_t_s3 h_t_s0_items h_t_s1_items h_t_s2_items h_t_s3_items v_latestFinding v_sform v_ssize (va_up v_sitems 2 (va_cpy (v_sitems 0) (v_sitems 2) x2.toNatClampNeg x4.toNatClampNeg x5.toNatClampNeg))) := hD
                    refine lv_iconst (v := 1) hx hb dX7_copy_117 (by decide) ?_
                    have hq0 := Option.some.inj hf
                    obtain ⟨eq0, hq1⟩ := Prod.mk.inj hq0
                    obtain ⟨eq1, hq2⟩ := Prod.mk.inj hq1
                    clear hf hq0 hq1
                    subst eq0
                    subst eq1
                    subst hq2
                    exact W.iret hx hb hr (fun t ht hW => ⟨⟨_, (), rfl, rfl, by rw [ht]; exact hP, va_K.moved hW.alike hK, hD⟩, hS.F ht⟩) hS.2.2 dX7_copy_118
                  · rw [if_pos c90] at hf
                    exact hj93 ls (lv_sub hl [2] rfl) hf
              · rw [if_neg c61] at hf
                refine lv_aload_n hx hb dX7_copy_64 rfl (lv_at hl 2 rfl) ?_
                refine lv_iconst (v := 4) hx hb dX7_copy_65 (by decide) ?_
                obtain ⟨r66_62, o66_63, hc_64, hf⟩ := bd2_e hf
                refine rwi_call (isC := [0]) (isR := [1, 2, 3, 4, 5, 6, 7, 8, 9]) (perm := [9, 0, 1, 2, 3, 4, 5, 6, 7, 8]) (wr := [(h_t_sheets, .inl (cS, 4, .inr (.inr (.inr (.inr (ar4 h_t_s0 h_t_s1 h_t_s2 h_t_s3)))))), (h_t_s0, .inr (3, [.int (v_sform 0), .int (v_ssize 0), .ref h_t_s0_items])), (h_t_s0_items, .inl (cI, 48, .inl (v_sitems 0))), (h_t_s1, .inr (3, [.int (v_sform 1), .int (v_ssize 1), .ref h_t_s1_items])), (h_t_s1_items, .inl (cI, 48, .inl (v_sitems 1))), (h_t_s2, .inr (3, [.int (v_sform 2), .int (v_ssize 2), .ref h_t_s2_items])), (h_t_s2_items, .inl (cI, 48, .inl (v_sitems 2))), (h_t_s3, .inr (3, [.int (v_sform 3), .int (v_ssize 3), .ref h_t_s3_items])), (h_t_s3_items, .inl (cI, 48, .inl (v_sitems 3)))]) (ws2 := (wd_X7_copy cI cZ cP cS h_t h_t_red h_t_blue h_t_sky h_t_diary h_t_calendar h_t_awakeIn h_t_worths h_t_plants h_t_sheets h_t_bestFrom h_t_s0 h_t_s1 h_t_s2 h_t_s3 h_t_s0_items h_t_s1_items h_t_s2_items h_t_s3_items o66_63 v_sform v_ssize v_sitems)) (va_runV (As := [.int 4]) (rest := []) ⟨hx, hb, hml, hown, hts⟩ (c_X7_found l dC dI cI cZ cP cS H.size h_t h_t_red h_t_blue h_t_sky h_t_diary h_t_calendar h_t_awakeIn h_t_worths h_t_plants h_t_sheets h_t_bestFrom v_latestFinding 4 n r66_62 o66_63 hc_64) (cwV 1 hts gX7_copy_X7_found rfl rfl rfl (by decide +kernel) ⟨Nat.le_of_ble_eq_true rfl, Nat.le_of_ble_eq_true rfl⟩) (pv_rw (ci := 6) (q0 := 0) hK (hP.sub (ws' := (wd_X7_found cI cZ cP cS h_t h_t_red h_t_blue h_t_sky h_t_diary h_t_calendar h_t_awakeIn h_t_worths h_t_plants h_t_sheets h_t_bestFrom v_latestFinding)) [0] rfl) (hD.sub (ws' := (wd_X7_found cI cZ cP cS h_t h_t_red h_t_blue h_t_sky h_t_diary h_t_calendar h_t_awakeIn h_t_worths h_t_plants h_t_sheets h_t_bestFrom v_latestFinding)) [0] (by decide) rfl) rfl rfl) rfl rfl hl.1 rfl (lv_room (Nat.le_of_ble_eq_true rfl)) dX7_copy_66 ⟨Nat.zero_le _, Nat.zero_le _⟩) hS hA hP hD rfl (by decide) (by decide) rfl (by decide) rfl rfl (fun H locs hP hD hS => ?_)
                have hq0 := Option.some.inj hf
                obtain ⟨eq0, hq1⟩ := Prod.mk.inj hq0
                obtain ⟨eq1, hq2⟩ := Prod.mk.inj hq1
                clear hf hq0 hq1
                subst eq0
                subst eq1
                subst hq2
                exact W.iret hx hb hr (fun t ht hW => ⟨⟨_, (), rfl, rfl, by rw [ht]; exact hP, va_K.moved hW.alike hK, hD⟩, hS.F ht⟩) hS.2.2 dX7_copy_69
            · rw [if_pos c42] at hf
              exact hj45 ls (lv_sub hl [2] rfl) hf
        · rw [if_neg c9_2] at hf e_2
          by_cases c9_3 : x3 = 3
          · rw [if_pos c9_3] at hf e_2
            subst e_2
            refine W.eq (g2 := F0 m 12 ls [.ref h_t_s3]) rfl ?_
            refine lv_astore (lv' := [(7, .ref h_t_s3), (6, .ref h_t_s0), (0, .ref h_t), (1, .int x1), (2, .int x2), (3, .int x3), (4, .int x4), (5, .int x5)]) hx hb dX7_copy_12 hl (by decide) rfl (fun ls hl => ?_)
            refine lv_aload hx hb dX7_copy_14 (lv_at hl 1 rfl) ?_
            refine lv_ifnull hx hb dX7_copy_16 ?_
            refine lv_aload hx hb dX7_copy_19 (lv_at hl 0 rfl) ?_
            refine lv_ifnonnull (tgt := 27) hx hb dX7_copy_21 (by decide) ?_
            refine lv_aload hx hb dX7_copy_27 (lv_at hl 1 rfl) ?_
            refine va_get (D := (dC, dI)) (ci := 3) (v := .int (v_sform 0)) (C := RX3) (T := TX3) (N := 3) hx hb hts hinX3 hown hK hP 2 rfl rfl 0 (by decide) (hts (.fieldLink RX7 222 "SecondSunrise$Sheet" "form" "I") (by decide +kernel)) (fun _ h9 => h9) rfl dX7_copy_29 ?_
            refine lv_iconst (v := (-1)) hx hb dX7_copy_32 (by decide) ?_
            obtain ⟨k45, ek45, hf⟩ := jn0_e hf
            have hj45 : ∀ (ls : Array Slot), lv_has ls 8 [(0, .ref h_t)] → k45 = some (r, o_latestFinding, o_sitems) → W p l e (headSpec wsX7_copy rm_X7_copy).room s m ([.ref h_t, .int x1, .int x2, .int x3, .int x4, .int x5] : List Value).toArray below meth c H locs 0 0 (MQ below (RWi (dC, dI) (TY cI cZ cP cS) r s.heap.size (wd_X7_copy cI cZ cP cS h_t h_t_red h_t_blue h_t_sky h_t_diary h_t_calendar h_t_awakeIn h_t_worths h_t_plants h_t_sheets h_t_bestFrom h_t_s0 h_t_s1 h_t_s2 h_t_s3 h_t_s0_items h_t_s1_items h_t_s2_items h_t_s3_items v_latestFinding v_sform v_ssize v_sitems) (wd_X7_copy cI cZ cP cS h_t h_t_red h_t_blue h_t_sky h_t_diary h_t_calendar h_t_awakeIn h_t_worths h_t_plants h_t_sheets h_t_bestFrom h_t_s0 h_t_s1 h_t_s2 h_t_s3 h_t_s0_items h_t_s1_items h_t_s2_items h_t_s3_items o_latestFinding v_sform v_ssize o_sitems)) ([.ref h_t, .int x1, .int x2, .int x3, .int x4, .int x5] : List Value).toArray s 0 0 (va_A (wd_X7_copy cI cZ cP cS h_t h_t_red h_t_blue h_t_sky h_t_diary h_t_calendar h_t_awakeIn h_t_worths h_t_plants h_t_sheets h_t_bestFrom h_t_s0 h_t_s1 h_t_s2 h_t_s3 h_t_s0_items h_t_s1_items h_t_s2_items h_t_s3_items v_latestFinding v_sform v_ssize v_sitems) s.heap.size)) (F0 m 45 ls []) := by
              intro ls hl hf
              rw [ek45] at hf
              refine lv_aload_n hx hb dX7_copy_45 rfl (lv_at hl 0 rfl) ?_
              refine lv_iconst (v := 1) hx hb dX7_copy_46 (by decide) ?_
              obtain ⟨r47_66, o47_67, hc_68, hf⟩ := bd2_e hf
              refine rwi_call (isC := [0]) (isR := [1, 2, 3, 4, 5, 6, 7, 8, 9]) (perm := [9, 0, 1, 2, 3, 4, 5, 6, 7, 8]) (wr := [(h_t_sheets, .inl (cS, 4, .inr (.inr (.inr (.inr (ar4 h_t_s0 h_t_s1 h_t_s2 h_t_s3)))))), (h_t_s0, .inr (3, [.int (v_sform 0), .int (v_ssize 0), .ref h_t_s0_items])), (h_t_s0_items, .inl (cI, 48, .inl (v_sitems 0))), (h_t_s1, .inr (3, [.int (v_sform 1), .int (v_ssize 1), .ref h_t_s1_items])), (h_t_s1_items, .inl (cI, 48, .inl (v_sitems 1))), (h_t_s2, .inr (3, [.int (v_sform 2), .int (v_ssize 2), .ref h_t_s2_items])), (h_t_s2_items, .inl (cI, 48, .inl (v_sitems 2))), (h_t_s3, .inr (3, [.int (v_sform 3), .int (v_ssize 3), .ref h_t_s3_items])), (h_t_s3_items, .inl (cI, 48, .inl (v_sitems 3)))]) (ws2 := (wd_X7_copy cI cZ cP cS h_t h_t_red h_t_blue h_t_sky h_t_diary h_t_calendar h_t_awakeIn h_t_worths h_t_plants h_t_sheets h_t_bestFrom h_t_s0 h_t_s1 h_t_s2 h_t_s3 h_t_s0_items h_t_s1_items h_t_s2_items h_t_s3_items o47_67 v_sform v_ssize v_sitems)) (va_runV (As := [.int 1]) (rest := []) ⟨hx, hb, hml, hown, hts⟩ (c_X7_found l dC dI cI cZ cP cS H.size h_t h_t_red h_t_blue h_t_sky h_t_diary h_t_calendar h_t_awakeIn h_t_worths h_t_plants h_t_sheets h_t_bestFrom v_latestFinding 1 n r47_66 o47_67 hc_68) (cwV 1 hts gX7_copy_X7_found rfl rfl rfl (by decide +kernel) ⟨Nat.le_of_ble_eq_true rfl, Nat.le_of_ble_eq_true rfl⟩) (pv_rw (ci := 6) (q0 := 0) hK (hP.sub (ws' := (wd_X7_found cI cZ cP cS h_t h_t_red h_t_blue h_t_sky h_t_diary h_t_calendar h_t_awakeIn h_t_worths h_t_plants h_t_sheets h_t_bestFrom v_latestFinding)) [0] rfl) (hD.sub (ws' := (wd_X7_found cI cZ cP cS h_t h_t_red h_t_blue h_t_sky h_t_diary h_t_calendar h_t_awakeIn h_t_worths h_t_plants h_t_sheets h_t_bestFrom v_latestFinding)) [0] (by decide) rfl) rfl rfl) rfl rfl hl.1 rfl (lv_room (Nat.le_of_ble_eq_true rfl)) dX7_copy_47 ⟨Nat.zero_le _, Nat.zero_le _⟩) hS hA hP hD rfl (by decide) (by decide) rfl (by decide) rfl rfl (fun H locs hP hD hS => ?_)
              have hq0 := Option.some.inj hf
              obtain ⟨eq0, hq1⟩ := Prod.mk.inj hq0
              obtain ⟨eq1, hq2⟩ := Prod.mk.inj hq1
              clear hf hq0 hq1
              subst eq0
              subst eq1
              subst hq2
              exact W.iret hx hb hr (fun t ht hW => ⟨⟨_, (), rfl, rfl, by rw [ht]; exact hP, va_K.moved hW.alike hK, hD⟩, hS.F ht⟩) hS.2.2 dX7_copy_50
            refine lv_icmp_eq (tgt := 45) hx hb dX7_copy_33 (by decide) (fun c33 => ?_) (fun c33 => ?_)
            · rw [if_pos c33] at hf
              exact hj45 ls (lv_sub hl [2] rfl) hf
            · rw [if_neg c33] at hf
              refine lv_aload hx hb dX7_copy_36 (lv_at hl 0 rfl) ?_
              refine va_get (D := (dC, dI)) (ci := 3) (v := .int (v_sform 3)) (C := RX3) (T := TX3) (N := 3) hx hb hts hinX3 hown hK hP 8 rfl rfl 0 (by decide) (hts (.fieldLink RX7 222 "SecondSunrise$Sheet" "form" "I") (by decide +kernel)) (fun _ h9 => h9) rfl dX7_copy_38 ?_
              refine lv_iconst (v := (-1)) hx hb dX7_copy_41 (by decide) ?_
              refine lv_icmp_ne (tgt := 51) hx hb dX7_copy_42 (by decide) (fun c42 => ?_) (fun c42 => ?_)
              · rw [if_neg c42] at hf
                refine lv_aload hx hb dX7_copy_51 (lv_at hl 1 rfl) ?_
                refine va_get (D := (dC, dI)) (ci := 3) (v := .int (v_sform 0)) (C := RX3) (T := TX3) (N := 3) hx hb hts hinX3 hown hK hP 2 rfl rfl 0 (by decide) (hts (.fieldLink RX7 222 "SecondSunrise$Sheet" "form" "I") (by decide +kernel)) (fun _ h9 => h9) rfl dX7_copy_53 ?_
                refine lv_aload hx hb dX7_copy_56 (lv_at hl 0 rfl) ?_
                refine va_get (D := (dC, dI)) (ci := 3) (v := .int (v_sform 3)) (C := RX3) (T := TX3) (N := 3) hx hb hts hinX3 hown hK hP 8 rfl rfl 0 (by decide) (hts (.fieldLink RX7 222 "SecondSunrise$Sheet" "form" "I") (by decide +kernel)) (fun _ h9 => h9) rfl dX7_copy_58 ?_
                refine lv_icmp_eq (tgt := 70) hx hb dX7_copy_61 (by decide) (fun c61 => ?_) (fun c61 => ?_)
                · rw [if_pos c61] at hf
                  refine lv_aload hx hb dX7_copy_70 (lv_at hl 1 rfl) ?_
                  refine lv_iload_n hx hb dX7_copy_72 rfl (lv_at hl 4 rfl) ?_
                  refine lv_iload hx hb dX7_copy_73 (lv_at hl 7 rfl) ?_
                  obtain ⟨r75_70, hc_71, hf⟩ := bd1_e hf
                  refine vp_callSi (va_runV (As := [.int x2, .int x5]) (rest := []) ⟨hx, hb, hml, hown, hts⟩ (c_X3_holds l dC dI cI cZ cP cS h_t_s0 h_t_s0_items (v_sform 0) (v_ssize 0) x2 x5 n r75_70 hc_71) (cwV 2 hts gX7_copy_X3_holds rfl rfl rfl (by decide +kernel) ⟨Nat.le_of_ble_eq_true rfl, Nat.le_of_ble_eq_true rfl⟩) (pv_ro (ci := 3) (q0 := 0) hK (hP.sub (ws' := (wd_X3_holds cI cZ cP cS h_t_s0 h_t_s0_items (v_sform 0) (v_ssize 0))) [2] rfl) rfl rfl) rfl rfl hl.1 rfl (lv_room (Nat.le_of_ble_eq_true rfl)) dX7_copy_75 ⟨Nat.zero_le _, Nat.zero_le _⟩).run (fun x e_72 => ?_)
                  obtain ⟨e_72, hb_73⟩ := e_72
                  rw [e_72] at hb_73 ⊢
                  obtain ⟨k93, ek93, hf⟩ := jn0_e hf
                  have hj93 : ∀ (ls : Array Slot), lv_has ls 8 [(0, .ref h_t)] → k93 = some (r, o_latestFinding, o_sitems) → W p l e (headSpec wsX7_copy rm_X7_copy).room s m ([.ref h_t, .int x1, .int x2, .int x3, .int x4, .int x5] : List Value).toArray below meth c H locs 0 0 (MQ below (RWi (dC, dI) (TY cI cZ cP cS) r s.heap.size (wd_X7_copy cI cZ cP cS h_t h_t_red h_t_blue h_t_sky h_t_diary h_t_calendar h_t_awakeIn h_t_worths h_t_plants h_t_sheets h_t_bestFrom h_t_s0 h_t_s1 h_t_s2 h_t_s3 h_t_s0_items h_t_s1_items h_t_s2_items h_t_s3_items v_latestFinding v_sform v_ssize v_sitems) (wd_X7_copy cI cZ cP cS h_t h_t_red h_t_blue h_t_sky h_t_diary h_t_calendar h_t_awakeIn h_t_worths h_t_plants h_t_sheets h_t_bestFrom h_t_s0 h_t_s1 h_t_s2 h_t_s3 h_t_s0_items h_t_s1_items h_t_s2_items h_t_s3_items o_latestFinding v_sform v_ssize o_sitems)) ([.ref h_t, .int x1, .int x2, .int x3, .int x4, .int x5] : List Value).toArray s 0 0 (va_A (wd_X7_copy cI cZ cP cS h_t h_t_red h_t_blue h_t_sky h_t_diary h_t_calendar h_t_awakeIn h_t_worths h_t_plants h_t_sheets h_t_bestFrom h_t_s0 h_t_s1 h_t_s2 h_t_s3 h_t_s0_items h_t_s1_items h_t_s2_items h_t_s3_items v_latestFinding v_sform v_ssize v_sitems) s.heap.size)) (F0 m 93 ls []) := by
                    intro ls hl hf
                    rw [ek93] at hf
                    refine lv_aload_n hx hb dX7_copy_93 rfl (lv_at hl 0 rfl) ?_
                    refine lv_iconst (v := 2) hx hb dX7_copy_94 (by decide) ?_
                    obtain ⟨r95_74, o95_75, hc_76, hf⟩ := bd2_e hf
                    refine rwi_call (isC := [0]) (isR := [1, 2, 3, 4, 5, 6, 7, 8, 9]) (perm := [9, 0, 1, 2, 3, 4, 5, 6, 7, 8]) (wr := [(h_t_sheets, .inl (cS, 4, .inr (.inr (.inr (.inr (ar4 h_t_s0 h_t_s1 h_t_s2 h_t_s3)))))), (h_t_s0, .inr (3, [.int (v_sform 0), .int (v_ssize 0), .ref h_t_s0_items])), (h_t_s0_items, .inl (cI, 48, .inl (v_sitems 0))), (h_t_s1, .inr (3, [.int (v_sform 1), .int (v_ssize 1), .ref h_t_s1_items])), (h_t_s1_items, .inl (cI, 48, .inl (v_sitems 1))), (h_t_s2, .inr (3, [.int (v_sform 2), .int (v_ssize 2), .ref h_t_s2_items])), (h_t_s2_items, .inl (cI, 48, .inl (v_sitems 2))), (h_t_s3, .inr (3, [.int (v_sform 3), .int (v_ssize 3), .ref h_t_s3_items])), (h_t_s3_items, .inl (cI, 48, .inl (v_sitems 3)))]) (ws2 := (wd_X7_copy cI cZ cP cS h_t h_t_red h_t_blue h_t_sky h_t_diary h_t_calendar h_t_awakeIn h_t_worths h_t_plants h_t_sheets h_t_bestFrom h_t_s0 h_t_s1 h_t_s2 h_t_s3 h_t_s0_items h_t_s1_items h_t_s2_items h_t_s3_items o95_75 v_sform v_ssize v_sitems)) (va_runV (As := [.int 2]) (rest := []) ⟨hx, hb, hml, hown, hts⟩ (c_X7_found l dC dI cI cZ cP cS H.size h_t h_t_red h_t_blue h_t_sky h_t_diary h_t_calendar h_t_awakeIn h_t_worths h_t_plants h_t_sheets h_t_bestFrom v_latestFinding 2 n r95_74 o95_75 hc_76) (cwV 1 hts gX7_copy_X7_found rfl rfl rfl (by decide +kernel) ⟨Nat.le_of_ble_eq_true rfl, Nat.le_of_ble_eq_true rfl⟩) (pv_rw (ci := 6) (q0 := 0) hK (hP.sub (ws' := (wd_X7_found cI cZ cP cS h_t h_t_red h_t_blue h_t_sky h_t_diary h_t_calendar h_t_awakeIn h_t_worths h_t_plants h_t_sheets h_t_bestFrom v_latestFinding)) [0] rfl) (hD.sub (ws' := (wd_X7_found cI cZ cP cS h_t h_t_red h_t_blue h_t_sky h_t_diary h_t_calendar h_t_awakeIn h_t_worths h_t_plants h_t_sheets h_t_bestFrom v_latestFinding)) [0] (by decide) rfl) rfl rfl) rfl rfl hl.1 rfl (lv_room (Nat.le_of_ble_eq_true rfl)) dX7_copy_95 ⟨Nat.zero_le _, Nat.zero_le _⟩) hS hA hP hD rfl (by decide) (by decide) rfl (by decide) rfl rfl (fun H locs hP hD hS => ?_)
                    have hq0 := Option.some.inj hf
                    obtain ⟨eq0, hq1⟩ := Prod.mk.inj hq0
                    obtain ⟨eq1, hq2⟩ := Prod.mk.inj hq1
                    clear hf hq0 hq1
                    subst eq0
                    subst eq1
                    subst hq2
                    exact W.iret hx hb hr (fun t ht hW => ⟨⟨_, (), rfl, rfl, by rw [ht]; exact hP, va_K.moved hW.alike hK, hD⟩, hS.F ht⟩) hS.2.2 dX7_copy_98
                  refine lv_if_eq (tgt := 93) hx hb dX7_copy_78 (by decide) (fun c78 => ?_) (fun c78 => ?_)
                  · rw [if_pos c78] at hf
                    exact hj93 ls (lv_sub hl [2] rfl) hf
                  · rw [if_neg c78] at hf
                    refine lv_aload hx hb dX7_copy_81 (lv_at hl 0 rfl) ?_
                    refine lv_iload hx hb dX7_copy_83 (lv_at hl 6 rfl) ?_
                    refine lv_iload hx hb dX7_copy_85 (lv_at hl 7 rfl) ?_
                    obtain ⟨r87_78, hc_79, hf⟩ := bd1_e hf
                    refine vp_callSi (va_runV (As := [.int x4, .int x5]) (rest := []) ⟨hx, hb, hml, hown, hts⟩ (c_X3_holds l dC dI cI cZ cP cS h_t_s3 h_t_s3_items (v_sform 3) (v_ssize 3) x4 x5 n r87_78 hc_79) (cwV 2 hts gX7_copy_X3_holds rfl rfl rfl (by decide +kernel) ⟨Nat.le_of_ble_eq_true rfl, Nat.le_of_ble_eq_true rfl⟩) (pv_ro (ci := 3) (q0 := 0) hK (hP.sub (ws' := (wd_X3_holds cI cZ cP cS h_t_s3 h_t_s3_items (v_sform 3) (v_ssize 3))) [8] rfl) rfl rfl) rfl rfl hl.1 rfl (lv_room (Nat.le_of_ble_eq_true rfl)) dX7_copy_87 ⟨Nat.zero_le _, Nat.zero_le _⟩).run (fun x e_80 => ?_)
                    obtain ⟨e_80, hb_81⟩ := e_80
                    rw [e_80] at hb_81 ⊢
                    refine lv_if_ne (tgt := 99) hx hb dX7_copy_90 (by decide) (fun c90 => ?_) (fun c90 => ?_)
                    · rw [if_neg c90] at hf
                      refine lv_aload hx hb dX7_copy_99 (lv_at hl 1 rfl) ?_
                      refine va_get (D := (dC, dI)) (ci := 3) (v := .ref h_t_s0_items) (C := RX3) (T := TX3) (N := 3) hx hb hts hinX3 hown hK hP 2 rfl rfl 2 (by decide) (hts (.fieldLink RX7 229 "SecondSunrise$Sheet" "items" "[I") (by decide +kernel)) (fun _ h9 => h9) rfl dX7_copy_101 ?_
                      refine lv_iload_n hx hb dX7_copy_104 rfl (lv_at hl 4 rfl) ?_
                      refine lv_aload hx hb dX7_copy_105 (lv_at hl 0 rfl) ?_
                      refine va_get (D := (dC, dI)) (ci := 3) (v := .ref h_t_s3_items) (C := RX3) (T := TX3) (N := 3) hx hb hts hinX3 hown hK hP 8 rfl rfl 2 (by decide) (hts (.fieldLink RX7 229 "SecondSunrise$Sheet" "items" "[I") (by decide +kernel)) (fun _ h9 => h9) rfl dX7_copy_107 ?_
                      refine lv_iload hx hb dX7_copy_110 (lv_at hl 6 rfl) ?_
                      refine lv_iload hx hb dX7_copy_112 (lv_at hl 7 rfl) ?_
                      obtain ⟨⟨ha_821, ha_822, ha_823, ha_824, ha_825⟩, hf⟩ := ac_e hf
                      refine va_copyi hx hb (hml.trans hl.1.symm) hown (hts (.methodLink RX7 274 arraycopyName) (by decide +kernel)) (hts (.native arraycopyName) (by decide +kernel)) (hts (.static arraycopyName) (by decide +kernel)) (hts (.initialized "java/lang/System") (by decide +kernel)) hK hP hD hS 3 9 0 0 rfl rfl rfl rfl rfl ha_821 ha_822 ha_823 ha_824 ha_825 (fun _ _ => rfl) (Nat.le_of_ble_eq_true rfl) (by decide) dX7_copy_114 (fun H locs hP hD hS => ?_)
                      have hP : va_P (dC, dI) vwCl (wd_X7_copy cI cZ cP cS h_t h_t_red h_t_blue h_t_sky h_t_diary h_t_calendar h_t_awakeIn h_t_worths h_t_plants h_t_sheets h_t_bestFrom h_t_s0 h_t_s1 h_t_s2 h_t_s3 h_t_s0_items h_t_s1_items h_t_s2_items h_t_s3_items v_latestFinding v_sform v_ssize (va_up v_sitems 3 (va_cpy (v_sitems 0) (v_sitems 3) x2.toNatClampNeg x4.toNatClampNeg x5.toNatClampNeg))) H := hP
                      have hD : va_D (va_A (wd_X7_copy cI cZ cP cS h_t h_t_red h_t_blue h_t_sky h_t_diary h_t_calendar h_t_awakeIn h_t_worths h_t_plants h_t_sheets h_t_bestFrom h_t_s0 h_t_s1 h_t_s2 h_t_s3 h_t_s0_items h_t_s1_items h_t_s2_items h_t_s3_items v_latestFinding v_sform v_ssize v_sitems) s.heap.size) (wd_X7_copy cI cZ cP cS h_t h_t_red h_t_blue h_t_sky h_t_diary h_t_calendar h_t_awakeIn h_t_worths h_t_plants h_t_sheets h_t_bestFrom h_t_s0 h_t_s1 h_t_s2 h_t_s3 h_t_s0_items h_t_s1_items h_t_s2_items h_t_s3_items v_latestFinding v_sform v_ssize (va_up v_sitems 3 (va_cpy (v_sitems 0) (v_sitems 3) x2.toNatClampNeg x4.toNatClampNeg x5.toNatClampNeg))) := hD
                      refine lv_iconst (v := 1) hx hb dX7_copy_117 (by decide) ?_
                      have hq0 := Option.some.inj hf
                      obtain ⟨eq0, hq1⟩ := Prod.mk.inj hq0
                      obtain ⟨eq1, hq2⟩ := Prod.mk.inj hq1
                      clear hf hq0 hq1
                      subst eq0
                      subst eq1
                      subst hq2
                      exact W.iret hx hb hr (fun t ht hW => ⟨⟨_, (), rfl, rfl, by rw [ht]; exact hP, va_K.moved hW.alike hK, hD⟩, hS.F ht⟩) hS.2.2 dX7_copy_118
                    · rw [if_pos c90] at hf
                      exact hj93 ls (lv_sub hl [2] rfl) hf
                · rw [if_neg c61] at hf
                  refine lv_aload_n hx hb dX7_copy_64 rfl (lv_at hl 2 rfl) ?_
                  refine lv_iconst (v := 4) hx hb dX7_copy_65 (by decide) ?_
                  obtain ⟨r66_83, o66_84, hc_85, hf⟩ := bd2_e hf
                  refine rwi_call (isC := [0]) (isR := [1, 2, 3, 4, 5, 6, 7, 8, 9]) (perm := [9, 0, 1, 2, 3, 4, 5, 6, 7, 8]) (wr := [(h_t_sheets, .inl (cS, 4, .inr (.inr (.inr (.inr (ar4 h_t_s0 h_t_s1 h_t_s2 h_t_s3)))))), (h_t_s0, .inr (3, [.int (v_sform 0), .int (v_ssize 0), .ref h_t_s0_items])), (h_t_s0_items, .inl (cI, 48, .inl (v_sitems 0))), (h_t_s1, .inr (3, [.int (v_sform 1), .int (v_ssize 1), .ref h_t_s1_items])), (h_t_s1_items, .inl (cI, 48, .inl (v_sitems 1))), (h_t_s2, .inr (3, [.int (v_sform 2), .int (v_ssize 2), .ref h_t_s2_items])), (h_t_s2_items, .inl (cI, 48, .inl (v_sitems 2))), (h_t_s3, .inr (3, [.int (v_sform 3), .int (v_ssize 3), .ref h_t_s3_items])), (h_t_s3_items, .inl (cI, 48, .inl (v_sitems 3)))]) (ws2 := (wd_X7_copy cI cZ cP cS h_t h_t_red h_t_blue h_t_sky h_t_diary h_t_calendar h_t_awakeIn h_t_worths h_t_plants h_t_sheets h_t_bestFrom h_t_s0 h_t_s1 h_t_s2 h_t_s3 h_t_s0_items h_t_s1_items h_t_s2_items h_t_s3_items o66_84 v_sform v_ssize v_sitems)) (va_runV (As := [.int 4]) (rest := []) ⟨hx, hb, hml, hown, hts⟩ (c_X7_found l dC dI cI cZ cP cS H.size h_t h_t_red h_t_blue h_t_sky h_t_diary h_t_calendar h_t_awakeIn h_t_worths h_t_plants h_t_sheets h_t_bestFrom v_latestFinding 4 n r66_83 o66_84 hc_85) (cwV 1 hts gX7_copy_X7_found rfl rfl rfl (by decide +kernel) ⟨Nat.le_of_ble_eq_true rfl, Nat.le_of_ble_eq_true rfl⟩) (pv_rw (ci := 6) (q0 := 0) hK (hP.sub (ws' := (wd_X7_found cI cZ cP cS h_t h_t_red h_t_blue h_t_sky h_t_diary h_t_calendar h_t_awakeIn h_t_worths h_t_plants h_t_sheets h_t_bestFrom v_latestFinding)) [0] rfl) (hD.sub (ws' := (wd_X7_found cI cZ cP cS h_t h_t_red h_t_blue h_t_sky h_t_diary h_t_calendar h_t_awakeIn h_t_worths h_t_plants h_t_sheets h_t_bestFrom v_latestFinding)) [0] (by decide) rfl) rfl rfl) rfl rfl hl.1 rfl (lv_room (Nat.le_of_ble_eq_true rfl)) dX7_copy_66 ⟨Nat.zero_le _, Nat.zero_le _⟩) hS hA hP hD rfl (by decide) (by decide) rfl (by decide) rfl rfl (fun H locs hP hD hS => ?_)
                  have hq0 := Option.some.inj hf
                  obtain ⟨eq0, hq1⟩ := Prod.mk.inj hq0
                  obtain ⟨eq1, hq2⟩ := Prod.mk.inj hq1
                  clear hf hq0 hq1
                  subst eq0
                  subst eq1
                  subst hq2
                  exact W.iret hx hb hr (fun t ht hW => ⟨⟨_, (), rfl, rfl, by rw [ht]; exact hP, va_K.moved hW.alike hK, hD⟩, hS.F ht⟩) hS.2.2 dX7_copy_69
              · rw [if_pos c42] at hf
                exact hj45 ls (lv_sub hl [2] rfl) hf
          · rw [if_neg c9_3] at hf e_2
            subst e_2
            refine W.eq (g2 := F0 m 12 ls [.null]) rfl ?_
            refine lv_astoreN (lv' := [(7, .null), (6, .ref h_t_s0), (0, .ref h_t), (1, .int x1), (2, .int x2), (3, .int x3), (4, .int x4), (5, .int x5)]) hx hb dX7_copy_12 hl (by decide) rfl (fun ls hl => ?_)
            refine lv_aload hx hb dX7_copy_14 (lv_at hl 1 rfl) ?_
            refine lv_ifnull hx hb dX7_copy_16 ?_
            refine lv_aloadN hx hb dX7_copy_19 (lv_at hl 0 rfl) ?_
            refine lv_ifnonnullN hx hb dX7_copy_21 ?_
            refine lv_bipush (v := (-2)) hx hb dX7_copy_24 (by decide) ?_
            have hq0 := Option.some.inj hf
            obtain ⟨eq0, hq1⟩ := Prod.mk.inj hq0
            obtain ⟨eq1, hq2⟩ := Prod.mk.inj hq1
            clear hf hq0 hq1
            subst eq0
            subst eq1
            subst hq2
            exact W.iret hx hb hr (fun t ht hW => ⟨⟨_, (), rfl, rfl, by rw [ht]; exact hP, va_K.moved hW.alike hK, hD⟩, hS.F ht⟩) hS.2.2 dX7_copy_26
  · rw [if_neg c2_0] at hf e_1
    by_cases c2_1 : x1 = 1
    · rw [if_pos c2_1] at hf e_1
      subst e_1
      refine W.eq (g2 := F0 m 5 ls [.ref h_t_s1]) rfl ?_
      refine lv_astore (lv' := [(6, .ref h_t_s1), (0, .ref h_t), (1, .int x1), (2, .int x2), (3, .int x3), (4, .int x4), (5, .int x5)]) hx hb dX7_copy_5 hl (by decide) rfl (fun ls hl => ?_)
      refine lv_aload_n hx hb dX7_copy_7 rfl (lv_at hl 1 rfl) ?_
      refine lv_iload_n hx hb dX7_copy_8 rfl (lv_at hl 4 rfl) ?_
      refine va_csq (va_runV (As := [.int x3]) (rest := []) ⟨hx, hb, hml, hown, hts⟩ (c_X7_sheetOf l dC dI cI cZ cP cS h_t h_t_red h_t_blue h_t_sky h_t_diary h_t_calendar h_t_awakeIn h_t_worths h_t_plants h_t_sheets h_t_bestFrom h_t_s0 h_t_s1 h_t_s2 h_t_s3 v_latestFinding x3) (cwV 1 hts gX7_copy_X7_sheetOf rfl rfl rfl (by decide +kernel) ⟨Nat.le_of_ble_eq_true rfl, Nat.le_of_ble_eq_true rfl⟩) (pv_ro (ci := 6) (q0 := 0) hK (hP.sub (ws' := (wd_X7_sheetOf cI cZ cP cS h_t h_t_red h_t_blue h_t_sky h_t_diary h_t_calendar h_t_awakeIn h_t_worths h_t_plants h_t_sheets h_t_bestFrom h_t_s0 h_t_s1 h_t_s2 h_t_s3 v_latestFinding)) [0, 1] rfl) rfl rfl) rfl rfl hl.1 rfl (lv_room (Nat.le_of_ble_eq_true rfl)) dX7_copy_9 ⟨Nat.zero_le _, Nat.zero_le _⟩).run (fun x e_87 => ?_)
      by_cases c9_0 : x3 = 0
      · rw [if_pos c9_0] at hf e_87
        subst e_87
        refine W.eq (g2 := F0 m 12 ls [.ref h_t_s0]) rfl ?_
        refine lv_astore (lv' := [(7, .ref h_t_s0), (6, .ref h_t_s1), (0, .ref h_t), (1, .int x1), (2, .int x2), (3, .int x3), (4, .int x4), (5, .int x5)]) hx hb dX7_copy_12 hl (by decide) rfl (fun ls hl => ?_)
        refine lv_aload hx hb dX7_copy_14 (lv_at hl 1 rfl) ?_
        refine lv_ifnull hx hb dX7_copy_16 ?_
        refine lv_aload hx hb dX7_copy_19 (lv_at hl 0 rfl) ?_
        refine lv_ifnonnull (tgt := 27) hx hb dX7_copy_21 (by decide) ?_
        refine lv_aload hx hb dX7_copy_27 (lv_at hl 1 rfl) ?_
        refine va_get (D := (dC, dI)) (ci := 3) (v := .int (v_sform 1)) (C := RX3) (T := TX3) (N := 3) hx hb hts hinX3 hown hK hP 4 rfl rfl 0 (by decide) (hts (.fieldLink RX7 222 "SecondSunrise$Sheet" "form" "I") (by decide +kernel)) (fun _ h9 => h9) rfl dX7_copy_29 ?_
        refine lv_iconst (v := (-1)) hx hb dX7_copy_32 (by decide) ?_
        obtain ⟨k45, ek45, hf⟩ := jn0_e hf
        have hj45 : ∀ (ls : Array Slot), lv_has ls 8 [(0, .ref h_t)] → k45 = some (r, o_latestFinding, o_sitems) → W p l e (headSpec wsX7_copy rm_X7_copy).room s m ([.ref h_t, .int x1, .int x2, .int x3, .int x4, .int x5] : List Value).toArray below meth c H locs 0 0 (MQ below (RWi (dC, dI) (TY cI cZ cP cS) r s.heap.size (wd_X7_copy cI cZ cP cS h_t h_t_red h_t_blue h_t_sky h_t_diary h_t_calendar h_t_awakeIn h_t_worths h_t_plants h_t_sheets h_t_bestFrom h_t_s0 h_t_s1 h_t_s2 h_t_s3 h_t_s0_items h_t_s1_items h_t_s2_items h_t_s3_items v_latestFinding v_sform v_ssize v_sitems) (wd_X7_copy cI cZ cP cS h_t h_t_red h_t_blue h_t_sky h_t_diary h_t_calendar h_t_awakeIn h_t_worths h_t_plants h_t_sheets h_t_bestFrom h_t_s0 h_t_s1 h_t_s2 h_t_s3 h_t_s0_items h_t_s1_items h_t_s2_items h_t_s3_items o_latestFinding v_sform v_ssize o_sitems)) ([.ref h_t, .int x1, .int x2, .int x3, .int x4, .int x5] : List Value).toArray s 0 0 (va_A (wd_X7_copy cI cZ cP cS h_t h_t_red h_t_blue h_t_sky h_t_diary h_t_calendar h_t_awakeIn h_t_worths h_t_plants h_t_sheets h_t_bestFrom h_t_s0 h_t_s1 h_t_s2 h_t_s3 h_t_s0_items h_t_s1_items h_t_s2_items h_t_s3_items v_latestFinding v_sform v_ssize v_sitems) s.heap.size)) (F0 m 45 ls []) := by
          intro ls hl hf
          rw [ek45] at hf
          refine lv_aload_n hx hb dX7_copy_45 rfl (lv_at hl 0 rfl) ?_
          refine lv_iconst (v := 1) hx hb dX7_copy_46 (by decide) ?_
          obtain ⟨r47_88, o47_89, hc_90, hf⟩ := bd2_e hf
          refine rwi_call (isC := [0]) (isR := [1, 2, 3, 4, 5, 6, 7, 8, 9]) (perm := [9, 0, 1, 2, 3, 4, 5, 6, 7, 8]) (wr := [(h_t_sheets, .inl (cS, 4, .inr (.inr (.inr (.inr (ar4 h_t_s0 h_t_s1 h_t_s2 h_t_s3)))))), (h_t_s0, .inr (3, [.int (v_sform 0), .int (v_ssize 0), .ref h_t_s0_items])), (h_t_s0_items, .inl (cI, 48, .inl (v_sitems 0))), (h_t_s1, .inr (3, [.int (v_sform 1), .int (v_ssize 1), .ref h_t_s1_items])), (h_t_s1_items, .inl (cI, 48, .inl (v_sitems 1))), (h_t_s2, .inr (3, [.int (v_sform 2), .int (v_ssize 2), .ref h_t_s2_items])), (h_t_s2_items, .inl (cI, 48, .inl (v_sitems 2))), (h_t_s3, .inr (3, [.int (v_sform 3), .int (v_ssize 3), .ref h_t_s3_items])), (h_t_s3_items, .inl (cI, 48, .inl (v_sitems 3)))]) (ws2 := (wd_X7_copy cI cZ cP cS h_t h_t_red h_t_blue h_t_sky h_t_diary h_t_calendar h_t_awakeIn h_t_worths h_t_plants h_t_sheets h_t_bestFrom h_t_s0 h_t_s1 h_t_s2 h_t_s3 h_t_s0_items h_t_s1_items h_t_s2_items h_t_s3_items o47_89 v_sform v_ssize v_sitems)) (va_runV (As := [.int 1]) (rest := []) ⟨hx, hb, hml, hown, hts⟩ (c_X7_found l dC dI cI cZ cP cS H.size h_t h_t_red h_t_blue h_t_sky h_t_diary h_t_calendar h_t_awakeIn h_t_worths h_t_plants h_t_sheets h_t_bestFrom v_latestFinding 1 n r47_88 o47_89 hc_90) (cwV 1 hts gX7_copy_X7_found rfl rfl rfl (by decide +kernel) ⟨Nat.le_of_ble_eq_true rfl, Nat.le_of_ble_eq_true rfl⟩) (pv_rw (ci := 6) (q0 := 0) hK (hP.sub (ws' := (wd_X7_found cI cZ cP cS h_t h_t_red h_t_blue h_t_sky h_t_diary h_t_calendar h_t_awakeIn h_t_worths h_t_plants h_t_sheets h_t_bestFrom v_latestFinding)) [0] rfl) (hD.sub (ws' := (wd_X7_found cI cZ cP cS h_t h_t_red h_t_blue h_t_sky h_t_diary h_t_calendar h_t_awakeIn h_t_worths h_t_plants h_t_sheets h_t_bestFrom v_latestFinding)) [0] (by decide) rfl) rfl rfl) rfl rfl hl.1 rfl (lv_room (Nat.le_of_ble_eq_true rfl)) dX7_copy_47 ⟨Nat.zero_le _, Nat.zero_le _⟩) hS hA hP hD rfl (by decide) (by decide) rfl (by decide) rfl rfl (fun H locs hP hD hS => ?_)
          have hq0 := Option.some.inj hf
          obtain ⟨eq0, hq1⟩ := Prod.mk.inj hq0
          obtain ⟨eq1, hq2⟩ := Prod.mk.inj hq1
          clear hf hq0 hq1
          subst eq0
          subst eq1
          subst hq2
          exact W.iret hx hb hr (fun t ht hW => ⟨⟨_, (), rfl, rfl, by rw [ht]; exact hP, va_K.moved hW.alike hK, hD⟩, hS.F ht⟩) hS.2.2 dX7_copy_50
        refine lv_icmp_eq (tgt := 45) hx hb dX7_copy_33 (by decide) (fun c33 => ?_) (fun c33 => ?_)
        · rw [if_pos c33] at hf
          exact hj45 ls (lv_sub hl [2] rfl) hf
        · rw [if_neg c33] at hf
          refine lv_aload hx hb dX7_copy_36 (lv_at hl 0 rfl) ?_
          refine va_get (D := (dC, dI)) (ci := 3) (v := .int (v_sform 0)) (C := RX3) (T := TX3) (N := 3) hx hb hts hinX3 hown hK hP 2 rfl rfl 0 (by decide) (hts (.fieldLink RX7 222 "SecondSunrise$Sheet" "form" "I") (by decide +kernel)) (fun _ h9 => h9) rfl dX7_copy_38 ?_
          refine lv_iconst (v := (-1)) hx hb dX7_copy_41 (by decide) ?_
          refine lv_icmp_ne (tgt := 51) hx hb dX7_copy_42 (by decide) (fun c42 => ?_) (fun c42 => ?_)
          · rw [if_neg c42] at hf
            refine lv_aload hx hb dX7_copy_51 (lv_at hl 1 rfl) ?_
            refine va_get (D := (dC, dI)) (ci := 3) (v := .int (v_sform 1)) (C := RX3) (T := TX3) (N := 3) hx hb hts hinX3 hown hK hP 4 rfl rfl 0 (by decide) (hts (.fieldLink RX7 222 "SecondSunrise$Sheet" "form" "I") (by decide +kernel)) (fun _ h9 => h9) rfl dX7_copy_53 ?_
            refine lv_aload hx hb dX7_copy_56 (lv_at hl 0 rfl) ?_
            refine va_get (D := (dC, dI)) (ci := 3) (v := .int (v_sform 0)) (C := RX3) (T := TX3) (N := 3) hx hb hts hinX3 hown hK hP 2 rfl rfl 0 (by decide) (hts (.fieldLink RX7 222 "SecondSunrise$Sheet" "form" "I") (by decide +kernel)) (fun _ h9 => h9) rfl dX7_copy_58 ?_
            refine lv_icmp_eq (tgt := 70) hx hb dX7_copy_61 (by decide) (fun c61 => ?_) (fun c61 => ?_)
            · rw [if_pos c61] at hf
              refine lv_aload hx hb dX7_copy_70 (lv_at hl 1 rfl) ?_
              refine lv_iload_n hx hb dX7_copy_72 rfl (lv_at hl 4 rfl) ?_
              refine lv_iload hx hb dX7_copy_73 (lv_at hl 7 rfl) ?_
              obtain ⟨r75_92, hc_93, hf⟩ := bd1_e hf
              refine vp_callSi (va_runV (As := [.int x2, .int x5]) (rest := []) ⟨hx, hb, hml, hown, hts⟩ (c_X3_holds l dC dI cI cZ cP cS h_t_s1 h_t_s1_items (v_sform 1) (v_ssize 1) x2 x5 n r75_92 hc_93) (cwV 2 hts gX7_copy_X3_holds rfl rfl rfl (by decide +kernel) ⟨Nat.le_of_ble_eq_true rfl, Nat.le_of_ble_eq_true rfl⟩) (pv_ro (ci := 3) (q0 := 0) hK (hP.sub (ws' := (wd_X3_holds cI cZ cP cS h_t_s1 h_t_s1_items (v_sform 1) (v_ssize 1))) [4] rfl) rfl rfl) rfl rfl hl.1 rfl (lv_room (Nat.le_of_ble_eq_true rfl)) dX7_copy_75 ⟨Nat.zero_le _, Nat.zero_le _⟩).run (fun x e_94 => ?_)
              obtain ⟨e_94, hb_95⟩ := e_94
              rw [e_94] at hb_95 ⊢
              obtain ⟨k93, ek93, hf⟩ := jn0_e hf
              have hj93 : ∀ (ls : Array Slot), lv_has ls 8 [(0, .ref h_t)] → k93 = some (r, o_latestFinding, o_sitems) → W p l e (headSpec wsX7_copy rm_X7_copy).room s m ([.ref h_t, .int x1, .int x2, .int x3, .int x4, .int x5] : List Value).toArray below meth c H locs 0 0 (MQ below (RWi (dC, dI) (TY cI cZ cP cS) r s.heap.size (wd_X7_copy cI cZ cP cS h_t h_t_red h_t_blue h_t_sky h_t_diary h_t_calendar h_t_awakeIn h_t_worths h_t_plants h_t_sheets h_t_bestFrom h_t_s0 h_t_s1 h_t_s2 h_t_s3 h_t_s0_items h_t_s1_items h_t_s2_items h_t_s3_items v_latestFinding v_sform v_ssize v_sitems) (wd_X7_copy cI cZ cP cS h_t h_t_red h_t_blue h_t_sky h_t_diary h_t_calendar h_t_awakeIn h_t_worths h_t_plants h_t_sheets h_t_bestFrom h_t_s0 h_t_s1 h_t_s2 h_t_s3 h_t_s0_items h_t_s1_items h_t_s2_items h_t_s3_items o_latestFinding v_sform v_ssize o_sitems)) ([.ref h_t, .int x1, .int x2, .int x3, .int x4, .int x5] : List Value).toArray s 0 0 (va_A (wd_X7_copy cI cZ cP cS h_t h_t_red h_t_blue h_t_sky h_t_diary h_t_calendar h_t_awakeIn h_t_worths h_t_plants h_t_sheets h_t_bestFrom h_t_s0 h_t_s1 h_t_s2 h_t_s3 h_t_s0_items h_t_s1_items h_t_s2_items h_t_s3_items v_latestFinding v_sform v_ssize v_sitems) s.heap.size)) (F0 m 93 ls []) := by
                intro ls hl hf
                rw [ek93] at hf
                refine lv_aload_n hx hb dX7_copy_93 rfl (lv_at hl 0 rfl) ?_
                refine lv_iconst (v := 2) hx hb dX7_copy_94 (by decide) ?_
                obtain ⟨r95_96, o95_97, hc_98, hf⟩ := bd2_e hf
                refine rwi_call (isC := [0]) (isR := [1, 2, 3, 4, 5, 6, 7, 8, 9]) (perm := [9, 0, 1, 2, 3, 4, 5, 6, 7, 8]) (wr := [(h_t_sheets, .inl (cS, 4, .inr (.inr (.inr (.inr (ar4 h_t_s0 h_t_s1 h_t_s2 h_t_s3)))))), (h_t_s0, .inr (3, [.int (v_sform 0), .int (v_ssize 0), .ref h_t_s0_items])), (h_t_s0_items, .inl (cI, 48, .inl (v_sitems 0))), (h_t_s1, .inr (3, [.int (v_sform 1), .int (v_ssize 1), .ref h_t_s1_items])), (h_t_s1_items, .inl (cI, 48, .inl (v_sitems 1))), (h_t_s2, .inr (3, [.int (v_sform 2), .int (v_ssize 2), .ref h_t_s2_items])), (h_t_s2_items, .inl (cI, 48, .inl (v_sitems 2))), (h_t_s3, .inr (3, [.int (v_sform 3), .int (v_ssize 3), .ref h_t_s3_items])), (h_t_s3_items, .inl (cI, 48, .inl (v_sitems 3)))]) (ws2 := (wd_X7_copy cI cZ cP cS h_t h_t_red h_t_blue h_t_sky h_t_diary h_t_calendar h_t_awakeIn h_t_worths h_t_plants h_t_sheets h_t_bestFrom h_t_s0 h_t_s1 h_t_s2 h_t_s3 h_t_s0_items h_t_s1_items h_t_s2_items h_t_s3_items o95_97 v_sform v_ssize v_sitems)) (va_runV (As := [.int 2]) (rest := []) ⟨hx, hb, hml, hown, hts⟩ (c_X7_found l dC dI cI cZ cP cS H.size h_t h_t_red h_t_blue h_t_sky h_t_diary h_t_calendar h_t_awakeIn h_t_worths h_t_plants h_t_sheets h_t_bestFrom v_latestFinding 2 n r95_96 o95_97 hc_98) (cwV 1 hts gX7_copy_X7_found rfl rfl rfl (by decide +kernel) ⟨Nat.le_of_ble_eq_true rfl, Nat.le_of_ble_eq_true rfl⟩) (pv_rw (ci := 6) (q0 := 0) hK (hP.sub (ws' := (wd_X7_found cI cZ cP cS h_t h_t_red h_t_blue h_t_sky h_t_diary h_t_calendar h_t_awakeIn h_t_worths h_t_plants h_t_sheets h_t_bestFrom v_latestFinding)) [0] rfl) (hD.sub (ws' := (wd_X7_found cI cZ cP cS h_t h_t_red h_t_blue h_t_sky h_t_diary h_t_calendar h_t_awakeIn h_t_worths h_t_plants h_t_sheets h_t_bestFrom v_latestFinding)) [0] (by decide) rfl) rfl rfl) rfl rfl hl.1 rfl (lv_room (Nat.le_of_ble_eq_true rfl)) dX7_copy_95 ⟨Nat.zero_le _, Nat.zero_le _⟩) hS hA hP hD rfl (by decide) (by decide) rfl (by decide) rfl rfl (fun H locs hP hD hS => ?_)
                have hq0 := Option.some.inj hf
                obtain ⟨eq0, hq1⟩ := Prod.mk.inj hq0
                obtain ⟨eq1, hq2⟩ := Prod.mk.inj hq1
                clear hf hq0 hq1
                subst eq0
                subst eq1
                subst hq2
                exact W.iret hx hb hr (fun t ht hW => ⟨⟨_, (), rfl, rfl, by rw [ht]; exact hP, va_K.moved hW.alike hK, hD⟩, hS.F ht⟩) hS.2.2 dX7_copy_98
              refine lv_if_eq (tgt := 93) hx hb dX7_copy_78 (by decide) (fun c78 => ?_) (fun c78 => ?_)
              · rw [if_pos c78] at hf
                exact hj93 ls (lv_sub hl [2] rfl) hf
              · rw [if_neg c78] at hf
                refine lv_aload hx hb dX7_copy_81 (lv_at hl 0 rfl) ?_
                refine lv_iload hx hb dX7_copy_83 (lv_at hl 6 rfl) ?_
                refine lv_iload hx hb dX7_copy_85 (lv_at hl 7 rfl) ?_
                obtain ⟨r87_100, hc_101, hf⟩ := bd1_e hf
                refine vp_callSi (va_runV (As := [.int x4, .int x5]) (rest := []) ⟨hx, hb, hml, hown, hts⟩ (c_X3_holds l dC dI cI cZ cP cS h_t_s0 h_t_s0_items (v_sform 0) (v_ssize 0) x4 x5 n r87_100 hc_101) (cwV 2 hts gX7_copy_X3_holds rfl rfl rfl (by decide +kernel) ⟨Nat.le_of_ble_eq_true rfl, Nat.le_of_ble_eq_true rfl⟩) (pv_ro (ci := 3) (q0 := 0) hK (hP.sub (ws' := (wd_X3_holds cI cZ cP cS h_t_s0 h_t_s0_items (v_sform 0) (v_ssize 0))) [2] rfl) rfl rfl) rfl rfl hl.1 rfl (lv_room (Nat.le_of_ble_eq_true rfl)) dX7_copy_87 ⟨Nat.zero_le _, Nat.zero_le _⟩).run (fun x e_102 => ?_)
                obtain ⟨e_102, hb_103⟩ := e_102
                rw [e_102] at hb_103 ⊢
                refine lv_if_ne (tgt := 99) hx hb dX7_copy_90 (by decide) (fun c90 => ?_) (fun c90 => ?_)
                · rw [if_neg c90] at hf
                  refine lv_aload hx hb dX7_copy_99 (lv_at hl 1 rfl) ?_
                  refine va_get (D := (dC, dI)) (ci := 3) (v := .ref h_t_s1_items) (C := RX3) (T := TX3) (N := 3) hx hb hts hinX3 hown hK hP 4 rfl rfl 2 (by decide) (hts (.fieldLink RX7 229 "SecondSunrise$Sheet" "items" "[I") (by decide +kernel)) (fun _ h9 => h9) rfl dX7_copy_101 ?_
                  refine lv_iload_n hx hb dX7_copy_104 rfl (lv_at hl 4 rfl) ?_
                  refine lv_aload hx hb dX7_copy_105 (lv_at hl 0 rfl) ?_
                  refine va_get (D := (dC, dI)) (ci := 3) (v := .ref h_t_s0_items) (C := RX3) (T := TX3) (N := 3) hx hb hts hinX3 hown hK hP 2 rfl rfl 2 (by decide) (hts (.fieldLink RX7 229 "SecondSunrise$Sheet" "items" "[I") (by decide +kernel)) (fun _ h9 => h9) rfl dX7_copy_107 ?_
                  refine lv_iload hx hb dX7_copy_110 (lv_at hl 6 rfl) ?_
                  refine lv_iload hx hb dX7_copy_112 (lv_at hl 7 rfl) ?_
                  obtain ⟨⟨ha_1041, ha_1042, ha_1043, ha_1044, ha_1045⟩, hf⟩ := ac_e hf
                  refine va_copyi hx hb (hml.trans hl.1.symm) hown (hts (.methodLink RX7 274 arraycopyName) (by decide +kernel)) (hts (.native arraycopyName) (by decide +kernel)) (hts (.static arraycopyName) (by decide +kernel)) (hts (.initialized "java/lang/System") (by decide +kernel)) hK hP hD hS 5 3 0 0 rfl rfl rfl rfl rfl ha_1041 ha_1042 ha_1043 ha_1044 ha_1045 (fun _ _ => rfl) (Nat.le_of_ble_eq_true rfl) (by decide) dX7_copy_114 (fun H locs hP hD hS => ?_)
                  have hP : va_P (dC, dI) vwCl (wd_X7_copy cI cZ cP cS h_t h_t_red h_t_blue h_t_sky h_t_diary h_t_calendar h_t_awakeIn h_t_worths h_t_plants h_t_sheets h_t_bestFrom h_t_s0 h_t_s1 h_t_s2 h_t_s3 h_t_s0_items h_t_s1_items h_t_s2_items h_t_s3_items v_latestFinding v_sform v_ssize (va_up v_sitems 0 (va_cpy (v_sitems 1) (v_sitems 0) x2.toNatClampNeg x4.toNatClampNeg x5.toNatClampNeg))) H := hP
                  have hD : va_D (va_A (wd_X7_copy cI cZ cP cS h_t h_t_red h_t_blue h_t_sky h_t_diary h_t_calendar h_t_awakeIn h_t_worths h_t_plants h_t_sheets h_t_bestFrom h_t_s0 h_t_s1 h_t_s2 h_t_s3 h_t_s0_items h_t_s1_items h_t_s2_items h_t_s3_items v_latestFinding v_sform v_ssize v_sitems) s.heap.size) (wd_X7_copy cI cZ cP cS h_t h_t_red h_t_blue h_t_sky h_t_diary h_t_calendar h_t_awakeIn h_t_worths h_t_plants h_t_sheets h_t_bestFrom h_t_s0 h_t_s1 h_t_s2 h_t_s3 h_t_s0_items h_t_s1_items h_t_s2_items h_t_s3_items v_latestFinding v_sform v_ssize (va_up v_sitems 0 (va_cpy (v_sitems 1) (v_sitems 0) x2.toNatClampNeg x4.toNatClampNeg x5.toNatClampNeg))) := hD
                  refine lv_iconst (v := 1) hx hb dX7_copy_117 (by decide) ?_
                  have hq0 := Option.some.inj hf
                  obtain ⟨eq0, hq1⟩ := Prod.mk.inj hq0
                  obtain ⟨eq1, hq2⟩ := Prod.mk.inj hq1
                  clear hf hq0 hq1
                  subst eq0
                  subst eq1
                  subst hq2
                  exact W.iret hx hb hr (fun t ht hW => ⟨⟨_, (), rfl, rfl, by rw [ht]; exact hP, va_K.moved hW.alike hK, hD⟩, hS.F ht⟩) hS.2.2 dX7_copy_118
                · rw [if_pos c90] at hf
                  exact hj93 ls (lv_sub hl [2] rfl) hf
            · rw [if_neg c61] at hf
              refine lv_aload_n hx hb dX7_copy_64 rfl (lv_at hl 2 rfl) ?_
              refine lv_iconst (v := 4) hx hb dX7_copy_65 (by decide) ?_
              obtain ⟨r66_105, o66_106, hc_107, hf⟩ := bd2_e hf
              refine rwi_call (isC := [0]) (isR := [1, 2, 3, 4, 5, 6, 7, 8, 9]) (perm := [9, 0, 1, 2, 3, 4, 5, 6, 7, 8]) (wr := [(h_t_sheets, .inl (cS, 4, .inr (.inr (.inr (.inr (ar4 h_t_s0 h_t_s1 h_t_s2 h_t_s3)))))), (h_t_s0, .inr (3, [.int (v_sform 0), .int (v_ssize 0), .ref h_t_s0_items])), (h_t_s0_items, .inl (cI, 48, .inl (v_sitems 0))), (h_t_s1, .inr (3, [.int (v_sform 1), .int (v_ssize 1), .ref h_t_s1_items])), (h_t_s1_items, .inl (cI, 48, .inl (v_sitems 1))), (h_t_s2, .inr (3, [.int (v_sform 2), .int (v_ssize 2), .ref h_t_s2_items])), (h_t_s2_items, .inl (cI, 48, .inl (v_sitems 2))), (h_t_s3, .inr (3, [.int (v_sform 3), .int (v_ssize 3), .ref h_t_s3_items])), (h_t_s3_items, .inl (cI, 48, .inl (v_sitems 3)))]) (ws2 := (wd_X7_copy cI cZ cP cS h_t h_t_red h_t_blue h_t_sky h_t_diary h_t_calendar h_t_awakeIn h_t_worths h_t_plants h_t_sheets h_t_bestFrom h_t_s0 h_t_s1 h_t_s2 h_t_s3 h_t_s0_items h_t_s1_items h_t_s2_items h_t_s3_items o66_106 v_sform v_ssize v_sitems)) (va_runV (As := [.int 4]) (rest := []) ⟨hx, hb, hml, hown, hts⟩ (c_X7_found l dC dI cI cZ cP cS H.size h_t h_t_red h_t_blue h_t_sky h_t_diary h_t_calendar h_t_awakeIn h_t_worths h_t_plants h_t_sheets h_t_bestFrom v_latestFinding 4 n r66_105 o66_106 hc_107) (cwV 1 hts gX7_copy_X7_found rfl rfl rfl (by decide +kernel) ⟨Nat.le_of_ble_eq_true rfl, Nat.le_of_ble_eq_true rfl⟩) (pv_rw (ci := 6) (q0 := 0) hK (hP.sub (ws' := (wd_X7_found cI cZ cP cS h_t h_t_red h_t_blue h_t_sky h_t_diary h_t_calendar h_t_awakeIn h_t_worths h_t_plants h_t_sheets h_t_bestFrom v_latestFinding)) [0] rfl) (hD.sub (ws' := (wd_X7_found cI cZ cP cS h_t h_t_red h_t_blue h_t_sky h_t_diary h_t_calendar h_t_awakeIn h_t_worths h_t_plants h_t_sheets h_t_bestFrom v_latestFinding)) [0] (by decide) rfl) rfl rfl) rfl rfl hl.1 rfl (lv_room (Nat.le_of_ble_eq_true rfl)) dX7_copy_66 ⟨Nat.zero_le _, Nat.zero_le _⟩) hS hA hP hD rfl (by decide) (by decide) rfl (by decide) rfl rfl (fun H locs hP hD hS => ?_)
              have hq0 := Option.some.inj hf
              obtain ⟨eq0, hq1⟩ := Prod.mk.inj hq0
              obtain ⟨eq1, hq2⟩ := Prod.mk.inj hq1
              clear hf hq0 hq1
              subst eq0
              subst eq1
              subst hq2
              exact W.iret hx hb hr (fun t ht hW => ⟨⟨_, (), rfl, rfl, by rw [ht]; exact hP, va_K.moved hW.alike hK, hD⟩, hS.F ht⟩) hS.2.2 dX7_copy_69
          · rw [if_pos c42] at hf
            exact hj45 ls (lv_sub hl [2] rfl) hf
      · rw [if_neg c9_0] at hf e_87
        by_cases c9_1 : x3 = 1
        · rw [if_pos c9_1] at hf e_87
          subst e_87
          refine W.eq (g2 := F0 m 12 ls [.ref h_t_s1]) rfl ?_
          refine lv_astore (lv' := [(7, .ref h_t_s1), (6, .ref h_t_s1), (0, .ref h_t), (1, .int x1), (2, .int x2), (3, .int x3), (4, .int x4), (5, .int x5)]) hx hb dX7_copy_12 hl (by decide) rfl (fun ls hl => ?_)
          refine lv_aload hx hb dX7_copy_14 (lv_at hl 1 rfl) ?_
          refine lv_ifnull hx hb dX7_copy_16 ?_
          refine lv_aload hx hb dX7_copy_19 (lv_at hl 0 rfl) ?_
          refine lv_ifnonnull (tgt := 27) hx hb dX7_copy_21 (by decide) ?_
          refine lv_aload hx hb dX7_copy_27 (lv_at hl 1 rfl) ?_
          refine va_get (D := (dC, dI)) (ci := 3) (v := .int (v_sform 1)) (C := RX3) (T := TX3) (N := 3) hx hb hts hinX3 hown hK hP 4 rfl rfl 0 (by decide) (hts (.fieldLink RX7 222 "SecondSunrise$Sheet" "form" "I") (by decide +kernel)) (fun _ h9 => h9) rfl dX7_copy_29 ?_
          refine lv_iconst (v := (-1)) hx hb dX7_copy_32 (by decide) ?_
          obtain ⟨k45, ek45, hf⟩ := jn0_e hf
          have hj45 : ∀ (ls : Array Slot), lv_has ls 8 [(0, .ref h_t)] → k45 = some (r, o_latestFinding, o_sitems) → W p l e (headSpec wsX7_copy rm_X7_copy).room s m ([.ref h_t, .int x1, .int x2, .int x3, .int x4, .int x5] : List Value).toArray below meth c H locs 0 0 (MQ below (RWi (dC, dI) (TY cI cZ cP cS) r s.heap.size (wd_X7_copy cI cZ cP cS h_t h_t_red h_t_blue h_t_sky h_t_diary h_t_calendar h_t_awakeIn h_t_worths h_t_plants h_t_sheets h_t_bestFrom h_t_s0 h_t_s1 h_t_s2 h_t_s3 h_t_s0_items h_t_s1_items h_t_s2_items h_t_s3_items v_latestFinding v_sform v_ssize v_sitems) (wd_X7_copy cI cZ cP cS h_t h_t_red h_t_blue h_t_sky h_t_diary h_t_calendar h_t_awakeIn h_t_worths h_t_plants h_t_sheets h_t_bestFrom h_t_s0 h_t_s1 h_t_s2 h_t_s3 h_t_s0_items h_t_s1_items h_t_s2_items h_t_s3_items o_latestFinding v_sform v_ssize o_sitems)) ([.ref h_t, .int x1, .int x2, .int x3, .int x4, .int x5] : List Value).toArray s 0 0 (va_A (wd_X7_copy cI cZ cP cS h_t h_t_red h_t_blue h_t_sky h_t_diary h_t_calendar h_t_awakeIn h_t_worths h_t_plants h_t_sheets h_t_bestFrom h_t_s0 h_t_s1 h_t_s2 h_t_s3 h_t_s0_items h_t_s1_items h_t_s2_items h_t_s3_items v_latestFinding v_sform v_ssize v_sitems) s.heap.size)) (F0 m 45 ls []) := by
            intro ls hl hf
            rw [ek45] at hf
            refine lv_aload_n hx hb dX7_copy_45 rfl (lv_at hl 0 rfl) ?_
            refine lv_iconst (v := 1) hx hb dX7_copy_46 (by decide) ?_
            obtain ⟨r47_109, o47_110, hc_111, hf⟩ := bd2_e hf
            refine rwi_call (isC := [0]) (isR := [1, 2, 3, 4, 5, 6, 7, 8, 9]) (perm := [9, 0, 1, 2, 3, 4, 5, 6, 7, 8]) (wr := [(h_t_sheets, .inl (cS, 4, .inr (.inr (.inr (.inr (ar4 h_t_s0 h_t_s1 h_t_s2 h_t_s3)))))), (h_t_s0, .inr (3, [.int (v_sform 0), .int (v_ssize 0), .ref h_t_s0_items])), (h_t_s0_items, .inl (cI, 48, .inl (v_sitems 0))), (h_t_s1, .inr (3, [.int (v_sform 1), .int (v_ssize 1), .ref h_t_s1_items])), (h_t_s1_items, .inl (cI, 48, .inl (v_sitems 1))), (h_t_s2, .inr (3, [.int (v_sform 2), .int (v_ssize 2), .ref h_t_s2_items])), (h_t_s2_items, .inl (cI, 48, .inl (v_sitems 2))), (h_t_s3, .inr (3, [.int (v_sform 3), .int (v_ssize 3), .ref h_t_s3_items])), (h_t_s3_items, .inl (cI, 48, .inl (v_sitems 3)))]) (ws2 := (wd_X7_copy cI cZ cP cS h_t h_t_red h_t_blue h_t_sky h_t_diary h_t_calendar h_t_awakeIn h_t_worths h_t_plants h_t_sheets h_t_bestFrom h_t_s0 h_t_s1 h_t_s2 h_t_s3 h_t_s0_items h_t_s1_items h_t_s2_items h_t_s3_items o47_110 v_sform v_ssize v_sitems)) (va_runV (As := [.int 1]) (rest := []) ⟨hx, hb, hml, hown, hts⟩ (c_X7_found l dC dI cI cZ cP cS H.size h_t h_t_red h_t_blue h_t_sky h_t_diary h_t_calendar h_t_awakeIn h_t_worths h_t_plants h_t_sheets h_t_bestFrom v_latestFinding 1 n r47_109 o47_110 hc_111) (cwV 1 hts gX7_copy_X7_found rfl rfl rfl (by decide +kernel) ⟨Nat.le_of_ble_eq_true rfl, Nat.le_of_ble_eq_true rfl⟩) (pv_rw (ci := 6) (q0 := 0) hK (hP.sub (ws' := (wd_X7_found cI cZ cP cS h_t h_t_red h_t_blue h_t_sky h_t_diary h_t_calendar h_t_awakeIn h_t_worths h_t_plants h_t_sheets h_t_bestFrom v_latestFinding)) [0] rfl) (hD.sub (ws' := (wd_X7_found cI cZ cP cS h_t h_t_red h_t_blue h_t_sky h_t_diary h_t_calendar h_t_awakeIn h_t_worths h_t_plants h_t_sheets h_t_bestFrom v_latestFinding)) [0] (by decide) rfl) rfl rfl) rfl rfl hl.1 rfl (lv_room (Nat.le_of_ble_eq_true rfl)) dX7_copy_47 ⟨Nat.zero_le _, Nat.zero_le _⟩) hS hA hP hD rfl (by decide) (by decide) rfl (by decide) rfl rfl (fun H locs hP hD hS => ?_)
            have hq0 := Option.some.inj hf
            obtain ⟨eq0, hq1⟩ := Prod.mk.inj hq0
            obtain ⟨eq1, hq2⟩ := Prod.mk.inj hq1
            clear hf hq0 hq1
            subst eq0
            subst eq1
            subst hq2
            exact W.iret hx hb hr (fun t ht hW => ⟨⟨_, (), rfl, rfl, by rw [ht]; exact hP, va_K.moved hW.alike hK, hD⟩, hS.F ht⟩) hS.2.2 dX7_copy_50
          refine lv_icmp_eq (tgt := 45) hx hb dX7_copy_33 (by decide) (fun c33 => ?_) (fun c33 => ?_)
          · rw [if_pos c33] at hf
            exact hj45 ls (lv_sub hl [2] rfl) hf
          · rw [if_neg c33] at hf
            refine lv_aload hx hb dX7_copy_36 (lv_at hl 0 rfl) ?_
            refine va_get (D := (dC, dI)) (ci := 3) (v := .int (v_sform 1)) (C := RX3) (T := TX3) (N := 3) hx hb hts hinX3 hown hK hP 4 rfl rfl 0 (by decide) (hts (.fieldLink RX7 222 "SecondSunrise$Sheet" "form" "I") (by decide +kernel)) (fun _ h9 => h9) rfl dX7_copy_38 ?_
            refine lv_iconst (v := (-1)) hx hb dX7_copy_41 (by decide) ?_
            refine lv_icmp_ne (tgt := 51) hx hb dX7_copy_42 (by decide) (fun c42 => ?_) (fun c42 => ?_)
            · rw [if_neg c42] at hf
              refine lv_aload hx hb dX7_copy_51 (lv_at hl 1 rfl) ?_
              refine va_get (D := (dC, dI)) (ci := 3) (v := .int (v_sform 1)) (C := RX3) (T := TX3) (N := 3) hx hb hts hinX3 hown hK hP 4 rfl rfl 0 (by decide) (hts (.fieldLink RX7 222 "SecondSunrise$Sheet" "form" "I") (by decide +kernel)) (fun _ h9 => h9) rfl dX7_copy_53 ?_
              refine lv_aload hx hb dX7_copy_56 (lv_at hl 0 rfl) ?_
              refine va_get (D := (dC, dI)) (ci := 3) (v := .int (v_sform 1)) (C := RX3) (T := TX3) (N := 3) hx hb hts hinX3 hown hK hP 4 rfl rfl 0 (by decide) (hts (.fieldLink RX7 222 "SecondSunrise$Sheet" "form" "I") (by decide +kernel)) (fun _ h9 => h9) rfl dX7_copy_58 ?_
              refine lv_icmp_eq (tgt := 70) hx hb dX7_copy_61 (by decide) (fun c61 => ?_) (fun c61 => ?_)
              · rw [if_pos c61] at hf
                refine lv_aload hx hb dX7_copy_70 (lv_at hl 1 rfl) ?_
                refine lv_iload_n hx hb dX7_copy_72 rfl (lv_at hl 4 rfl) ?_
                refine lv_iload hx hb dX7_copy_73 (lv_at hl 7 rfl) ?_
                obtain ⟨r75_113, hc_114, hf⟩ := bd1_e hf
                refine vp_callSi (va_runV (As := [.int x2, .int x5]) (rest := []) ⟨hx, hb, hml, hown, hts⟩ (c_X3_holds l dC dI cI cZ cP cS h_t_s1 h_t_s1_items (v_sform 1) (v_ssize 1) x2 x5 n r75_113 hc_114) (cwV 2 hts gX7_copy_X3_holds rfl rfl rfl (by decide +kernel) ⟨Nat.le_of_ble_eq_true rfl, Nat.le_of_ble_eq_true rfl⟩) (pv_ro (ci := 3) (q0 := 0) hK (hP.sub (ws' := (wd_X3_holds cI cZ cP cS h_t_s1 h_t_s1_items (v_sform 1) (v_ssize 1))) [4] rfl) rfl rfl) rfl rfl hl.1 rfl (lv_room (Nat.le_of_ble_eq_true rfl)) dX7_copy_75 ⟨Nat.zero_le _, Nat.zero_le _⟩).run (fun x e_115 => ?_)
                obtain ⟨e_115, hb_116⟩ := e_115
                rw [e_115] at hb_116 ⊢
                obtain ⟨k93, ek93, hf⟩ := jn0_e hf
                have hj93 : ∀ (ls : Array Slot), lv_has ls 8 [(0, .ref h_t)] → k93 = some (r, o_latestFinding, o_sitems) → W p l e (headSpec wsX7_copy rm_X7_copy).room s m ([.ref h_t, .int x1, .int x2, .int x3, .int x4, .int x5] : List Value).toArray below meth c H locs 0 0 (MQ below (RWi (dC, dI) (TY cI cZ cP cS) r s.heap.size (wd_X7_copy cI cZ cP cS h_t h_t_red h_t_blue h_t_sky h_t_diary h_t_calendar h_t_awakeIn h_t_worths h_t_plants h_t_sheets h_t_bestFrom h_t_s0 h_t_s1 h_t_s2 h_t_s3 h_t_s0_items h_t_s1_items h_t_s2_items h_t_s3_items v_latestFinding v_sform v_ssize v_sitems) (wd_X7_copy cI cZ cP cS h_t h_t_red h_t_blue h_t_sky h_t_diary h_t_calendar h_t_awakeIn h_t_worths h_t_plants h_t_sheets h_t_bestFrom h_t_s0 h_t_s1 h_t_s2 h_t_s3 h_t_s0_items h_t_s1_items h_t_s2_items h_t_s3_items o_latestFinding v_sform v_ssize o_sitems)) ([.ref h_t, .int x1, .int x2, .int x3, .int x4, .int x5] : List Value).toArray s 0 0 (va_A (wd_X7_copy cI cZ cP cS h_t h_t_red h_t_blue h_t_sky h_t_diary h_t_calendar h_t_awakeIn h_t_worths h_t_plants h_t_sheets h_t_bestFrom h_t_s0 h_t_s1 h_t_s2 h_t_s3 h_t_s0_items h_t_s1_items h_t_s2_items h_t_s3_items v_latestFinding v_sform v_ssize v_sitems) s.heap.size)) (F0 m 93 ls []) := by
                  intro ls hl hf
                  rw [ek93] at hf
                  refine lv_aload_n hx hb dX7_copy_93 rfl (lv_at hl 0 rfl) ?_
                  refine lv_iconst (v := 2) hx hb dX7_copy_94 (by decide) ?_
                  obtain ⟨r95_117, o95_118, hc_119, hf⟩ := bd2_e hf
                  refine rwi_call (isC := [0]) (isR := [1, 2, 3, 4, 5, 6, 7, 8, 9]) (perm := [9, 0, 1, 2, 3, 4, 5, 6, 7, 8]) (wr := [(h_t_sheets, .inl (cS, 4, .inr (.inr (.inr (.inr (ar4 h_t_s0 h_t_s1 h_t_s2 h_t_s3)))))), (h_t_s0, .inr (3, [.int (v_sform 0), .int (v_ssize 0), .ref h_t_s0_items])), (h_t_s0_items, .inl (cI, 48, .inl (v_sitems 0))), (h_t_s1, .inr (3, [.int (v_sform 1), .int (v_ssize 1), .ref h_t_s1_items])), (h_t_s1_items, .inl (cI, 48, .inl (v_sitems 1))), (h_t_s2, .inr (3, [.int (v_sform 2), .int (v_ssize 2), .ref h_t_s2_items])), (h_t_s2_items, .inl (cI, 48, .inl (v_sitems 2))), (h_t_s3, .inr (3, [.int (v_sform 3), .int (v_ssize 3), .ref h_t_s3_items])), (h_t_s3_items, .inl (cI, 48, .inl (v_sitems 3)))]) (ws2 := (wd_X7_copy cI cZ cP cS h_t h_t_red h_t_blue h_t_sky h_t_diary h_t_calendar h_t_awakeIn h_t_worths h_t_plants h_t_sheets h_t_bestFrom h_t_s0 h_t_s1 h_t_s2 h_t_s3 h_t_s0_items h_t_s1_items h_t_s2_items h_t_s3_items o95_118 v_sform v_ssize v_sitems)) (va_runV (As := [.int 2]) (rest := []) ⟨hx, hb, hml, hown, hts⟩ (c_X7_found l dC dI cI cZ cP cS H.size h_t h_t_red h_t_blue h_t_sky h_t_diary h_t_calendar h_t_awakeIn h_t_worths h_t_plants h_t_sheets h_t_bestFrom v_latestFinding 2 n r95_117 o95_118 hc_119) (cwV 1 hts gX7_copy_X7_found rfl rfl rfl (by decide +kernel) ⟨Nat.le_of_ble_eq_true rfl, Nat.le_of_ble_eq_true rfl⟩) (pv_rw (ci := 6) (q0 := 0) hK (hP.sub (ws' := (wd_X7_found cI cZ cP cS h_t h_t_red h_t_blue h_t_sky h_t_diary h_t_calendar h_t_awakeIn h_t_worths h_t_plants h_t_sheets h_t_bestFrom v_latestFinding)) [0] rfl) (hD.sub (ws' := (wd_X7_found cI cZ cP cS h_t h_t_red h_t_blue h_t_sky h_t_diary h_t_calendar h_t_awakeIn h_t_worths h_t_plants h_t_sheets h_t_bestFrom v_latestFinding)) [0] (by decide) rfl) rfl rfl) rfl rfl hl.1 rfl (lv_room (Nat.le_of_ble_eq_true rfl)) dX7_copy_95 ⟨Nat.zero_le _, Nat.zero_le _⟩) hS hA hP hD rfl (by decide) (by decide) rfl (by decide) rfl rfl (fun H locs hP hD hS => ?_)
                  have hq0 := Option.some.inj hf
                  obtain ⟨eq0, hq1⟩ := Prod.mk.inj hq0
                  obtain ⟨eq1, hq2⟩ := Prod.mk.inj hq1
                  clear hf hq0 hq1
                  subst eq0
                  subst eq1
                  subst hq2
                  exact W.iret hx hb hr (fun t ht hW => ⟨⟨_, (), rfl, rfl, by rw [ht]; exact hP, va_K.moved hW.alike hK, hD⟩, hS.F ht⟩) hS.2.2 dX7_copy_98
                refine lv_if_eq (tgt := 93) hx hb dX7_copy_78 (by decide) (fun c78 => ?_) (fun c78 => ?_)
                · rw [if_pos c78] at hf
                  exact hj93 ls (lv_sub hl [2] rfl) hf
                · rw [if_neg c78] at hf
                  refine lv_aload hx hb dX7_copy_81 (lv_at hl 0 rfl) ?_
                  refine lv_iload hx hb dX7_copy_83 (lv_at hl 6 rfl) ?_
                  refine lv_iload hx hb dX7_copy_85 (lv_at hl 7 rfl) ?_
                  obtain ⟨r87_121, hc_122, hf⟩ := bd1_e hf
                  refine vp_callSi (va_runV (As := [.int x4, .int x5]) (rest := []) ⟨hx, hb, hml, hown, hts⟩ (c_X3_holds l dC dI cI cZ cP cS h_t_s1 h_t_s1_items (v_sform 1) (v_ssize 1) x4 x5 n r87_121 hc_122) (cwV 2 hts gX7_copy_X3_holds rfl rfl rfl (by decide +kernel) ⟨Nat.le_of_ble_eq_true rfl, Nat.le_of_ble_eq_true rfl⟩) (pv_ro (ci := 3) (q0 := 0) hK (hP.sub (ws' := (wd_X3_holds cI cZ cP cS h_t_s1 h_t_s1_items (v_sform 1) (v_ssize 1))) [4] rfl) rfl rfl) rfl rfl hl.1 rfl (lv_room (Nat.le_of_ble_eq_true rfl)) dX7_copy_87 ⟨Nat.zero_le _, Nat.zero_le _⟩).run (fun x e_123 => ?_)
                  obtain ⟨e_123, hb_124⟩ := e_123
                  rw [e_123] at hb_124 ⊢
                  refine lv_if_ne (tgt := 99) hx hb dX7_copy_90 (by decide) (fun c90 => ?_) (fun c90 => ?_)
                  · rw [if_neg c90] at hf
                    refine lv_aload hx hb dX7_copy_99 (lv_at hl 1 rfl) ?_
                    refine va_get (D := (dC, dI)) (ci := 3) (v := .ref h_t_s1_items) (C := RX3) (T := TX3) (N := 3) hx hb hts hinX3 hown hK hP 4 rfl rfl 2 (by decide) (hts (.fieldLink RX7 229 "SecondSunrise$Sheet" "items" "[I") (by decide +kernel)) (fun _ h9 => h9) rfl dX7_copy_101 ?_
                    refine lv_iload_n hx hb dX7_copy_104 rfl (lv_at hl 4 rfl) ?_
                    refine lv_aload hx hb dX7_copy_105 (lv_at hl 0 rfl) ?_
                    refine va_get (D := (dC, dI)) (ci := 3) (v := .ref h_t_s1_items) (C := RX3) (T := TX3) (N := 3) hx hb hts hinX3 hown hK hP 4 rfl rfl 2 (by decide) (hts (.fieldLink RX7 229 "SecondSunrise$Sheet" "items" "[I") (by decide +kernel)) (fun _ h9 => h9) rfl dX7_copy_107 ?_
                    refine lv_iload hx hb dX7_copy_110 (lv_at hl 6 rfl) ?_
                    refine lv_iload hx hb dX7_copy_112 (lv_at hl 7 rfl) ?_
                    obtain ⟨⟨ha_1251, ha_1252, ha_1253, ha_1254, ha_1255⟩, hf⟩ := ac_e hf
                    refine va_copyi hx hb (hml.trans hl.1.symm) hown (hts (.methodLink RX7 274 arraycopyName) (by decide +kernel)) (hts (.native arraycopyName) (by decide +kernel)) (hts (.static arraycopyName) (by decide +kernel)) (hts (.initialized "java/lang/System") (by decide +kernel)) hK hP hD hS 5 5 0 0 rfl rfl rfl rfl rfl ha_1251 ha_1252 ha_1253 ha_1254 ha_1255 (fun _ _ => rfl) (Nat.le_of_ble_eq_true rfl) (by decide) dX7_copy_114 (fun H locs hP hD hS => ?_)
                    have hP : va_P (dC, dI) vwCl (wd_X7_copy cI cZ cP cS h_t h_t_red h_t_blue h_t_sky h_t_diary h_t_calendar h_t_awakeIn h_t_worths h_t_plants h_t_sheets h_t_bestFrom h_t_s0 h_t_s1 h_t_s2 h_t_s3 h_t_s0_items h_t_s1_items h_t_s2_items h_t_s3_items v_latestFinding v_sform v_ssize (va_up v_sitems 1 (va_cpy (v_sitems 1) (v_sitems 1) x2.toNatClampNeg x4.toNatClampNeg x5.toNatClampNeg))) H := hP
                    have hD : va_D (va_A (wd_X7_copy cI cZ cP cS h_t h_t_red h_t_blue h_t_sky h_t_diary h_t_calendar h_t_awakeIn h_t_worths h_t_plants h_t_sheets h_t_bestFrom h_t_s0 h_t_s1 h_t_s2 h_t_s3 h_t_s0_items h_t_s1_items h_t_s2_items h_t_s3_items v_latestFinding v_sform v_ssize v_sitems) s.heap.size) (wd_X7_copy cI cZ cP cS h_t h_t_red h_t_blue h_t_sky h_t_diary h_t_calendar h_t_awakeIn h_t_worths h_t_plants h_t_sheets h_t_bestFrom h_t_s0 h_t_s1 h_t_s2 h_t_s3 h_t_s0_items h_t_s1_items h_t_s2_items h_t_s3_items v_latestFinding v_sform v_ssize (va_up v_sitems 1 (va_cpy (v_sitems 1) (v_sitems 1) x2.toNatClampNeg x4.toNatClampNeg x5.toNatClampNeg))) := hD
                    refine lv_iconst (v := 1) hx hb dX7_copy_117 (by decide) ?_
                    have hq0 := Option.some.inj hf
                    obtain ⟨eq0, hq1⟩ := Prod.mk.inj hq0
                    obtain ⟨eq1, hq2⟩ := Prod.mk.inj hq1
                    clear hf hq0 hq1
                    subst eq0
                    subst eq1
                    subst hq2
                    exact W.iret hx hb hr (fun t ht hW => ⟨⟨_, (), rfl, rfl, by rw [ht]; exact hP, va_K.moved hW.alike hK, hD⟩, hS.F ht⟩) hS.2.2 dX7_copy_118
                  · rw [if_pos c90] at hf
                    exact hj93 ls (lv_sub hl [2] rfl) hf
              · rw [if_neg c61] at hf
                refine lv_aload_n hx hb dX7_copy_64 rfl (lv_at hl 2 rfl) ?_
                refine lv_iconst (v := 4) hx hb dX7_copy_65 (by decide) ?_
                obtain ⟨r66_126, o66_127, hc_128, hf⟩ := bd2_e hf
                refine rwi_call (isC := [0]) (isR := [1, 2, 3, 4, 5, 6, 7, 8, 9]) (perm := [9, 0, 1, 2, 3, 4, 5, 6, 7, 8]) (wr := [(h_t_sheets, .inl (cS, 4, .inr (.inr (.inr (.inr (ar4 h_t_s0 h_t_s1 h_t_s2 h_t_s3)))))), (h_t_s0, .inr (3, [.int (v_sform 0), .int (v_ssize 0), .ref h_t_s0_items])), (h_t_s0_items, .inl (cI, 48, .inl (v_sitems 0))), (h_t_s1, .inr (3, [.int (v_sform 1), .int (v_ssize 1), .ref h_t_s1_items])), (h_t_s1_items, .inl (cI, 48, .inl (v_sitems 1))), (h_t_s2, .inr (3, [.int (v_sform 2), .int (v_ssize 2), .ref h_t_s2_items])), (h_t_s2_items, .inl (cI, 48, .inl (v_sitems 2))), (h_t_s3, .inr (3, [.int (v_sform 3), .int (v_ssize 3), .ref h_t_s3_items])), (h_t_s3_items, .inl (cI, 48, .inl (v_sitems 3)))]) (ws2 := (wd_X7_copy cI cZ cP cS h_t h_t_red h_t_blue h_t_sky h_t_diary h_t_calendar h_t_awakeIn h_t_worths h_t_plants h_t_sheets h_t_bestFrom h_t_s0 h_t_s1 h_t_s2 h_t_s3 h_t_s0_items h_t_s1_items h_t_s2_items h_t_s3_items o66_127 v_sform v_ssize v_sitems)) (va_runV (As := [.int 4]) (rest := []) ⟨hx, hb, hml, hown, hts⟩ (c_X7_found l dC dI cI cZ cP cS H.size h_t h_t_red h_t_blue h_t_sky h_t_diary h_t_calendar h_t_awakeIn h_t_worths h_t_plants h_t_sheets h_t_bestFrom v_latestFinding 4 n r66_126 o66_127 hc_128) (cwV 1 hts gX7_copy_X7_found rfl rfl rfl (by decide +kernel) ⟨Nat.le_of_ble_eq_true rfl, Nat.le_of_ble_eq_true rfl⟩) (pv_rw (ci := 6) (q0 := 0) hK (hP.sub (ws' := (wd_X7_found cI cZ cP cS h_t h_t_red h_t_blue h_t_sky h_t_diary h_t_calendar h_t_awakeIn h_t_worths h_t_plants h_t_sheets h_t_bestFrom v_latestFinding)) [0] rfl) (hD.sub (ws' := (wd_X7_found cI cZ cP cS h_t h_t_red h_t_blue h_t_sky h_t_diary h_t_calendar h_t_awakeIn h_t_worths h_t_plants h_t_sheets h_t_bestFrom v_latestFinding)) [0] (by decide) rfl) rfl rfl) rfl rfl hl.1 rfl (lv_room (Nat.le_of_ble_eq_true rfl)) dX7_copy_66 ⟨Nat.zero_le _, Nat.zero_le _⟩) hS hA hP hD rfl (by decide) (by decide) rfl (by decide) rfl rfl (fun H locs hP hD hS => ?_)
                have hq0 := Option.some.inj hf
                obtain ⟨eq0, hq1⟩ := Prod.mk.inj hq0
                obtain ⟨eq1, hq2⟩ := Prod.mk.inj hq1
                clear hf hq0 hq1
                subst eq0
                subst eq1
                subst hq2
                exact W.iret hx hb hr (fun t ht hW => ⟨⟨_, (), rfl, rfl, by rw [ht]; exact hP, va_K.moved hW.alike hK, hD⟩, hS.F ht⟩) hS.2.2 dX7_copy_69
            · rw [if_pos c42] at hf
              exact hj45 ls (lv_sub hl [2] rfl) hf
        · rw [if_neg c9_1] at hf e_87
          by_cases c9_2 : x3 = 2
          · rw [if_pos c9_2] at hf e_87
            subst e_87
            refine W.eq (g2 := F0 m 12 ls [.ref h_t_s2]) rfl ?_
            refine lv_astore (lv' := [(7, .ref h_t_s2), (6, .ref h_t_s1), (0, .ref h_t), (1, .int x1), (2, .int x2), (3, .int x3), (4, .int x4), (5, .int x5)]) hx hb dX7_copy_12 hl (by decide) rfl (fun ls hl => ?_)
            refine lv_aload hx hb dX7_copy_14 (lv_at hl 1 rfl) ?_
            refine lv_ifnull hx hb dX7_copy_16 ?_
            refine lv_aload hx hb dX7_copy_19 (lv_at hl 0 rfl) ?_
            refine lv_ifnonnull (tgt := 27) hx hb dX7_copy_21 (by decide) ?_
            refine lv_aload hx hb dX7_copy_27 (lv_at hl 1 rfl) ?_
            refine va_get (D := (dC, dI)) (ci := 3) (v := .int (v_sform 1)) (C := RX3) (T := TX3) (N := 3) hx hb hts hinX3 hown hK hP 4 rfl rfl 0 (by decide) (hts (.fieldLink RX7 222 "SecondSunrise$Sheet" "form" "I") (by decide +kernel)) (fun _ h9 => h9) rfl dX7_copy_29 ?_
            refine lv_iconst (v := (-1)) hx hb dX7_copy_32 (by decide) ?_
            obtain ⟨k45, ek45, hf⟩ := jn0_e hf
            have hj45 : ∀ (ls : Array Slot), lv_has ls 8 [(0, .ref h_t)] → k45 = some (r, o_latestFinding, o_sitems) → W p l e (headSpec wsX7_copy rm_X7_copy).room s m ([.ref h_t, .int x1, .int x2, .int x3, .int x4, .int x5] : List Value).toArray below meth c H locs 0 0 (MQ below (RWi (dC, dI) (TY cI cZ cP cS) r s.heap.size (wd_X7_copy cI cZ cP cS h_t h_t_red h_t_blue h_t_sky h_t_diary h_t_calendar h_t_awakeIn h_t_worths h_t_plants h_t_sheets h_t_bestFrom h_t_s0 h_t_s1 h_t_s2 h_t_s3 h_t_s0_items h_t_s1_items h_t_s2_items h_t_s3_items v_latestFinding v_sform v_ssize v_sitems) (wd_X7_copy cI cZ cP cS h_t h_t_red h_t_blue h_t_sky h_t_diary h_t_calendar h_t_awakeIn h_t_worths h_t_plants h_t_sheets h_t_bestFrom h_t_s0 h_t_s1 h_t_s2 h_t_s3 h_t_s0_items h_t_s1_items h_t_s2_items h_t_s3_items o_latestFinding v_sform v_ssize o_sitems)) ([.ref h_t, .int x1, .int x2, .int x3, .int x4, .int x5] : List Value).toArray s 0 0 (va_A (wd_X7_copy cI cZ cP cS h_t h_t_red h_t_blue h_t_sky h_t_diary h_t_calendar h_t_awakeIn h_t_worths h_t_plants h_t_sheets h_t_bestFrom h_t_s0 h_t_s1 h_t_s2 h_t_s3 h_t_s0_items h_t_s1_items h_t_s2_items h_t_s3_items v_latestFinding v_sform v_ssize v_sitems) s.heap.size)) (F0 m 45 ls []) := by
              intro ls hl hf
              rw [ek45] at hf
              refine lv_aload_n hx hb dX7_copy_45 rfl (lv_at hl 0 rfl) ?_
              refine lv_iconst (v := 1) hx hb dX7_copy_46 (by decide) ?_
              obtain ⟨r47_130, o47_131, hc_132, hf⟩ := bd2_e hf
              refine rwi_call (isC := [0]) (isR := [1, 2, 3, 4, 5, 6, 7, 8, 9]) (perm := [9, 0, 1, 2, 3, 4, 5, 6, 7, 8]) (wr := [(h_t_sheets, .inl (cS, 4, .inr (.inr (.inr (.inr (ar4 h_t_s0 h_t_s1 h_t_s2 h_t_s3)))))), (h_t_s0, .inr (3, [.int (v_sform 0), .int (v_ssize 0), .ref h_t_s0_items])), (h_t_s0_items, .inl (cI, 48, .inl (v_sitems 0))), (h_t_s1, .inr (3, [.int (v_sform 1), .int (v_ssize 1), .ref h_t_s1_items])), (h_t_s1_items, .inl (cI, 48, .inl (v_sitems 1))), (h_t_s2, .inr (3, [.int (v_sform 2), .int (v_ssize 2), .ref h_t_s2_items])), (h_t_s2_items, .inl (cI, 48, .inl (v_sitems 2))), (h_t_s3, .inr (3, [.int (v_sform 3), .int (v_ssize 3), .ref h_t_s3_items])), (h_t_s3_items, .inl (cI, 48, .inl (v_sitems 3)))]) (ws2 := (wd_X7_copy cI cZ cP cS h_t h_t_red h_t_blue h_t_sky h_t_diary h_t_calendar h_t_awakeIn h_t_worths h_t_plants h_t_sheets h_t_bestFrom h_t_s0 h_t_s1 h_t_s2 h_t_s3 h_t_s0_items h_t_s1_items h_t_s2_items h_t_s3_items o47_131 v_sform v_ssize v_sitems)) (va_runV (As := [.int 1]) (rest := []) ⟨hx, hb, hml, hown, hts⟩ (c_X7_found l dC dI cI cZ cP cS H.size h_t h_t_red h_t_blue h_t_sky h_t_diary h_t_calendar h_t_awakeIn h_t_worths h_t_plants h_t_sheets h_t_bestFrom v_latestFinding 1 n r47_130 o47_131 hc_132) (cwV 1 hts gX7_copy_X7_found rfl rfl rfl (by decide +kernel) ⟨Nat.le_of_ble_eq_true rfl, Nat.le_of_ble_eq_true rfl⟩) (pv_rw (ci := 6) (q0 := 0) hK (hP.sub (ws' := (wd_X7_found cI cZ cP cS h_t h_t_red h_t_blue h_t_sky h_t_diary h_t_calendar h_t_awakeIn h_t_worths h_t_plants h_t_sheets h_t_bestFrom v_latestFinding)) [0] rfl) (hD.sub (ws' := (wd_X7_found cI cZ cP cS h_t h_t_red h_t_blue h_t_sky h_t_diary h_t_calendar h_t_awakeIn h_t_worths h_t_plants h_t_sheets h_t_bestFrom v_latestFinding)) [0] (by decide) rfl) rfl rfl) rfl rfl hl.1 rfl (lv_room (Nat.le_of_ble_eq_true rfl)) dX7_copy_47 ⟨Nat.zero_le _, Nat.zero_le _⟩) hS hA hP hD rfl (by decide) (by decide) rfl (by decide) rfl rfl (fun H locs hP hD hS => ?_)
              have hq0 := Option.some.inj hf
              obtain ⟨eq0, hq1⟩ := Prod.mk.inj hq0
              obtain ⟨eq1, hq2⟩ := Prod.mk.inj hq1
              clear hf hq0 hq1
              subst eq0
              subst eq1
              subst hq2
              exact W.iret hx hb hr (fun t ht hW => ⟨⟨_, (), rfl, rfl, by rw [ht]; exact hP, va_K.moved hW.alike hK, hD⟩, hS.F ht⟩) hS.2.2 dX7_copy_50
            refine lv_icmp_eq (tgt := 45) hx hb dX7_copy_33 (by decide) (fun c33 => ?_) (fun c33 => ?_)
            · rw [if_pos c33] at hf
              exact hj45 ls (lv_sub hl [2] rfl) hf
            · rw [if_neg c33] at hf
              refine lv_aload hx hb dX7_copy_36 (lv_at hl 0 rfl) ?_
              refine va_get (D := (dC, dI)) (ci := 3) (v := .int (v_sform 2)) (C := RX3) (T := TX3) (N := 3) hx hb hts hinX3 hown hK hP 6 rfl rfl 0 (by decide) (hts (.fieldLink RX7 222 "SecondSunrise$Sheet" "form" "I") (by decide +kernel)) (fun _ h9 => h9) rfl dX7_copy_38 ?_
              refine lv_iconst (v := (-1)) hx hb dX7_copy_41 (by decide) ?_
              refine lv_icmp_ne (tgt := 51) hx hb dX7_copy_42 (by decide) (fun c42 => ?_) (fun c42 => ?_)
              · rw [if_neg c42] at hf
                refine lv_aload hx hb dX7_copy_51 (lv_at hl 1 rfl) ?_
                refine va_get (D := (dC, dI)) (ci := 3) (v := .int (v_sform 1)) (C := RX3) (T := TX3) (N := 3) hx hb hts hinX3 hown hK hP 4 rfl rfl 0 (by decide) (hts (.fieldLink RX7 222 "SecondSunrise$Sheet" "form" "I") (by decide +kernel)) (fun _ h9 => h9) rfl dX7_copy_53 ?_
                refine lv_aload hx hb dX7_copy_56 (lv_at hl 0 rfl) ?_
                refine va_get (D := (dC, dI)) (ci := 3) (v := .int (v_sform 2)) (C := RX3) (T := TX3) (N := 3) hx hb hts hinX3 hown hK hP 6 rfl rfl 0 (by decide) (hts (.fieldLink RX7 222 "SecondSunrise$Sheet" "form" "I") (by decide +kernel)) (fun _ h9 => h9) rfl dX7_copy_58 ?_
                refine lv_icmp_eq (tgt := 70) hx hb dX7_copy_61 (by decide) (fun c61 => ?_) (fun c61 => ?_)
                · rw [if_pos c61] at hf
                  refine lv_aload hx hb dX7_copy_70 (lv_at hl 1 rfl) ?_
                  refine lv_iload_n hx hb dX7_copy_72 rfl (lv_at hl 4 rfl) ?_
                  refine lv_iload hx hb dX7_copy_73 (lv_at hl 7 rfl) ?_
                  obtain ⟨r75_134, hc_135, hf⟩ := bd1_e hf
                  refine vp_callSi (va_runV (As := [.int x2, .int x5]) (rest := []) ⟨hx, hb, hml, hown, hts⟩ (c_X3_holds l dC dI cI cZ cP cS h_t_s1 h_t_s1_items (v_sform 1) (v_ssize 1) x2 x5 n r75_134 hc_135) (cwV 2 hts gX7_copy_X3_holds rfl rfl rfl (by decide +kernel) ⟨Nat.le_of_ble_eq_true rfl, Nat.le_of_ble_eq_true rfl⟩) (pv_ro (ci := 3) (q0 := 0) hK (hP.sub (ws' := (wd_X3_holds cI cZ cP cS h_t_s1 h_t_s1_items (v_sform 1) (v_ssize 1))) [4] rfl) rfl rfl) rfl rfl hl.1 rfl (lv_room (Nat.le_of_ble_eq_true rfl)) dX7_copy_75 ⟨Nat.zero_le _, Nat.zero_le _⟩).run (fun x e_136 => ?_)
                  obtain ⟨e_136, hb_137⟩ := e_136
                  rw [e_136] at hb_137 ⊢
                  obtain ⟨k93, ek93, hf⟩ := jn0_e hf
                  have hj93 : ∀ (ls : Array Slot), lv_has ls 8 [(0, .ref h_t)] → k93 = some (r, o_latestFinding, o_sitems) → W p l e (headSpec wsX7_copy rm_X7_copy).room s m ([.ref h_t, .int x1, .int x2, .int x3, .int x4, .int x5] : List Value).toArray below meth c H locs 0 0 (MQ below (RWi (dC, dI) (TY cI cZ cP cS) r s.heap.size (wd_X7_copy cI cZ cP cS h_t h_t_red h_t_blue h_t_sky h_t_diary h_t_calendar h_t_awakeIn h_t_worths h_t_plants h_t_sheets h_t_bestFrom h_t_s0 h_t_s1 h_t_s2 h_t_s3 h_t_s0_items h_t_s1_items h_t_s2_items h_t_s3_items v_latestFinding v_sform v_ssize v_sitems) (wd_X7_copy cI cZ cP cS h_t h_t_red h_t_blue h_t_sky h_t_diary h_t_calendar h_t_awakeIn h_t_worths h_t_plants h_t_sheets h_t_bestFrom h_t_s0 h_t_s1 h_t_s2 h_t_s3 h_t_s0_items h_t_s1_items h_t_s2_items h_t_s3_items o_latestFinding v_sform v_ssize o_sitems)) ([.ref h_t, .int x1, .int x2, .int x3, .int x4, .int x5] : List Value).toArray s 0 0 (va_A (wd_X7_copy cI cZ cP cS h_t h_t_red h_t_blue h_t_sky h_t_diary h_t_calendar h_t_awakeIn h_t_worths h_t_plants h_t_sheets h_t_bestFrom h_t_s0 h_t_s1 h_t_s2 h_t_s3 h_t_s0_items h_t_s1_items h_t_s2_items h_t_s3_items v_latestFinding v_sform v_ssize v_sitems) s.heap.size)) (F0 m 93 ls []) := by
                    intro ls hl hf
                    rw [ek93] at hf
                    refine lv_aload_n hx hb dX7_copy_93 rfl (lv_at hl 0 rfl) ?_
                    refine lv_iconst (v := 2) hx hb dX7_copy_94 (by decide) ?_
                    obtain ⟨r95_138, o95_139, hc_140, hf⟩ := bd2_e hf
                    refine rwi_call (isC := [0]) (isR := [1, 2, 3, 4, 5, 6, 7, 8, 9]) (perm := [9, 0, 1, 2, 3, 4, 5, 6, 7, 8]) (wr := [(h_t_sheets, .inl (cS, 4, .inr (.inr (.inr (.inr (ar4 h_t_s0 h_t_s1 h_t_s2 h_t_s3)))))), (h_t_s0, .inr (3, [.int (v_sform 0), .int (v_ssize 0), .ref h_t_s0_items])), (h_t_s0_items, .inl (cI, 48, .inl (v_sitems 0))), (h_t_s1, .inr (3, [.int (v_sform 1), .int (v_ssize 1), .ref h_t_s1_items])), (h_t_s1_items, .inl (cI, 48, .inl (v_sitems 1))), (h_t_s2, .inr (3, [.int (v_sform 2), .int (v_ssize 2), .ref h_t_s2_items])), (h_t_s2_items, .inl (cI, 48, .inl (v_sitems 2))), (h_t_s3, .inr (3, [.int (v_sform 3), .int (v_ssize 3), .ref h_t_s3_items])), (h_t_s3_items, .inl (cI, 48, .inl (v_sitems 3)))]) (ws2 := (wd_X7_copy cI cZ cP cS h_t h_t_red h_t_blue h_t_sky h_t_diary h_t_calendar h_t_awakeIn h_t_worths h_t_plants h_t_sheets h_t_bestFrom h_t_s0 h_t_s1 h_t_s2 h_t_s3 h_t_s0_items h_t_s1_items h_t_s2_items h_t_s3_items o95_139 v_sform v_ssize v_sitems)) (va_runV (As := [.int 2]) (rest := []) ⟨hx, hb, hml, hown, hts⟩ (c_X7_found l dC dI cI cZ cP cS H.size h_t h_t_red h_t_blue h_t_sky h_t_diary h_t_calendar h_t_awakeIn h_t_worths h_t_plants h_t_sheets h_t_bestFrom v_latestFinding 2 n r95_138 o95_139 hc_140) (cwV 1 hts gX7_copy_X7_found rfl rfl rfl (by decide +kernel) ⟨Nat.le_of_ble_eq_true rfl, Nat.le_of_ble_eq_true rfl⟩) (pv_rw (ci := 6) (q0 := 0) hK (hP.sub (ws' := (wd_X7_found cI cZ cP cS h_t h_t_red h_t_blue h_t_sky h_t_diary h_t_calendar h_t_awakeIn h_t_worths h_t_plants h_t_sheets h_t_bestFrom v_latestFinding)) [0] rfl) (hD.sub (ws' := (wd_X7_found cI cZ cP cS h_t h_t_red h_t_blue h_t_sky h_t_diary h_t_calendar h_t_awakeIn h_t_worths h_t_plants h_t_sheets h_t_bestFrom v_latestFinding)) [0] (by decide) rfl) rfl rfl) rfl rfl hl.1 rfl (lv_room (Nat.le_of_ble_eq_true rfl)) dX7_copy_95 ⟨Nat.zero_le _, Nat.zero_le _⟩) hS hA hP hD rfl (by decide) (by decide) rfl (by decide) rfl rfl (fun H locs hP hD hS => ?_)
                    have hq0 := Option.some.inj hf
                    obtain ⟨eq0, hq1⟩ := Prod.mk.inj hq0
                    obtain ⟨eq1, hq2⟩ := Prod.mk.inj hq1
                    clear hf hq0 hq1
                    subst eq0
                    subst eq1
                    subst hq2
                    exact W.iret hx hb hr (fun t ht hW => ⟨⟨_, (), rfl, rfl, by rw [ht]; exact hP, va_K.moved hW.alike hK, hD⟩, hS.F ht⟩) hS.2.2 dX7_copy_98
                  refine lv_if_eq (tgt := 93) hx hb dX7_copy_78 (by decide) (fun c78 => ?_) (fun c78 => ?_)
                  · rw [if_pos c78] at hf
                    exact hj93 ls (lv_sub hl [2] rfl) hf
                  · rw [if_neg c78] at hf
                    refine lv_aload hx hb dX7_copy_81 (lv_at hl 0 rfl) ?_
                    refine lv_iload hx hb dX7_copy_83 (lv_at hl 6 rfl) ?_
                    refine lv_iload hx hb dX7_copy_85 (lv_at hl 7 rfl) ?_
                    obtain ⟨r87_142, hc_143, hf⟩ := bd1_e hf
                    refine vp_callSi (va_runV (As := [.int x4, .int x5]) (rest := []) ⟨hx, hb, hml, hown, hts⟩ (c_X3_holds l dC dI cI cZ cP cS h_t_s2 h_t_s2_items (v_sform 2) (v_ssize 2) x4 x5 n r87_142 hc_143) (cwV 2 hts gX7_copy_X3_holds rfl rfl rfl (by decide +kernel) ⟨Nat.le_of_ble_eq_true rfl, Nat.le_of_ble_eq_true rfl⟩) (pv_ro (ci := 3) (q0 := 0) hK (hP.sub (ws' := (wd_X3_holds cI cZ cP cS h_t_s2 h_t_s2_items (v_sform 2) (v_ssize 2))) [6] rfl) rfl rfl) rfl rfl hl.1 rfl (lv_room (Nat.le_of_ble_eq_true rfl)) dX7_copy_87 ⟨Nat.zero_le _, Nat.zero_le _⟩).run (fun x e_144 => ?_)
                    obtain ⟨e_144, hb_145⟩ := e_144
                    rw [e_144] at hb_145 ⊢
                    refine lv_if_ne (tgt := 99) hx hb dX7_copy_90 (by decide) (fun c90 => ?_) (fun c90 => ?_)
                    · rw [if_neg c90] at hf
                      refine lv_aload hx hb dX7_copy_99 (lv_at hl 1 rfl) ?_
                      refine va_get (D := (dC, dI)) (ci := 3) (v := .ref h_t_s1_items) (C := RX3) (T := TX3) (N := 3) hx hb hts hinX3 hown hK hP 4 rfl rfl 2 (by decide) (hts (.fieldLink RX7 229 "SecondSunrise$Sheet" "items" "[I") (by decide +kernel)) (fun _ h9 => h9) rfl dX7_copy_101 ?_
                      refine lv_iload_n hx hb dX7_copy_104 rfl (lv_at hl 4 rfl) ?_
                      refine lv_aload hx hb dX7_copy_105 (lv_at hl 0 rfl) ?_
                      refine va_get (D := (dC, dI)) (ci := 3) (v := .ref h_t_s2_items) (C := RX3) (T := TX3) (N := 3) hx hb hts hinX3 hown hK hP 6 rfl rfl 2 (by decide) (hts (.fieldLink RX7 229 "SecondSunrise$Sheet" "items" "[I") (by decide +kernel)) (fun _ h9 => h9) rfl dX7_copy_107 ?_
                      refine lv_iload hx hb dX7_copy_110 (lv_at hl 6 rfl) ?_
                      refine lv_iload hx hb dX7_copy_112 (lv_at hl 7 rfl) ?_
                      obtain ⟨⟨ha_1461, ha_1462, ha_1463, ha_1464, ha_1465⟩, hf⟩ := ac_e hf
                      refine va_copyi hx hb (hml.trans hl.1.symm) hown (hts (.methodLink RX7 274 arraycopyName) (by decide +kernel)) (hts (.native arraycopyName) (by decide +kernel)) (hts (.static arraycopyName) (by decide +kernel)) (hts (.initialized "java/lang/System") (by decide +kernel)) hK hP hD hS 5 7 0 0 rfl rfl rfl rfl rfl ha_1461 ha_1462 ha_1463 ha_1464 ha_1465 (fun _ _ => rfl) (Nat.le_of_ble_eq_true rfl) (by decide) dX7_copy_114 (fun H locs hP hD hS => ?_)
                      have hP : va_P (dC, dI) vwCl (wd_X7_copy cI cZ cP cS h_t h_t_red h_t_blue h_t_sky h_t_diary h_t_calendar h_t_awakeIn h_t_worths h_t_plants h_t_sheets h_t_bestFrom h_t_s0 h_t_s1 h_t_s2 h_t_s3 h_t_s0_items h_t_s1_items h_t_s2_items h_t_s3_items v_latestFinding v_sform v_ssize (va_up v_sitems 2 (va_cpy (v_sitems 1) (v_sitems 2) x2.toNatClampNeg x4.toNatClampNeg x5.toNatClampNeg))) H := hP
                      have hD : va_D (va_A (wd_X7_copy cI cZ cP cS h_t h_t_red h_t_blue h_t_sky h_t_diary h_t_calendar h_t_awakeIn h_t_worths h_t_plants h_t_sheets h_t_bestFrom h_t_s0 h_t_s1 h_t_s2 h_t_s3 h_t_s0_items h_t_s1_items h_t_s2_items h_t_s3_items v_latestFinding v_sform v_ssize v_sitems) s.heap.size) (wd_X7_copy cI cZ cP cS h_t h_t_red h_t_blue h_t_sky h_t_diary h_t_calendar h_t_awakeIn h_t_worths h_t_plants h_t_sheets h_t_bestFrom h_t_s0 h_t_s1 h_t_s2 h_t_s3 h_t_s0_items h_t_s1_items h_t_s2_items h_t_s3_items v_latestFinding v_sform v_ssize (va_up v_sitems 2 (va_cpy (v_sitems 1) (v_sitems 2) x2.toNatClampNeg x4.toNatClampNeg x5.toNatClampNeg))) := hD
                      refine lv_iconst (v := 1) hx hb dX7_copy_117 (by decide) ?_
                      have hq0 := Option.some.inj hf
                      obtain ⟨eq0, hq1⟩ := Prod.mk.inj hq0
                      obtain ⟨eq1, hq2⟩ := Prod.mk.inj hq1
                      clear hf hq0 hq1
                      subst eq0
                      subst eq1
                      subst hq2
                      exact W.iret hx hb hr (fun t ht hW => ⟨⟨_, (), rfl, rfl, by rw [ht]; exact hP, va_K.moved hW.alike hK, hD⟩, hS.F ht⟩) hS.2.2 dX7_copy_118
                    · rw [if_pos c90] at hf
                      exact hj93 ls (lv_sub hl [2] rfl) hf
                · rw [if_neg c61] at hf
                  refine lv_aload_n hx hb dX7_copy_64 rfl (lv_at hl 2 rfl) ?_
                  refine lv_iconst (v := 4) hx hb dX7_copy_65 (by decide) ?_
                  obtain ⟨r66_147, o66_148, hc_149, hf⟩ := bd2_e hf
                  refine rwi_call (isC := [0]) (isR := [1, 2, 3, 4, 5, 6, 7, 8, 9]) (perm := [9, 0, 1, 2, 3, 4, 5, 6, 7, 8]) (wr := [(h_t_sheets, .inl (cS, 4, .inr (.inr (.inr (.inr (ar4 h_t_s0 h_t_s1 h_t_s2 h_t_s3)))))), (h_t_s0, .inr (3, [.int (v_sform 0), .int (v_ssize 0), .ref h_t_s0_items])), (h_t_s0_items, .inl (cI, 48, .inl (v_sitems 0))), (h_t_s1, .inr (3, [.int (v_sform 1), .int (v_ssize 1), .ref h_t_s1_items])), (h_t_s1_items, .inl (cI, 48, .inl (v_sitems 1))), (h_t_s2, .inr (3, [.int (v_sform 2), .int (v_ssize 2), .ref h_t_s2_items])), (h_t_s2_items, .inl (cI, 48, .inl (v_sitems 2))), (h_t_s3, .inr (3, [.int (v_sform 3), .int (v_ssize 3), .ref h_t_s3_items])), (h_t_s3_items, .inl (cI, 48, .inl (v_sitems 3)))]) (ws2 := (wd_X7_copy cI cZ cP cS h_t h_t_red h_t_blue h_t_sky h_t_diary h_t_calendar h_t_awakeIn h_t_worths h_t_plants h_t_sheets h_t_bestFrom h_t_s0 h_t_s1 h_t_s2 h_t_s3 h_t_s0_items h_t_s1_items h_t_s2_items h_t_s3_items o66_148 v_sform v_ssize v_sitems)) (va_runV (As := [.int 4]) (rest := []) ⟨hx, hb, hml, hown, hts⟩ (c_X7_found l dC dI cI cZ cP cS H.size h_t h_t_red h_t_blue h_t_sky h_t_diary h_t_calendar h_t_awakeIn h_t_worths h_t_plants h_t_sheets h_t_bestFrom v_latestFinding 4 n r66_147 o66_148 hc_149) (cwV 1 hts gX7_copy_X7_found rfl rfl rfl (by decide +kernel) ⟨Nat.le_of_ble_eq_true rfl, Nat.le_of_ble_eq_true rfl⟩) (pv_rw (ci := 6) (q0 := 0) hK (hP.sub (ws' := (wd_X7_found cI cZ cP cS h_t h_t_red h_t_blue h_t_sky h_t_diary h_t_calendar h_t_awakeIn h_t_worths h_t_plants h_t_sheets h_t_bestFrom v_latestFinding)) [0] rfl) (hD.sub (ws' := (wd_X7_found cI cZ cP cS h_t h_t_red h_t_blue h_t_sky h_t_diary h_t_calendar h_t_awakeIn h_t_worths h_t_plants h_t_sheets h_t_bestFrom v_latestFinding)) [0] (by decide) rfl) rfl rfl) rfl rfl hl.1 rfl (lv_room (Nat.le_of_ble_eq_true rfl)) dX7_copy_66 ⟨Nat.zero_le _, Nat.zero_le _⟩) hS hA hP hD rfl (by decide) (by decide) rfl (by decide) rfl rfl (fun H locs hP hD hS => ?_)
                  have hq0 := Option.some.inj hf
                  obtain ⟨eq0, hq1⟩ := Prod.mk.inj hq0
                  obtain ⟨eq1, hq2⟩ := Prod.mk.inj hq1
                  clear hf hq0 hq1
                  subst eq0
                  subst eq1
                  subst hq2
                  exact W.iret hx hb hr (fun t ht hW => ⟨⟨_, (), rfl, rfl, by rw [ht]; exact hP, va_K.moved hW.alike hK, hD⟩, hS.F ht⟩) hS.2.2 dX7_copy_69
              · rw [if_pos c42] at hf
                exact hj45 ls (lv_sub hl [2] rfl) hf
          · rw [if_neg c9_2] at hf e_87
            by_cases c9_3 : x3 = 3
            · rw [if_pos c9_3] at hf e_87
              subst e_87
              refine W.eq (g2 := F0 m 12 ls [.ref h_t_s3]) rfl ?_
              refine lv_astore (lv' := [(7, .ref h_t_s3), (6, .ref h_t_s1), (0, .ref h_t), (1, .int x1), (2, .int x2), (3, .int x3), (4, .int x4), (5, .int x5)]) hx hb dX7_copy_12 hl (by decide) rfl (fun ls hl => ?_)
              refine lv_aload hx hb dX7_copy_14 (lv_at hl 1 rfl) ?_
              refine lv_ifnull hx hb dX7_copy_16 ?_
              refine lv_aload hx hb dX7_copy_19 (lv_at hl 0 rfl) ?_
              refine lv_ifnonnull (tgt := 27) hx hb dX7_copy_21 (by decide) ?_
              refine lv_aload hx hb dX7_copy_27 (lv_at hl 1 rfl) ?_
              refine va_get (D := (dC, dI)) (ci := 3) (v := .int (v_sform 1)) (C := RX3) (T := TX3) (N := 3) hx hb hts hinX3 hown hK hP 4 rfl rfl 0 (by decide) (hts (.fieldLink RX7 222 "SecondSunrise$Sheet" "form" "I") (by decide +kernel)) (fun _ h9 => h9) rfl dX7_copy_29 ?_
              refine lv_iconst (v := (-1)) hx hb dX7_copy_32 (by decide) ?_
              obtain ⟨k45, ek45, hf⟩ := jn0_e hf
              have hj45 : ∀ (ls : Array Slot), lv_has ls 8 [(0, .ref h_t)] → k45 = some (r, o_latestFinding, o_sitems) → W p l e (headSpec wsX7_copy rm_X7_copy).room s m ([.ref h_t, .int x1, .int x2, .int x3, .int x4, .int x5] : List Value).toArray below meth c H locs 0 0 (MQ below (RWi (dC, dI) (TY cI cZ cP cS) r s.heap.size (wd_X7_copy cI cZ cP cS h_t h_t_red h_t_blue h_t_sky h_t_diary h_t_calendar h_t_awakeIn h_t_worths h_t_plants h_t_sheets h_t_bestFrom h_t_s0 h_t_s1 h_t_s2 h_t_s3 h_t_s0_items h_t_s1_items h_t_s2_items h_t_s3_items v_latestFinding v_sform v_ssize v_sitems) (wd_X7_copy cI cZ cP cS h_t h_t_red h_t_blue h_t_sky h_t_diary h_t_calendar h_t_awakeIn h_t_worths h_t_plants h_t_sheets h_t_bestFrom h_t_s0 h_t_s1 h_t_s2 h_t_s3 h_t_s0_items h_t_s1_items h_t_s2_items h_t_s3_items o_latestFinding v_sform v_ssize o_sitems)) ([.ref h_t, .int x1, .int x2, .int x3, .int x4, .int x5] : List Value).toArray s 0 0 (va_A (wd_X7_copy cI cZ cP cS h_t h_t_red h_t_blue h_t_sky h_t_diary h_t_calendar h_t_awakeIn h_t_worths h_t_plants h_t_sheets h_t_bestFrom h_t_s0 h_t_s1 h_t_s2 h_t_s3 h_t_s0_items h_t_s1_items h_t_s2_items h_t_s3_items v_latestFinding v_sform v_ssize v_sitems) s.heap.size)) (F0 m 45 ls []) := by
                intro ls hl hf
                rw [ek45] at hf
                refine lv_aload_n hx hb dX7_copy_45 rfl (lv_at hl 0 rfl) ?_
                refine lv_iconst (v := 1) hx hb dX7_copy_46 (by decide) ?_
                obtain ⟨r47_151, o47_152, hc_153, hf⟩ := bd2_e hf
                refine rwi_call (isC := [0]) (isR := [1, 2, 3, 4, 5, 6, 7, 8, 9]) (perm := [9, 0, 1, 2, 3, 4, 5, 6, 7, 8]) (wr := [(h_t_sheets, .inl (cS, 4, .inr (.inr (.inr (.inr (ar4 h_t_s0 h_t_s1 h_t_s2 h_t_s3)))))), (h_t_s0, .inr (3, [.int (v_sform 0), .int (v_ssize 0), .ref h_t_s0_items])), (h_t_s0_items, .inl (cI, 48, .inl (v_sitems 0))), (h_t_s1, .inr (3, [.int (v_sform 1), .int (v_ssize 1), .ref h_t_s1_items])), (h_t_s1_items, .inl (cI, 48, .inl (v_sitems 1))), (h_t_s2, .inr (3, [.int (v_sform 2), .int (v_ssize 2), .ref h_t_s2_items])), (h_t_s2_items, .inl (cI, 48, .inl (v_sitems 2))), (h_t_s3, .inr (3, [.int (v_sform 3), .int (v_ssize 3), .ref h_t_s3_items])), (h_t_s3_items, .inl (cI, 48, .inl (v_sitems 3)))]) (ws2 := (wd_X7_copy cI cZ cP cS h_t h_t_red h_t_blue h_t_sky h_t_diary h_t_calendar h_t_awakeIn h_t_worths h_t_plants h_t_sheets h_t_bestFrom h_t_s0 h_t_s1 h_t_s2 h_t_s3 h_t_s0_items h_t_s1_items h_t_s2_items h_t_s3_items o47_152 v_sform v_ssize v_sitems)) (va_runV (As := [.int 1]) (rest := []) ⟨hx, hb, hml, hown, hts⟩ (c_X7_found l dC dI cI cZ cP cS H.size h_t h_t_red h_t_blue h_t_sky h_t_diary h_t_calendar h_t_awakeIn h_t_worths h_t_plants h_t_sheets h_t_bestFrom v_latestFinding 1 n r47_151 o47_152 hc_153) (cwV 1 hts gX7_copy_X7_found rfl rfl rfl (by decide +kernel) ⟨Nat.le_of_ble_eq_true rfl, Nat.le_of_ble_eq_true rfl⟩) (pv_rw (ci := 6) (q0 := 0) hK (hP.sub (ws' := (wd_X7_found cI cZ cP cS h_t h_t_red h_t_blue h_t_sky h_t_diary h_t_calendar h_t_awakeIn h_t_worths h_t_plants h_t_sheets h_t_bestFrom v_latestFinding)) [0] rfl) (hD.sub (ws' := (wd_X7_found cI cZ cP cS h_t h_t_red h_t_blue h_t_sky h_t_diary h_t_calendar h_t_awakeIn h_t_worths h_t_plants h_t_sheets h_t_bestFrom v_latestFinding)) [0] (by decide) rfl) rfl rfl) rfl rfl hl.1 rfl (lv_room (Nat.le_of_ble_eq_true rfl)) dX7_copy_47 ⟨Nat.zero_le _, Nat.zero_le _⟩) hS hA hP hD rfl (by decide) (by decide) rfl (by decide) rfl rfl (fun H locs hP hD hS => ?_)
                have hq0 := Option.some.inj hf
                obtain ⟨eq0, hq1⟩ := Prod.mk.inj hq0
                obtain ⟨eq1, hq2⟩ := Prod.mk.inj hq1
                clear hf hq0 hq1
                subst eq0
                subst eq1
                subst hq2
                exact W.iret hx hb hr (fun t ht hW => ⟨⟨_, (), rfl, rfl, by rw [ht]; exact hP, va_K.moved hW.alike hK, hD⟩, hS.F ht⟩) hS.2.2 dX7_copy_50
              refine lv_icmp_eq (tgt := 45) hx hb dX7_copy_33 (by decide) (fun c33 => ?_) (fun c33 => ?_)
              · rw [if_pos c33] at hf
                exact hj45 ls (lv_sub hl [2] rfl) hf
              · rw [if_neg c33] at hf
                refine lv_aload hx hb dX7_copy_36 (lv_at hl 0 rfl) ?_
                refine va_get (D := (dC, dI)) (ci := 3) (v := .int (v_sform 3)) (C := RX3) (T := TX3) (N := 3) hx hb hts hinX3 hown hK hP 8 rfl rfl 0 (by decide) (hts (.fieldLink RX7 222 "SecondSunrise$Sheet" "form" "I") (by decide +kernel)) (fun _ h9 => h9) rfl dX7_copy_38 ?_
                refine lv_iconst (v := (-1)) hx hb dX7_copy_41 (by decide) ?_
                refine lv_icmp_ne (tgt := 51) hx hb dX7_copy_42 (by decide) (fun c42 => ?_) (fun c42 => ?_)
                · rw [if_neg c42] at hf
                  refine lv_aload hx hb dX7_copy_51 (lv_at hl 1 rfl) ?_
                  refine va_get (D := (dC, dI)) (ci := 3) (v := .int (v_sform 1)) (C := RX3) (T := TX3) (N := 3) hx hb hts hinX3 hown hK hP 4 rfl rfl 0 (by decide) (hts (.fieldLink RX7 222 "SecondSunrise$Sheet" "form" "I") (by decide +kernel)) (fun _ h9 => h9) rfl dX7_copy_53 ?_
                  refine lv_aload hx hb dX7_copy_56 (lv_at hl 0 rfl) ?_
                  refine va_get (D := (dC, dI)) (ci := 3) (v := .int (v_sform 3)) (C := RX3) (T := TX3) (N := 3) hx hb hts hinX3 hown hK hP 8 rfl rfl 0 (by decide) (hts (.fieldLink RX7 222 "SecondSunrise$Sheet" "form" "I") (by decide +kernel)) (fun _ h9 => h9) rfl dX7_copy_58 ?_
                  refine lv_icmp_eq (tgt := 70) hx hb dX7_copy_61 (by decide) (fun c61 => ?_) (fun c61 => ?_)
                  · rw [if_pos c61] at hf
                    refine lv_aload hx hb dX7_copy_70 (lv_at hl 1 rfl) ?_
                    refine lv_iload_n hx hb dX7_copy_72 rfl (lv_at hl 4 rfl) ?_
                    refine lv_iload hx hb dX7_copy_73 (lv_at hl 7 rfl) ?_
                    obtain ⟨r75_155, hc_156, hf⟩ := bd1_e hf
                    refine vp_callSi (va_runV (As := [.int x2, .int x5]) (rest := []) ⟨hx, hb, hml, hown, hts⟩ (c_X3_holds l dC dI cI cZ cP cS h_t_s1 h_t_s1_items (v_sform 1) (v_ssize 1) x2 x5 n r75_155 hc_156) (cwV 2 hts gX7_copy_X3_holds rfl rfl rfl (by decide +kernel) ⟨Nat.le_of_ble_eq_true rfl, Nat.le_of_ble_eq_true rfl⟩) (pv_ro (ci := 3) (q0 := 0) hK (hP.sub (ws' := (wd_X3_holds cI cZ cP cS h_t_s1 h_t_s1_items (v_sform 1) (v_ssize 1))) [4] rfl) rfl rfl) rfl rfl hl.1 rfl (lv_room (Nat.le_of_ble_eq_true rfl)) dX7_copy_75 ⟨Nat.zero_le _, Nat.zero_le _⟩).run (fun x e_157 => ?_)
                    obtain ⟨e_157, hb_158⟩ := e_157
                    rw [e_157] at hb_158 ⊢
                    obtain ⟨k93, ek93, hf⟩ := jn0_e hf
                    have hj93 : ∀ (ls : Array Slot), lv_has ls 8 [(0, .ref h_t)] → k93 = some (r, o_latestFinding, o_sitems) → W p l e (headSpec wsX7_copy rm_X7_copy).room s m ([.ref h_t, .int x1, .int x2, .int x3, .int x4, .int x5] : List Value).toArray below meth c H locs 0 0 (MQ below (RWi (dC, dI) (TY cI cZ cP cS) r s.heap.size (wd_X7_copy cI cZ cP cS h_t h_t_red h_t_blue h_t_sky h_t_diary h_t_calendar h_t_awakeIn h_t_worths h_t_plants h_t_sheets h_t_bestFrom h_t_s0 h_t_s1 h_t_s2 h_t_s3 h_t_s0_items h_t_s1_items h_t_s2_items h_t_s3_items v_latestFinding v_sform v_ssize v_sitems) (wd_X7_copy cI cZ cP cS h_t h_t_red h_t_blue h_t_sky h_t_diary h_t_calendar h_t_awakeIn h_t_worths h_t_plants h_t_sheets h_t_bestFrom h_t_s0 h_t_s1 h_t_s2 h_t_s3 h_t_s0_items h_t_s1_items h_t_s2_items h_t_s3_items o_latestFinding v_sform v_ssize o_sitems)) ([.ref h_t, .int x1, .int x2, .int x3, .int x4, .int x5] : List Value).toArray s 0 0 (va_A (wd_X7_copy cI cZ cP cS h_t h_t_red h_t_blue h_t_sky h_t_diary h_t_calendar h_t_awakeIn h_t_worths h_t_plants h_t_sheets h_t_bestFrom h_t_s0 h_t_s1 h_t_s2 h_t_s3 h_t_s0_items h_t_s1_items h_t_s2_items h_t_s3_items v_latestFinding v_sform v_ssize v_sitems) s.heap.size)) (F0 m 93 ls []) := by
                      intro ls hl hf
                      rw [ek93] at hf
                      refine lv_aload_n hx hb dX7_copy_93 rfl (lv_at hl 0 rfl) ?_
                      refine lv_iconst (v := 2) hx hb dX7_copy_94 (by decide) ?_
                      obtain ⟨r95_159, o95_160, hc_161, hf⟩ := bd2_e hf
                      refine rwi_call (isC := [0]) (isR := [1, 2, 3, 4, 5, 6, 7, 8, 9]) (perm := [9, 0, 1, 2, 3, 4, 5, 6, 7, 8]) (wr := [(h_t_sheets, .inl (cS, 4, .inr (.inr (.inr (.inr (ar4 h_t_s0 h_t_s1 h_t_s2 h_t_s3)))))), (h_t_s0, .inr (3, [.int (v_sform 0), .int (v_ssize 0), .ref h_t_s0_items])), (h_t_s0_items, .inl (cI, 48, .inl (v_sitems 0))), (h_t_s1, .inr (3, [.int (v_sform 1), .int (v_ssize 1), .ref h_t_s1_items])), (h_t_s1_items, .inl (cI, 48, .inl (v_sitems 1))), (h_t_s2, .inr (3, [.int (v_sform 2), .int (v_ssize 2), .ref h_t_s2_items])), (h_t_s2_items, .inl (cI, 48, .inl (v_sitems 2))), (h_t_s3, .inr (3, [.int (v_sform 3), .int (v_ssize 3), .ref h_t_s3_items])), (h_t_s3_items, .inl (cI, 48, .inl (v_sitems 3)))]) (ws2 := (wd_X7_copy cI cZ cP cS h_t h_t_red h_t_blue h_t_sky h_t_diary h_t_calendar h_t_awakeIn h_t_worths h_t_plants h_t_sheets h_t_bestFrom h_t_s0 h_t_s1 h_t_s2 h_t_s3 h_t_s0_items h_t_s1_items h_t_s2_items h_t_s3_items o95_160 v_sform v_ssize v_sitems)) (va_runV (As := [.int 2]) (rest := []) ⟨hx, hb, hml, hown, hts⟩ (c_X7_found l dC dI cI cZ cP cS H.size h_t h_t_red h_t_blue h_t_sky h_t_diary h_t_calendar h_t_awakeIn h_t_worths h_t_plants h_t_sheets h_t_bestFrom v_latestFinding 2 n r95_159 o95_160 hc_161) (cwV 1 hts gX7_copy_X7_found rfl rfl rfl (by decide +kernel) ⟨Nat.le_of_ble_eq_true rfl, Nat.le_of_ble_eq_true rfl⟩) (pv_rw (ci := 6) (q0 := 0) hK (hP.sub (ws' := (wd_X7_found cI cZ cP cS h_t h_t_red h_t_blue h_t_sky h_t_diary h_t_calendar h_t_awakeIn h_t_worths h_t_plants h_t_sheets h_t_bestFrom v_latestFinding)) [0] rfl) (hD.sub (ws' := (wd_X7_found cI cZ cP cS h_t h_t_red h_t_blue h_t_sky h_t_diary h_t_calendar h_t_awakeIn h_t_worths h_t_plants h_t_sheets h_t_bestFrom v_latestFinding)) [0] (by decide) rfl) rfl rfl) rfl rfl hl.1 rfl (lv_room (Nat.le_of_ble_eq_true rfl)) dX7_copy_95 ⟨Nat.zero_le _, Nat.zero_le _⟩) hS hA hP hD rfl (by decide) (by decide) rfl (by decide) rfl rfl (fun H locs hP hD hS => ?_)
                      have hq0 := Option.some.inj hf
                      obtain ⟨eq0, hq1⟩ := Prod.mk.inj hq0
                      obtain ⟨eq1, hq2⟩ := Prod.mk.inj hq1
                      clear hf hq0 hq1
                      subst eq0
                      subst eq1
                      subst hq2
                      exact W.iret hx hb hr (fun t ht hW => ⟨⟨_, (), rfl, rfl, by rw [ht]; exact hP, va_K.moved hW.alike hK, hD⟩, hS.F ht⟩) hS.2.2 dX7_copy_98
                    refine lv_if_eq (tgt := 93) hx hb dX7_copy_78 (by decide) (fun c78 => ?_) (fun c78 => ?_)
                    · rw [if_pos c78] at hf
                      exact hj93 ls (lv_sub hl [2] rfl) hf
                    · rw [if_neg c78] at hf
                      refine lv_aload hx hb dX7_copy_81 (lv_at hl 0 rfl) ?_
                      refine lv_iload hx hb dX7_copy_83 (lv_at hl 6 rfl) ?_
                      refine lv_iload hx hb dX7_copy_85 (lv_at hl 7 rfl) ?_
                      obtain ⟨r87_163, hc_164, hf⟩ := bd1_e hf
                      refine vp_callSi (va_runV (As := [.int x4, .int x5]) (rest := []) ⟨hx, hb, hml, hown, hts⟩ (c_X3_holds l dC dI cI cZ cP cS h_t_s3 h_t_s3_items (v_sform 3) (v_ssize 3) x4 x5 n r87_163 hc_164) (cwV 2 hts gX7_copy_X3_holds rfl rfl rfl (by decide +kernel) ⟨Nat.le_of_ble_eq_true rfl, Nat.le_of_ble_eq_true rfl⟩) (pv_ro (ci := 3) (q0 := 0) hK (hP.sub (ws' := (wd_X3_holds cI cZ cP cS h_t_s3 h_t_s3_items (v_sform 3) (v_ssize 3))) [8] rfl) rfl rfl) rfl rfl hl.1 rfl (lv_room (Nat.le_of_ble_eq_true rfl)) dX7_copy_87 ⟨Nat.zero_le _, Nat.zero_le _⟩).run (fun x e_165 => ?_)
                      obtain ⟨e_165, hb_166⟩ := e_165
                      rw [e_165] at hb_166 ⊢
                      refine lv_if_ne (tgt := 99) hx hb dX7_copy_90 (by decide) (fun c90 => ?_) (fun c90 => ?_)
                      · rw [if_neg c90] at hf
                        refine lv_aload hx hb dX7_copy_99 (lv_at hl 1 rfl) ?_
                        refine va_get (D := (dC, dI)) (ci := 3) (v := .ref h_t_s1_items) (C := RX3) (T := TX3) (N := 3) hx hb hts hinX3 hown hK hP 4 rfl rfl 2 (by decide) (hts (.fieldLink RX7 229 "SecondSunrise$Sheet" "items" "[I") (by decide +kernel)) (fun _ h9 => h9) rfl dX7_copy_101 ?_
                        refine lv_iload_n hx hb dX7_copy_104 rfl (lv_at hl 4 rfl) ?_
                        refine lv_aload hx hb dX7_copy_105 (lv_at hl 0 rfl) ?_
                        refine va_get (D := (dC, dI)) (ci := 3) (v := .ref h_t_s3_items) (C := RX3) (T := TX3) (N := 3) hx hb hts hinX3 hown hK hP 8 rfl rfl 2 (by decide) (hts (.fieldLink RX7 229 "SecondSunrise$Sheet" "items" "[I") (by decide +kernel)) (fun _ h9 => h9) rfl dX7_copy_107 ?_
                        refine lv_iload hx hb dX7_copy_110 (lv_at hl 6 rfl) ?_
                        refine lv_iload hx hb dX7_copy_112 (lv_at hl 7 rfl) ?_
                        obtain ⟨⟨ha_1671, ha_1672, ha_1673, ha_1674, ha_1675⟩, hf⟩ := ac_e hf
                        refine va_copyi hx hb (hml.trans hl.1.symm) hown (hts (.methodLink RX7 274 arraycopyName) (by decide +kernel)) (hts (.native arraycopyName) (by decide +kernel)) (hts (.static arraycopyName) (by decide +kernel)) (hts (.initialized "java/lang/System") (by decide +kernel)) hK hP hD hS 5 9 0 0 rfl rfl rfl rfl rfl ha_1671 ha_1672 ha_1673 ha_1674 ha_1675 (fun _ _ => rfl) (Nat.le_of_ble_eq_true rfl) (by decide) dX7_copy_114 (fun H locs hP hD hS => ?_)
                        have hP : va_P (dC, dI) vwCl (wd_X7_copy cI cZ cP cS h_t h_t_red h_t_blue h_t_sky h_t_diary h_t_calendar h_t_awakeIn h_t_worths h_t_plants h_t_sheets h_t_bestFrom h_t_s0 h_t_s1 h_t_s2 h_t_s3 h_t_s0_items h_t_s1_items h_t_s2_items h_t_s3_items v_latestFinding v_sform v_ssize (va_up v_sitems 3 (va_cpy (v_sitems 1) (v_sitems 3) x2.toNatClampNeg x4.toNatClampNeg x5.toNatClampNeg))) H := hP
                        have hD : va_D (va_A (wd_X7_copy cI cZ cP cS h_t h_t_red h_t_blue h_t_sky h_t_diary h_t_calendar h_t_awakeIn h_t_worths h_t_plants h_t_sheets h_t_bestFrom h_t_s0 h_t_s1 h_t_s2 h_t_s3 h_t_s0_items h_t_s1_items h_t_s2_items h_t_s3_items v_latestFinding v_sform v_ssize v_sitems) s.heap.size) (wd_X7_copy cI cZ cP cS h_t h_t_red h_t_blue h_t_sky h_t_diary h_t_calendar h_t_awakeIn h_t_worths h_t_plants h_t_sheets h_t_bestFrom h_t_s0 h_t_s1 h_t_s2 h_t_s3 h_t_s0_items h_t_s1_items h_t_s2_items h_t_s3_items v_latestFinding v_sform v_ssize (va_up v_sitems 3 (va_cpy (v_sitems 1) (v_sitems 3) x2.toNatClampNeg x4.toNatClampNeg x5.toNatClampNeg))) := hD
                        refine lv_iconst (v := 1) hx hb dX7_copy_117 (by decide) ?_
                        have hq0 := Option.some.inj hf
                        obtain ⟨eq0, hq1⟩ := Prod.mk.inj hq0
                        obtain ⟨eq1, hq2⟩ := Prod.mk.inj hq1
                        clear hf hq0 hq1
                        subst eq0
                        subst eq1
                        subst hq2
                        exact W.iret hx hb hr (fun t ht hW => ⟨⟨_, (), rfl, rfl, by rw [ht]; exact hP, va_K.moved hW.alike hK, hD⟩, hS.F ht⟩) hS.2.2 dX7_copy_118
                      · rw [if_pos c90] at hf
                        exact hj93 ls (lv_sub hl [2] rfl) hf
                  · rw [if_neg c61] at hf
                    refine lv_aload_n hx hb dX7_copy_64 rfl (lv_at hl 2 rfl) ?_
                    refine lv_iconst (v := 4) hx hb dX7_copy_65 (by decide) ?_
                    obtain ⟨r66_168, o66_169, hc_170, hf⟩ := bd2_e hf
                    refine rwi_call (isC := [0]) (isR := [1, 2, 3, 4, 5, 6, 7, 8, 9]) (perm := [9, 0, 1, 2, 3, 4, 5, 6, 7, 8]) (wr := [(h_t_sheets, .inl (cS, 4, .inr (.inr (.inr (.inr (ar4 h_t_s0 h_t_s1 h_t_s2 h_t_s3)))))), (h_t_s0, .inr (3, [.int (v_sform 0), .int (v_ssize 0), .ref h_t_s0_items])), (h_t_s0_items, .inl (cI, 48, .inl (v_sitems 0))), (h_t_s1, .inr (3, [.int (v_sform 1), .int (v_ssize 1), .ref h_t_s1_items])), (h_t_s1_items, .inl (cI, 48, .inl (v_sitems 1))), (h_t_s2, .inr (3, [.int (v_sform 2), .int (v_ssize 2), .ref h_t_s2_items])), (h_t_s2_items, .inl (cI, 48, .inl (v_sitems 2))), (h_t_s3, .inr (3, [.int (v_sform 3), .int (v_ssize 3), .ref h_t_s3_items])), (h_t_s3_items, .inl (cI, 48, .inl (v_sitems 3)))]) (ws2 := (wd_X7_copy cI cZ cP cS h_t h_t_red h_t_blue h_t_sky h_t_diary h_t_calendar h_t_awakeIn h_t_worths h_t_plants h_t_sheets h_t_bestFrom h_t_s0 h_t_s1 h_t_s2 h_t_s3 h_t_s0_items h_t_s1_items h_t_s2_items h_t_s3_items o66_169 v_sform v_ssize v_sitems)) (va_runV (As := [.int 4]) (rest := []) ⟨hx, hb, hml, hown, hts⟩ (c_X7_found l dC dI cI cZ cP cS H.size h_t h_t_red h_t_blue h_t_sky h_t_diary h_t_calendar h_t_awakeIn h_t_worths h_t_plants h_t_sheets h_t_bestFrom v_latestFinding 4 n r66_168 o66_169 hc_170) (cwV 1 hts gX7_copy_X7_found rfl rfl rfl (by decide +kernel) ⟨Nat.le_of_ble_eq_true rfl, Nat.le_of_ble_eq_true rfl⟩) (pv_rw (ci := 6) (q0 := 0) hK (hP.sub (ws' := (wd_X7_found cI cZ cP cS h_t h_t_red h_t_blue h_t_sky h_t_diary h_t_calendar h_t_awakeIn h_t_worths h_t_plants h_t_sheets h_t_bestFrom v_latestFinding)) [0] rfl) (hD.sub (ws' := (wd_X7_found cI cZ cP cS h_t h_t_red h_t_blue h_t_sky h_t_diary h_t_calendar h_t_awakeIn h_t_worths h_t_plants h_t_sheets h_t_bestFrom v_latestFinding)) [0] (by decide) rfl) rfl rfl) rfl rfl hl.1 rfl (lv_room (Nat.le_of_ble_eq_true rfl)) dX7_copy_66 ⟨Nat.zero_le _, Nat.zero_le _⟩) hS hA hP hD rfl (by decide) (by decide) rfl (by decide) rfl rfl (fun H locs hP hD hS => ?_)
                    have hq0 := Option.some.inj hf
                    obtain ⟨eq0, hq1⟩ := Prod.mk.inj hq0
                    obtain ⟨eq1, hq2⟩ := Prod.mk.inj hq1
                    clear hf hq0 hq1
                    subst eq0
                    subst eq1
                    subst hq2
                    exact W.iret hx hb hr (fun t ht hW => ⟨⟨_, (), rfl, rfl, by rw [ht]; exact hP, va_K.moved hW.alike hK, hD⟩, hS.F ht⟩) hS.2.2 dX7_copy_69
                · rw [if_pos c42] at hf
                  exact hj45 ls (lv_sub hl [2] rfl) hf
            · rw [if_neg c9_3] at hf e_87
              subst e_87
              refine W.eq (g2 := F0 m 12 ls [.null]) rfl ?_
              refine lv_astoreN (lv' := [(7, .null), (6, .ref h_t_s1), (0, .ref h_t), (1, .int x1), (2, .int x2), (3, .int x3), (4, .int x4), (5, .int x5)]) hx hb dX7_copy_12 hl (by decide) rfl (fun ls hl => ?_)
              refine lv_aload hx hb dX7_copy_14 (lv_at hl 1 rfl) ?_
              refine lv_ifnull hx hb dX7_copy_16 ?_
              refine lv_aloadN hx hb dX7_copy_19 (lv_at hl 0 rfl) ?_
              refine lv_ifnonnullN hx hb dX7_copy_21 ?_
              refine lv_bipush (v := (-2)) hx hb dX7_copy_24 (by decide) ?_
              have hq0 := Option.some.inj hf
              obtain ⟨eq0, hq1⟩ := Prod.mk.inj hq0
              obtain ⟨eq1, hq2⟩ := Prod.mk.inj hq1
              clear hf hq0 hq1
              subst eq0
              subst eq1
              subst hq2
              exact W.iret hx hb hr (fun t ht hW => ⟨⟨_, (), rfl, rfl, by rw [ht]; exact hP, va_K.moved hW.alike hK, hD⟩, hS.F ht⟩) hS.2.2 dX7_copy_26
    · rw [if_neg c2_1] at hf e_1
      by_cases c2_2 : x1 = 2
      · rw [if_pos c2_2] at hf e_1
        subst e_1
        refine W.eq (g2 := F0 m 5 ls [.ref h_t_s2]) rfl ?_
        refine lv_astore (lv' := [(6, .ref h_t_s2), (0, .ref h_t), (1, .int x1), (2, .int x2), (3, .int x3), (4, .int x4), (5, .int x5)]) hx hb dX7_copy_5 hl (by decide) rfl (fun ls hl => ?_)
        refine lv_aload_n hx hb dX7_copy_7 rfl (lv_at hl 1 rfl) ?_
        refine lv_iload_n hx hb dX7_copy_8 rfl (lv_at hl 4 rfl) ?_
        refine va_csq (va_runV (As := [.int x3]) (rest := []) ⟨hx, hb, hml, hown, hts⟩ (c_X7_sheetOf l dC dI cI cZ cP cS h_t h_t_red h_t_blue h_t_sky h_t_diary h_t_calendar h_t_awakeIn h_t_worths h_t_plants h_t_sheets h_t_bestFrom h_t_s0 h_t_s1 h_t_s2 h_t_s3 v_latestFinding x3) (cwV 1 hts gX7_copy_X7_sheetOf rfl rfl rfl (by decide +kernel) ⟨Nat.le_of_ble_eq_true rfl, Nat.le_of_ble_eq_true rfl⟩) (pv_ro (ci := 6) (q0 := 0) hK (hP.sub (ws' := (wd_X7_sheetOf cI cZ cP cS h_t h_t_red h_t_blue h_t_sky h_t_diary h_t_calendar h_t_awakeIn h_t_worths h_t_plants h_t_sheets h_t_bestFrom h_t_s0 h_t_s1 h_t_s2 h_t_s3 v_latestFinding)) [0, 1] rfl) rfl rfl) rfl rfl hl.1 rfl (lv_room (Nat.le_of_ble_eq_true rfl)) dX7_copy_9 ⟨Nat.zero_le _, Nat.zero_le _⟩).run (fun x e_172 => ?_)
        by_cases c9_0 : x3 = 0
        · rw [if_pos c9_0] at hf e_172
          subst e_172
          refine W.eq (g2 := F0 m 12 ls [.ref h_t_s0]) rfl ?_
          refine lv_astore (lv' := [(7, .ref h_t_s0), (6, .ref h_t_s2), (0, .ref h_t), (1, .int x1), (2, .int x2), (3, .int x3), (4, .int x4), (5, .int x5)]) hx hb dX7_copy_12 hl (by decide) rfl (fun ls hl => ?_)
          refine lv_aload hx hb dX7_copy_14 (lv_at hl 1 rfl) ?_
          refine lv_ifnull hx hb dX7_copy_16 ?_
          refine lv_aload hx hb dX7_copy_19 (lv_at hl 0 rfl) ?_
          refine lv_ifnonnull (tgt := 27) hx hb dX7_copy_21 (by decide) ?_
          refine lv_aload hx hb dX7_copy_27 (lv_at hl 1 rfl) ?_
          refine va_get (D := (dC, dI)) (ci := 3) (v := .int (v_sform 2)) (C := RX3) (T := TX3) (N := 3) hx hb hts hinX3 hown hK hP 6 rfl rfl 0 (by decide) (hts (.fieldLink RX7 222 "SecondSunrise$Sheet" "form" "I") (by decide +kernel)) (fun _ h9 => h9) rfl dX7_copy_29 ?_
          refine lv_iconst (v := (-1)) hx hb dX7_copy_32 (by decide) ?_
          obtain ⟨k45, ek45, hf⟩ := jn0_e hf
          have hj45 : ∀ (ls : Array Slot), lv_has ls 8 [(0, .ref h_t)] → k45 = some (r, o_latestFinding, o_sitems) → W p l e (headSpec wsX7_copy rm_X7_copy).room s m ([.ref h_t, .int x1, .int x2, .int x3, .int x4, .int x5] : List Value).toArray below meth c H locs 0 0 (MQ below (RWi (dC, dI) (TY cI cZ cP cS) r s.heap.size (wd_X7_copy cI cZ cP cS h_t h_t_red h_t_blue h_t_sky h_t_diary h_t_calendar h_t_awakeIn h_t_worths h_t_plants h_t_sheets h_t_bestFrom h_t_s0 h_t_s1 h_t_s2 h_t_s3 h_t_s0_items h_t_s1_items h_t_s2_items h_t_s3_items v_latestFinding v_sform v_ssize v_sitems) (wd_X7_copy cI cZ cP cS h_t h_t_red h_t_blue h_t_sky h_t_diary h_t_calendar h_t_awakeIn h_t_worths h_t_plants h_t_sheets h_t_bestFrom h_t_s0 h_t_s1 h_t_s2 h_t_s3 h_t_s0_items h_t_s1_items h_t_s2_items h_t_s3_items o_latestFinding v_sform v_ssize o_sitems)) ([.ref h_t, .int x1, .int x2, .int x3, .int x4, .int x5] : List Value).toArray s 0 0 (va_A (wd_X7_copy cI cZ cP cS h_t h_t_red h_t_blue h_t_sky h_t_diary h_t_calendar h_t_awakeIn h_t_worths h_t_plants h_t_sheets h_t_bestFrom h_t_s0 h_t_s1 h_t_s2 h_t_s3 h_t_s0_items h_t_s1_items h_t_s2_items h_t_s3_items v_latestFinding v_sform v_ssize v_sitems) s.heap.size)) (F0 m 45 ls []) := by
            intro ls hl hf
            rw [ek45] at hf
            refine lv_aload_n hx hb dX7_copy_45 rfl (lv_at hl 0 rfl) ?_
            refine lv_iconst (v := 1) hx hb dX7_copy_46 (by decide) ?_
            obtain ⟨r47_173, o47_174, hc_175, hf⟩ := bd2_e hf
            refine rwi_call (isC := [0]) (isR := [1, 2, 3, 4, 5, 6, 7, 8, 9]) (perm := [9, 0, 1, 2, 3, 4, 5, 6, 7, 8]) (wr := [(h_t_sheets, .inl (cS, 4, .inr (.inr (.inr (.inr (ar4 h_t_s0 h_t_s1 h_t_s2 h_t_s3)))))), (h_t_s0, .inr (3, [.int (v_sform 0), .int (v_ssize 0), .ref h_t_s0_items])), (h_t_s0_items, .inl (cI, 48, .inl (v_sitems 0))), (h_t_s1, .inr (3, [.int (v_sform 1), .int (v_ssize 1), .ref h_t_s1_items])), (h_t_s1_items, .inl (cI, 48, .inl (v_sitems 1))), (h_t_s2, .inr (3, [.int (v_sform 2), .int (v_ssize 2), .ref h_t_s2_items])), (h_t_s2_items, .inl (cI, 48, .inl (v_sitems 2))), (h_t_s3, .inr (3, [.int (v_sform 3), .int (v_ssize 3), .ref h_t_s3_items])), (h_t_s3_items, .inl (cI, 48, .inl (v_sitems 3)))]) (ws2 := (wd_X7_copy cI cZ cP cS h_t h_t_red h_t_blue h_t_sky h_t_diary h_t_calendar h_t_awakeIn h_t_worths h_t_plants h_t_sheets h_t_bestFrom h_t_s0 h_t_s1 h_t_s2 h_t_s3 h_t_s0_items h_t_s1_items h_t_s2_items h_t_s3_items o47_174 v_sform v_ssize v_sitems)) (va_runV (As := [.int 1]) (rest := []) ⟨hx, hb, hml, hown, hts⟩ (c_X7_found l dC dI cI cZ cP cS H.size h_t h_t_red h_t_blue h_t_sky h_t_diary h_t_calendar h_t_awakeIn h_t_worths h_t_plants h_t_sheets h_t_bestFrom v_latestFinding 1 n r47_173 o47_174 hc_175) (cwV 1 hts gX7_copy_X7_found rfl rfl rfl (by decide +kernel) ⟨Nat.le_of_ble_eq_true rfl, Nat.le_of_ble_eq_true rfl⟩) (pv_rw (ci := 6) (q0 := 0) hK (hP.sub (ws' := (wd_X7_found cI cZ cP cS h_t h_t_red h_t_blue h_t_sky h_t_diary h_t_calendar h_t_awakeIn h_t_worths h_t_plants h_t_sheets h_t_bestFrom v_latestFinding)) [0] rfl) (hD.sub (ws' := (wd_X7_found cI cZ cP cS h_t h_t_red h_t_blue h_t_sky h_t_diary h_t_calendar h_t_awakeIn h_t_worths h_t_plants h_t_sheets h_t_bestFrom v_latestFinding)) [0] (by decide) rfl) rfl rfl) rfl rfl hl.1 rfl (lv_room (Nat.le_of_ble_eq_true rfl)) dX7_copy_47 ⟨Nat.zero_le _, Nat.zero_le _⟩) hS hA hP hD rfl (by decide) (by decide) rfl (by decide) rfl rfl (fun H locs hP hD hS => ?_)
            have hq0 := Option.some.inj hf
            obtain ⟨eq0, hq1⟩ := Prod.mk.inj hq0
            obtain ⟨eq1, hq2⟩ := Prod.mk.inj hq1
            clear hf hq0 hq1
            subst eq0
            subst eq1
            subst hq2
            exact W.iret hx hb hr (fun t ht hW => ⟨⟨_, (), rfl, rfl, by rw [ht]; exact hP, va_K.moved hW.alike hK, hD⟩, hS.F ht⟩) hS.2.2 dX7_copy_50
          refine lv_icmp_eq (tgt := 45) hx hb dX7_copy_33 (by decide) (fun c33 => ?_) (fun c33 => ?_)
          · rw [if_pos c33] at hf
            exact hj45 ls (lv_sub hl [2] rfl) hf
          · rw [if_neg c33] at hf
            refine lv_aload hx hb dX7_copy_36 (lv_at hl 0 rfl) ?_
            refine va_get (D := (dC, dI)) (ci := 3) (v := .int (v_sform 0)) (C := RX3) (T := TX3) (N := 3) hx hb hts hinX3 hown hK hP 2 rfl rfl 0 (by decide) (hts (.fieldLink RX7 222 "SecondSunrise$Sheet" "form" "I") (by decide +kernel)) (fun _ h9 => h9) rfl dX7_copy_38 ?_
            refine lv_iconst (v := (-1)) hx hb dX7_copy_41 (by decide) ?_
            refine lv_icmp_ne (tgt := 51) hx hb dX7_copy_42 (by decide) (fun c42 => ?_) (fun c42 => ?_)
            · rw [if_neg c42] at hf
              refine lv_aload hx hb dX7_copy_51 (lv_at hl 1 rfl) ?_
              refine va_get (D := (dC, dI)) (ci := 3) (v := .int (v_sform 2)) (C := RX3) (T := TX3) (N := 3) hx hb hts hinX3 hown hK hP 6 rfl rfl 0 (by decide) (hts (.fieldLink RX7 222 "SecondSunrise$Sheet" "form" "I") (by decide +kernel)) (fun _ h9 => h9) rfl dX7_copy_53 ?_
              refine lv_aload hx hb dX7_copy_56 (lv_at hl 0 rfl) ?_
              refine va_get (D := (dC, dI)) (ci := 3) (v := .int (v_sform 0)) (C := RX3) (T := TX3) (N := 3) hx hb hts hinX3 hown hK hP 2 rfl rfl 0 (by decide) (hts (.fieldLink RX7 222 "SecondSunrise$Sheet" "form" "I") (by decide +kernel)) (fun _ h9 => h9) rfl dX7_copy_58 ?_
              refine lv_icmp_eq (tgt := 70) hx hb dX7_copy_61 (by decide) (fun c61 => ?_) (fun c61 => ?_)
              · rw [if_pos c61] at hf
                refine lv_aload hx hb dX7_copy_70 (lv_at hl 1 rfl) ?_
                refine lv_iload_n hx hb dX7_copy_72 rfl (lv_at hl 4 rfl) ?_
                refine lv_iload hx hb dX7_copy_73 (lv_at hl 7 rfl) ?_
                obtain ⟨r75_177, hc_178, hf⟩ := bd1_e hf
                refine vp_callSi (va_runV (As := [.int x2, .int x5]) (rest := []) ⟨hx, hb, hml, hown, hts⟩ (c_X3_holds l dC dI cI cZ cP cS h_t_s2 h_t_s2_items (v_sform 2) (v_ssize 2) x2 x5 n r75_177 hc_178) (cwV 2 hts gX7_copy_X3_holds rfl rfl rfl (by decide +kernel) ⟨Nat.le_of_ble_eq_true rfl, Nat.le_of_ble_eq_true rfl⟩) (pv_ro (ci := 3) (q0 := 0) hK (hP.sub (ws' := (wd_X3_holds cI cZ cP cS h_t_s2 h_t_s2_items (v_sform 2) (v_ssize 2))) [6] rfl) rfl rfl) rfl rfl hl.1 rfl (lv_room (Nat.le_of_ble_eq_true rfl)) dX7_copy_75 ⟨Nat.zero_le _, Nat.zero_le _⟩).run (fun x e_179 => ?_)
                obtain ⟨e_179, hb_180⟩ := e_179
                rw [e_179] at hb_180 ⊢
                obtain ⟨k93, ek93, hf⟩ := jn0_e hf
                have hj93 : ∀ (ls : Array Slot), lv_has ls 8 [(0, .ref h_t)] → k93 = some (r, o_latestFinding, o_sitems) → W p l e (headSpec wsX7_copy rm_X7_copy).room s m ([.ref h_t, .int x1, .int x2, .int x3, .int x4, .int x5] : List Value).toArray below meth c H locs 0 0 (MQ below (RWi (dC, dI) (TY cI cZ cP cS) r s.heap.size (wd_X7_copy cI cZ cP cS h_t h_t_red h_t_blue h_t_sky h_t_diary h_t_calendar h_t_awakeIn h_t_worths h_t_plants h_t_sheets h_t_bestFrom h_t_s0 h_t_s1 h_t_s2 h_t_s3 h_t_s0_items h_t_s1_items h_t_s2_items h_t_s3_items v_latestFinding v_sform v_ssize v_sitems) (wd_X7_copy cI cZ cP cS h_t h_t_red h_t_blue h_t_sky h_t_diary h_t_calendar h_t_awakeIn h_t_worths h_t_plants h_t_sheets h_t_bestFrom h_t_s0 h_t_s1 h_t_s2 h_t_s3 h_t_s0_items h_t_s1_items h_t_s2_items h_t_s3_items o_latestFinding v_sform v_ssize o_sitems)) ([.ref h_t, .int x1, .int x2, .int x3, .int x4, .int x5] : List Value).toArray s 0 0 (va_A (wd_X7_copy cI cZ cP cS h_t h_t_red h_t_blue h_t_sky h_t_diary h_t_calendar h_t_awakeIn h_t_worths h_t_plants h_t_sheets h_t_bestFrom h_t_s0 h_t_s1 h_t_s2 h_t_s3 h_t_s0_items h_t_s1_items h_t_s2_items h_t_s3_items v_latestFinding v_sform v_ssize v_sitems) s.heap.size)) (F0 m 93 ls []) := by
                  intro ls hl hf
                  rw [ek93] at hf
                  refine lv_aload_n hx hb dX7_copy_93 rfl (lv_at hl 0 rfl) ?_
                  refine lv_iconst (v := 2) hx hb dX7_copy_94 (by decide) ?_
                  obtain ⟨r95_181, o95_182, hc_183, hf⟩ := bd2_e hf
                  refine rwi_call (isC := [0]) (isR := [1, 2, 3, 4, 5, 6, 7, 8, 9]) (perm := [9, 0, 1, 2, 3, 4, 5, 6, 7, 8]) (wr := [(h_t_sheets, .inl (cS, 4, .inr (.inr (.inr (.inr (ar4 h_t_s0 h_t_s1 h_t_s2 h_t_s3)))))), (h_t_s0, .inr (3, [.int (v_sform 0), .int (v_ssize 0), .ref h_t_s0_items])), (h_t_s0_items, .inl (cI, 48, .inl (v_sitems 0))), (h_t_s1, .inr (3, [.int (v_sform 1), .int (v_ssize 1), .ref h_t_s1_items])), (h_t_s1_items, .inl (cI, 48, .inl (v_sitems 1))), (h_t_s2, .inr (3, [.int (v_sform 2), .int (v_ssize 2), .ref h_t_s2_items])), (h_t_s2_items, .inl (cI, 48, .inl (v_sitems 2))), (h_t_s3, .inr (3, [.int (v_sform 3), .int (v_ssize 3), .ref h_t_s3_items])), (h_t_s3_items, .inl (cI, 48, .inl (v_sitems 3)))]) (ws2 := (wd_X7_copy cI cZ cP cS h_t h_t_red h_t_blue h_t_sky h_t_diary h_t_calendar h_t_awakeIn h_t_worths h_t_plants h_t_sheets h_t_bestFrom h_t_s0 h_t_s1 h_t_s2 h_t_s3 h_t_s0_items h_t_s1_items h_t_s2_items h_t_s3_items o95_182 v_sform v_ssize v_sitems)) (va_runV (As := [.int 2]) (rest := []) ⟨hx, hb, hml, hown, hts⟩ (c_X7_found l dC dI cI cZ cP cS H.size h_t h_t_red h_t_blue h_t_sky h_t_diary h_t_calendar h_t_awakeIn h_t_worths h_t_plants h_t_sheets h_t_bestFrom v_latestFinding 2 n r95_181 o95_182 hc_183) (cwV 1 hts gX7_copy_X7_found rfl rfl rfl (by decide +kernel) ⟨Nat.le_of_ble_eq_true rfl, Nat.le_of_ble_eq_true rfl⟩) (pv_rw (ci := 6) (q0 := 0) hK (hP.sub (ws' := (wd_X7_found cI cZ cP cS h_t h_t_red h_t_blue h_t_sky h_t_diary h_t_calendar h_t_awakeIn h_t_worths h_t_plants h_t_sheets h_t_bestFrom v_latestFinding)) [0] rfl) (hD.sub (ws' := (wd_X7_found cI cZ cP cS h_t h_t_red h_t_blue h_t_sky h_t_diary h_t_calendar h_t_awakeIn h_t_worths h_t_plants h_t_sheets h_t_bestFrom v_latestFinding)) [0] (by decide) rfl) rfl rfl) rfl rfl hl.1 rfl (lv_room (Nat.le_of_ble_eq_true rfl)) dX7_copy_95 ⟨Nat.zero_le _, Nat.zero_le _⟩) hS hA hP hD rfl (by decide) (by decide) rfl (by decide) rfl rfl (fun H locs hP hD hS => ?_)
                  have hq0 := Option.some.inj hf
                  obtain ⟨eq0, hq1⟩ := Prod.mk.inj hq0
                  obtain ⟨eq1, hq2⟩ := Prod.mk.inj hq1
                  clear hf hq0 hq1
                  subst eq0
                  subst eq1
                  subst hq2
                  exact W.iret hx hb hr (fun t ht hW => ⟨⟨_, (), rfl, rfl, by rw [ht]; exact hP, va_K.moved hW.alike hK, hD⟩, hS.F ht⟩) hS.2.2 dX7_copy_98
                refine lv_if_eq (tgt := 93) hx hb dX7_copy_78 (by decide) (fun c78 => ?_) (fun c78 => ?_)
                · rw [if_pos c78] at hf
                  exact hj93 ls (lv_sub hl [2] rfl) hf
                · rw [if_neg c78] at hf
                  refine lv_aload hx hb dX7_copy_81 (lv_at hl 0 rfl) ?_
                  refine lv_iload hx hb dX7_copy_83 (lv_at hl 6 rfl) ?_
                  refine lv_iload hx hb dX7_copy_85 (lv_at hl 7 rfl) ?_
                  obtain ⟨r87_185, hc_186, hf⟩ := bd1_e hf
                  refine vp_callSi (va_runV (As := [.int x4, .int x5]) (rest := []) ⟨hx, hb, hml, hown, hts⟩ (c_X3_holds l dC dI cI cZ cP cS h_t_s0 h_t_s0_items (v_sform 0) (v_ssize 0) x4 x5 n r87_185 hc_186) (cwV 2 hts gX7_copy_X3_holds rfl rfl rfl (by decide +kernel) ⟨Nat.le_of_ble_eq_true rfl, Nat.le_of_ble_eq_true rfl⟩) (pv_ro (ci := 3) (q0 := 0) hK (hP.sub (ws' := (wd_X3_holds cI cZ cP cS h_t_s0 h_t_s0_items (v_sform 0) (v_ssize 0))) [2] rfl) rfl rfl) rfl rfl hl.1 rfl (lv_room (Nat.le_of_ble_eq_true rfl)) dX7_copy_87 ⟨Nat.zero_le _, Nat.zero_le _⟩).run (fun x e_187 => ?_)
                  obtain ⟨e_187, hb_188⟩ := e_187
                  rw [e_187] at hb_188 ⊢
                  refine lv_if_ne (tgt := 99) hx hb dX7_copy_90 (by decide) (fun c90 => ?_) (fun c90 => ?_)
                  · rw [if_neg c90] at hf
                    refine lv_aload hx hb dX7_copy_99 (lv_at hl 1 rfl) ?_
                    refine va_get (D := (dC, dI)) (ci := 3) (v := .ref h_t_s2_items) (C := RX3) (T := TX3) (N := 3) hx hb hts hinX3 hown hK hP 6 rfl rfl 2 (by decide) (hts (.fieldLink RX7 229 "SecondSunrise$Sheet" "items" "[I") (by decide +kernel)) (fun _ h9 => h9) rfl dX7_copy_101 ?_
                    refine lv_iload_n hx hb dX7_copy_104 rfl (lv_at hl 4 rfl) ?_
                    refine lv_aload hx hb dX7_copy_105 (lv_at hl 0 rfl) ?_
                    refine va_get (D := (dC, dI)) (ci := 3) (v := .ref h_t_s0_items) (C := RX3) (T := TX3) (N := 3) hx hb hts hinX3 hown hK hP 2 rfl rfl 2 (by decide) (hts (.fieldLink RX7 229 "SecondSunrise$Sheet" "items" "[I") (by decide +kernel)) (fun _ h9 => h9) rfl dX7_copy_107 ?_
                    refine lv_iload hx hb dX7_copy_110 (lv_at hl 6 rfl) ?_
                    refine lv_iload hx hb dX7_copy_112 (lv_at hl 7 rfl) ?_
                    obtain ⟨⟨ha_1891, ha_1892, ha_1893, ha_1894, ha_1895⟩, hf⟩ := ac_e hf
                    refine va_copyi hx hb (hml.trans hl.1.symm) hown (hts (.methodLink RX7 274 arraycopyName) (by decide +kernel)) (hts (.native arraycopyName) (by decide +kernel)) (hts (.static arraycopyName) (by decide +kernel)) (hts (.initialized "java/lang/System") (by decide +kernel)) hK hP hD hS 7 3 0 0 rfl rfl rfl rfl rfl ha_1891 ha_1892 ha_1893 ha_1894 ha_1895 (fun _ _ => rfl) (Nat.le_of_ble_eq_true rfl) (by decide) dX7_copy_114 (fun H locs hP hD hS => ?_)
                    have hP : va_P (dC, dI) vwCl (wd_X7_copy cI cZ cP cS h_t h_t_red h_t_blue h_t_sky h_t_diary h_t_calendar h_t_awakeIn h_t_worths h_t_plants h_t_sheets h_t_bestFrom h_t_s0 h_t_s1 h_t_s2 h_t_s3 h_t_s0_items h_t_s1_items h_t_s2_items h_t_s3_items v_latestFinding v_sform v_ssize (va_up v_sitems 0 (va_cpy (v_sitems 2) (v_sitems 0) x2.toNatClampNeg x4.toNatClampNeg x5.toNatClampNeg))) H := hP
                    have hD : va_D (va_A (wd_X7_copy cI cZ cP cS h_t h_t_red h_t_blue h_t_sky h_t_diary h_t_calendar h_t_awakeIn h_t_worths h_t_plants h_t_sheets h_t_bestFrom h_t_s0 h_t_s1 h_t_s2 h_t_s3 h_t_s0_items h_t_s1_items h_t_s2_items h_t_s3_items v_latestFinding v_sform v_ssize v_sitems) s.heap.size) (wd_X7_copy cI cZ cP cS h_t h_t_red h_t_blue h_t_sky h_t_diary h_t_calendar h_t_awakeIn h_t_worths h_t_plants h_t_sheets h_t_bestFrom h_t_s0 h_t_s1 h_t_s2 h_t_s3 h_t_s0_items h_t_s1_items h_t_s2_items h_t_s3_items v_latestFinding v_sform v_ssize (va_up v_sitems 0 (va_cpy (v_sitems 2) (v_sitems 0) x2.toNatClampNeg x4.toNatClampNeg x5.toNatClampNeg))) := hD
                    refine lv_iconst (v := 1) hx hb dX7_copy_117 (by decide) ?_
                    have hq0 := Option.some.inj hf
                    obtain ⟨eq0, hq1⟩ := Prod.mk.inj hq0
                    obtain ⟨eq1, hq2⟩ := Prod.mk.inj hq1
                    clear hf hq0 hq1
                    subst eq0
                    subst eq1
                    subst hq2
                    exact W.iret hx hb hr (fun t ht hW => ⟨⟨_, (), rfl, rfl, by rw [ht]; exact hP, va_K.moved hW.alike hK, hD⟩, hS.F ht⟩) hS.2.2 dX7_copy_118
                  · rw [if_pos c90] at hf
                    exact hj93 ls (lv_sub hl [2] rfl) hf
              · rw [if_neg c61] at hf
                refine lv_aload_n hx hb dX7_copy_64 rfl (lv_at hl 2 rfl) ?_
                refine lv_iconst (v := 4) hx hb dX7_copy_65 (by decide) ?_
                obtain ⟨r66_190, o66_191, hc_192, hf⟩ := bd2_e hf
                refine rwi_call (isC := [0]) (isR := [1, 2, 3, 4, 5, 6, 7, 8, 9]) (perm := [9, 0, 1, 2, 3, 4, 5, 6, 7, 8]) (wr := [(h_t_sheets, .inl (cS, 4, .inr (.inr (.inr (.inr (ar4 h_t_s0 h_t_s1 h_t_s2 h_t_s3)))))), (h_t_s0, .inr (3, [.int (v_sform 0), .int (v_ssize 0), .ref h_t_s0_items])), (h_t_s0_items, .inl (cI, 48, .inl (v_sitems 0))), (h_t_s1, .inr (3, [.int (v_sform 1), .int (v_ssize 1), .ref h_t_s1_items])), (h_t_s1_items, .inl (cI, 48, .inl (v_sitems 1))), (h_t_s2, .inr (3, [.int (v_sform 2), .int (v_ssize 2), .ref h_t_s2_items])), (h_t_s2_items, .inl (cI, 48, .inl (v_sitems 2))), (h_t_s3, .inr (3, [.int (v_sform 3), .int (v_ssize 3), .ref h_t_s3_items])), (h_t_s3_items, .inl (cI, 48, .inl (v_sitems 3)))]) (ws2 := (wd_X7_copy cI cZ cP cS h_t h_t_red h_t_blue h_t_sky h_t_diary h_t_calendar h_t_awakeIn h_t_worths h_t_plants h_t_sheets h_t_bestFrom h_t_s0 h_t_s1 h_t_s2 h_t_s3 h_t_s0_items h_t_s1_items h_t_s2_items h_t_s3_items o66_191 v_sform v_ssize v_sitems)) (va_runV (As := [.int 4]) (rest := []) ⟨hx, hb, hml, hown, hts⟩ (c_X7_found l dC dI cI cZ cP cS H.size h_t h_t_red h_t_blue h_t_sky h_t_diary h_t_calendar h_t_awakeIn h_t_worths h_t_plants h_t_sheets h_t_bestFrom v_latestFinding 4 n r66_190 o66_191 hc_192) (cwV 1 hts gX7_copy_X7_found rfl rfl rfl (by decide +kernel) ⟨Nat.le_of_ble_eq_true rfl, Nat.le_of_ble_eq_true rfl⟩) (pv_rw (ci := 6) (q0 := 0) hK (hP.sub (ws' := (wd_X7_found cI cZ cP cS h_t h_t_red h_t_blue h_t_sky h_t_diary h_t_calendar h_t_awakeIn h_t_worths h_t_plants h_t_sheets h_t_bestFrom v_latestFinding)) [0] rfl) (hD.sub (ws' := (wd_X7_found cI cZ cP cS h_t h_t_red h_t_blue h_t_sky h_t_diary h_t_calendar h_t_awakeIn h_t_worths h_t_plants h_t_sheets h_t_bestFrom v_latestFinding)) [0] (by decide) rfl) rfl rfl) rfl rfl hl.1 rfl (lv_room (Nat.le_of_ble_eq_true rfl)) dX7_copy_66 ⟨Nat.zero_le _, Nat.zero_le _⟩) hS hA hP hD rfl (by decide) (by decide) rfl (by decide) rfl rfl (fun H locs hP hD hS => ?_)
                have hq0 := Option.some.inj hf
                obtain ⟨eq0, hq1⟩ := Prod.mk.inj hq0
                obtain ⟨eq1, hq2⟩ := Prod.mk.inj hq1
                clear hf hq0 hq1
                subst eq0
                subst eq1
                subst hq2
                exact W.iret hx hb hr (fun t ht hW => ⟨⟨_, (), rfl, rfl, by rw [ht]; exact hP, va_K.moved hW.alike hK, hD⟩, hS.F ht⟩) hS.2.2 dX7_copy_69
            · rw [if_pos c42] at hf
              exact hj45 ls (lv_sub hl [2] rfl) hf
        · rw [if_neg c9_0] at hf e_172
          by_cases c9_1 : x3 = 1
          · rw [if_pos c9_1] at hf e_172
            subst e_172
            refine W.eq (g2 := F0 m 12 ls [.ref h_t_s1]) rfl ?_
            refine lv_astore (lv' := [(7, .ref h_t_s1), (6, .ref h_t_s2), (0, .ref h_t), (1, .int x1), (2, .int x2), (3, .int x3), (4, .int x4), (5, .int x5)]) hx hb dX7_copy_12 hl (by decide) rfl (fun ls hl => ?_)
            refine lv_aload hx hb dX7_copy_14 (lv_at hl 1 rfl) ?_
            refine lv_ifnull hx hb dX7_copy_16 ?_
            refine lv_aload hx hb dX7_copy_19 (lv_at hl 0 rfl) ?_
            refine lv_ifnonnull (tgt := 27) hx hb dX7_copy_21 (by decide) ?_
            refine lv_aload hx hb dX7_copy_27 (lv_at hl 1 rfl) ?_
            refine va_get (D := (dC, dI)) (ci := 3) (v := .int (v_sform 2)) (C := RX3) (T := TX3) (N := 3) hx hb hts hinX3 hown hK hP 6 rfl rfl 0 (by decide) (hts (.fieldLink RX7 222 "SecondSunrise$Sheet" "form" "I") (by decide +kernel)) (fun _ h9 => h9) rfl dX7_copy_29 ?_
            refine lv_iconst (v := (-1)) hx hb dX7_copy_32 (by decide) ?_
            obtain ⟨k45, ek45, hf⟩ := jn0_e hf
            have hj45 : ∀ (ls : Array Slot), lv_has ls 8 [(0, .ref h_t)] → k45 = some (r, o_latestFinding, o_sitems) → W p l e (headSpec wsX7_copy rm_X7_copy).room s m ([.ref h_t, .int x1, .int x2, .int x3, .int x4, .int x5] : List Value).toArray below meth c H locs 0 0 (MQ below (RWi (dC, dI) (TY cI cZ cP cS) r s.heap.size (wd_X7_copy cI cZ cP cS h_t h_t_red h_t_blue h_t_sky h_t_diary h_t_calendar h_t_awakeIn h_t_worths h_t_plants h_t_sheets h_t_bestFrom h_t_s0 h_t_s1 h_t_s2 h_t_s3 h_t_s0_items h_t_s1_items h_t_s2_items h_t_s3_items v_latestFinding v_sform v_ssize v_sitems) (wd_X7_copy cI cZ cP cS h_t h_t_red h_t_blue h_t_sky h_t_diary h_t_calendar h_t_awakeIn h_t_worths h_t_plants h_t_sheets h_t_bestFrom h_t_s0 h_t_s1 h_t_s2 h_t_s3 h_t_s0_items h_t_s1_items h_t_s2_items h_t_s3_items o_latestFinding v_sform v_ssize o_sitems)) ([.ref h_t, .int x1, .int x2, .int x3, .int x4, .int x5] : List Value).toArray s 0 0 (va_A (wd_X7_copy cI cZ cP cS h_t h_t_red h_t_blue h_t_sky h_t_diary h_t_calendar h_t_awakeIn h_t_worths h_t_plants h_t_sheets h_t_bestFrom h_t_s0 h_t_s1 h_t_s2 h_t_s3 h_t_s0_items h_t_s1_items h_t_s2_items h_t_s3_items v_latestFinding v_sform v_ssize v_sitems) s.heap.size)) (F0 m 45 ls []) := by
              intro ls hl hf
              rw [ek45] at hf
              refine lv_aload_n hx hb dX7_copy_45 rfl (lv_at hl 0 rfl) ?_
              refine lv_iconst (v := 1) hx hb dX7_copy_46 (by decide) ?_
              obtain ⟨r47_194, o47_195, hc_196, hf⟩ := bd2_e hf
              refine rwi_call (isC := [0]) (isR := [1, 2, 3, 4, 5, 6, 7, 8, 9]) (perm := [9, 0, 1, 2, 3, 4, 5, 6, 7, 8]) (wr := [(h_t_sheets, .inl (cS, 4, .inr (.inr (.inr (.inr (ar4 h_t_s0 h_t_s1 h_t_s2 h_t_s3)))))), (h_t_s0, .inr (3, [.int (v_sform 0), .int (v_ssize 0), .ref h_t_s0_items])), (h_t_s0_items, .inl (cI, 48, .inl (v_sitems 0))), (h_t_s1, .inr (3, [.int (v_sform 1), .int (v_ssize 1), .ref h_t_s1_items])), (h_t_s1_items, .inl (cI, 48, .inl (v_sitems 1))), (h_t_s2, .inr (3, [.int (v_sform 2), .int (v_ssize 2), .ref h_t_s2_items])), (h_t_s2_items, .inl (cI, 48, .inl (v_sitems 2))), (h_t_s3, .inr (3, [.int (v_sform 3), .int (v_ssize 3), .ref h_t_s3_items])), (h_t_s3_items, .inl (cI, 48, .inl (v_sitems 3)))]) (ws2 := (wd_X7_copy cI cZ cP cS h_t h_t_red h_t_blue h_t_sky h_t_diary h_t_calendar h_t_awakeIn h_t_worths h_t_plants h_t_sheets h_t_bestFrom h_t_s0 h_t_s1 h_t_s2 h_t_s3 h_t_s0_items h_t_s1_items h_t_s2_items h_t_s3_items o47_195 v_sform v_ssize v_sitems)) (va_runV (As := [.int 1]) (rest := []) ⟨hx, hb, hml, hown, hts⟩ (c_X7_found l dC dI cI cZ cP cS H.size h_t h_t_red h_t_blue h_t_sky h_t_diary h_t_calendar h_t_awakeIn h_t_worths h_t_plants h_t_sheets h_t_bestFrom v_latestFinding 1 n r47_194 o47_195 hc_196) (cwV 1 hts gX7_copy_X7_found rfl rfl rfl (by decide +kernel) ⟨Nat.le_of_ble_eq_true rfl, Nat.le_of_ble_eq_true rfl⟩) (pv_rw (ci := 6) (q0 := 0) hK (hP.sub (ws' := (wd_X7_found cI cZ cP cS h_t h_t_red h_t_blue h_t_sky h_t_diary h_t_calendar h_t_awakeIn h_t_worths h_t_plants h_t_sheets h_t_bestFrom v_latestFinding)) [0] rfl) (hD.sub (ws' := (wd_X7_found cI cZ cP cS h_t h_t_red h_t_blue h_t_sky h_t_diary h_t_calendar h_t_awakeIn h_t_worths h_t_plants h_t_sheets h_t_bestFrom v_latestFinding)) [0] (by decide) rfl) rfl rfl) rfl rfl hl.1 rfl (lv_room (Nat.le_of_ble_eq_true rfl)) dX7_copy_47 ⟨Nat.zero_le _, Nat.zero_le _⟩) hS hA hP hD rfl (by decide) (by decide) rfl (by decide) rfl rfl (fun H locs hP hD hS => ?_)
              have hq0 := Option.some.inj hf
              obtain ⟨eq0, hq1⟩ := Prod.mk.inj hq0
              obtain ⟨eq1, hq2⟩ := Prod.mk.inj hq1
              clear hf hq0 hq1
              subst eq0
              subst eq1
              subst hq2
              exact W.iret hx hb hr (fun t ht hW => ⟨⟨_, (), rfl, rfl, by rw [ht]; exact hP, va_K.moved hW.alike hK, hD⟩, hS.F ht⟩) hS.2.2 dX7_copy_50
            refine lv_icmp_eq (tgt := 45) hx hb dX7_copy_33 (by decide) (fun c33 => ?_) (fun c33 => ?_)
            · rw [if_pos c33] at hf
              exact hj45 ls (lv_sub hl [2] rfl) hf
            · rw [if_neg c33] at hf
              refine lv_aload hx hb dX7_copy_36 (lv_at hl 0 rfl) ?_
              refine va_get (D := (dC, dI)) (ci := 3) (v := .int (v_sform 1)) (C := RX3) (T := TX3) (N := 3) hx hb hts hinX3 hown hK hP 4 rfl rfl 0 (by decide) (hts (.fieldLink RX7 222 "SecondSunrise$Sheet" "form" "I") (by decide +kernel)) (fun _ h9 => h9) rfl dX7_copy_38 ?_
              refine lv_iconst (v := (-1)) hx hb dX7_copy_41 (by decide) ?_
              refine lv_icmp_ne (tgt := 51) hx hb dX7_copy_42 (by decide) (fun c42 => ?_) (fun c42 => ?_)
              · rw [if_neg c42] at hf
                refine lv_aload hx hb dX7_copy_51 (lv_at hl 1 rfl) ?_
                refine va_get (D := (dC, dI)) (ci := 3) (v := .int (v_sform 2)) (C := RX3) (T := TX3) (N := 3) hx hb hts hinX3 hown hK hP 6 rfl rfl 0 (by decide) (hts (.fieldLink RX7 222 "SecondSunrise$Sheet" "form" "I") (by decide +kernel)) (fun _ h9 => h9) rfl dX7_copy_53 ?_
                refine lv_aload hx hb dX7_copy_56 (lv_at hl 0 rfl) ?_
                refine va_get (D := (dC, dI)) (ci := 3) (v := .int (v_sform 1)) (C := RX3) (T := TX3) (N := 3) hx hb hts hinX3 hown hK hP 4 rfl rfl 0 (by decide) (hts (.fieldLink RX7 222 "SecondSunrise$Sheet" "form" "I") (by decide +kernel)) (fun _ h9 => h9) rfl dX7_copy_58 ?_
                refine lv_icmp_eq (tgt := 70) hx hb dX7_copy_61 (by decide) (fun c61 => ?_) (fun c61 => ?_)
                · rw [if_pos c61] at hf
                  refine lv_aload hx hb dX7_copy_70 (lv_at hl 1 rfl) ?_
                  refine lv_iload_n hx hb dX7_copy_72 rfl (lv_at hl 4 rfl) ?_
                  refine lv_iload hx hb dX7_copy_73 (lv_at hl 7 rfl) ?_
                  obtain ⟨r75_198, hc_199, hf⟩ := bd1_e hf
                  refine vp_callSi (va_runV (As := [.int x2, .int x5]) (rest := []) ⟨hx, hb, hml, hown, hts⟩ (c_X3_holds l dC dI cI cZ cP cS h_t_s2 h_t_s2_items (v_sform 2) (v_ssize 2) x2 x5 n r75_198 hc_199) (cwV 2 hts gX7_copy_X3_holds rfl rfl rfl (by decide +kernel) ⟨Nat.le_of_ble_eq_true rfl, Nat.le_of_ble_eq_true rfl⟩) (pv_ro (ci := 3) (q0 := 0) hK (hP.sub (ws' := (wd_X3_holds cI cZ cP cS h_t_s2 h_t_s2_items (v_sform 2) (v_ssize 2))) [6] rfl) rfl rfl) rfl rfl hl.1 rfl (lv_room (Nat.le_of_ble_eq_true rfl)) dX7_copy_75 ⟨Nat.zero_le _, Nat.zero_le _⟩).run (fun x e_200 => ?_)
                  obtain ⟨e_200, hb_201⟩ := e_200
                  rw [e_200] at hb_201 ⊢
                  obtain ⟨k93, ek93, hf⟩ := jn0_e hf
                  have hj93 : ∀ (ls : Array Slot), lv_has ls 8 [(0, .ref h_t)] → k93 = some (r, o_latestFinding, o_sitems) → W p l e (headSpec wsX7_copy rm_X7_copy).room s m ([.ref h_t, .int x1, .int x2, .int x3, .int x4, .int x5] : List Value).toArray below meth c H locs 0 0 (MQ below (RWi (dC, dI) (TY cI cZ cP cS) r s.heap.size (wd_X7_copy cI cZ cP cS h_t h_t_red h_t_blue h_t_sky h_t_diary h_t_calendar h_t_awakeIn h_t_worths h_t_plants h_t_sheets h_t_bestFrom h_t_s0 h_t_s1 h_t_s2 h_t_s3 h_t_s0_items h_t_s1_items h_t_s2_items h_t_s3_items v_latestFinding v_sform v_ssize v_sitems) (wd_X7_copy cI cZ cP cS h_t h_t_red h_t_blue h_t_sky h_t_diary h_t_calendar h_t_awakeIn h_t_worths h_t_plants h_t_sheets h_t_bestFrom h_t_s0 h_t_s1 h_t_s2 h_t_s3 h_t_s0_items h_t_s1_items h_t_s2_items h_t_s3_items o_latestFinding v_sform v_ssize o_sitems)) ([.ref h_t, .int x1, .int x2, .int x3, .int x4, .int x5] : List Value).toArray s 0 0 (va_A (wd_X7_copy cI cZ cP cS h_t h_t_red h_t_blue h_t_sky h_t_diary h_t_calendar h_t_awakeIn h_t_worths h_t_plants h_t_sheets h_t_bestFrom h_t_s0 h_t_s1 h_t_s2 h_t_s3 h_t_s0_items h_t_s1_items h_t_s2_items h_t_s3_items v_latestFinding v_sform v_ssize v_sitems) s.heap.size)) (F0 m 93 ls []) := by
                    intro ls hl hf
                    rw [ek93] at hf
                    refine lv_aload_n hx hb dX7_copy_93 rfl (lv_at hl 0 rfl) ?_
                    refine lv_iconst (v := 2) hx hb dX7_copy_94 (by decide) ?_
                    obtain ⟨r95_202, o95_203, hc_204, hf⟩ := bd2_e hf
                    refine rwi_call (isC := [0]) (isR := [1, 2, 3, 4, 5, 6, 7, 8, 9]) (perm := [9, 0, 1, 2, 3, 4, 5, 6, 7, 8]) (wr := [(h_t_sheets, .inl (cS, 4, .inr (.inr (.inr (.inr (ar4 h_t_s0 h_t_s1 h_t_s2 h_t_s3)))))), (h_t_s0, .inr (3, [.int (v_sform 0), .int (v_ssize 0), .ref h_t_s0_items])), (h_t_s0_items, .inl (cI, 48, .inl (v_sitems 0))), (h_t_s1, .inr (3, [.int (v_sform 1), .int (v_ssize 1), .ref h_t_s1_items])), (h_t_s1_items, .inl (cI, 48, .inl (v_sitems 1))), (h_t_s2, .inr (3, [.int (v_sform 2), .int (v_ssize 2), .ref h_t_s2_items])), (h_t_s2_items, .inl (cI, 48, .inl (v_sitems 2))), (h_t_s3, .inr (3, [.int (v_sform 3), .int (v_ssize 3), .ref h_t_s3_items])), (h_t_s3_items, .inl (cI, 48, .inl (v_sitems 3)))]) (ws2 := (wd_X7_copy cI cZ cP cS h_t h_t_red h_t_blue h_t_sky h_t_diary h_t_calendar h_t_awakeIn h_t_worths h_t_plants h_t_sheets h_t_bestFrom h_t_s0 h_t_s1 h_t_s2 h_t_s3 h_t_s0_items h_t_s1_items h_t_s2_items h_t_s3_items o95_203 v_sform v_ssize v_sitems)) (va_runV (As := [.int 2]) (rest := []) ⟨hx, hb, hml, hown, hts⟩ (c_X7_found l dC dI cI cZ cP cS H.size h_t h_t_red h_t_blue h_t_sky h_t_diary h_t_calendar h_t_awakeIn h_t_worths h_t_plants h_t_sheets h_t_bestFrom v_latestFinding 2 n r95_202 o95_203 hc_204) (cwV 1 hts gX7_copy_X7_found rfl rfl rfl (by decide +kernel) ⟨Nat.le_of_ble_eq_true rfl, Nat.le_of_ble_eq_true rfl⟩) (pv_rw (ci := 6) (q0 := 0) hK (hP.sub (ws' := (wd_X7_found cI cZ cP cS h_t h_t_red h_t_blue h_t_sky h_t_diary h_t_calendar h_t_awakeIn h_t_worths h_t_plants h_t_sheets h_t_bestFrom v_latestFinding)) [0] rfl) (hD.sub (ws' := (wd_X7_found cI cZ cP cS h_t h_t_red h_t_blue h_t_sky h_t_diary h_t_calendar h_t_awakeIn h_t_worths h_t_plants h_t_sheets h_t_bestFrom v_latestFinding)) [0] (by decide) rfl) rfl rfl) rfl rfl hl.1 rfl (lv_room (Nat.le_of_ble_eq_true rfl)) dX7_copy_95 ⟨Nat.zero_le _, Nat.zero_le _⟩) hS hA hP hD rfl (by decide) (by decide) rfl (by decide) rfl rfl (fun H locs hP hD hS => ?_)
                    have hq0 := Option.some.inj hf
                    obtain ⟨eq0, hq1⟩ := Prod.mk.inj hq0
                    obtain ⟨eq1, hq2⟩ := Prod.mk.inj hq1
                    clear hf hq0 hq1
                    subst eq0
                    subst eq1
                    subst hq2
                    exact W.iret hx hb hr (fun t ht hW => ⟨⟨_, (), rfl, rfl, by rw [ht]; exact hP, va_K.moved hW.alike hK, hD⟩, hS.F ht⟩) hS.2.2 dX7_copy_98
                  refine lv_if_eq (tgt := 93) hx hb dX7_copy_78 (by decide) (fun c78 => ?_) (fun c78 => ?_)
                  · rw [if_pos c78] at hf
                    exact hj93 ls (lv_sub hl [2] rfl) hf
                  · rw [if_neg c78] at hf
                    refine lv_aload hx hb dX7_copy_81 (lv_at hl 0 rfl) ?_
                    refine lv_iload hx hb dX7_copy_83 (lv_at hl 6 rfl) ?_
                    refine lv_iload hx hb dX7_copy_85 (lv_at hl 7 rfl) ?_
                    obtain ⟨r87_206, hc_207, hf⟩ := bd1_e hf
                    refine vp_callSi (va_runV (As := [.int x4, .int x5]) (rest := []) ⟨hx, hb, hml, hown, hts⟩ (c_X3_holds l dC dI cI cZ cP cS h_t_s1 h_t_s1_items (v_sform 1) (v_ssize 1) x4 x5 n r87_206 hc_207) (cwV 2 hts gX7_copy_X3_holds rfl rfl rfl (by decide +kernel) ⟨Nat.le_of_ble_eq_true rfl, Nat.le_of_ble_eq_true rfl⟩) (pv_ro (ci := 3) (q0 := 0) hK (hP.sub (ws' := (wd_X3_holds cI cZ cP cS h_t_s1 h_t_s1_items (v_sform 1) (v_ssize 1))) [4] rfl) rfl rfl) rfl rfl hl.1 rfl (lv_room (Nat.le_of_ble_eq_true rfl)) dX7_copy_87 ⟨Nat.zero_le _, Nat.zero_le _⟩).run (fun x e_208 => ?_)
                    obtain ⟨e_208, hb_209⟩ := e_208
                    rw [e_208] at hb_209 ⊢
                    refine lv_if_ne (tgt := 99) hx hb dX7_copy_90 (by decide) (fun c90 => ?_) (fun c90 => ?_)
                    · rw [if_neg c90] at hf
                      refine lv_aload hx hb dX7_copy_99 (lv_at hl 1 rfl) ?_
                      refine va_get (D := (dC, dI)) (ci := 3) (v := .ref h_t_s2_items) (C := RX3) (T := TX3) (N := 3) hx hb hts hinX3 hown hK hP 6 rfl rfl 2 (by decide) (hts (.fieldLink RX7 229 "SecondSunrise$Sheet" "items" "[I") (by decide +kernel)) (fun _ h9 => h9) rfl dX7_copy_101 ?_
                      refine lv_iload_n hx hb dX7_copy_104 rfl (lv_at hl 4 rfl) ?_
                      refine lv_aload hx hb dX7_copy_105 (lv_at hl 0 rfl) ?_
                      refine va_get (D := (dC, dI)) (ci := 3) (v := .ref h_t_s1_items) (C := RX3) (T := TX3) (N := 3) hx hb hts hinX3 hown hK hP 4 rfl rfl 2 (by decide) (hts (.fieldLink RX7 229 "SecondSunrise$Sheet" "items" "[I") (by decide +kernel)) (fun _ h9 => h9) rfl dX7_copy_107 ?_
                      refine lv_iload hx hb dX7_copy_110 (lv_at hl 6 rfl) ?_
                      refine lv_iload hx hb dX7_copy_112 (lv_at hl 7 rfl) ?_
                      obtain ⟨⟨ha_2101, ha_2102, ha_2103, ha_2104, ha_2105⟩, hf⟩ := ac_e hf
                      refine va_copyi hx hb (hml.trans hl.1.symm) hown (hts (.methodLink RX7 274 arraycopyName) (by decide +kernel)) (hts (.native arraycopyName) (by decide +kernel)) (hts (.static arraycopyName) (by decide +kernel)) (hts (.initialized "java/lang/System") (by decide +kernel)) hK hP hD hS 7 5 0 0 rfl rfl rfl rfl rfl ha_2101 ha_2102 ha_2103 ha_2104 ha_2105 (fun _ _ => rfl) (Nat.le_of_ble_eq_true rfl) (by decide) dX7_copy_114 (fun H locs hP hD hS => ?_)
                      have hP : va_P (dC, dI) vwCl (wd_X7_copy cI cZ cP cS h_t h_t_red h_t_blue h_t_sky h_t_diary h_t_calendar h_t_awakeIn h_t_worths h_t_plants h_t_sheets h_t_bestFrom h_t_s0 h_t_s1 h_t_s2 h_t_s3 h_t_s0_items h_t_s1_items h_t_s2_items h_t_s3_items v_latestFinding v_sform v_ssize (va_up v_sitems 1 (va_cpy (v_sitems 2) (v_sitems 1) x2.toNatClampNeg x4.toNatClampNeg x5.toNatClampNeg))) H := hP
                      have hD : va_D (va_A (wd_X7_copy cI cZ cP cS h_t h_t_red h_t_blue h_t_sky h_t_diary h_t_calendar h_t_awakeIn h_t_worths h_t_plants h_t_sheets h_t_bestFrom h_t_s0 h_t_s1 h_t_s2 h_t_s3 h_t_s0_items h_t_s1_items h_t_s2_items h_t_s3_items v_latestFinding v_sform v_ssize v_sitems) s.heap.size) (wd_X7_copy cI cZ cP cS h_t h_t_red h_t_blue h_t_sky h_t_diary h_t_calendar h_t_awakeIn h_t_worths h_t_plants h_t_sheets h_t_bestFrom h_t_s0 h_t_s1 h_t_s2 h_t_s3 h_t_s0_items h_t_s1_items h_t_s2_items h_t_s3_items v_latestFinding v_sform v_ssize (va_up v_sitems 1 (va_cpy (v_sitems 2) (v_sitems 1) x2.toNatClampNeg x4.toNatClampNeg x5.toNatClampNeg))) := hD
                      refine lv_iconst (v := 1) hx hb dX7_copy_117 (by decide) ?_
                      have hq0 := Option.some.inj hf
                      obtain ⟨eq0, hq1⟩ := Prod.mk.inj hq0
                      obtain ⟨eq1, hq2⟩ := Prod.mk.inj hq1
                      clear hf hq0 hq1
                      subst eq0
                      subst eq1
                      subst hq2
                      exact W.iret hx hb hr (fun t ht hW => ⟨⟨_, (), rfl, rfl, by rw [ht]; exact hP, va_K.moved hW.alike hK, hD⟩, hS.F ht⟩) hS.2.2 dX7_copy_118
                    · rw [if_pos c90] at hf
                      exact hj93 ls (lv_sub hl [2] rfl) hf
                · rw [if_neg c61] at hf
                  refine lv_aload_n hx hb dX7_copy_64 rfl (lv_at hl 2 rfl) ?_
                  refine lv_iconst (v := 4) hx hb dX7_copy_65 (by decide) ?_
                  obtain ⟨r66_211, o66_212, hc_213, hf⟩ := bd2_e hf
                  refine rwi_call (isC := [0]) (isR := [1, 2, 3, 4, 5, 6, 7, 8, 9]) (perm := [9, 0, 1, 2, 3, 4, 5, 6, 7, 8]) (wr := [(h_t_sheets, .inl (cS, 4, .inr (.inr (.inr (.inr (ar4 h_t_s0 h_t_s1 h_t_s2 h_t_s3)))))), (h_t_s0, .inr (3, [.int (v_sform 0), .int (v_ssize 0), .ref h_t_s0_items])), (h_t_s0_items, .inl (cI, 48, .inl (v_sitems 0))), (h_t_s1, .inr (3, [.int (v_sform 1), .int (v_ssize 1), .ref h_t_s1_items])), (h_t_s1_items, .inl (cI, 48, .inl (v_sitems 1))), (h_t_s2, .inr (3, [.int (v_sform 2), .int (v_ssize 2), .ref h_t_s2_items])), (h_t_s2_items, .inl (cI, 48, .inl (v_sitems 2))), (h_t_s3, .inr (3, [.int (v_sform 3), .int (v_ssize 3), .ref h_t_s3_items])), (h_t_s3_items, .inl (cI, 48, .inl (v_sitems 3)))]) (ws2 := (wd_X7_copy cI cZ cP cS h_t h_t_red h_t_blue h_t_sky h_t_diary h_t_calendar h_t_awakeIn h_t_worths h_t_plants h_t_sheets h_t_bestFrom h_t_s0 h_t_s1 h_t_s2 h_t_s3 h_t_s0_items h_t_s1_items h_t_s2_items h_t_s3_items o66_212 v_sform v_ssize v_sitems)) (va_runV (As := [.int 4]) (rest := []) ⟨hx, hb, hml, hown, hts⟩ (c_X7_found l dC dI cI cZ cP cS H.size h_t h_t_red h_t_blue h_t_sky h_t_diary h_t_calendar h_t_awakeIn h_t_worths h_t_plants h_t_sheets h_t_bestFrom v_latestFinding 4 n r66_211 o66_212 hc_213) (cwV 1 hts gX7_copy_X7_found rfl rfl rfl (by decide +kernel) ⟨Nat.le_of_ble_eq_true rfl, Nat.le_of_ble_eq_true rfl⟩) (pv_rw (ci := 6) (q0 := 0) hK (hP.sub (ws' := (wd_X7_found cI cZ cP cS h_t h_t_red h_t_blue h_t_sky h_t_diary h_t_calendar h_t_awakeIn h_t_worths h_t_plants h_t_sheets h_t_bestFrom v_latestFinding)) [0] rfl) (hD.sub (ws' := (wd_X7_found cI cZ cP cS h_t h_t_red h_t_blue h_t_sky h_t_diary h_t_calendar h_t_awakeIn h_t_worths h_t_plants h_t_sheets h_t_bestFrom v_latestFinding)) [0] (by decide) rfl) rfl rfl) rfl rfl hl.1 rfl (lv_room (Nat.le_of_ble_eq_true rfl)) dX7_copy_66 ⟨Nat.zero_le _, Nat.zero_le _⟩) hS hA hP hD rfl (by decide) (by decide) rfl (by decide) rfl rfl (fun H locs hP hD hS => ?_)
                  have hq0 := Option.some.inj hf
                  obtain ⟨eq0, hq1⟩ := Prod.mk.inj hq0
                  obtain ⟨eq1, hq2⟩ := Prod.mk.inj hq1
                  clear hf hq0 hq1
                  subst eq0
                  subst eq1
                  subst hq2
                  exact W.iret hx hb hr (fun t ht hW => ⟨⟨_, (), rfl, rfl, by rw [ht]; exact hP, va_K.moved hW.alike hK, hD⟩, hS.F ht⟩) hS.2.2 dX7_copy_69
              · rw [if_pos c42] at hf
                exact hj45 ls (lv_sub hl [2] rfl) hf
          · rw [if_neg c9_1] at hf e_172
            by_cases c9_2 : x3 = 2
            · rw [if_pos c9_2] at hf e_172
              subst e_172
              refine W.eq (g2 := F0 m 12 ls [.ref h_t_s2]) rfl ?_
              refine lv_astore (lv' := [(7, .ref h_t_s2), (6, .ref h_t_s2), (0, .ref h_t), (1, .int x1), (2, .int x2), (3, .int x3), (4, .int x4), (5, .int x5)]) hx hb dX7_copy_12 hl (by decide) rfl (fun ls hl => ?_)
              refine lv_aload hx hb dX7_copy_14 (lv_at hl 1 rfl) ?_
              refine lv_ifnull hx hb dX7_copy_16 ?_
              refine lv_aload hx hb dX7_copy_19 (lv_at hl 0 rfl) ?_
              refine lv_ifnonnull (tgt := 27) hx hb dX7_copy_21 (by decide) ?_
              refine lv_aload hx hb dX7_copy_27 (lv_at hl 1 rfl) ?_
              refine va_get (D := (dC, dI)) (ci := 3) (v := .int (v_sform 2)) (C := RX3) (T := TX3) (N := 3) hx hb hts hinX3 hown hK hP 6 rfl rfl 0 (by decide) (hts (.fieldLink RX7 222 "SecondSunrise$Sheet" "form" "I") (by decide +kernel)) (fun _ h9 => h9) rfl dX7_copy_29 ?_
              refine lv_iconst (v := (-1)) hx hb dX7_copy_32 (by decide) ?_
              obtain ⟨k45, ek45, hf⟩ := jn0_e hf
              have hj45 : ∀ (ls : Array Slot), lv_has ls 8 [(0, .ref h_t)] → k45 = some (r, o_latestFinding, o_sitems) → W p l e (headSpec wsX7_copy rm_X7_copy).room s m ([.ref h_t, .int x1, .int x2, .int x3, .int x4, .int x5] : List Value).toArray below meth c H locs 0 0 (MQ below (RWi (dC, dI) (TY cI cZ cP cS) r s.heap.size (wd_X7_copy cI cZ cP cS h_t h_t_red h_t_blue h_t_sky h_t_diary h_t_calendar h_t_awakeIn h_t_worths h_t_plants h_t_sheets h_t_bestFrom h_t_s0 h_t_s1 h_t_s2 h_t_s3 h_t_s0_items h_t_s1_items h_t_s2_items h_t_s3_items v_latestFinding v_sform v_ssize v_sitems) (wd_X7_copy cI cZ cP cS h_t h_t_red h_t_blue h_t_sky h_t_diary h_t_calendar h_t_awakeIn h_t_worths h_t_plants h_t_sheets h_t_bestFrom h_t_s0 h_t_s1 h_t_s2 h_t_s3 h_t_s0_items h_t_s1_items h_t_s2_items h_t_s3_items o_latestFinding v_sform v_ssize o_sitems)) ([.ref h_t, .int x1, .int x2, .int x3, .int x4, .int x5] : List Value).toArray s 0 0 (va_A (wd_X7_copy cI cZ cP cS h_t h_t_red h_t_blue h_t_sky h_t_diary h_t_calendar h_t_awakeIn h_t_worths h_t_plants h_t_sheets h_t_bestFrom h_t_s0 h_t_s1 h_t_s2 h_t_s3 h_t_s0_items h_t_s1_items h_t_s2_items h_t_s3_items v_latestFinding v_sform v_ssize v_sitems) s.heap.size)) (F0 m 45 ls []) := by
                intro ls hl hf
                rw [ek45] at hf
                refine lv_aload_n hx hb dX7_copy_45 rfl (lv_at hl 0 rfl) ?_
                refine lv_iconst (v := 1) hx hb dX7_copy_46 (by decide) ?_
                obtain ⟨r47_215, o47_216, hc_217, hf⟩ := bd2_e hf
                refine rwi_call (isC := [0]) (isR := [1, 2, 3, 4, 5, 6, 7, 8, 9]) (perm := [9, 0, 1, 2, 3, 4, 5, 6, 7, 8]) (wr := [(h_t_sheets, .inl (cS, 4, .inr (.inr (.inr (.inr (ar4 h_t_s0 h_t_s1 h_t_s2 h_t_s3)))))), (h_t_s0, .inr (3, [.int (v_sform 0), .int (v_ssize 0), .ref h_t_s0_items])), (h_t_s0_items, .inl (cI, 48, .inl (v_sitems 0))), (h_t_s1, .inr (3, [.int (v_sform 1), .int (v_ssize 1), .ref h_t_s1_items])), (h_t_s1_items, .inl (cI, 48, .inl (v_sitems 1))), (h_t_s2, .inr (3, [.int (v_sform 2), .int (v_ssize 2), .ref h_t_s2_items])), (h_t_s2_items, .inl (cI, 48, .inl (v_sitems 2))), (h_t_s3, .inr (3, [.int (v_sform 3), .int (v_ssize 3), .ref h_t_s3_items])), (h_t_s3_items, .inl (cI, 48, .inl (v_sitems 3)))]) (ws2 := (wd_X7_copy cI cZ cP cS h_t h_t_red h_t_blue h_t_sky h_t_diary h_t_calendar h_t_awakeIn h_t_worths h_t_plants h_t_sheets h_t_bestFrom h_t_s0 h_t_s1 h_t_s2 h_t_s3 h_t_s0_items h_t_s1_items h_t_s2_items h_t_s3_items o47_216 v_sform v_ssize v_sitems)) (va_runV (As := [.int 1]) (rest := []) ⟨hx, hb, hml, hown, hts⟩ (c_X7_found l dC dI cI cZ cP cS H.size h_t h_t_red h_t_blue h_t_sky h_t_diary h_t_calendar h_t_awakeIn h_t_worths h_t_plants h_t_sheets h_t_bestFrom v_latestFinding 1 n r47_215 o47_216 hc_217) (cwV 1 hts gX7_copy_X7_found rfl rfl rfl (by decide +kernel) ⟨Nat.le_of_ble_eq_true rfl, Nat.le_of_ble_eq_true rfl⟩) (pv_rw (ci := 6) (q0 := 0) hK (hP.sub (ws' := (wd_X7_found cI cZ cP cS h_t h_t_red h_t_blue h_t_sky h_t_diary h_t_calendar h_t_awakeIn h_t_worths h_t_plants h_t_sheets h_t_bestFrom v_latestFinding)) [0] rfl) (hD.sub (ws' := (wd_X7_found cI cZ cP cS h_t h_t_red h_t_blue h_t_sky h_t_diary h_t_calendar h_t_awakeIn h_t_worths h_t_plants h_t_sheets h_t_bestFrom v_latestFinding)) [0] (by decide) rfl) rfl rfl) rfl rfl hl.1 rfl (lv_room (Nat.le_of_ble_eq_true rfl)) dX7_copy_47 ⟨Nat.zero_le _, Nat.zero_le _⟩) hS hA hP hD rfl (by decide) (by decide) rfl (by decide) rfl rfl (fun H locs hP hD hS => ?_)
                have hq0 := Option.some.inj hf
                obtain ⟨eq0, hq1⟩ := Prod.mk.inj hq0
                obtain ⟨eq1, hq2⟩ := Prod.mk.inj hq1
                clear hf hq0 hq1
                subst eq0
                subst eq1
                subst hq2
                exact W.iret hx hb hr (fun t ht hW => ⟨⟨_, (), rfl, rfl, by rw [ht]; exact hP, va_K.moved hW.alike hK, hD⟩, hS.F ht⟩) hS.2.2 dX7_copy_50
              refine lv_icmp_eq (tgt := 45) hx hb dX7_copy_33 (by decide) (fun c33 => ?_) (fun c33 => ?_)
              · rw [if_pos c33] at hf
                exact hj45 ls (lv_sub hl [2] rfl) hf
              · rw [if_neg c33] at hf
                refine lv_aload hx hb dX7_copy_36 (lv_at hl 0 rfl) ?_
                refine va_get (D := (dC, dI)) (ci := 3) (v := .int (v_sform 2)) (C := RX3) (T := TX3) (N := 3) hx hb hts hinX3 hown hK hP 6 rfl rfl 0 (by decide) (hts (.fieldLink RX7 222 "SecondSunrise$Sheet" "form" "I") (by decide +kernel)) (fun _ h9 => h9) rfl dX7_copy_38 ?_
                refine lv_iconst (v := (-1)) hx hb dX7_copy_41 (by decide) ?_
                refine lv_icmp_ne (tgt := 51) hx hb dX7_copy_42 (by decide) (fun c42 => ?_) (fun c42 => ?_)
                · rw [if_neg c42] at hf
                  refine lv_aload hx hb dX7_copy_51 (lv_at hl 1 rfl) ?_
                  refine va_get (D := (dC, dI)) (ci := 3) (v := .int (v_sform 2)) (C := RX3) (T := TX3) (N := 3) hx hb hts hinX3 hown hK hP 6 rfl rfl 0 (by decide) (hts (.fieldLink RX7 222 "SecondSunrise$Sheet" "form" "I") (by decide +kernel)) (fun _ h9 => h9) rfl dX7_copy_53 ?_
                  refine lv_aload hx hb dX7_copy_56 (lv_at hl 0 rfl) ?_
                  refine va_get (D := (dC, dI)) (ci := 3) (v := .int (v_sform 2)) (C := RX3) (T := TX3) (N := 3) hx hb hts hinX3 hown hK hP 6 rfl rfl 0 (by decide) (hts (.fieldLink RX7 222 "SecondSunrise$Sheet" "form" "I") (by decide +kernel)) (fun _ h9 => h9) rfl dX7_copy_58 ?_
                  refine lv_icmp_eq (tgt := 70) hx hb dX7_copy_61 (by decide) (fun c61 => ?_) (fun c61 => ?_)
                  · rw [if_pos c61] at hf
                    refine lv_aload hx hb dX7_copy_70 (lv_at hl 1 rfl) ?_
                    refine lv_iload_n hx hb dX7_copy_72 rfl (lv_at hl 4 rfl) ?_
                    refine lv_iload hx hb dX7_copy_73 (lv_at hl 7 rfl) ?_
                    obtain ⟨r75_219, hc_220, hf⟩ := bd1_e hf
                    refine vp_callSi (va_runV (As := [.int x2, .int x5]) (rest := []) ⟨hx, hb, hml, hown, hts⟩ (c_X3_holds l dC dI cI cZ cP cS h_t_s2 h_t_s2_items (v_sform 2) (v_ssize 2) x2 x5 n r75_219 hc_220) (cwV 2 hts gX7_copy_X3_holds rfl rfl rfl (by decide +kernel) ⟨Nat.le_of_ble_eq_true rfl, Nat.le_of_ble_eq_true rfl⟩) (pv_ro (ci := 3) (q0 := 0) hK (hP.sub (ws' := (wd_X3_holds cI cZ cP cS h_t_s2 h_t_s2_items (v_sform 2) (v_ssize 2))) [6] rfl) rfl rfl) rfl rfl hl.1 rfl (lv_room (Nat.le_of_ble_eq_true rfl)) dX7_copy_75 ⟨Nat.zero_le _, Nat.zero_le _⟩).run (fun x e_221 => ?_)
                    obtain ⟨e_221, hb_222⟩ := e_221
                    rw [e_221] at hb_222 ⊢
                    obtain ⟨k93, ek93, hf⟩ := jn0_e hf
                    have hj93 : ∀ (ls : Array Slot), lv_has ls 8 [(0, .ref h_t)] → k93 = some (r, o_latestFinding, o_sitems) → W p l e (headSpec wsX7_copy rm_X7_copy).room s m ([.ref h_t, .int x1, .int x2, .int x3, .int x4, .int x5] : List Value).toArray below meth c H locs 0 0 (MQ below (RWi (dC, dI) (TY cI cZ cP cS) r s.heap.size (wd_X7_copy cI cZ cP cS h_t h_t_red h_t_blue h_t_sky h_t_diary h_t_calendar h_t_awakeIn h_t_worths h_t_plants h_t_sheets h_t_bestFrom h_t_s0 h_t_s1 h_t_s2 h_t_s3 h_t_s0_items h_t_s1_items h_t_s2_items h_t_s3_items v_latestFinding v_sform v_ssize v_sitems) (wd_X7_copy cI cZ cP cS h_t h_t_red h_t_blue h_t_sky h_t_diary h_t_calendar h_t_awakeIn h_t_worths h_t_plants h_t_sheets h_t_bestFrom h_t_s0 h_t_s1 h_t_s2 h_t_s3 h_t_s0_items h_t_s1_items h_t_s2_items h_t_s3_items o_latestFinding v_sform v_ssize o_sitems)) ([.ref h_t, .int x1, .int x2, .int x3, .int x4, .int x5] : List Value).toArray s 0 0 (va_A (wd_X7_copy cI cZ cP cS h_t h_t_red h_t_blue h_t_sky h_t_diary h_t_calendar h_t_awakeIn h_t_worths h_t_plants h_t_sheets h_t_bestFrom h_t_s0 h_t_s1 h_t_s2 h_t_s3 h_t_s0_items h_t_s1_items h_t_s2_items h_t_s3_items v_latestFinding v_sform v_ssize v_sitems) s.heap.size)) (F0 m 93 ls []) := by
                      intro ls hl hf
                      rw [ek93] at hf
                      refine lv_aload_n hx hb dX7_copy_93 rfl (lv_at hl 0 rfl) ?_
                      refine lv_iconst (v := 2) hx hb dX7_copy_94 (by decide) ?_
                      obtain ⟨r95_223, o95_224, hc_225, hf⟩ := bd2_e hf
                      refine rwi_call (isC := [0]) (isR := [1, 2, 3, 4, 5, 6, 7, 8, 9]) (perm := [9, 0, 1, 2, 3, 4, 5, 6, 7, 8]) (wr := [(h_t_sheets, .inl (cS, 4, .inr (.inr (.inr (.inr (ar4 h_t_s0 h_t_s1 h_t_s2 h_t_s3)))))), (h_t_s0, .inr (3, [.int (v_sform 0), .int (v_ssize 0), .ref h_t_s0_items])), (h_t_s0_items, .inl (cI, 48, .inl (v_sitems 0))), (h_t_s1, .inr (3, [.int (v_sform 1), .int (v_ssize 1), .ref h_t_s1_items])), (h_t_s1_items, .inl (cI, 48, .inl (v_sitems 1))), (h_t_s2, .inr (3, [.int (v_sform 2), .int (v_ssize 2), .ref h_t_s2_items])), (h_t_s2_items, .inl (cI, 48, .inl (v_sitems 2))), (h_t_s3, .inr (3, [.int (v_sform 3), .int (v_ssize 3), .ref h_t_s3_items])), (h_t_s3_items, .inl (cI, 48, .inl (v_sitems 3)))]) (ws2 := (wd_X7_copy cI cZ cP cS h_t h_t_red h_t_blue h_t_sky h_t_diary h_t_calendar h_t_awakeIn h_t_worths h_t_plants h_t_sheets h_t_bestFrom h_t_s0 h_t_s1 h_t_s2 h_t_s3 h_t_s0_items h_t_s1_items h_t_s2_items h_t_s3_items o95_224 v_sform v_ssize v_sitems)) (va_runV (As := [.int 2]) (rest := []) ⟨hx, hb, hml, hown, hts⟩ (c_X7_found l dC dI cI cZ cP cS H.size h_t h_t_red h_t_blue h_t_sky h_t_diary h_t_calendar h_t_awakeIn h_t_worths h_t_plants h_t_sheets h_t_bestFrom v_latestFinding 2 n r95_223 o95_224 hc_225) (cwV 1 hts gX7_copy_X7_found rfl rfl rfl (by decide +kernel) ⟨Nat.le_of_ble_eq_true rfl, Nat.le_of_ble_eq_true rfl⟩) (pv_rw (ci := 6) (q0 := 0) hK (hP.sub (ws' := (wd_X7_found cI cZ cP cS h_t h_t_red h_t_blue h_t_sky h_t_diary h_t_calendar h_t_awakeIn h_t_worths h_t_plants h_t_sheets h_t_bestFrom v_latestFinding)) [0] rfl) (hD.sub (ws' := (wd_X7_found cI cZ cP cS h_t h_t_red h_t_blue h_t_sky h_t_diary h_t_calendar h_t_awakeIn h_t_worths h_t_plants h_t_sheets h_t_bestFrom v_latestFinding)) [0] (by decide) rfl) rfl rfl) rfl rfl hl.1 rfl (lv_room (Nat.le_of_ble_eq_true rfl)) dX7_copy_95 ⟨Nat.zero_le _, Nat.zero_le _⟩) hS hA hP hD rfl (by decide) (by decide) rfl (by decide) rfl rfl (fun H locs hP hD hS => ?_)
                      have hq0 := Option.some.inj hf
                      obtain ⟨eq0, hq1⟩ := Prod.mk.inj hq0
                      obtain ⟨eq1, hq2⟩ := Prod.mk.inj hq1
                      clear hf hq0 hq1
                      subst eq0
                      subst eq1
                      subst hq2
                      exact W.iret hx hb hr (fun t ht hW => ⟨⟨_, (), rfl, rfl, by rw [ht]; exact hP, va_K.moved hW.alike hK, hD⟩, hS.F ht⟩) hS.2.2 dX7_copy_98
                    refine lv_if_eq (tgt := 93) hx hb dX7_copy_78 (by decide) (fun c78 => ?_) (fun c78 => ?_)
                    · rw [if_pos c78] at hf
                      exact hj93 ls (lv_sub hl [2] rfl) hf
                    · rw [if_neg c78] at hf
                      refine lv_aload hx hb dX7_copy_81 (lv_at hl 0 rfl) ?_
                      refine lv_iload hx hb dX7_copy_83 (lv_at hl 6 rfl) ?_
                      refine lv_iload hx hb dX7_copy_85 (lv_at hl 7 rfl) ?_
                      obtain ⟨r87_227, hc_228, hf⟩ := bd1_e hf
                      refine vp_callSi (va_runV (As := [.int x4, .int x5]) (rest := []) ⟨hx, hb, hml, hown, hts⟩ (c_X3_holds l dC dI cI cZ cP cS h_t_s2 h_t_s2_items (v_sform 2) (v_ssize 2) x4 x5 n r87_227 hc_228) (cwV 2 hts gX7_copy_X3_holds rfl rfl rfl (by decide +kernel) ⟨Nat.le_of_ble_eq_true rfl, Nat.le_of_ble_eq_true rfl⟩) (pv_ro (ci := 3) (q0 := 0) hK (hP.sub (ws' := (wd_X3_holds cI cZ cP cS h_t_s2 h_t_s2_items (v_sform 2) (v_ssize 2))) [6] rfl) rfl rfl) rfl rfl hl.1 rfl (lv_room (Nat.le_of_ble_eq_true rfl)) dX7_copy_87 ⟨Nat.zero_le _, Nat.zero_le _⟩).run (fun x e_229 => ?_)
                      obtain ⟨e_229, hb_230⟩ := e_229
                      rw [e_229] at hb_230 ⊢
                      refine lv_if_ne (tgt := 99) hx hb dX7_copy_90 (by decide) (fun c90 => ?_) (fun c90 => ?_)
                      · rw [if_neg c90] at hf
                        refine lv_aload hx hb dX7_copy_99 (lv_at hl 1 rfl) ?_
                        refine va_get (D := (dC, dI)) (ci := 3) (v := .ref h_t_s2_items) (C := RX3) (T := TX3) (N := 3) hx hb hts hinX3 hown hK hP 6 rfl rfl 2 (by decide) (hts (.fieldLink RX7 229 "SecondSunrise$Sheet" "items" "[I") (by decide +kernel)) (fun _ h9 => h9) rfl dX7_copy_101 ?_
                        refine lv_iload_n hx hb dX7_copy_104 rfl (lv_at hl 4 rfl) ?_
                        refine lv_aload hx hb dX7_copy_105 (lv_at hl 0 rfl) ?_
                        refine va_get (D := (dC, dI)) (ci := 3) (v := .ref h_t_s2_items) (C := RX3) (T := TX3) (N := 3) hx hb hts hinX3 hown hK hP 6 rfl rfl 2 (by decide) (hts (.fieldLink RX7 229 "SecondSunrise$Sheet" "items" "[I") (by decide +kernel)) (fun _ h9 => h9) rfl dX7_copy_107 ?_
                        refine lv_iload hx hb dX7_copy_110 (lv_at hl 6 rfl) ?_
                        refine lv_iload hx hb dX7_copy_112 (lv_at hl 7 rfl) ?_
                        obtain ⟨⟨ha_2311, ha_2312, ha_2313, ha_2314, ha_2315⟩, hf⟩ := ac_e hf
                        refine va_copyi hx hb (hml.trans hl.1.symm) hown (hts (.methodLink RX7 274 arraycopyName) (by decide +kernel)) (hts (.native arraycopyName) (by decide +kernel)) (hts (.static arraycopyName) (by decide +kernel)) (hts (.initialized "java/lang/System") (by decide +kernel)) hK hP hD hS 7 7 0 0 rfl rfl rfl rfl rfl ha_2311 ha_2312 ha_2313 ha_2314 ha_2315 (fun _ _ => rfl) (Nat.le_of_ble_eq_true rfl) (by decide) dX7_copy_114 (fun H locs hP hD hS => ?_)
                        have hP : va_P (dC, dI) vwCl (wd_X7_copy cI cZ cP cS h_t h_t_red h_t_blue h_t_sky h_t_diary h_t_calendar h_t_awakeIn h_t_worths h_t_plants h_t_sheets h_t_bestFrom h_t_s0 h_t_s1 h_t_s2 h_t_s3 h_t_s0_items h_t_s1_items h_t_s2_items h_t_s3_items v_latestFinding v_sform v_ssize (va_up v_sitems 2 (va_cpy (v_sitems 2) (v_sitems 2) x2.toNatClampNeg x4.toNatClampNeg x5.toNatClampNeg))) H := hP
                        have hD : va_D (va_A (wd_X7_copy cI cZ cP cS h_t h_t_red h_t_blue h_t_sky h_t_diary h_t_calendar h_t_awakeIn h_t_worths h_t_plants h_t_sheets h_t_bestFrom h_t_s0 h_t_s1 h_t_s2 h_t_s3 h_t_s0_items h_t_s1_items h_t_s2_items h_t_s3_items v_latestFinding v_sform v_ssize v_sitems) s.heap.size) (wd_X7_copy cI cZ cP cS h_t h_t_red h_t_blue h_t_sky h_t_diary h_t_calendar h_t_awakeIn h_t_worths h_t_plants h_t_sheets h_t_bestFrom h_t_s0 h_t_s1 h_t_s2 h_t_s3 h_t_s0_items h_t_s1_items h_t_s2_items h_t_s3_items v_latestFinding v_sform v_ssize (va_up v_sitems 2 (va_cpy (v_sitems 2) (v_sitems 2) x2.toNatClampNeg x4.toNatClampNeg x5.toNatClampNeg))) := hD
                        refine lv_iconst (v := 1) hx hb dX7_copy_117 (by decide) ?_
                        have hq0 := Option.some.inj hf
                        obtain ⟨eq0, hq1⟩ := Prod.mk.inj hq0
                        obtain ⟨eq1, hq2⟩ := Prod.mk.inj hq1
                        clear hf hq0 hq1
                        subst eq0
                        subst eq1
                        subst hq2
                        exact W.iret hx hb hr (fun t ht hW => ⟨⟨_, (), rfl, rfl, by rw [ht]; exact hP, va_K.moved hW.alike hK, hD⟩, hS.F ht⟩) hS.2.2 dX7_copy_118
                      · rw [if_pos c90] at hf
                        exact hj93 ls (lv_sub hl [2] rfl) hf
                  · rw [if_neg c61] at hf
                    refine lv_aload_n hx hb dX7_copy_64 rfl (lv_at hl 2 rfl) ?_
                    refine lv_iconst (v := 4) hx hb dX7_copy_65 (by decide) ?_
                    obtain ⟨r66_232, o66_233, hc_234, hf⟩ := bd2_e hf
                    refine rwi_call (isC := [0]) (isR := [1, 2, 3, 4, 5, 6, 7, 8, 9]) (perm := [9, 0, 1, 2, 3, 4, 5, 6, 7, 8]) (wr := [(h_t_sheets, .inl (cS, 4, .inr (.inr (.inr (.inr (ar4 h_t_s0 h_t_s1 h_t_s2 h_t_s3)))))), (h_t_s0, .inr (3, [.int (v_sform 0), .int (v_ssize 0), .ref h_t_s0_items])), (h_t_s0_items, .inl (cI, 48, .inl (v_sitems 0))), (h_t_s1, .inr (3, [.int (v_sform 1), .int (v_ssize 1), .ref h_t_s1_items])), (h_t_s1_items, .inl (cI, 48, .inl (v_sitems 1))), (h_t_s2, .inr (3, [.int (v_sform 2), .int (v_ssize 2), .ref h_t_s2_items])), (h_t_s2_items, .inl (cI, 48, .inl (v_sitems 2))), (h_t_s3, .inr (3, [.int (v_sform 3), .int (v_ssize 3), .ref h_t_s3_items])), (h_t_s3_items, .inl (cI, 48, .inl (v_sitems 3)))]) (ws2 := (wd_X7_copy cI cZ cP cS h_t h_t_red h_t_blue h_t_sky h_t_diary h_t_calendar h_t_awakeIn h_t_worths h_t_plants h_t_sheets h_t_bestFrom h_t_s0 h_t_s1 h_t_s2 h_t_s3 h_t_s0_items h_t_s1_items h_t_s2_items h_t_s3_items o66_233 v_sform v_ssize v_sitems)) (va_runV (As := [.int 4]) (rest := []) ⟨hx, hb, hml, hown, hts⟩ (c_X7_found l dC dI cI cZ cP cS H.size h_t h_t_red h_t_blue h_t_sky h_t_diary h_t_calendar h_t_awakeIn h_t_worths h_t_plants h_t_sheets h_t_bestFrom v_latestFinding 4 n r66_232 o66_233 hc_234) (cwV 1 hts gX7_copy_X7_found rfl rfl rfl (by decide +kernel) ⟨Nat.le_of_ble_eq_true rfl, Nat.le_of_ble_eq_true rfl⟩) (pv_rw (ci := 6) (q0 := 0) hK (hP.sub (ws' := (wd_X7_found cI cZ cP cS h_t h_t_red h_t_blue h_t_sky h_t_diary h_t_calendar h_t_awakeIn h_t_worths h_t_plants h_t_sheets h_t_bestFrom v_latestFinding)) [0] rfl) (hD.sub (ws' := (wd_X7_found cI cZ cP cS h_t h_t_red h_t_blue h_t_sky h_t_diary h_t_calendar h_t_awakeIn h_t_worths h_t_plants h_t_sheets h_t_bestFrom v_latestFinding)) [0] (by decide) rfl) rfl rfl) rfl rfl hl.1 rfl (lv_room (Nat.le_of_ble_eq_true rfl)) dX7_copy_66 ⟨Nat.zero_le _, Nat.zero_le _⟩) hS hA hP hD rfl (by decide) (by decide) rfl (by decide) rfl rfl (fun H locs hP hD hS => ?_)
                    have hq0 := Option.some.inj hf
                    obtain ⟨eq0, hq1⟩ := Prod.mk.inj hq0
                    obtain ⟨eq1, hq2⟩ := Prod.mk.inj hq1
                    clear hf hq0 hq1
                    subst eq0
                    subst eq1
                    subst hq2
                    exact W.iret hx hb hr (fun t ht hW => ⟨⟨_, (), rfl, rfl, by rw [ht]; exact hP, va_K.moved hW.alike hK, hD⟩, hS.F ht⟩) hS.2.2 dX7_copy_69
                · rw [if_pos c42] at hf
                  exact hj45 ls (lv_sub hl [2] rfl) hf
            · rw [if_neg c9_2] at hf e_172
              by_cases c9_3 : x3 = 3
              · rw [if_pos c9_3] at hf e_172
                subst e_172
                refine W.eq (g2 := F0 m 12 ls [.ref h_t_s3]) rfl ?_
                refine lv_astore (lv' := [(7, .ref h_t_s3), (6, .ref h_t_s2), (0, .ref h_t), (1, .int x1), (2, .int x2), (3, .int x3), (4, .int x4), (5, .int x5)]) hx hb dX7_copy_12 hl (by decide) rfl (fun ls hl => ?_)
                refine lv_aload hx hb dX7_copy_14 (lv_at hl 1 rfl) ?_
                refine lv_ifnull hx hb dX7_copy_16 ?_
                refine lv_aload hx hb dX7_copy_19 (lv_at hl 0 rfl) ?_
                refine lv_ifnonnull (tgt := 27) hx hb dX7_copy_21 (by decide) ?_
                refine lv_aload hx hb dX7_copy_27 (lv_at hl 1 rfl) ?_
                refine va_get (D := (dC, dI)) (ci := 3) (v := .int (v_sform 2)) (C := RX3) (T := TX3) (N := 3) hx hb hts hinX3 hown hK hP 6 rfl rfl 0 (by decide) (hts (.fieldLink RX7 222 "SecondSunrise$Sheet" "form" "I") (by decide +kernel)) (fun _ h9 => h9) rfl dX7_copy_29 ?_
                refine lv_iconst (v := (-1)) hx hb dX7_copy_32 (by decide) ?_
                obtain ⟨k45, ek45, hf⟩ := jn0_e hf
                have hj45 : ∀ (ls : Array Slot), lv_has ls 8 [(0, .ref h_t)] → k45 = some (r, o_latestFinding, o_sitems) → W p l e (headSpec wsX7_copy rm_X7_copy).room s m ([.ref h_t, .int x1, .int x2, .int x3, .int x4, .int x5] : List Value).toArray below meth c H locs 0 0 (MQ below (RWi (dC, dI) (TY cI cZ cP cS) r s.heap.size (wd_X7_copy cI cZ cP cS h_t h_t_red h_t_blue h_t_sky h_t_diary h_t_calendar h_t_awakeIn h_t_worths h_t_plants h_t_sheets h_t_bestFrom h_t_s0 h_t_s1 h_t_s2 h_t_s3 h_t_s0_items h_t_s1_items h_t_s2_items h_t_s3_items v_latestFinding v_sform v_ssize v_sitems) (wd_X7_copy cI cZ cP cS h_t h_t_red h_t_blue h_t_sky h_t_diary h_t_calendar h_t_awakeIn h_t_worths h_t_plants h_t_sheets h_t_bestFrom h_t_s0 h_t_s1 h_t_s2 h_t_s3 h_t_s0_items h_t_s1_items h_t_s2_items h_t_s3_items o_latestFinding v_sform v_ssize o_sitems)) ([.ref h_t, .int x1, .int x2, .int x3, .int x4, .int x5] : List Value).toArray s 0 0 (va_A (wd_X7_copy cI cZ cP cS h_t h_t_red h_t_blue h_t_sky h_t_diary h_t_calendar h_t_awakeIn h_t_worths h_t_plants h_t_sheets h_t_bestFrom h_t_s0 h_t_s1 h_t_s2 h_t_s3 h_t_s0_items h_t_s1_items h_t_s2_items h_t_s3_items v_latestFinding v_sform v_ssize v_sitems) s.heap.size)) (F0 m 45 ls []) := by
                  intro ls hl hf
                  rw [ek45] at hf
                  refine lv_aload_n hx hb dX7_copy_45 rfl (lv_at hl 0 rfl) ?_
                  refine lv_iconst (v := 1) hx hb dX7_copy_46 (by decide) ?_
                  obtain ⟨r47_236, o47_237, hc_238, hf⟩ := bd2_e hf
                  refine rwi_call (isC := [0]) (isR := [1, 2, 3, 4, 5, 6, 7, 8, 9]) (perm := [9, 0, 1, 2, 3, 4, 5, 6, 7, 8]) (wr := [(h_t_sheets, .inl (cS, 4, .inr (.inr (.inr (.inr (ar4 h_t_s0 h_t_s1 h_t_s2 h_t_s3)))))), (h_t_s0, .inr (3, [.int (v_sform 0), .int (v_ssize 0), .ref h_t_s0_items])), (h_t_s0_items, .inl (cI, 48, .inl (v_sitems 0))), (h_t_s1, .inr (3, [.int (v_sform 1), .int (v_ssize 1), .ref h_t_s1_items])), (h_t_s1_items, .inl (cI, 48, .inl (v_sitems 1))), (h_t_s2, .inr (3, [.int (v_sform 2), .int (v_ssize 2), .ref h_t_s2_items])), (h_t_s2_items, .inl (cI, 48, .inl (v_sitems 2))), (h_t_s3, .inr (3, [.int (v_sform 3), .int (v_ssize 3), .ref h_t_s3_items])), (h_t_s3_items, .inl (cI, 48, .inl (v_sitems 3)))]) (ws2 := (wd_X7_copy cI cZ cP cS h_t h_t_red h_t_blue h_t_sky h_t_diary h_t_calendar h_t_awakeIn h_t_worths h_t_plants h_t_sheets h_t_bestFrom h_t_s0 h_t_s1 h_t_s2 h_t_s3 h_t_s0_items h_t_s1_items h_t_s2_items h_t_s3_items o47_237 v_sform v_ssize v_sitems)) (va_runV (As := [.int 1]) (rest := []) ⟨hx, hb, hml, hown, hts⟩ (c_X7_found l dC dI cI cZ cP cS H.size h_t h_t_red h_t_blue h_t_sky h_t_diary h_t_calendar h_t_awakeIn h_t_worths h_t_plants h_t_sheets h_t_bestFrom v_latestFinding 1 n r47_236 o47_237 hc_238) (cwV 1 hts gX7_copy_X7_found rfl rfl rfl (by decide +kernel) ⟨Nat.le_of_ble_eq_true rfl, Nat.le_of_ble_eq_true rfl⟩) (pv_rw (ci := 6) (q0 := 0) hK (hP.sub (ws' := (wd_X7_found cI cZ cP cS h_t h_t_red h_t_blue h_t_sky h_t_diary h_t_calendar h_t_awakeIn h_t_worths h_t_plants h_t_sheets h_t_bestFrom v_latestFinding)) [0] rfl) (hD.sub (ws' := (wd_X7_found cI cZ cP cS h_t h_t_red h_t_blue h_t_sky h_t_diary h_t_calendar h_t_awakeIn h_t_worths h_t_plants h_t_sheets h_t_bestFrom v_latestFinding)) [0] (by decide) rfl) rfl rfl) rfl rfl hl.1 rfl (lv_room (Nat.le_of_ble_eq_true rfl)) dX7_copy_47 ⟨Nat.zero_le _, Nat.zero_le _⟩) hS hA hP hD rfl (by decide) (by decide) rfl (by decide) rfl rfl (fun H locs hP hD hS => ?_)
                  have hq0 := Option.some.inj hf
                  obtain ⟨eq0, hq1⟩ := Prod.mk.inj hq0
                  obtain ⟨eq1, hq2⟩ := Prod.mk.inj hq1
                  clear hf hq0 hq1
                  subst eq0
                  subst eq1
                  subst hq2
                  exact W.iret hx hb hr (fun t ht hW => ⟨⟨_, (), rfl, rfl, by rw [ht]; exact hP, va_K.moved hW.alike hK, hD⟩, hS.F ht⟩) hS.2.2 dX7_copy_50
                refine lv_icmp_eq (tgt := 45) hx hb dX7_copy_33 (by decide) (fun c33 => ?_) (fun c33 => ?_)
                · rw [if_pos c33] at hf
                  exact hj45 ls (lv_sub hl [2] rfl) hf
                · rw [if_neg c33] at hf
                  refine lv_aload hx hb dX7_copy_36 (lv_at hl 0 rfl) ?_
                  refine va_get (D := (dC, dI)) (ci := 3) (v := .int (v_sform 3)) (C := RX3) (T := TX3) (N := 3) hx hb hts hinX3 hown hK hP 8 rfl rfl 0 (by decide) (hts (.fieldLink RX7 222 "SecondSunrise$Sheet" "form" "I") (by decide +kernel)) (fun _ h9 => h9) rfl dX7_copy_38 ?_
                  refine lv_iconst (v := (-1)) hx hb dX7_copy_41 (by decide) ?_
                  refine lv_icmp_ne (tgt := 51) hx hb dX7_copy_42 (by decide) (fun c42 => ?_) (fun c42 => ?_)
                  · rw [if_neg c42] at hf
                    refine lv_aload hx hb dX7_copy_51 (lv_at hl 1 rfl) ?_
                    refine va_get (D := (dC, dI)) (ci := 3) (v := .int (v_sform 2)) (C := RX3) (T := TX3) (N := 3) hx hb hts hinX3 hown hK hP 6 rfl rfl 0 (by decide) (hts (.fieldLink RX7 222 "SecondSunrise$Sheet" "form" "I") (by decide +kernel)) (fun _ h9 => h9) rfl dX7_copy_53 ?_
                    refine lv_aload hx hb dX7_copy_56 (lv_at hl 0 rfl) ?_
                    refine va_get (D := (dC, dI)) (ci := 3) (v := .int (v_sform 3)) (C := RX3) (T := TX3) (N := 3) hx hb hts hinX3 hown hK hP 8 rfl rfl 0 (by decide) (hts (.fieldLink RX7 222 "SecondSunrise$Sheet" "form" "I") (by decide +kernel)) (fun _ h9 => h9) rfl dX7_copy_58 ?_
                    refine lv_icmp_eq (tgt := 70) hx hb dX7_copy_61 (by decide) (fun c61 => ?_) (fun c61 => ?_)
                    · rw [if_pos c61] at hf
                      refine lv_aload hx hb dX7_copy_70 (lv_at hl 1 rfl) ?_
                      refine lv_iload_n hx hb dX7_copy_72 rfl (lv_at hl 4 rfl) ?_
                      refine lv_iload hx hb dX7_copy_73 (lv_at hl 7 rfl) ?_
                      obtain ⟨r75_240, hc_241, hf⟩ := bd1_e hf
                      refine vp_callSi (va_runV (As := [.int x2, .int x5]) (rest := []) ⟨hx, hb, hml, hown, hts⟩ (c_X3_holds l dC dI cI cZ cP cS h_t_s2 h_t_s2_items (v_sform 2) (v_ssize 2) x2 x5 n r75_240 hc_241) (cwV 2 hts gX7_copy_X3_holds rfl rfl rfl (by decide +kernel) ⟨Nat.le_of_ble_eq_true rfl, Nat.le_of_ble_eq_true rfl⟩) (pv_ro (ci := 3) (q0 := 0) hK (hP.sub (ws' := (wd_X3_holds cI cZ cP cS h_t_s2 h_t_s2_items (v_sform 2) (v_ssize 2))) [6] rfl) rfl rfl) rfl rfl hl.1 rfl (lv_room (Nat.le_of_ble_eq_true rfl)) dX7_copy_75 ⟨Nat.zero_le _, Nat.zero_le _⟩).run (fun x e_242 => ?_)
                      obtain ⟨e_242, hb_243⟩ := e_242
                      rw [e_242] at hb_243 ⊢
                      obtain ⟨k93, ek93, hf⟩ := jn0_e hf
                      have hj93 : ∀ (ls : Array Slot), lv_has ls 8 [(0, .ref h_t)] → k93 = some (r, o_latestFinding, o_sitems) → W p l e (headSpec wsX7_copy rm_X7_copy).room s m ([.ref h_t, .int x1, .int x2, .int x3, .int x4, .int x5] : List Value).toArray below meth c H locs 0 0 (MQ below (RWi (dC, dI) (TY cI cZ cP cS) r s.heap.size (wd_X7_copy cI cZ cP cS h_t h_t_red h_t_blue h_t_sky h_t_diary h_t_calendar h_t_awakeIn h_t_worths h_t_plants h_t_sheets h_t_bestFrom h_t_s0 h_t_s1 h_t_s2 h_t_s3 h_t_s0_items h_t_s1_items h_t_s2_items h_t_s3_items v_latestFinding v_sform v_ssize v_sitems) (wd_X7_copy cI cZ cP cS h_t h_t_red h_t_blue h_t_sky h_t_diary h_t_calendar h_t_awakeIn h_t_worths h_t_plants h_t_sheets h_t_bestFrom h_t_s0 h_t_s1 h_t_s2 h_t_s3 h_t_s0_items h_t_s1_items h_t_s2_items h_t_s3_items o_latestFinding v_sform v_ssize o_sitems)) ([.ref h_t, .int x1, .int x2, .int x3, .int x4, .int x5] : List Value).toArray s 0 0 (va_A (wd_X7_copy cI cZ cP cS h_t h_t_red h_t_blue h_t_sky h_t_diary h_t_calendar h_t_awakeIn h_t_worths h_t_plants h_t_sheets h_t_bestFrom h_t_s0 h_t_s1 h_t_s2 h_t_s3 h_t_s0_items h_t_s1_items h_t_s2_items h_t_s3_items v_latestFinding v_sform v_ssize v_sitems) s.heap.size)) (F0 m 93 ls []) := by
                        intro ls hl hf
                        rw [ek93] at hf
                        refine lv_aload_n hx hb dX7_copy_93 rfl (lv_at hl 0 rfl) ?_
                        refine lv_iconst (v := 2) hx hb dX7_copy_94 (by decide) ?_
                        obtain ⟨r95_244, o95_245, hc_246, hf⟩ := bd2_e hf
                        refine rwi_call (isC := [0]) (isR := [1, 2, 3, 4, 5, 6, 7, 8, 9]) (perm := [9, 0, 1, 2, 3, 4, 5, 6, 7, 8]) (wr := [(h_t_sheets, .inl (cS, 4, .inr (.inr (.inr (.inr (ar4 h_t_s0 h_t_s1 h_t_s2 h_t_s3)))))), (h_t_s0, .inr (3, [.int (v_sform 0), .int (v_ssize 0), .ref h_t_s0_items])), (h_t_s0_items, .inl (cI, 48, .inl (v_sitems 0))), (h_t_s1, .inr (3, [.int (v_sform 1), .int (v_ssize 1), .ref h_t_s1_items])), (h_t_s1_items, .inl (cI, 48, .inl (v_sitems 1))), (h_t_s2, .inr (3, [.int (v_sform 2), .int (v_ssize 2), .ref h_t_s2_items])), (h_t_s2_items, .inl (cI, 48, .inl (v_sitems 2))), (h_t_s3, .inr (3, [.int (v_sform 3), .int (v_ssize 3), .ref h_t_s3_items])), (h_t_s3_items, .inl (cI, 48, .inl (v_sitems 3)))]) (ws2 := (wd_X7_copy cI cZ cP cS h_t h_t_red h_t_blue h_t_sky h_t_diary h_t_calendar h_t_awakeIn h_t_worths h_t_plants h_t_sheets h_t_bestFrom h_t_s0 h_t_s1 h_t_s2 h_t_s3 h_t_s0_items h_t_s1_items h_t_s2_items h_t_s3_items o95_245 v_sform v_ssize v_sitems)) (va_runV (As := [.int 2]) (rest := []) ⟨hx, hb, hml, hown, hts⟩ (c_X7_found l dC dI cI cZ cP cS H.size h_t h_t_red h_t_blue h_t_sky h_t_diary h_t_calendar h_t_awakeIn h_t_worths h_t_plants h_t_sheets h_t_bestFrom v_latestFinding 2 n r95_244 o95_245 hc_246) (cwV 1 hts gX7_copy_X7_found rfl rfl rfl (by decide +kernel) ⟨Nat.le_of_ble_eq_true rfl, Nat.le_of_ble_eq_true rfl⟩) (pv_rw (ci := 6) (q0 := 0) hK (hP.sub (ws' := (wd_X7_found cI cZ cP cS h_t h_t_red h_t_blue h_t_sky h_t_diary h_t_calendar h_t_awakeIn h_t_worths h_t_plants h_t_sheets h_t_bestFrom v_latestFinding)) [0] rfl) (hD.sub (ws' := (wd_X7_found cI cZ cP cS h_t h_t_red h_t_blue h_t_sky h_t_diary h_t_calendar h_t_awakeIn h_t_worths h_t_plants h_t_sheets h_t_bestFrom v_latestFinding)) [0] (by decide) rfl) rfl rfl) rfl rfl hl.1 rfl (lv_room (Nat.le_of_ble_eq_true rfl)) dX7_copy_95 ⟨Nat.zero_le _, Nat.zero_le _⟩) hS hA hP hD rfl (by decide) (by decide) rfl (by decide) rfl rfl (fun H locs hP hD hS => ?_)
                        have hq0 := Option.some.inj hf
                        obtain ⟨eq0, hq1⟩ := Prod.mk.inj hq0
                        obtain ⟨eq1, hq2⟩ := Prod.mk.inj hq1
                        clear hf hq0 hq1
                        subst eq0
                        subst eq1
                        subst hq2
                        exact W.iret hx hb hr (fun t ht hW => ⟨⟨_, (), rfl, rfl, by rw [ht]; exact hP, va_K.moved hW.alike hK, hD⟩, hS.F ht⟩) hS.2.2 dX7_copy_98
                      refine lv_if_eq (tgt := 93) hx hb dX7_copy_78 (by decide) (fun c78 => ?_) (fun c78 => ?_)
                      · rw [if_pos c78] at hf
                        exact hj93 ls (lv_sub hl [2] rfl) hf
                      · rw [if_neg c78] at hf
                        refine lv_aload hx hb dX7_copy_81 (lv_at hl 0 rfl) ?_
                        refine lv_iload hx hb dX7_copy_83 (lv_at hl 6 rfl) ?_
                        refine lv_iload hx hb dX7_copy_85 (lv_at hl 7 rfl) ?_
                        obtain ⟨r87_248, hc_249, hf⟩ := bd1_e hf
                        refine vp_callSi (va_runV (As := [.int x4, .int x5]) (rest := []) ⟨hx, hb, hml, hown, hts⟩ (c_X3_holds l dC dI cI cZ cP cS h_t_s3 h_t_s3_items (v_sform 3) (v_ssize 3) x4 x5 n r87_248 hc_249) (cwV 2 hts gX7_copy_X3_holds rfl rfl rfl (by decide +kernel) ⟨Nat.le_of_ble_eq_true rfl, Nat.le_of_ble_eq_true rfl⟩) (pv_ro (ci := 3) (q0 := 0) hK (hP.sub (ws' := (wd_X3_holds cI cZ cP cS h_t_s3 h_t_s3_items (v_sform 3) (v_ssize 3))) [8] rfl) rfl rfl) rfl rfl hl.1 rfl (lv_room (Nat.le_of_ble_eq_true rfl)) dX7_copy_87 ⟨Nat.zero_le _, Nat.zero_le _⟩).run (fun x e_250 => ?_)
                        obtain ⟨e_250, hb_251⟩ := e_250
                        rw [e_250] at hb_251 ⊢
                        refine lv_if_ne (tgt := 99) hx hb dX7_copy_90 (by decide) (fun c90 => ?_) (fun c90 => ?_)
                        · rw [if_neg c90] at hf
                          refine lv_aload hx hb dX7_copy_99 (lv_at hl 1 rfl) ?_
                          refine va_get (D := (dC, dI)) (ci := 3) (v := .ref h_t_s2_items) (C := RX3) (T := TX3) (N := 3) hx hb hts hinX3 hown hK hP 6 rfl rfl 2 (by decide) (hts (.fieldLink RX7 229 "SecondSunrise$Sheet" "items" "[I") (by decide +kernel)) (fun _ h9 => h9) rfl dX7_copy_101 ?_
                          refine lv_iload_n hx hb dX7_copy_104 rfl (lv_at hl 4 rfl) ?_
                          refine lv_aload hx hb dX7_copy_105 (lv_at hl 0 rfl) ?_
                          refine va_get (D := (dC, dI)) (ci := 3) (v := .ref h_t_s3_items) (C := RX3) (T := TX3) (N := 3) hx hb hts hinX3 hown hK hP 8 rfl rfl 2 (by decide) (hts (.fieldLink RX7 229 "SecondSunrise$Sheet" "items" "[I") (by decide +kernel)) (fun _ h9 => h9) rfl dX7_copy_107 ?_
                          refine lv_iload hx hb dX7_copy_110 (lv_at hl 6 rfl) ?_
                          refine lv_iload hx hb dX7_copy_112 (lv_at hl 7 rfl) ?_
                          obtain ⟨⟨ha_2521, ha_2522, ha_2523, ha_2524, ha_2525⟩, hf⟩ := ac_e hf
                          refine va_copyi hx hb (hml.trans hl.1.symm) hown (hts (.methodLink RX7 274 arraycopyName) (by decide +kernel)) (hts (.native arraycopyName) (by decide +kernel)) (hts (.static arraycopyName) (by decide +kernel)) (hts (.initialized "java/lang/System") (by decide +kernel)) hK hP hD hS 7 9 0 0 rfl rfl rfl rfl rfl ha_2521 ha_2522 ha_2523 ha_2524 ha_2525 (fun _ _ => rfl) (Nat.le_of_ble_eq_true rfl) (by decide) dX7_copy_114 (fun H locs hP hD hS => ?_)
                          have hP : va_P (dC, dI) vwCl (wd_X7_copy cI cZ cP cS h_t h_t_red h_t_blue h_t_sky h_t_diary h_t_calendar h_t_awakeIn h_t_worths h_t_plants h_t_sheets h_t_bestFrom h_t_s0 h_t_s1 h_t_s2 h_t_s3 h_t_s0_items h_t_s1_items h_t_s2_items h_t_s3_items v_latestFinding v_sform v_ssize (va_up v_sitems 3 (va_cpy (v_sitems 2) (v_sitems 3) x2.toNatClampNeg x4.toNatClampNeg x5.toNatClampNeg))) H := hP
                          have hD : va_D (va_A (wd_X7_copy cI cZ cP cS h_t h_t_red h_t_blue h_t_sky h_t_diary h_t_calendar h_t_awakeIn h_t_worths h_t_plants h_t_sheets h_t_bestFrom h_t_s0 h_t_s1 h_t_s2 h_t_s3 h_t_s0_items h_t_s1_items h_t_s2_items h_t_s3_items v_latestFinding v_sform v_ssize v_sitems) s.heap.size) (wd_X7_copy cI cZ cP cS h_t h_t_red h_t_blue h_t_sky h_t_diary h_t_calendar h_t_awakeIn h_t_worths h_t_plants h_t_sheets h_t_bestFrom h_t_s0 h_t_s1 h_t_s2 h_t_s3 h_t_s0_items h_t_s1_items h_t_s2_items h_t_s3_items v_latestFinding v_sform v_ssize (va_up v_sitems 3 (va_cpy (v_sitems 2) (v_sitems 3) x2.toNatClampNeg x4.toNatClampNeg x5.toNatClampNeg))) := hD
                          refine lv_iconst (v := 1) hx hb dX7_copy_117 (by decide) ?_
                          have hq0 := Option.some.inj hf
                          obtain ⟨eq0, hq1⟩ := Prod.mk.inj hq0
                          obtain ⟨eq1, hq2⟩ := Prod.mk.inj hq1
                          clear hf hq0 hq1
                          subst eq0
                          subst eq1
                          subst hq2
                          exact W.iret hx hb hr (fun t ht hW => ⟨⟨_, (), rfl, rfl, by rw [ht]; exact hP, va_K.moved hW.alike hK, hD⟩, hS.F ht⟩) hS.2.2 dX7_copy_118
                        · rw [if_pos c90] at hf
                          exact hj93 ls (lv_sub hl [2] rfl) hf
                    · rw [if_neg c61] at hf
                      refine lv_aload_n hx hb dX7_copy_64 rfl (lv_at hl 2 rfl) ?_
                      refine lv_iconst (v := 4) hx hb dX7_copy_65 (by decide) ?_
                      obtain ⟨r66_253, o66_254, hc_255, hf⟩ := bd2_e hf
                      refine rwi_call (isC := [0]) (isR := [1, 2, 3, 4, 5, 6, 7, 8, 9]) (perm := [9, 0, 1, 2, 3, 4, 5, 6, 7, 8]) (wr := [(h_t_sheets, .inl (cS, 4, .inr (.inr (.inr (.inr (ar4 h_t_s0 h_t_s1 h_t_s2 h_t_s3)))))), (h_t_s0, .inr (3, [.int (v_sform 0), .int (v_ssize 0), .ref h_t_s0_items])), (h_t_s0_items, .inl (cI, 48, .inl (v_sitems 0))), (h_t_s1, .inr (3, [.int (v_sform 1), .int (v_ssize 1), .ref h_t_s1_items])), (h_t_s1_items, .inl (cI, 48, .inl (v_sitems 1))), (h_t_s2, .inr (3, [.int (v_sform 2), .int (v_ssize 2), .ref h_t_s2_items])), (h_t_s2_items, .inl (cI, 48, .inl (v_sitems 2))), (h_t_s3, .inr (3, [.int (v_sform 3), .int (v_ssize 3), .ref h_t_s3_items])), (h_t_s3_items, .inl (cI, 48, .inl (v_sitems 3)))]) (ws2 := (wd_X7_copy cI cZ cP cS h_t h_t_red h_t_blue h_t_sky h_t_diary h_t_calendar h_t_awakeIn h_t_worths h_t_plants h_t_sheets h_t_bestFrom h_t_s0 h_t_s1 h_t_s2 h_t_s3 h_t_s0_items h_t_s1_items h_t_s2_items h_t_s3_items o66_254 v_sform v_ssize v_sitems)) (va_runV (As := [.int 4]) (rest := []) ⟨hx, hb, hml, hown, hts⟩ (c_X7_found l dC dI cI cZ cP cS H.size h_t h_t_red h_t_blue h_t_sky h_t_diary h_t_calendar h_t_awakeIn h_t_worths h_t_plants h_t_sheets h_t_bestFrom v_latestFinding 4 n r66_253 o66_254 hc_255) (cwV 1 hts gX7_copy_X7_found rfl rfl rfl (by decide +kernel) ⟨Nat.le_of_ble_eq_true rfl, Nat.le_of_ble_eq_true rfl⟩) (pv_rw (ci := 6) (q0 := 0) hK (hP.sub (ws' := (wd_X7_found cI cZ cP cS h_t h_t_red h_t_blue h_t_sky h_t_diary h_t_calendar h_t_awakeIn h_t_worths h_t_plants h_t_sheets h_t_bestFrom v_latestFinding)) [0] rfl) (hD.sub (ws' := (wd_X7_found cI cZ cP cS h_t h_t_red h_t_blue h_t_sky h_t_diary h_t_calendar h_t_awakeIn h_t_worths h_t_plants h_t_sheets h_t_bestFrom v_latestFinding)) [0] (by decide) rfl) rfl rfl) rfl rfl hl.1 rfl (lv_room (Nat.le_of_ble_eq_true rfl)) dX7_copy_66 ⟨Nat.zero_le _, Nat.zero_le _⟩) hS hA hP hD rfl (by decide) (by decide) rfl (by decide) rfl rfl (fun H locs hP hD hS => ?_)
                      have hq0 := Option.some.inj hf
                      obtain ⟨eq0, hq1⟩ := Prod.mk.inj hq0
                      obtain ⟨eq1, hq2⟩ := Prod.mk.inj hq1
                      clear hf hq0 hq1
                      subst eq0
                      subst eq1
                      subst hq2
                      exact W.iret hx hb hr (fun t ht hW => ⟨⟨_, (), rfl, rfl, by rw [ht]; exact hP, va_K.moved hW.alike hK, hD⟩, hS.F ht⟩) hS.2.2 dX7_copy_69
                  · rw [if_pos c42] at hf
                    exact hj45 ls (lv_sub hl [2] rfl) hf
              · rw [if_neg c9_3] at hf e_172
                subst e_172
                refine W.eq (g2 := F0 m 12 ls [.null]) rfl ?_
                refine lv_astoreN (lv' := [(7, .null), (6, .ref h_t_s2), (0, .ref h_t), (1, .int x1), (2, .int x2), (3, .int x3), (4, .int x4), (5, .int x5)]) hx hb dX7_copy_12 hl (by decide) rfl (fun ls hl => ?_)
                refine lv_aload hx hb dX7_copy_14 (lv_at hl 1 rfl) ?_
                refine lv_ifnull hx hb dX7_copy_16 ?_
                refine lv_aloadN hx hb dX7_copy_19 (lv_at hl 0 rfl) ?_
                refine lv_ifnonnullN hx hb dX7_copy_21 ?_
                refine lv_bipush (v := (-2)) hx hb dX7_copy_24 (by decide) ?_
                have hq0 := Option.some.inj hf
                obtain ⟨eq0, hq1⟩ := Prod.mk.inj hq0
                obtain ⟨eq1, hq2⟩ := Prod.mk.inj hq1
                clear hf hq0 hq1
                subst eq0
                subst eq1
                subst hq2
                exact W.iret hx hb hr (fun t ht hW => ⟨⟨_, (), rfl, rfl, by rw [ht]; exact hP, va_K.moved hW.alike hK, hD⟩, hS.F ht⟩) hS.2.2 dX7_copy_26
      · rw [if_neg c2_2] at hf e_1
        by_cases c2_3 : x1 = 3
        · rw [if_pos c2_3] at hf e_1
          subst e_1
          refine W.eq (g2 := F0 m 5 ls [.ref h_t_s3]) rfl ?_
          refine lv_astore (lv' := [(6, .ref h_t_s3), (0, .ref h_t), (1, .int x1), (2, .int x2), (3, .int x3), (4, .int x4), (5, .int x5)]) hx hb dX7_copy_5 hl (by decide) rfl (fun ls hl => ?_)
          refine lv_aload_n hx hb dX7_copy_7 rfl (lv_at hl 1 rfl) ?_
          refine lv_iload_n hx hb dX7_copy_8 rfl (lv_at hl 4 rfl) ?_
          refine va_csq (va_runV (As := [.int x3]) (rest := []) ⟨hx, hb, hml, hown, hts⟩ (c_X7_sheetOf l dC dI cI cZ cP cS h_t h_t_red h_t_blue h_t_sky h_t_diary h_t_calendar h_t_awakeIn h_t_worths h_t_plants h_t_sheets h_t_bestFrom h_t_s0 h_t_s1 h_t_s2 h_t_s3 v_latestFinding x3) (cwV 1 hts gX7_copy_X7_sheetOf rfl rfl rfl (by decide +kernel) ⟨Nat.le_of_ble_eq_true rfl, Nat.le_of_ble_eq_true rfl⟩) (pv_ro (ci := 6) (q0 := 0) hK (hP.sub (ws' := (wd_X7_sheetOf cI cZ cP cS h_t h_t_red h_t_blue h_t_sky h_t_diary h_t_calendar h_t_awakeIn h_t_worths h_t_plants h_t_sheets h_t_bestFrom h_t_s0 h_t_s1 h_t_s2 h_t_s3 v_latestFinding)) [0, 1] rfl) rfl rfl) rfl rfl hl.1 rfl (lv_room (Nat.le_of_ble_eq_true rfl)) dX7_copy_9 ⟨Nat.zero_le _, Nat.zero_le _⟩).run (fun x e_257 => ?_)
          by_cases c9_0 : x3 = 0
          · rw [if_pos c9_0] at hf e_257
            subst e_257
            refine W.eq (g2 := F0 m 12 ls [.ref h_t_s0]) rfl ?_
            refine lv_astore (lv' := [(7, .ref h_t_s0), (6, .ref h_t_s3), (0, .ref h_t), (1, .int x1), (2, .int x2), (3, .int x3), (4, .int x4), (5, .int x5)]) hx hb dX7_copy_12 hl (by decide) rfl (fun ls hl => ?_)
            refine lv_aload hx hb dX7_copy_14 (lv_at hl 1 rfl) ?_
            refine lv_ifnull hx hb dX7_copy_16 ?_
            refine lv_aload hx hb dX7_copy_19 (lv_at hl 0 rfl) ?_
            refine lv_ifnonnull (tgt := 27) hx hb dX7_copy_21 (by decide) ?_
            refine lv_aload hx hb dX7_copy_27 (lv_at hl 1 rfl) ?_
            refine va_get (D := (dC, dI)) (ci := 3) (v := .int (v_sform 3)) (C := RX3) (T := TX3) (N := 3) hx hb hts hinX3 hown hK hP 8 rfl rfl 0 (by decide) (hts (.fieldLink RX7 222 "SecondSunrise$Sheet" "form" "I") (by decide +kernel)) (fun _ h9 => h9) rfl dX7_copy_29 ?_
            refine lv_iconst (v := (-1)) hx hb dX7_copy_32 (by decide) ?_
            obtain ⟨k45, ek45, hf⟩ := jn0_e hf
            have hj45 : ∀ (ls : Array Slot), lv_has ls 8 [(0, .ref h_t)] → k45 = some (r, o_latestFinding, o_sitems) → W p l e (headSpec wsX7_copy rm_X7_copy).room s m ([.ref h_t, .int x1, .int x2, .int x3, .int x4, .int x5] : List Value).toArray below meth c H locs 0 0 (MQ below (RWi (dC, dI) (TY cI cZ cP cS) r s.heap.size (wd_X7_copy cI cZ cP cS h_t h_t_red h_t_blue h_t_sky h_t_diary h_t_calendar h_t_awakeIn h_t_worths h_t_plants h_t_sheets h_t_bestFrom h_t_s0 h_t_s1 h_t_s2 h_t_s3 h_t_s0_items h_t_s1_items h_t_s2_items h_t_s3_items v_latestFinding v_sform v_ssize v_sitems) (wd_X7_copy cI cZ cP cS h_t h_t_red h_t_blue h_t_sky h_t_diary h_t_calendar h_t_awakeIn h_t_worths h_t_plants h_t_sheets h_t_bestFrom h_t_s0 h_t_s1 h_t_s2 h_t_s3 h_t_s0_items h_t_s1_items h_t_s2_items h_t_s3_items o_latestFinding v_sform v_ssize o_sitems)) ([.ref h_t, .int x1, .int x2, .int x3, .int x4, .int x5] : List Value).toArray s 0 0 (va_A (wd_X7_copy cI cZ cP cS h_t h_t_red h_t_blue h_t_sky h_t_diary h_t_calendar h_t_awakeIn h_t_worths h_t_plants h_t_sheets h_t_bestFrom h_t_s0 h_t_s1 h_t_s2 h_t_s3 h_t_s0_items h_t_s1_items h_t_s2_items h_t_s3_items v_latestFinding v_sform v_ssize v_sitems) s.heap.size)) (F0 m 45 ls []) := by
              intro ls hl hf
              rw [ek45] at hf
              refine lv_aload_n hx hb dX7_copy_45 rfl (lv_at hl 0 rfl) ?_
              refine lv_iconst (v := 1) hx hb dX7_copy_46 (by decide) ?_
              obtain ⟨r47_258, o47_259, hc_260, hf⟩ := bd2_e hf
              refine rwi_call (isC := [0]) (isR := [1, 2, 3, 4, 5, 6, 7, 8, 9]) (perm := [9, 0, 1, 2, 3, 4, 5, 6, 7, 8]) (wr := [(h_t_sheets, .inl (cS, 4, .inr (.inr (.inr (.inr (ar4 h_t_s0 h_t_s1 h_t_s2 h_t_s3)))))), (h_t_s0, .inr (3, [.int (v_sform 0), .int (v_ssize 0), .ref h_t_s0_items])), (h_t_s0_items, .inl (cI, 48, .inl (v_sitems 0))), (h_t_s1, .inr (3, [.int (v_sform 1), .int (v_ssize 1), .ref h_t_s1_items])), (h_t_s1_items, .inl (cI, 48, .inl (v_sitems 1))), (h_t_s2, .inr (3, [.int (v_sform 2), .int (v_ssize 2), .ref h_t_s2_items])), (h_t_s2_items, .inl (cI, 48, .inl (v_sitems 2))), (h_t_s3, .inr (3, [.int (v_sform 3), .int (v_ssize 3), .ref h_t_s3_items])), (h_t_s3_items, .inl (cI, 48, .inl (v_sitems 3)))]) (ws2 := (wd_X7_copy cI cZ cP cS h_t h_t_red h_t_blue h_t_sky h_t_diary h_t_calendar h_t_awakeIn h_t_worths h_t_plants h_t_sheets h_t_bestFrom h_t_s0 h_t_s1 h_t_s2 h_t_s3 h_t_s0_items h_t_s1_items h_t_s2_items h_t_s3_items o47_259 v_sform v_ssize v_sitems)) (va_runV (As := [.int 1]) (rest := []) ⟨hx, hb, hml, hown, hts⟩ (c_X7_found l dC dI cI cZ cP cS H.size h_t h_t_red h_t_blue h_t_sky h_t_diary h_t_calendar h_t_awakeIn h_t_worths h_t_plants h_t_sheets h_t_bestFrom v_latestFinding 1 n r47_258 o47_259 hc_260) (cwV 1 hts gX7_copy_X7_found rfl rfl rfl (by decide +kernel) ⟨Nat.le_of_ble_eq_true rfl, Nat.le_of_ble_eq_true rfl⟩) (pv_rw (ci := 6) (q0 := 0) hK (hP.sub (ws' := (wd_X7_found cI cZ cP cS h_t h_t_red h_t_blue h_t_sky h_t_diary h_t_calendar h_t_awakeIn h_t_worths h_t_plants h_t_sheets h_t_bestFrom v_latestFinding)) [0] rfl) (hD.sub (ws' := (wd_X7_found cI cZ cP cS h_t h_t_red h_t_blue h_t_sky h_t_diary h_t_calendar h_t_awakeIn h_t_worths h_t_plants h_t_sheets h_t_bestFrom v_latestFinding)) [0] (by decide) rfl) rfl rfl) rfl rfl hl.1 rfl (lv_room (Nat.le_of_ble_eq_true rfl)) dX7_copy_47 ⟨Nat.zero_le _, Nat.zero_le _⟩) hS hA hP hD rfl (by decide) (by decide) rfl (by decide) rfl rfl (fun H locs hP hD hS => ?_)
              have hq0 := Option.some.inj hf
              obtain ⟨eq0, hq1⟩ := Prod.mk.inj hq0
              obtain ⟨eq1, hq2⟩ := Prod.mk.inj hq1
              clear hf hq0 hq1
              subst eq0
              subst eq1
              subst hq2
              exact W.iret hx hb hr (fun t ht hW => ⟨⟨_, (), rfl, rfl, by rw [ht]; exact hP, va_K.moved hW.alike hK, hD⟩, hS.F ht⟩) hS.2.2 dX7_copy_50
            refine lv_icmp_eq (tgt := 45) hx hb dX7_copy_33 (by decide) (fun c33 => ?_) (fun c33 => ?_)
            · rw [if_pos c33] at hf
              exact hj45 ls (lv_sub hl [2] rfl) hf
            · rw [if_neg c33] at hf
              refine lv_aload hx hb dX7_copy_36 (lv_at hl 0 rfl) ?_
              refine va_get (D := (dC, dI)) (ci := 3) (v := .int (v_sform 0)) (C := RX3) (T := TX3) (N := 3) hx hb hts hinX3 hown hK hP 2 rfl rfl 0 (by decide) (hts (.fieldLink RX7 222 "SecondSunrise$Sheet" "form" "I") (by decide +kernel)) (fun _ h9 => h9) rfl dX7_copy_38 ?_
              refine lv_iconst (v := (-1)) hx hb dX7_copy_41 (by decide) ?_
              refine lv_icmp_ne (tgt := 51) hx hb dX7_copy_42 (by decide) (fun c42 => ?_) (fun c42 => ?_)
              · rw [if_neg c42] at hf
                refine lv_aload hx hb dX7_copy_51 (lv_at hl 1 rfl) ?_
                refine va_get (D := (dC, dI)) (ci := 3) (v := .int (v_sform 3)) (C := RX3) (T := TX3) (N := 3) hx hb hts hinX3 hown hK hP 8 rfl rfl 0 (by decide) (hts (.fieldLink RX7 222 "SecondSunrise$Sheet" "form" "I") (by decide +kernel)) (fun _ h9 => h9) rfl dX7_copy_53 ?_
                refine lv_aload hx hb dX7_copy_56 (lv_at hl 0 rfl) ?_
                refine va_get (D := (dC, dI)) (ci := 3) (v := .int (v_sform 0)) (C := RX3) (T := TX3) (N := 3) hx hb hts hinX3 hown hK hP 2 rfl rfl 0 (by decide) (hts (.fieldLink RX7 222 "SecondSunrise$Sheet" "form" "I") (by decide +kernel)) (fun _ h9 => h9) rfl dX7_copy_58 ?_
                refine lv_icmp_eq (tgt := 70) hx hb dX7_copy_61 (by decide) (fun c61 => ?_) (fun c61 => ?_)
                · rw [if_pos c61] at hf
                  refine lv_aload hx hb dX7_copy_70 (lv_at hl 1 rfl) ?_
                  refine lv_iload_n hx hb dX7_copy_72 rfl (lv_at hl 4 rfl) ?_
                  refine lv_iload hx hb dX7_copy_73 (lv_at hl 7 rfl) ?_
                  obtain ⟨r75_262, hc_263, hf⟩ := bd1_e hf
                  refine vp_callSi (va_runV (As := [.int x2, .int x5]) (rest := []) ⟨hx, hb, hml, hown, hts⟩ (c_X3_holds l dC dI cI cZ cP cS h_t_s3 h_t_s3_items (v_sform 3) (v_ssize 3) x2 x5 n r75_262 hc_263) (cwV 2 hts gX7_copy_X3_holds rfl rfl rfl (by decide +kernel) ⟨Nat.le_of_ble_eq_true rfl, Nat.le_of_ble_eq_true rfl⟩) (pv_ro (ci := 3) (q0 := 0) hK (hP.sub (ws' := (wd_X3_holds cI cZ cP cS h_t_s3 h_t_s3_items (v_sform 3) (v_ssize 3))) [8] rfl) rfl rfl) rfl rfl hl.1 rfl (lv_room (Nat.le_of_ble_eq_true rfl)) dX7_copy_75 ⟨Nat.zero_le _, Nat.zero_le _⟩).run (fun x e_264 => ?_)
                  obtain ⟨e_264, hb_265⟩ := e_264
                  rw [e_264] at hb_265 ⊢
                  obtain ⟨k93, ek93, hf⟩ := jn0_e hf
                  have hj93 : ∀ (ls : Array Slot), lv_has ls 8 [(0, .ref h_t)] → k93 = some (r, o_latestFinding, o_sitems) → W p l e (headSpec wsX7_copy rm_X7_copy).room s m ([.ref h_t, .int x1, .int x2, .int x3, .int x4, .int x5] : List Value).toArray below meth c H locs 0 0 (MQ below (RWi (dC, dI) (TY cI cZ cP cS) r s.heap.size (wd_X7_copy cI cZ cP cS h_t h_t_red h_t_blue h_t_sky h_t_diary h_t_calendar h_t_awakeIn h_t_worths h_t_plants h_t_sheets h_t_bestFrom h_t_s0 h_t_s1 h_t_s2 h_t_s3 h_t_s0_items h_t_s1_items h_t_s2_items h_t_s3_items v_latestFinding v_sform v_ssize v_sitems) (wd_X7_copy cI cZ cP cS h_t h_t_red h_t_blue h_t_sky h_t_diary h_t_calendar h_t_awakeIn h_t_worths h_t_plants h_t_sheets h_t_bestFrom h_t_s0 h_t_s1 h_t_s2 h_t_s3 h_t_s0_items h_t_s1_items h_t_s2_items h_t_s3_items o_latestFinding v_sform v_ssize o_sitems)) ([.ref h_t, .int x1, .int x2, .int x3, .int x4, .int x5] : List Value).toArray s 0 0 (va_A (wd_X7_copy cI cZ cP cS h_t h_t_red h_t_blue h_t_sky h_t_diary h_t_calendar h_t_awakeIn h_t_worths h_t_plants h_t_sheets h_t_bestFrom h_t_s0 h_t_s1 h_t_s2 h_t_s3 h_t_s0_items h_t_s1_items h_t_s2_items h_t_s3_items v_latestFinding v_sform v_ssize v_sitems) s.heap.size)) (F0 m 93 ls []) := by
                    intro ls hl hf
                    rw [ek93] at hf
                    refine lv_aload_n hx hb dX7_copy_93 rfl (lv_at hl 0 rfl) ?_
                    refine lv_iconst (v := 2) hx hb dX7_copy_94 (by decide) ?_
                    obtain ⟨r95_266, o95_267, hc_268, hf⟩ := bd2_e hf
                    refine rwi_call (isC := [0]) (isR := [1, 2, 3, 4, 5, 6, 7, 8, 9]) (perm := [9, 0, 1, 2, 3, 4, 5, 6, 7, 8]) (wr := [(h_t_sheets, .inl (cS, 4, .inr (.inr (.inr (.inr (ar4 h_t_s0 h_t_s1 h_t_s2 h_t_s3)))))), (h_t_s0, .inr (3, [.int (v_sform 0), .int (v_ssize 0), .ref h_t_s0_items])), (h_t_s0_items, .inl (cI, 48, .inl (v_sitems 0))), (h_t_s1, .inr (3, [.int (v_sform 1), .int (v_ssize 1), .ref h_t_s1_items])), (h_t_s1_items, .inl (cI, 48, .inl (v_sitems 1))), (h_t_s2, .inr (3, [.int (v_sform 2), .int (v_ssize 2), .ref h_t_s2_items])), (h_t_s2_items, .inl (cI, 48, .inl (v_sitems 2))), (h_t_s3, .inr (3, [.int (v_sform 3), .int (v_ssize 3), .ref h_t_s3_items])), (h_t_s3_items, .inl (cI, 48, .inl (v_sitems 3)))]) (ws2 := (wd_X7_copy cI cZ cP cS h_t h_t_red h_t_blue h_t_sky h_t_diary h_t_calendar h_t_awakeIn h_t_worths h_t_plants h_t_sheets h_t_bestFrom h_t_s0 h_t_s1 h_t_s2 h_t_s3 h_t_s0_items h_t_s1_items h_t_s2_items h_t_s3_items o95_267 v_sform v_ssize v_sitems)) (va_runV (As := [.int 2]) (rest := []) ⟨hx, hb, hml, hown, hts⟩ (c_X7_found l dC dI cI cZ cP cS H.size h_t h_t_red h_t_blue h_t_sky h_t_diary h_t_calendar h_t_awakeIn h_t_worths h_t_plants h_t_sheets h_t_bestFrom v_latestFinding 2 n r95_266 o95_267 hc_268) (cwV 1 hts gX7_copy_X7_found rfl rfl rfl (by decide +kernel) ⟨Nat.le_of_ble_eq_true rfl, Nat.le_of_ble_eq_true rfl⟩) (pv_rw (ci := 6) (q0 := 0) hK (hP.sub (ws' := (wd_X7_found cI cZ cP cS h_t h_t_red h_t_blue h_t_sky h_t_diary h_t_calendar h_t_awakeIn h_t_worths h_t_plants h_t_sheets h_t_bestFrom v_latestFinding)) [0] rfl) (hD.sub (ws' := (wd_X7_found cI cZ cP cS h_t h_t_red h_t_blue h_t_sky h_t_diary h_t_calendar h_t_awakeIn h_t_worths h_t_plants h_t_sheets h_t_bestFrom v_latestFinding)) [0] (by decide) rfl) rfl rfl) rfl rfl hl.1 rfl (lv_room (Nat.le_of_ble_eq_true rfl)) dX7_copy_95 ⟨Nat.zero_le _, Nat.zero_le _⟩) hS hA hP hD rfl (by decide) (by decide) rfl (by decide) rfl rfl (fun H locs hP hD hS => ?_)
                    have hq0 := Option.some.inj hf
                    obtain ⟨eq0, hq1⟩ := Prod.mk.inj hq0
                    obtain ⟨eq1, hq2⟩ := Prod.mk.inj hq1
                    clear hf hq0 hq1
                    subst eq0
                    subst eq1
                    subst hq2
                    exact W.iret hx hb hr (fun t ht hW => ⟨⟨_, (), rfl, rfl, by rw [ht]; exact hP, va_K.moved hW.alike hK, hD⟩, hS.F ht⟩) hS.2.2 dX7_copy_98
                  refine lv_if_eq (tgt := 93) hx hb dX7_copy_78 (by decide) (fun c78 => ?_) (fun c78 => ?_)
                  · rw [if_pos c78] at hf
                    exact hj93 ls (lv_sub hl [2] rfl) hf
                  · rw [if_neg c78] at hf
                    refine lv_aload hx hb dX7_copy_81 (lv_at hl 0 rfl) ?_
                    refine lv_iload hx hb dX7_copy_83 (lv_at hl 6 rfl) ?_
                    refine lv_iload hx hb dX7_copy_85 (lv_at hl 7 rfl) ?_
                    obtain ⟨r87_270, hc_271, hf⟩ := bd1_e hf
                    refine vp_callSi (va_runV (As := [.int x4, .int x5]) (rest := []) ⟨hx, hb, hml, hown, hts⟩ (c_X3_holds l dC dI cI cZ cP cS h_t_s0 h_t_s0_items (v_sform 0) (v_ssize 0) x4 x5 n r87_270 hc_271) (cwV 2 hts gX7_copy_X3_holds rfl rfl rfl (by decide +kernel) ⟨Nat.le_of_ble_eq_true rfl, Nat.le_of_ble_eq_true rfl⟩) (pv_ro (ci := 3) (q0 := 0) hK (hP.sub (ws' := (wd_X3_holds cI cZ cP cS h_t_s0 h_t_s0_items (v_sform 0) (v_ssize 0))) [2] rfl) rfl rfl) rfl rfl hl.1 rfl (lv_room (Nat.le_of_ble_eq_true rfl)) dX7_copy_87 ⟨Nat.zero_le _, Nat.zero_le _⟩).run (fun x e_272 => ?_)
                    obtain ⟨e_272, hb_273⟩ := e_272
                    rw [e_272] at hb_273 ⊢
                    refine lv_if_ne (tgt := 99) hx hb dX7_copy_90 (by decide) (fun c90 => ?_) (fun c90 => ?_)
                    · rw [if_neg c90] at hf
                      refine lv_aload hx hb dX7_copy_99 (lv_at hl 1 rfl) ?_
                      refine va_get (D := (dC, dI)) (ci := 3) (v := .ref h_t_s3_items) (C := RX3) (T := TX3) (N := 3) hx hb hts hinX3 hown hK hP 8 rfl rfl 2 (by decide) (hts (.fieldLink RX7 229 "SecondSunrise$Sheet" "items" "[I") (by decide +kernel)) (fun _ h9 => h9) rfl dX7_copy_101 ?_
                      refine lv_iload_n hx hb dX7_copy_104 rfl (lv_at hl 4 rfl) ?_
                      refine lv_aload hx hb dX7_copy_105 (lv_at hl 0 rfl) ?_
                      refine va_get (D := (dC, dI)) (ci := 3) (v := .ref h_t_s0_items) (C := RX3) (T := TX3) (N := 3) hx hb hts hinX3 hown hK hP 2 rfl rfl 2 (by decide) (hts (.fieldLink RX7 229 "SecondSunrise$Sheet" "items" "[I") (by decide +kernel)) (fun _ h9 => h9) rfl dX7_copy_107 ?_
                      refine lv_iload hx hb dX7_copy_110 (lv_at hl 6 rfl) ?_
                      refine lv_iload hx hb dX7_copy_112 (lv_at hl 7 rfl) ?_
                      obtain ⟨⟨ha_2741, ha_2742, ha_2743, ha_2744, ha_2745⟩, hf⟩ := ac_e hf
                      refine va_copyi hx hb (hml.trans hl.1.symm) hown (hts (.methodLink RX7 274 arraycopyName) (by decide +kernel)) (hts (.native arraycopyName) (by decide +kernel)) (hts (.static arraycopyName) (by decide +kernel)) (hts (.initialized "java/lang/System") (by decide +kernel)) hK hP hD hS 9 3 0 0 rfl rfl rfl rfl rfl ha_2741 ha_2742 ha_2743 ha_2744 ha_2745 (fun _ _ => rfl) (Nat.le_of_ble_eq_true rfl) (by decide) dX7_copy_114 (fun H locs hP hD hS => ?_)
                      have hP : va_P (dC, dI) vwCl (wd_X7_copy cI cZ cP cS h_t h_t_red h_t_blue h_t_sky h_t_diary h_t_calendar h_t_awakeIn h_t_worths h_t_plants h_t_sheets h_t_bestFrom h_t_s0 h_t_s1 h_t_s2 h_t_s3 h_t_s0_items h_t_s1_items h_t_s2_items h_t_s3_items v_latestFinding v_sform v_ssize (va_up v_sitems 0 (va_cpy (v_sitems 3) (v_sitems 0) x2.toNatClampNeg x4.toNatClampNeg x5.toNatClampNeg))) H := hP
                      have hD : va_D (va_A (wd_X7_copy cI cZ cP cS h_t h_t_red h_t_blue h_t_sky h_t_diary h_t_calendar h_t_awakeIn h_t_worths h_t_plants h_t_sheets h_t_bestFrom h_t_s0 h_t_s1 h_t_s2 h_t_s3 h_t_s0_items h_t_s1_items h_t_s2_items h_t_s3_items v_latestFinding v_sform v_ssize v_sitems) s.heap.size) (wd_X7_copy cI cZ cP cS h_t h_t_red h_t_blue h_t_sky h_t_diary h_t_calendar h_t_awakeIn h_t_worths h_t_plants h_t_sheets h_t_bestFrom h_t_s0 h_t_s1 h_t_s2 h_t_s3 h_t_s0_items h_t_s1_items h_t_s2_items h_t_s3_items v_latestFinding v_sform v_ssize (va_up v_sitems 0 (va_cpy (v_sitems 3) (v_sitems 0) x2.toNatClampNeg x4.toNatClampNeg x5.toNatClampNeg))) := hD
                      refine lv_iconst (v := 1) hx hb dX7_copy_117 (by decide) ?_
                      have hq0 := Option.some.inj hf
                      obtain ⟨eq0, hq1⟩ := Prod.mk.inj hq0
                      obtain ⟨eq1, hq2⟩ := Prod.mk.inj hq1
                      clear hf hq0 hq1
                      subst eq0
                      subst eq1
                      subst hq2
                      exact W.iret hx hb hr (fun t ht hW => ⟨⟨_, (), rfl, rfl, by rw [ht]; exact hP, va_K.moved hW.alike hK, hD⟩, hS.F ht⟩) hS.2.2 dX7_copy_118
                    · rw [if_pos c90] at hf
                      exact hj93 ls (lv_sub hl [2] rfl) hf
                · rw [if_neg c61] at hf
                  refine lv_aload_n hx hb dX7_copy_64 rfl (lv_at hl 2 rfl) ?_
                  refine lv_iconst (v := 4) hx hb dX7_copy_65 (by decide) ?_
                  obtain ⟨r66_275, o66_276, hc_277, hf⟩ := bd2_e hf
                  refine rwi_call (isC := [0]) (isR := [1, 2, 3, 4, 5, 6, 7, 8, 9]) (perm := [9, 0, 1, 2, 3, 4, 5, 6, 7, 8]) (wr := [(h_t_sheets, .inl (cS, 4, .inr (.inr (.inr (.inr (ar4 h_t_s0 h_t_s1 h_t_s2 h_t_s3)))))), (h_t_s0, .inr (3, [.int (v_sform 0), .int (v_ssize 0), .ref h_t_s0_items])), (h_t_s0_items, .inl (cI, 48, .inl (v_sitems 0))), (h_t_s1, .inr (3, [.int (v_sform 1), .int (v_ssize 1), .ref h_t_s1_items])), (h_t_s1_items, .inl (cI, 48, .inl (v_sitems 1))), (h_t_s2, .inr (3, [.int (v_sform 2), .int (v_ssize 2), .ref h_t_s2_items])), (h_t_s2_items, .inl (cI, 48, .inl (v_sitems 2))), (h_t_s3, .inr (3, [.int (v_sform 3), .int (v_ssize 3), .ref h_t_s3_items])), (h_t_s3_items, .inl (cI, 48, .inl (v_sitems 3)))]) (ws2 := (wd_X7_copy cI cZ cP cS h_t h_t_red h_t_blue h_t_sky h_t_diary h_t_calendar h_t_awakeIn h_t_worths h_t_plants h_t_sheets h_t_bestFrom h_t_s0 h_t_s1 h_t_s2 h_t_s3 h_t_s0_items h_t_s1_items h_t_s2_items h_t_s3_items o66_276 v_sform v_ssize v_sitems)) (va_runV (As := [.int 4]) (rest := []) ⟨hx, hb, hml, hown, hts⟩ (c_X7_found l dC dI cI cZ cP cS H.size h_t h_t_red h_t_blue h_t_sky h_t_diary h_t_calendar h_t_awakeIn h_t_worths h_t_plants h_t_sheets h_t_bestFrom v_latestFinding 4 n r66_275 o66_276 hc_277) (cwV 1 hts gX7_copy_X7_found rfl rfl rfl (by decide +kernel) ⟨Nat.le_of_ble_eq_true rfl, Nat.le_of_ble_eq_true rfl⟩) (pv_rw (ci := 6) (q0 := 0) hK (hP.sub (ws' := (wd_X7_found cI cZ cP cS h_t h_t_red h_t_blue h_t_sky h_t_diary h_t_calendar h_t_awakeIn h_t_worths h_t_plants h_t_sheets h_t_bestFrom v_latestFinding)) [0] rfl) (hD.sub (ws' := (wd_X7_found cI cZ cP cS h_t h_t_red h_t_blue h_t_sky h_t_diary h_t_calendar h_t_awakeIn h_t_worths h_t_plants h_t_sheets h_t_bestFrom v_latestFinding)) [0] (by decide) rfl) rfl rfl) rfl rfl hl.1 rfl (lv_room (Nat.le_of_ble_eq_true rfl)) dX7_copy_66 ⟨Nat.zero_le _, Nat.zero_le _⟩) hS hA hP hD rfl (by decide) (by decide) rfl (by decide) rfl rfl (fun H locs hP hD hS => ?_)
                  have hq0 := Option.some.inj hf
                  obtain ⟨eq0, hq1⟩ := Prod.mk.inj hq0
                  obtain ⟨eq1, hq2⟩ := Prod.mk.inj hq1
                  clear hf hq0 hq1
                  subst eq0
                  subst eq1
                  subst hq2
                  exact W.iret hx hb hr (fun t ht hW => ⟨⟨_, (), rfl, rfl, by rw [ht]; exact hP, va_K.moved hW.alike hK, hD⟩, hS.F ht⟩) hS.2.2 dX7_copy_69
              · rw [if_pos c42] at hf
                exact hj45 ls (lv_sub hl [2] rfl) hf
          · rw [if_neg c9_0] at hf e_257
            by_cases c9_1 : x3 = 1
            · rw [if_pos c9_1] at hf e_257
              subst e_257
              refine W.eq (g2 := F0 m 12 ls [.ref h_t_s1]) rfl ?_
              refine lv_astore (lv' := [(7, .ref h_t_s1), (6, .ref h_t_s3), (0, .ref h_t), (1, .int x1), (2, .int x2), (3, .int x3), (4, .int x4), (5, .int x5)]) hx hb dX7_copy_12 hl (by decide) rfl (fun ls hl => ?_)
              refine lv_aload hx hb dX7_copy_14 (lv_at hl 1 rfl) ?_
              refine lv_ifnull hx hb dX7_copy_16 ?_
              refine lv_aload hx hb dX7_copy_19 (lv_at hl 0 rfl) ?_
              refine lv_ifnonnull (tgt := 27) hx hb dX7_copy_21 (by decide) ?_
              refine lv_aload hx hb dX7_copy_27 (lv_at hl 1 rfl) ?_
              refine va_get (D := (dC, dI)) (ci := 3) (v := .int (v_sform 3)) (C := RX3) (T := TX3) (N := 3) hx hb hts hinX3 hown hK hP 8 rfl rfl 0 (by decide) (hts (.fieldLink RX7 222 "SecondSunrise$Sheet" "form" "I") (by decide +kernel)) (fun _ h9 => h9) rfl dX7_copy_29 ?_
              refine lv_iconst (v := (-1)) hx hb dX7_copy_32 (by decide) ?_
              obtain ⟨k45, ek45, hf⟩ := jn0_e hf
              have hj45 : ∀ (ls : Array Slot), lv_has ls 8 [(0, .ref h_t)] → k45 = some (r, o_latestFinding, o_sitems) → W p l e (headSpec wsX7_copy rm_X7_copy).room s m ([.ref h_t, .int x1, .int x2, .int x3, .int x4, .int x5] : List Value).toArray below meth c H locs 0 0 (MQ below (RWi (dC, dI) (TY cI cZ cP cS) r s.heap.size (wd_X7_copy cI cZ cP cS h_t h_t_red h_t_blue h_t_sky h_t_diary h_t_calendar h_t_awakeIn h_t_worths h_t_plants h_t_sheets h_t_bestFrom h_t_s0 h_t_s1 h_t_s2 h_t_s3 h_t_s0_items h_t_s1_items h_t_s2_items h_t_s3_items v_latestFinding v_sform v_ssize v_sitems) (wd_X7_copy cI cZ cP cS h_t h_t_red h_t_blue h_t_sky h_t_diary h_t_calendar h_t_awakeIn h_t_worths h_t_plants h_t_sheets h_t_bestFrom h_t_s0 h_t_s1 h_t_s2 h_t_s3 h_t_s0_items h_t_s1_items h_t_s2_items h_t_s3_items o_latestFinding v_sform v_ssize o_sitems)) ([.ref h_t, .int x1, .int x2, .int x3, .int x4, .int x5] : List Value).toArray s 0 0 (va_A (wd_X7_copy cI cZ cP cS h_t h_t_red h_t_blue h_t_sky h_t_diary h_t_calendar h_t_awakeIn h_t_worths h_t_plants h_t_sheets h_t_bestFrom h_t_s0 h_t_s1 h_t_s2 h_t_s3 h_t_s0_items h_t_s1_items h_t_s2_items h_t_s3_items v_latestFinding v_sform v_ssize v_sitems) s.heap.size)) (F0 m 45 ls []) := by
                intro ls hl hf
                rw [ek45] at hf
                refine lv_aload_n hx hb dX7_copy_45 rfl (lv_at hl 0 rfl) ?_
                refine lv_iconst (v := 1) hx hb dX7_copy_46 (by decide) ?_
                obtain ⟨r47_279, o47_280, hc_281, hf⟩ := bd2_e hf
                refine rwi_call (isC := [0]) (isR := [1, 2, 3, 4, 5, 6, 7, 8, 9]) (perm := [9, 0, 1, 2, 3, 4, 5, 6, 7, 8]) (wr := [(h_t_sheets, .inl (cS, 4, .inr (.inr (.inr (.inr (ar4 h_t_s0 h_t_s1 h_t_s2 h_t_s3)))))), (h_t_s0, .inr (3, [.int (v_sform 0), .int (v_ssize 0), .ref h_t_s0_items])), (h_t_s0_items, .inl (cI, 48, .inl (v_sitems 0))), (h_t_s1, .inr (3, [.int (v_sform 1), .int (v_ssize 1), .ref h_t_s1_items])), (h_t_s1_items, .inl (cI, 48, .inl (v_sitems 1))), (h_t_s2, .inr (3, [.int (v_sform 2), .int (v_ssize 2), .ref h_t_s2_items])), (h_t_s2_items, .inl (cI, 48, .inl (v_sitems 2))), (h_t_s3, .inr (3, [.int (v_sform 3), .int (v_ssize 3), .ref h_t_s3_items])), (h_t_s3_items, .inl (cI, 48, .inl (v_sitems 3)))]) (ws2 := (wd_X7_copy cI cZ cP cS h_t h_t_red h_t_blue h_t_sky h_t_diary h_t_calendar h_t_awakeIn h_t_worths h_t_plants h_t_sheets h_t_bestFrom h_t_s0 h_t_s1 h_t_s2 h_t_s3 h_t_s0_items h_t_s1_items h_t_s2_items h_t_s3_items o47_280 v_sform v_ssize v_sitems)) (va_runV (As := [.int 1]) (rest := []) ⟨hx, hb, hml, hown, hts⟩ (c_X7_found l dC dI cI cZ cP cS H.size h_t h_t_red h_t_blue h_t_sky h_t_diary h_t_calendar h_t_awakeIn h_t_worths h_t_plants h_t_sheets h_t_bestFrom v_latestFinding 1 n r47_279 o47_280 hc_281) (cwV 1 hts gX7_copy_X7_found rfl rfl rfl (by decide +kernel) ⟨Nat.le_of_ble_eq_true rfl, Nat.le_of_ble_eq_true rfl⟩) (pv_rw (ci := 6) (q0 := 0) hK (hP.sub (ws' := (wd_X7_found cI cZ cP cS h_t h_t_red h_t_blue h_t_sky h_t_diary h_t_calendar h_t_awakeIn h_t_worths h_t_plants h_t_sheets h_t_bestFrom v_latestFinding)) [0] rfl) (hD.sub (ws' := (wd_X7_found cI cZ cP cS h_t h_t_red h_t_blue h_t_sky h_t_diary h_t_calendar h_t_awakeIn h_t_worths h_t_plants h_t_sheets h_t_bestFrom v_latestFinding)) [0] (by decide) rfl) rfl rfl) rfl rfl hl.1 rfl (lv_room (Nat.le_of_ble_eq_true rfl)) dX7_copy_47 ⟨Nat.zero_le _, Nat.zero_le _⟩) hS hA hP hD rfl (by decide) (by decide) rfl (by decide) rfl rfl (fun H locs hP hD hS => ?_)
                have hq0 := Option.some.inj hf
                obtain ⟨eq0, hq1⟩ := Prod.mk.inj hq0
                obtain ⟨eq1, hq2⟩ := Prod.mk.inj hq1
                clear hf hq0 hq1
                subst eq0
                subst eq1
                subst hq2
                exact W.iret hx hb hr (fun t ht hW => ⟨⟨_, (), rfl, rfl, by rw [ht]; exact hP, va_K.moved hW.alike hK, hD⟩, hS.F ht⟩) hS.2.2 dX7_copy_50
              refine lv_icmp_eq (tgt := 45) hx hb dX7_copy_33 (by decide) (fun c33 => ?_) (fun c33 => ?_)
              · rw [if_pos c33] at hf
                exact hj45 ls (lv_sub hl [2] rfl) hf
              · rw [if_neg c33] at hf
                refine lv_aload hx hb dX7_copy_36 (lv_at hl 0 rfl) ?_
                refine va_get (D := (dC, dI)) (ci := 3) (v := .int (v_sform 1)) (C := RX3) (T := TX3) (N := 3) hx hb hts hinX3 hown hK hP 4 rfl rfl 0 (by decide) (hts (.fieldLink RX7 222 "SecondSunrise$Sheet" "form" "I") (by decide +kernel)) (fun _ h9 => h9) rfl dX7_copy_38 ?_
                refine lv_iconst (v := (-1)) hx hb dX7_copy_41 (by decide) ?_
                refine lv_icmp_ne (tgt := 51) hx hb dX7_copy_42 (by decide) (fun c42 => ?_) (fun c42 => ?_)
                · rw [if_neg c42] at hf
                  refine lv_aload hx hb dX7_copy_51 (lv_at hl 1 rfl) ?_
                  refine va_get (D := (dC, dI)) (ci := 3) (v := .int (v_sform 3)) (C := RX3) (T := TX3) (N := 3) hx hb hts hinX3 hown hK hP 8 rfl rfl 0 (by decide) (hts (.fieldLink RX7 222 "SecondSunrise$Sheet" "form" "I") (by decide +kernel)) (fun _ h9 => h9) rfl dX7_copy_53 ?_
                  refine lv_aload hx hb dX7_copy_56 (lv_at hl 0 rfl) ?_
                  refine va_get (D := (dC, dI)) (ci := 3) (v := .int (v_sform 1)) (C := RX3) (T := TX3) (N := 3) hx hb hts hinX3 hown hK hP 4 rfl rfl 0 (by decide) (hts (.fieldLink RX7 222 "SecondSunrise$Sheet" "form" "I") (by decide +kernel)) (fun _ h9 => h9) rfl dX7_copy_58 ?_
                  refine lv_icmp_eq (tgt := 70) hx hb dX7_copy_61 (by decide) (fun c61 => ?_) (fun c61 => ?_)
                  · rw [if_pos c61] at hf
                    refine lv_aload hx hb dX7_copy_70 (lv_at hl 1 rfl) ?_
                    refine lv_iload_n hx hb dX7_copy_72 rfl (lv_at hl 4 rfl) ?_
                    refine lv_iload hx hb dX7_copy_73 (lv_at hl 7 rfl) ?_
                    obtain ⟨r75_283, hc_284, hf⟩ := bd1_e hf
                    refine vp_callSi (va_runV (As := [.int x2, .int x5]) (rest := []) ⟨hx, hb, hml, hown, hts⟩ (c_X3_holds l dC dI cI cZ cP cS h_t_s3 h_t_s3_items (v_sform 3) (v_ssize 3) x2 x5 n r75_283 hc_284) (cwV 2 hts gX7_copy_X3_holds rfl rfl rfl (by decide +kernel) ⟨Nat.le_of_ble_eq_true rfl, Nat.le_of_ble_eq_true rfl⟩) (pv_ro (ci := 3) (q0 := 0) hK (hP.sub (ws' := (wd_X3_holds cI cZ cP cS h_t_s3 h_t_s3_items (v_sform 3) (v_ssize 3))) [8] rfl) rfl rfl) rfl rfl hl.1 rfl (lv_room (Nat.le_of_ble_eq_true rfl)) dX7_copy_75 ⟨Nat.zero_le _, Nat.zero_le _⟩).run (fun x e_285 => ?_)
                    obtain ⟨e_285, hb_286⟩ := e_285
                    rw [e_285] at hb_286 ⊢
                    obtain ⟨k93, ek93, hf⟩ := jn0_e hf
                    have hj93 : ∀ (ls : Array Slot), lv_has ls 8 [(0, .ref h_t)] → k93 = some (r, o_latestFinding, o_sitems) → W p l e (headSpec wsX7_copy rm_X7_copy).room s m ([.ref h_t, .int x1, .int x2, .int x3, .int x4, .int x5] : List Value).toArray below meth c H locs 0 0 (MQ below (RWi (dC, dI) (TY cI cZ cP cS) r s.heap.size (wd_X7_copy cI cZ cP cS h_t h_t_red h_t_blue h_t_sky h_t_diary h_t_calendar h_t_awakeIn h_t_worths h_t_plants h_t_sheets h_t_bestFrom h_t_s0 h_t_s1 h_t_s2 h_t_s3 h_t_s0_items h_t_s1_items h_t_s2_items h_t_s3_items v_latestFinding v_sform v_ssize v_sitems) (wd_X7_copy cI cZ cP cS h_t h_t_red h_t_blue h_t_sky h_t_diary h_t_calendar h_t_awakeIn h_t_worths h_t_plants h_t_sheets h_t_bestFrom h_t_s0 h_t_s1 h_t_s2 h_t_s3 h_t_s0_items h_t_s1_items h_t_s2_items h_t_s3_items o_latestFinding v_sform v_ssize o_sitems)) ([.ref h_t, .int x1, .int x2, .int x3, .int x4, .int x5] : List Value).toArray s 0 0 (va_A (wd_X7_copy cI cZ cP cS h_t h_t_red h_t_blue h_t_sky h_t_diary h_t_calendar h_t_awakeIn h_t_worths h_t_plants h_t_sheets h_t_bestFrom h_t_s0 h_t_s1 h_t_s2 h_t_s3 h_t_s0_items h_t_s1_items h_t_s2_items h_t_s3_items v_latestFinding v_sform v_ssize v_sitems) s.heap.size)) (F0 m 93 ls []) := by
                      intro ls hl hf
                      rw [ek93] at hf
                      refine lv_aload_n hx hb dX7_copy_93 rfl (lv_at hl 0 rfl) ?_
                      refine lv_iconst (v := 2) hx hb dX7_copy_94 (by decide) ?_
                      obtain ⟨r95_287, o95_288, hc_289, hf⟩ := bd2_e hf
                      refine rwi_call (isC := [0]) (isR := [1, 2, 3, 4, 5, 6, 7, 8, 9]) (perm := [9, 0, 1, 2, 3, 4, 5, 6, 7, 8]) (wr := [(h_t_sheets, .inl (cS, 4, .inr (.inr (.inr (.inr (ar4 h_t_s0 h_t_s1 h_t_s2 h_t_s3)))))), (h_t_s0, .inr (3, [.int (v_sform 0), .int (v_ssize 0), .ref h_t_s0_items])), (h_t_s0_items, .inl (cI, 48, .inl (v_sitems 0))), (h_t_s1, .inr (3, [.int (v_sform 1), .int (v_ssize 1), .ref h_t_s1_items])), (h_t_s1_items, .inl (cI, 48, .inl (v_sitems 1))), (h_t_s2, .inr (3, [.int (v_sform 2), .int (v_ssize 2), .ref h_t_s2_items])), (h_t_s2_items, .inl (cI, 48, .inl (v_sitems 2))), (h_t_s3, .inr (3, [.int (v_sform 3), .int (v_ssize 3), .ref h_t_s3_items])), (h_t_s3_items, .inl (cI, 48, .inl (v_sitems 3)))]) (ws2 := (wd_X7_copy cI cZ cP cS h_t h_t_red h_t_blue h_t_sky h_t_diary h_t_calendar h_t_awakeIn h_t_worths h_t_plants h_t_sheets h_t_bestFrom h_t_s0 h_t_s1 h_t_s2 h_t_s3 h_t_s0_items h_t_s1_items h_t_s2_items h_t_s3_items o95_288 v_sform v_ssize v_sitems)) (va_runV (As := [.int 2]) (rest := []) ⟨hx, hb, hml, hown, hts⟩ (c_X7_found l dC dI cI cZ cP cS H.size h_t h_t_red h_t_blue h_t_sky h_t_diary h_t_calendar h_t_awakeIn h_t_worths h_t_plants h_t_sheets h_t_bestFrom v_latestFinding 2 n r95_287 o95_288 hc_289) (cwV 1 hts gX7_copy_X7_found rfl rfl rfl (by decide +kernel) ⟨Nat.le_of_ble_eq_true rfl, Nat.le_of_ble_eq_true rfl⟩) (pv_rw (ci := 6) (q0 := 0) hK (hP.sub (ws' := (wd_X7_found cI cZ cP cS h_t h_t_red h_t_blue h_t_sky h_t_diary h_t_calendar h_t_awakeIn h_t_worths h_t_plants h_t_sheets h_t_bestFrom v_latestFinding)) [0] rfl) (hD.sub (ws' := (wd_X7_found cI cZ cP cS h_t h_t_red h_t_blue h_t_sky h_t_diary h_t_calendar h_t_awakeIn h_t_worths h_t_plants h_t_sheets h_t_bestFrom v_latestFinding)) [0] (by decide) rfl) rfl rfl) rfl rfl hl.1 rfl (lv_room (Nat.le_of_ble_eq_true rfl)) dX7_copy_95 ⟨Nat.zero_le _, Nat.zero_le _⟩) hS hA hP hD rfl (by decide) (by decide) rfl (by decide) rfl rfl (fun H locs hP hD hS => ?_)
                      have hq0 := Option.some.inj hf
                      obtain ⟨eq0, hq1⟩ := Prod.mk.inj hq0
                      obtain ⟨eq1, hq2⟩ := Prod.mk.inj hq1
                      clear hf hq0 hq1
                      subst eq0
                      subst eq1
                      subst hq2
                      exact W.iret hx hb hr (fun t ht hW => ⟨⟨_, (), rfl, rfl, by rw [ht]; exact hP, va_K.moved hW.alike hK, hD⟩, hS.F ht⟩) hS.2.2 dX7_copy_98
                    refine lv_if_eq (tgt := 93) hx hb dX7_copy_78 (by decide) (fun c78 => ?_) (fun c78 => ?_)
                    · rw [if_pos c78] at hf
                      exact hj93 ls (lv_sub hl [2] rfl) hf
                    · rw [if_neg c78] at hf
                      refine lv_aload hx hb dX7_copy_81 (lv_at hl 0 rfl) ?_
                      refine lv_iload hx hb dX7_copy_83 (lv_at hl 6 rfl) ?_
                      refine lv_iload hx hb dX7_copy_85 (lv_at hl 7 rfl) ?_
                      obtain ⟨r87_291, hc_292, hf⟩ := bd1_e hf
                      refine vp_callSi (va_runV (As := [.int x4, .int x5]) (rest := []) ⟨hx, hb, hml, hown, hts⟩ (c_X3_holds l dC dI cI cZ cP cS h_t_s1 h_t_s1_items (v_sform 1) (v_ssize 1) x4 x5 n r87_291 hc_292) (cwV 2 hts gX7_copy_X3_holds rfl rfl rfl (by decide +kernel) ⟨Nat.le_of_ble_eq_true rfl, Nat.le_of_ble_eq_true rfl⟩) (pv_ro (ci := 3) (q0 := 0) hK (hP.sub (ws' := (wd_X3_holds cI cZ cP cS h_t_s1 h_t_s1_items (v_sform 1) (v_ssize 1))) [4] rfl) rfl rfl) rfl rfl hl.1 rfl (lv_room (Nat.le_of_ble_eq_true rfl)) dX7_copy_87 ⟨Nat.zero_le _, Nat.zero_le _⟩).run (fun x e_293 => ?_)
                      obtain ⟨e_293, hb_294⟩ := e_293
                      rw [e_293] at hb_294 ⊢
                      refine lv_if_ne (tgt := 99) hx hb dX7_copy_90 (by decide) (fun c90 => ?_) (fun c90 => ?_)
                      · rw [if_neg c90] at hf
                        refine lv_aload hx hb dX7_copy_99 (lv_at hl 1 rfl) ?_
                        refine va_get (D := (dC, dI)) (ci := 3) (v := .ref h_t_s3_items) (C := RX3) (T := TX3) (N := 3) hx hb hts hinX3 hown hK hP 8 rfl rfl 2 (by decide) (hts (.fieldLink RX7 229 "SecondSunrise$Sheet" "items" "[I") (by decide +kernel)) (fun _ h9 => h9) rfl dX7_copy_101 ?_
                        refine lv_iload_n hx hb dX7_copy_104 rfl (lv_at hl 4 rfl) ?_
                        refine lv_aload hx hb dX7_copy_105 (lv_at hl 0 rfl) ?_
                        refine va_get (D := (dC, dI)) (ci := 3) (v := .ref h_t_s1_items) (C := RX3) (T := TX3) (N := 3) hx hb hts hinX3 hown hK hP 4 rfl rfl 2 (by decide) (hts (.fieldLink RX7 229 "SecondSunrise$Sheet" "items" "[I") (by decide +kernel)) (fun _ h9 => h9) rfl dX7_copy_107 ?_
                        refine lv_iload hx hb dX7_copy_110 (lv_at hl 6 rfl) ?_
                        refine lv_iload hx hb dX7_copy_112 (lv_at hl 7 rfl) ?_
                        obtain ⟨⟨ha_2951, ha_2952, ha_2953, ha_2954, ha_2955⟩, hf⟩ := ac_e hf
                        refine va_copyi hx hb (hml.trans hl.1.symm) hown (hts (.methodLink RX7 274 arraycopyName) (by decide +kernel)) (hts (.native arraycopyName) (by decide +kernel)) (hts (.static arraycopyName) (by decide +kernel)) (hts (.initialized "java/lang/System") (by decide +kernel)) hK hP hD hS 9 5 0 0 rfl rfl rfl rfl rfl ha_2951 ha_2952 ha_2953 ha_2954 ha_2955 (fun _ _ => rfl) (Nat.le_of_ble_eq_true rfl) (by decide) dX7_copy_114 (fun H locs hP hD hS => ?_)
                        have hP : va_P (dC, dI) vwCl (wd_X7_copy cI cZ cP cS h_t h_t_red h_t_blue h_t_sky h_t_diary h_t_calendar h_t_awakeIn h_t_worths h_t_plants h_t_sheets h_t_bestFrom h_t_s0 h_t_s1 h_t_s2 h_t_s3 h_t_s0_items h_t_s1_items h_t_s2_items h_t_s3_items v_latestFinding v_sform v_ssize (va_up v_sitems 1 (va_cpy (v_sitems 3) (v_sitems 1) x2.toNatClampNeg x4.toNatClampNeg x5.toNatClampNeg))) H := hP
                        have hD : va_D (va_A (wd_X7_copy cI cZ cP cS h_t h_t_red h_t_blue h_t_sky h_t_diary h_t_calendar h_t_awakeIn h_t_worths h_t_plants h_t_sheets h_t_bestFrom h_t_s0 h_t_s1 h_t_s2 h_t_s3 h_t_s0_items h_t_s1_items h_t_s2_items h_t_s3_items v_latestFinding v_sform v_ssize v_sitems) s.heap.size) (wd_X7_copy cI cZ cP cS h_t h_t_red h_t_blue h_t_sky h_t_diary h_t_calendar h_t_awakeIn h_t_worths h_t_plants h_t_sheets h_t_bestFrom h_t_s0 h_t_s1 h_t_s2 h_t_s3 h_t_s0_items h_t_s1_items h_t_s2_items h_t_s3_items v_latestFinding v_sform v_ssize (va_up v_sitems 1 (va_cpy (v_sitems 3) (v_sitems 1) x2.toNatClampNeg x4.toNatClampNeg x5.toNatClampNeg))) := hD
                        refine lv_iconst (v := 1) hx hb dX7_copy_117 (by decide) ?_
                        have hq0 := Option.some.inj hf
                        obtain ⟨eq0, hq1⟩ := Prod.mk.inj hq0
                        obtain ⟨eq1, hq2⟩ := Prod.mk.inj hq1
                        clear hf hq0 hq1
                        subst eq0
                        subst eq1
                        subst hq2
                        exact W.iret hx hb hr (fun t ht hW => ⟨⟨_, (), rfl, rfl, by rw [ht]; exact hP, va_K.moved hW.alike hK, hD⟩, hS.F ht⟩) hS.2.2 dX7_copy_118
                      · rw [if_pos c90] at hf
                        exact hj93 ls (lv_sub hl [2] rfl) hf
                  · rw [if_neg c61] at hf
                    refine lv_aload_n hx hb dX7_copy_64 rfl (lv_at hl 2 rfl) ?_
                    refine lv_iconst (v := 4) hx hb dX7_copy_65 (by decide) ?_
                    obtain ⟨r66_296, o66_297, hc_298, hf⟩ := bd2_e hf
                    refine rwi_call (isC := [0]) (isR := [1, 2, 3, 4, 5, 6, 7, 8, 9]) (perm := [9, 0, 1, 2, 3, 4, 5, 6, 7, 8]) (wr := [(h_t_sheets, .inl (cS, 4, .inr (.inr (.inr (.inr (ar4 h_t_s0 h_t_s1 h_t_s2 h_t_s3)))))), (h_t_s0, .inr (3, [.int (v_sform 0), .int (v_ssize 0), .ref h_t_s0_items])), (h_t_s0_items, .inl (cI, 48, .inl (v_sitems 0))), (h_t_s1, .inr (3, [.int (v_sform 1), .int (v_ssize 1), .ref h_t_s1_items])), (h_t_s1_items, .inl (cI, 48, .inl (v_sitems 1))), (h_t_s2, .inr (3, [.int (v_sform 2), .int (v_ssize 2), .ref h_t_s2_items])), (h_t_s2_items, .inl (cI, 48, .inl (v_sitems 2))), (h_t_s3, .inr (3, [.int (v_sform 3), .int (v_ssize 3), .ref h_t_s3_items])), (h_t_s3_items, .inl (cI, 48, .inl (v_sitems 3)))]) (ws2 := (wd_X7_copy cI cZ cP cS h_t h_t_red h_t_blue h_t_sky h_t_diary h_t_calendar h_t_awakeIn h_t_worths h_t_plants h_t_sheets h_t_bestFrom h_t_s0 h_t_s1 h_t_s2 h_t_s3 h_t_s0_items h_t_s1_items h_t_s2_items h_t_s3_items o66_297 v_sform v_ssize v_sitems)) (va_runV (As := [.int 4]) (rest := []) ⟨hx, hb, hml, hown, hts⟩ (c_X7_found l dC dI cI cZ cP cS H.size h_t h_t_red h_t_blue h_t_sky h_t_diary h_t_calendar h_t_awakeIn h_t_worths h_t_plants h_t_sheets h_t_bestFrom v_latestFinding 4 n r66_296 o66_297 hc_298) (cwV 1 hts gX7_copy_X7_found rfl rfl rfl (by decide +kernel) ⟨Nat.le_of_ble_eq_true rfl, Nat.le_of_ble_eq_true rfl⟩) (pv_rw (ci := 6) (q0 := 0) hK (hP.sub (ws' := (wd_X7_found cI cZ cP cS h_t h_t_red h_t_blue h_t_sky h_t_diary h_t_calendar h_t_awakeIn h_t_worths h_t_plants h_t_sheets h_t_bestFrom v_latestFinding)) [0] rfl) (hD.sub (ws' := (wd_X7_found cI cZ cP cS h_t h_t_red h_t_blue h_t_sky h_t_diary h_t_calendar h_t_awakeIn h_t_worths h_t_plants h_t_sheets h_t_bestFrom v_latestFinding)) [0] (by decide) rfl) rfl rfl) rfl rfl hl.1 rfl (lv_room (Nat.le_of_ble_eq_true rfl)) dX7_copy_66 ⟨Nat.zero_le _, Nat.zero_le _⟩) hS hA hP hD rfl (by decide) (by decide) rfl (by decide) rfl rfl (fun H locs hP hD hS => ?_)
                    have hq0 := Option.some.inj hf
                    obtain ⟨eq0, hq1⟩ := Prod.mk.inj hq0
                    obtain ⟨eq1, hq2⟩ := Prod.mk.inj hq1
                    clear hf hq0 hq1
                    subst eq0
                    subst eq1
                    subst hq2
                    exact W.iret hx hb hr (fun t ht hW => ⟨⟨_, (), rfl, rfl, by rw [ht]; exact hP, va_K.moved hW.alike hK, hD⟩, hS.F ht⟩) hS.2.2 dX7_copy_69
                · rw [if_pos c42] at hf
                  exact hj45 ls (lv_sub hl [2] rfl) hf
            · rw [if_neg c9_1] at hf e_257
              by_cases c9_2 : x3 = 2
              · rw [if_pos c9_2] at hf e_257
                subst e_257
                refine W.eq (g2 := F0 m 12 ls [.ref h_t_s2]) rfl ?_
                refine lv_astore (lv' := [(7, .ref h_t_s2), (6, .ref h_t_s3), (0, .ref h_t), (1, .int x1), (2, .int x2), (3, .int x3), (4, .int x4), (5, .int x5)]) hx hb dX7_copy_12 hl (by decide) rfl (fun ls hl => ?_)
                refine lv_aload hx hb dX7_copy_14 (lv_at hl 1 rfl) ?_
                refine lv_ifnull hx hb dX7_copy_16 ?_
                refine lv_aload hx hb dX7_copy_19 (lv_at hl 0 rfl) ?_
                refine lv_ifnonnull (tgt := 27) hx hb dX7_copy_21 (by decide) ?_
                refine lv_aload hx hb dX7_copy_27 (lv_at hl 1 rfl) ?_
                refine va_get (D := (dC, dI)) (ci := 3) (v := .int (v_sform 3)) (C := RX3) (T := TX3) (N := 3) hx hb hts hinX3 hown hK hP 8 rfl rfl 0 (by decide) (hts (.fieldLink RX7 222 "SecondSunrise$Sheet" "form" "I") (by decide +kernel)) (fun _ h9 => h9) rfl dX7_copy_29 ?_
                refine lv_iconst (v := (-1)) hx hb dX7_copy_32 (by decide) ?_
                obtain ⟨k45, ek45, hf⟩ := jn0_e hf
                have hj45 : ∀ (ls : Array Slot), lv_has ls 8 [(0, .ref h_t)] → k45 = some (r, o_latestFinding, o_sitems) → W p l e (headSpec wsX7_copy rm_X7_copy).room s m ([.ref h_t, .int x1, .int x2, .int x3, .int x4, .int x5] : List Value).toArray below meth c H locs 0 0 (MQ below (RWi (dC, dI) (TY cI cZ cP cS) r s.heap.size (wd_X7_copy cI cZ cP cS h_t h_t_red h_t_blue h_t_sky h_t_diary h_t_calendar h_t_awakeIn h_t_worths h_t_plants h_t_sheets h_t_bestFrom h_t_s0 h_t_s1 h_t_s2 h_t_s3 h_t_s0_items h_t_s1_items h_t_s2_items h_t_s3_items v_latestFinding v_sform v_ssize v_sitems) (wd_X7_copy cI cZ cP cS h_t h_t_red h_t_blue h_t_sky h_t_diary h_t_calendar h_t_awakeIn h_t_worths h_t_plants h_t_sheets h_t_bestFrom h_t_s0 h_t_s1 h_t_s2 h_t_s3 h_t_s0_items h_t_s1_items h_t_s2_items h_t_s3_items o_latestFinding v_sform v_ssize o_sitems)) ([.ref h_t, .int x1, .int x2, .int x3, .int x4, .int x5] : List Value).toArray s 0 0 (va_A (wd_X7_copy cI cZ cP cS h_t h_t_red h_t_blue h_t_sky h_t_diary h_t_calendar h_t_awakeIn h_t_worths h_t_plants h_t_sheets h_t_bestFrom h_t_s0 h_t_s1 h_t_s2 h_t_s3 h_t_s0_items h_t_s1_items h_t_s2_items h_t_s3_items v_latestFinding v_sform v_ssize v_sitems) s.heap.size)) (F0 m 45 ls []) := by
                  intro ls hl hf
                  rw [ek45] at hf
                  refine lv_aload_n hx hb dX7_copy_45 rfl (lv_at hl 0 rfl) ?_
                  refine lv_iconst (v := 1) hx hb dX7_copy_46 (by decide) ?_
                  obtain ⟨r47_300, o47_301, hc_302, hf⟩ := bd2_e hf
                  refine rwi_call (isC := [0]) (isR := [1, 2, 3, 4, 5, 6, 7, 8, 9]) (perm := [9, 0, 1, 2, 3, 4, 5, 6, 7, 8]) (wr := [(h_t_sheets, .inl (cS, 4, .inr (.inr (.inr (.inr (ar4 h_t_s0 h_t_s1 h_t_s2 h_t_s3)))))), (h_t_s0, .inr (3, [.int (v_sform 0), .int (v_ssize 0), .ref h_t_s0_items])), (h_t_s0_items, .inl (cI, 48, .inl (v_sitems 0))), (h_t_s1, .inr (3, [.int (v_sform 1), .int (v_ssize 1), .ref h_t_s1_items])), (h_t_s1_items, .inl (cI, 48, .inl (v_sitems 1))), (h_t_s2, .inr (3, [.int (v_sform 2), .int (v_ssize 2), .ref h_t_s2_items])), (h_t_s2_items, .inl (cI, 48, .inl (v_sitems 2))), (h_t_s3, .inr (3, [.int (v_sform 3), .int (v_ssize 3), .ref h_t_s3_items])), (h_t_s3_items, .inl (cI, 48, .inl (v_sitems 3)))]) (ws2 := (wd_X7_copy cI cZ cP cS h_t h_t_red h_t_blue h_t_sky h_t_diary h_t_calendar h_t_awakeIn h_t_worths h_t_plants h_t_sheets h_t_bestFrom h_t_s0 h_t_s1 h_t_s2 h_t_s3 h_t_s0_items h_t_s1_items h_t_s2_items h_t_s3_items o47_301 v_sform v_ssize v_sitems)) (va_runV (As := [.int 1]) (rest := []) ⟨hx, hb, hml, hown, hts⟩ (c_X7_found l dC dI cI cZ cP cS H.size h_t h_t_red h_t_blue h_t_sky h_t_diary h_t_calendar h_t_awakeIn h_t_worths h_t_plants h_t_sheets h_t_bestFrom v_latestFinding 1 n r47_300 o47_301 hc_302) (cwV 1 hts gX7_copy_X7_found rfl rfl rfl (by decide +kernel) ⟨Nat.le_of_ble_eq_true rfl, Nat.le_of_ble_eq_true rfl⟩) (pv_rw (ci := 6) (q0 := 0) hK (hP.sub (ws' := (wd_X7_found cI cZ cP cS h_t h_t_red h_t_blue h_t_sky h_t_diary h_t_calendar h_t_awakeIn h_t_worths h_t_plants h_t_sheets h_t_bestFrom v_latestFinding)) [0] rfl) (hD.sub (ws' := (wd_X7_found cI cZ cP cS h_t h_t_red h_t_blue h_t_sky h_t_diary h_t_calendar h_t_awakeIn h_t_worths h_t_plants h_t_sheets h_t_bestFrom v_latestFinding)) [0] (by decide) rfl) rfl rfl) rfl rfl hl.1 rfl (lv_room (Nat.le_of_ble_eq_true rfl)) dX7_copy_47 ⟨Nat.zero_le _, Nat.zero_le _⟩) hS hA hP hD rfl (by decide) (by decide) rfl (by decide) rfl rfl (fun H locs hP hD hS => ?_)
                  have hq0 := Option.some.inj hf
                  obtain ⟨eq0, hq1⟩ := Prod.mk.inj hq0
                  obtain ⟨eq1, hq2⟩ := Prod.mk.inj hq1
                  clear hf hq0 hq1
                  subst eq0
                  subst eq1
                  subst hq2
                  exact W.iret hx hb hr (fun t ht hW => ⟨⟨_, (), rfl, rfl, by rw [ht]; exact hP, va_K.moved hW.alike hK, hD⟩, hS.F ht⟩) hS.2.2 dX7_copy_50
                refine lv_icmp_eq (tgt := 45) hx hb dX7_copy_33 (by decide) (fun c33 => ?_) (fun c33 => ?_)
                · rw [if_pos c33] at hf
                  exact hj45 ls (lv_sub hl [2] rfl) hf
                · rw [if_neg c33] at hf
                  refine lv_aload hx hb dX7_copy_36 (lv_at hl 0 rfl) ?_
                  refine va_get (D := (dC, dI)) (ci := 3) (v := .int (v_sform 2)) (C := RX3) (T := TX3) (N := 3) hx hb hts hinX3 hown hK hP 6 rfl rfl 0 (by decide) (hts (.fieldLink RX7 222 "SecondSunrise$Sheet" "form" "I") (by decide +kernel)) (fun _ h9 => h9) rfl dX7_copy_38 ?_
                  refine lv_iconst (v := (-1)) hx hb dX7_copy_41 (by decide) ?_
                  refine lv_icmp_ne (tgt := 51) hx hb dX7_copy_42 (by decide) (fun c42 => ?_) (fun c42 => ?_)
                  · rw [if_neg c42] at hf
                    refine lv_aload hx hb dX7_copy_51 (lv_at hl 1 rfl) ?_
                    refine va_get (D := (dC, dI)) (ci := 3) (v := .int (v_sform 3)) (C := RX3) (T := TX3) (N := 3) hx hb hts hinX3 hown hK hP 8 rfl rfl 0 (by decide) (hts (.fieldLink RX7 222 "SecondSunrise$Sheet" "form" "I") (by decide +kernel)) (fun _ h9 => h9) rfl dX7_copy_53 ?_
                    refine lv_aload hx hb dX7_copy_56 (lv_at hl 0 rfl) ?_
                    refine va_get (D := (dC, dI)) (ci := 3) (v := .int (v_sform 2)) (C := RX3) (T := TX3) (N := 3) hx hb hts hinX3 hown hK hP 6 rfl rfl 0 (by decide) (hts (.fieldLink RX7 222 "SecondSunrise$Sheet" "form" "I") (by decide +kernel)) (fun _ h9 => h9) rfl dX7_copy_58 ?_
                    refine lv_icmp_eq (tgt := 70) hx hb dX7_copy_61 (by decide) (fun c61 => ?_) (fun c61 => ?_)
                    · rw [if_pos c61] at hf
                      refine lv_aload hx hb dX7_copy_70 (lv_at hl 1 rfl) ?_
                      refine lv_iload_n hx hb dX7_copy_72 rfl (lv_at hl 4 rfl) ?_
                      refine lv_iload hx hb dX7_copy_73 (lv_at hl 7 rfl) ?_
                      obtain ⟨r75_304, hc_305, hf⟩ := bd1_e hf
                      refine vp_callSi (va_runV (As := [.int x2, .int x5]) (rest := []) ⟨hx, hb, hml, hown, hts⟩ (c_X3_holds l dC dI cI cZ cP cS h_t_s3 h_t_s3_items (v_sform 3) (v_ssize 3) x2 x5 n r75_304 hc_305) (cwV 2 hts gX7_copy_X3_holds rfl rfl rfl (by decide +kernel) ⟨Nat.le_of_ble_eq_true rfl, Nat.le_of_ble_eq_true rfl⟩) (pv_ro (ci := 3) (q0 := 0) hK (hP.sub (ws' := (wd_X3_holds cI cZ cP cS h_t_s3 h_t_s3_items (v_sform 3) (v_ssize 3))) [8] rfl) rfl rfl) rfl rfl hl.1 rfl (lv_room (Nat.le_of_ble_eq_true rfl)) dX7_copy_75 ⟨Nat.zero_le _, Nat.zero_le _⟩).run (fun x e_306 => ?_)
                      obtain ⟨e_306, hb_307⟩ := e_306
                      rw [e_306] at hb_307 ⊢
                      obtain ⟨k93, ek93, hf⟩ := jn0_e hf
                      have hj93 : ∀ (ls : Array Slot), lv_has ls 8 [(0, .ref h_t)] → k93 = some (r, o_latestFinding, o_sitems) → W p l e (headSpec wsX7_copy rm_X7_copy).room s m ([.ref h_t, .int x1, .int x2, .int x3, .int x4, .int x5] : List Value).toArray below meth c H locs 0 0 (MQ below (RWi (dC, dI) (TY cI cZ cP cS) r s.heap.size (wd_X7_copy cI cZ cP cS h_t h_t_red h_t_blue h_t_sky h_t_diary h_t_calendar h_t_awakeIn h_t_worths h_t_plants h_t_sheets h_t_bestFrom h_t_s0 h_t_s1 h_t_s2 h_t_s3 h_t_s0_items h_t_s1_items h_t_s2_items h_t_s3_items v_latestFinding v_sform v_ssize v_sitems) (wd_X7_copy cI cZ cP cS h_t h_t_red h_t_blue h_t_sky h_t_diary h_t_calendar h_t_awakeIn h_t_worths h_t_plants h_t_sheets h_t_bestFrom h_t_s0 h_t_s1 h_t_s2 h_t_s3 h_t_s0_items h_t_s1_items h_t_s2_items h_t_s3_items o_latestFinding v_sform v_ssize o_sitems)) ([.ref h_t, .int x1, .int x2, .int x3, .int x4, .int x5] : List Value).toArray s 0 0 (va_A (wd_X7_copy cI cZ cP cS h_t h_t_red h_t_blue h_t_sky h_t_diary h_t_calendar h_t_awakeIn h_t_worths h_t_plants h_t_sheets h_t_bestFrom h_t_s0 h_t_s1 h_t_s2 h_t_s3 h_t_s0_items h_t_s1_items h_t_s2_items h_t_s3_items v_latestFinding v_sform v_ssize v_sitems) s.heap.size)) (F0 m 93 ls []) := by
                        intro ls hl hf
                        rw [ek93] at hf
                        refine lv_aload_n hx hb dX7_copy_93 rfl (lv_at hl 0 rfl) ?_
                        refine lv_iconst (v := 2) hx hb dX7_copy_94 (by decide) ?_
                        obtain ⟨r95_308, o95_309, hc_310, hf⟩ := bd2_e hf
                        refine rwi_call (isC := [0]) (isR := [1, 2, 3, 4, 5, 6, 7, 8, 9]) (perm := [9, 0, 1, 2, 3, 4, 5, 6, 7, 8]) (wr := [(h_t_sheets, .inl (cS, 4, .inr (.inr (.inr (.inr (ar4 h_t_s0 h_t_s1 h_t_s2 h_t_s3)))))), (h_t_s0, .inr (3, [.int (v_sform 0), .int (v_ssize 0), .ref h_t_s0_items])), (h_t_s0_items, .inl (cI, 48, .inl (v_sitems 0))), (h_t_s1, .inr (3, [.int (v_sform 1), .int (v_ssize 1), .ref h_t_s1_items])), (h_t_s1_items, .inl (cI, 48, .inl (v_sitems 1))), (h_t_s2, .inr (3, [.int (v_sform 2), .int (v_ssize 2), .ref h_t_s2_items])), (h_t_s2_items, .inl (cI, 48, .inl (v_sitems 2))), (h_t_s3, .inr (3, [.int (v_sform 3), .int (v_ssize 3), .ref h_t_s3_items])), (h_t_s3_items, .inl (cI, 48, .inl (v_sitems 3)))]) (ws2 := (wd_X7_copy cI cZ cP cS h_t h_t_red h_t_blue h_t_sky h_t_diary h_t_calendar h_t_awakeIn h_t_worths h_t_plants h_t_sheets h_t_bestFrom h_t_s0 h_t_s1 h_t_s2 h_t_s3 h_t_s0_items h_t_s1_items h_t_s2_items h_t_s3_items o95_309 v_sform v_ssize v_sitems)) (va_runV (As := [.int 2]) (rest := []) ⟨hx, hb, hml, hown, hts⟩ (c_X7_found l dC dI cI cZ cP cS H.size h_t h_t_red h_t_blue h_t_sky h_t_diary h_t_calendar h_t_awakeIn h_t_worths h_t_plants h_t_sheets h_t_bestFrom v_latestFinding 2 n r95_308 o95_309 hc_310) (cwV 1 hts gX7_copy_X7_found rfl rfl rfl (by decide +kernel) ⟨Nat.le_of_ble_eq_true rfl, Nat.le_of_ble_eq_true rfl⟩) (pv_rw (ci := 6) (q0 := 0) hK (hP.sub (ws' := (wd_X7_found cI cZ cP cS h_t h_t_red h_t_blue h_t_sky h_t_diary h_t_calendar h_t_awakeIn h_t_worths h_t_plants h_t_sheets h_t_bestFrom v_latestFinding)) [0] rfl) (hD.sub (ws' := (wd_X7_found cI cZ cP cS h_t h_t_red h_t_blue h_t_sky h_t_diary h_t_calendar h_t_awakeIn h_t_worths h_t_plants h_t_sheets h_t_bestFrom v_latestFinding)) [0] (by decide) rfl) rfl rfl) rfl rfl hl.1 rfl (lv_room (Nat.le_of_ble_eq_true rfl)) dX7_copy_95 ⟨Nat.zero_le _, Nat.zero_le _⟩) hS hA hP hD rfl (by decide) (by decide) rfl (by decide) rfl rfl (fun H locs hP hD hS => ?_)
                        have hq0 := Option.some.inj hf
                        obtain ⟨eq0, hq1⟩ := Prod.mk.inj hq0
                        obtain ⟨eq1, hq2⟩ := Prod.mk.inj hq1
                        clear hf hq0 hq1
                        subst eq0
                        subst eq1
                        subst hq2
                        exact W.iret hx hb hr (fun t ht hW => ⟨⟨_, (), rfl, rfl, by rw [ht]; exact hP, va_K.moved hW.alike hK, hD⟩, hS.F ht⟩) hS.2.2 dX7_copy_98
                      refine lv_if_eq (tgt := 93) hx hb dX7_copy_78 (by decide) (fun c78 => ?_) (fun c78 => ?_)
                      · rw [if_pos c78] at hf
                        exact hj93 ls (lv_sub hl [2] rfl) hf
                      · rw [if_neg c78] at hf
                        refine lv_aload hx hb dX7_copy_81 (lv_at hl 0 rfl) ?_
                        refine lv_iload hx hb dX7_copy_83 (lv_at hl 6 rfl) ?_
                        refine lv_iload hx hb dX7_copy_85 (lv_at hl 7 rfl) ?_
                        obtain ⟨r87_312, hc_313, hf⟩ := bd1_e hf
                        refine vp_callSi (va_runV (As := [.int x4, .int x5]) (rest := []) ⟨hx, hb, hml, hown, hts⟩ (c_X3_holds l dC dI cI cZ cP cS h_t_s2 h_t_s2_items (v_sform 2) (v_ssize 2) x4 x5 n r87_312 hc_313) (cwV 2 hts gX7_copy_X3_holds rfl rfl rfl (by decide +kernel) ⟨Nat.le_of_ble_eq_true rfl, Nat.le_of_ble_eq_true rfl⟩) (pv_ro (ci := 3) (q0 := 0) hK (hP.sub (ws' := (wd_X3_holds cI cZ cP cS h_t_s2 h_t_s2_items (v_sform 2) (v_ssize 2))) [6] rfl) rfl rfl) rfl rfl hl.1 rfl (lv_room (Nat.le_of_ble_eq_true rfl)) dX7_copy_87 ⟨Nat.zero_le _, Nat.zero_le _⟩).run (fun x e_314 => ?_)
                        obtain ⟨e_314, hb_315⟩ := e_314
                        rw [e_314] at hb_315 ⊢
                        refine lv_if_ne (tgt := 99) hx hb dX7_copy_90 (by decide) (fun c90 => ?_) (fun c90 => ?_)
                        · rw [if_neg c90] at hf
                          refine lv_aload hx hb dX7_copy_99 (lv_at hl 1 rfl) ?_
                          refine va_get (D := (dC, dI)) (ci := 3) (v := .ref h_t_s3_items) (C := RX3) (T := TX3) (N := 3) hx hb hts hinX3 hown hK hP 8 rfl rfl 2 (by decide) (hts (.fieldLink RX7 229 "SecondSunrise$Sheet" "items" "[I") (by decide +kernel)) (fun _ h9 => h9) rfl dX7_copy_101 ?_
                          refine lv_iload_n hx hb dX7_copy_104 rfl (lv_at hl 4 rfl) ?_
                          refine lv_aload hx hb dX7_copy_105 (lv_at hl 0 rfl) ?_
                          refine va_get (D := (dC, dI)) (ci := 3) (v := .ref h_t_s2_items) (C := RX3) (T := TX3) (N := 3) hx hb hts hinX3 hown hK hP 6 rfl rfl 2 (by decide) (hts (.fieldLink RX7 229 "SecondSunrise$Sheet" "items" "[I") (by decide +kernel)) (fun _ h9 => h9) rfl dX7_copy_107 ?_
                          refine lv_iload hx hb dX7_copy_110 (lv_at hl 6 rfl) ?_
                          refine lv_iload hx hb dX7_copy_112 (lv_at hl 7 rfl) ?_
                          obtain ⟨⟨ha_3161, ha_3162, ha_3163, ha_3164, ha_3165⟩, hf⟩ := ac_e hf
                          refine va_copyi hx hb (hml.trans hl.1.symm) hown (hts (.methodLink RX7 274 arraycopyName) (by decide +kernel)) (hts (.native arraycopyName) (by decide +kernel)) (hts (.static arraycopyName) (by decide +kernel)) (hts (.initialized "java/lang/System") (by decide +kernel)) hK hP hD hS 9 7 0 0 rfl rfl rfl rfl rfl ha_3161 ha_3162 ha_3163 ha_3164 ha_3165 (fun _ _ => rfl) (Nat.le_of_ble_eq_true rfl) (by decide) dX7_copy_114 (fun H locs hP hD hS => ?_)
                          have hP : va_P (dC, dI) vwCl (wd_X7_copy cI cZ cP cS h_t h_t_red h_t_blue h_t_sky h_t_diary h_t_calendar h_t_awakeIn h_t_worths h_t_plants h_t_sheets h_t_bestFrom h_t_s0 h_t_s1 h_t_s2 h_t_s3 h_t_s0_items h_t_s1_items h_t_s2_items h_t_s3_items v_latestFinding v_sform v_ssize (va_up v_sitems 2 (va_cpy (v_sitems 3) (v_sitems 2) x2.toNatClampNeg x4.toNatClampNeg x5.toNatClampNeg))) H := hP
                          have hD : va_D (va_A (wd_X7_copy cI cZ cP cS h_t h_t_red h_t_blue h_t_sky h_t_diary h_t_calendar h_t_awakeIn h_t_worths h_t_plants h_t_sheets h_t_bestFrom h_t_s0 h_t_s1 h_t_s2 h_t_s3 h_t_s0_items h_t_s1_items h_t_s2_items h_t_s3_items v_latestFinding v_sform v_ssize v_sitems) s.heap.size) (wd_X7_copy cI cZ cP cS h_t h_t_red h_t_blue h_t_sky h_t_diary h_t_calendar h_t_awakeIn h_t_worths h_t_plants h_t_sheets h_t_bestFrom h_t_s0 h_t_s1 h_t_s2 h_t_s3 h_t_s0_items h_t_s1_items h_t_s2_items h_t_s3_items v_latestFinding v_sform v_ssize (va_up v_sitems 2 (va_cpy (v_sitems 3) (v_sitems 2) x2.toNatClampNeg x4.toNatClampNeg x5.toNatClampNeg))) := hD
                          refine lv_iconst (v := 1) hx hb dX7_copy_117 (by decide) ?_
                          have hq0 := Option.some.inj hf
                          obtain ⟨eq0, hq1⟩ := Prod.mk.inj hq0
                          obtain ⟨eq1, hq2⟩ := Prod.mk.inj hq1
                          clear hf hq0 hq1
                          subst eq0
                          subst eq1
                          subst hq2
                          exact W.iret hx hb hr (fun t ht hW => ⟨⟨_, (), rfl, rfl, by rw [ht]; exact hP, va_K.moved hW.alike hK, hD⟩, hS.F ht⟩) hS.2.2 dX7_copy_118
                        · rw [if_pos c90] at hf
                          exact hj93 ls (lv_sub hl [2] rfl) hf
                    · rw [if_neg c61] at hf
                      refine lv_aload_n hx hb dX7_copy_64 rfl (lv_at hl 2 rfl) ?_
                      refine lv_iconst (v := 4) hx hb dX7_copy_65 (by decide) ?_
                      obtain ⟨r66_317, o66_318, hc_319, hf⟩ := bd2_e hf
                      refine rwi_call (isC := [0]) (isR := [1, 2, 3, 4, 5, 6, 7, 8, 9]) (perm := [9, 0, 1, 2, 3, 4, 5, 6, 7, 8]) (wr := [(h_t_sheets, .inl (cS, 4, .inr (.inr (.inr (.inr (ar4 h_t_s0 h_t_s1 h_t_s2 h_t_s3)))))), (h_t_s0, .inr (3, [.int (v_sform 0), .int (v_ssize 0), .ref h_t_s0_items])), (h_t_s0_items, .inl (cI, 48, .inl (v_sitems 0))), (h_t_s1, .inr (3, [.int (v_sform 1), .int (v_ssize 1), .ref h_t_s1_items])), (h_t_s1_items, .inl (cI, 48, .inl (v_sitems 1))), (h_t_s2, .inr (3, [.int (v_sform 2), .int (v_ssize 2), .ref h_t_s2_items])), (h_t_s2_items, .inl (cI, 48, .inl (v_sitems 2))), (h_t_s3, .inr (3, [.int (v_sform 3), .int (v_ssize 3), .ref h_t_s3_items])), (h_t_s3_items, .inl (cI, 48, .inl (v_sitems 3)))]) (ws2 := (wd_X7_copy cI cZ cP cS h_t h_t_red h_t_blue h_t_sky h_t_diary h_t_calendar h_t_awakeIn h_t_worths h_t_plants h_t_sheets h_t_bestFrom h_t_s0 h_t_s1 h_t_s2 h_t_s3 h_t_s0_items h_t_s1_items h_t_s2_items h_t_s3_items o66_318 v_sform v_ssize v_sitems)) (va_runV (As := [.int 4]) (rest := []) ⟨hx, hb, hml, hown, hts⟩ (c_X7_found l dC dI cI cZ cP cS H.size h_t h_t_red h_t_blue h_t_sky h_t_diary h_t_calendar h_t_awakeIn h_t_worths h_t_plants h_t_sheets h_t_bestFrom v_latestFinding 4 n r66_317 o66_318 hc_319) (cwV 1 hts gX7_copy_X7_found rfl rfl rfl (by decide +kernel) ⟨Nat.le_of_ble_eq_true rfl, Nat.le_of_ble_eq_true rfl⟩) (pv_rw (ci := 6) (q0 := 0) hK (hP.sub (ws' := (wd_X7_found cI cZ cP cS h_t h_t_red h_t_blue h_t_sky h_t_diary h_t_calendar h_t_awakeIn h_t_worths h_t_plants h_t_sheets h_t_bestFrom v_latestFinding)) [0] rfl) (hD.sub (ws' := (wd_X7_found cI cZ cP cS h_t h_t_red h_t_blue h_t_sky h_t_diary h_t_calendar h_t_awakeIn h_t_worths h_t_plants h_t_sheets h_t_bestFrom v_latestFinding)) [0] (by decide) rfl) rfl rfl) rfl rfl hl.1 rfl (lv_room (Nat.le_of_ble_eq_true rfl)) dX7_copy_66 ⟨Nat.zero_le _, Nat.zero_le _⟩) hS hA hP hD rfl (by decide) (by decide) rfl (by decide) rfl rfl (fun H locs hP hD hS => ?_)
                      have hq0 := Option.some.inj hf
                      obtain ⟨eq0, hq1⟩ := Prod.mk.inj hq0
                      obtain ⟨eq1, hq2⟩ := Prod.mk.inj hq1
                      clear hf hq0 hq1
                      subst eq0
                      subst eq1
                      subst hq2
                      exact W.iret hx hb hr (fun t ht hW => ⟨⟨_, (), rfl, rfl, by rw [ht]; exact hP, va_K.moved hW.alike hK, hD⟩, hS.F ht⟩) hS.2.2 dX7_copy_69
                  · rw [if_pos c42] at hf
                    exact hj45 ls (lv_sub hl [2] rfl) hf
              · rw [if_neg c9_2] at hf e_257
                by_cases c9_3 : x3 = 3
                · rw [if_pos c9_3] at hf e_257
                  subst e_257
                  refine W.eq (g2 := F0 m 12 ls [.ref h_t_s3]) rfl ?_
                  refine lv_astore (lv' := [(7, .ref h_t_s3), (6, .ref h_t_s3), (0, .ref h_t), (1, .int x1), (2, .int x2), (3, .int x3), (4, .int x4), (5, .int x5)]) hx hb dX7_copy_12 hl (by decide) rfl (fun ls hl => ?_)
                  refine lv_aload hx hb dX7_copy_14 (lv_at hl 1 rfl) ?_
                  refine lv_ifnull hx hb dX7_copy_16 ?_
                  refine lv_aload hx hb dX7_copy_19 (lv_at hl 0 rfl) ?_
                  refine lv_ifnonnull (tgt := 27) hx hb dX7_copy_21 (by decide) ?_
                  refine lv_aload hx hb dX7_copy_27 (lv_at hl 1 rfl) ?_
                  refine va_get (D := (dC, dI)) (ci := 3) (v := .int (v_sform 3)) (C := RX3) (T := TX3) (N := 3) hx hb hts hinX3 hown hK hP 8 rfl rfl 0 (by decide) (hts (.fieldLink RX7 222 "SecondSunrise$Sheet" "form" "I") (by decide +kernel)) (fun _ h9 => h9) rfl dX7_copy_29 ?_
                  refine lv_iconst (v := (-1)) hx hb dX7_copy_32 (by decide) ?_
                  obtain ⟨k45, ek45, hf⟩ := jn0_e hf
                  have hj45 : ∀ (ls : Array Slot), lv_has ls 8 [(0, .ref h_t)] → k45 = some (r, o_latestFinding, o_sitems) → W p l e (headSpec wsX7_copy rm_X7_copy).room s m ([.ref h_t, .int x1, .int x2, .int x3, .int x4, .int x5] : List Value).toArray below meth c H locs 0 0 (MQ below (RWi (dC, dI) (TY cI cZ cP cS) r s.heap.size (wd_X7_copy cI cZ cP cS h_t h_t_red h_t_blue h_t_sky h_t_diary h_t_calendar h_t_awakeIn h_t_worths h_t_plants h_t_sheets h_t_bestFrom h_t_s0 h_t_s1 h_t_s2 h_t_s3 h_t_s0_items h_t_s1_items h_t_s2_items h_t_s3_items v_latestFinding v_sform v_ssize v_sitems) (wd_X7_copy cI cZ cP cS h_t h_t_red h_t_blue h_t_sky h_t_diary h_t_calendar h_t_awakeIn h_t_worths h_t_plants h_t_sheets h_t_bestFrom h_t_s0 h_t_s1 h_t_s2 h_t_s3 h_t_s0_items h_t_s1_items h_t_s2_items h_t_s3_items o_latestFinding v_sform v_ssize o_sitems)) ([.ref h_t, .int x1, .int x2, .int x3, .int x4, .int x5] : List Value).toArray s 0 0 (va_A (wd_X7_copy cI cZ cP cS h_t h_t_red h_t_blue h_t_sky h_t_diary h_t_calendar h_t_awakeIn h_t_worths h_t_plants h_t_sheets h_t_bestFrom h_t_s0 h_t_s1 h_t_s2 h_t_s3 h_t_s0_items h_t_s1_items h_t_s2_items h_t_s3_items v_latestFinding v_sform v_ssize v_sitems) s.heap.size)) (F0 m 45 ls []) := by
                    intro ls hl hf
                    rw [ek45] at hf
                    refine lv_aload_n hx hb dX7_copy_45 rfl (lv_at hl 0 rfl) ?_
                    refine lv_iconst (v := 1) hx hb dX7_copy_46 (by decide) ?_
                    obtain ⟨r47_321, o47_322, hc_323, hf⟩ := bd2_e hf
                    refine rwi_call (isC := [0]) (isR := [1, 2, 3, 4, 5, 6, 7, 8, 9]) (perm := [9, 0, 1, 2, 3, 4, 5, 6, 7, 8]) (wr := [(h_t_sheets, .inl (cS, 4, .inr (.inr (.inr (.inr (ar4 h_t_s0 h_t_s1 h_t_s2 h_t_s3)))))), (h_t_s0, .inr (3, [.int (v_sform 0), .int (v_ssize 0), .ref h_t_s0_items])), (h_t_s0_items, .inl (cI, 48, .inl (v_sitems 0))), (h_t_s1, .inr (3, [.int (v_sform 1), .int (v_ssize 1), .ref h_t_s1_items])), (h_t_s1_items, .inl (cI, 48, .inl (v_sitems 1))), (h_t_s2, .inr (3, [.int (v_sform 2), .int (v_ssize 2), .ref h_t_s2_items])), (h_t_s2_items, .inl (cI, 48, .inl (v_sitems 2))), (h_t_s3, .inr (3, [.int (v_sform 3), .int (v_ssize 3), .ref h_t_s3_items])), (h_t_s3_items, .inl (cI, 48, .inl (v_sitems 3)))]) (ws2 := (wd_X7_copy cI cZ cP cS h_t h_t_red h_t_blue h_t_sky h_t_diary h_t_calendar h_t_awakeIn h_t_worths h_t_plants h_t_sheets h_t_bestFrom h_t_s0 h_t_s1 h_t_s2 h_t_s3 h_t_s0_items h_t_s1_items h_t_s2_items h_t_s3_items o47_322 v_sform v_ssize v_sitems)) (va_runV (As := [.int 1]) (rest := []) ⟨hx, hb, hml, hown, hts⟩ (c_X7_found l dC dI cI cZ cP cS H.size h_t h_t_red h_t_blue h_t_sky h_t_diary h_t_calendar h_t_awakeIn h_t_worths h_t_plants h_t_sheets h_t_bestFrom v_latestFinding 1 n r47_321 o47_322 hc_323) (cwV 1 hts gX7_copy_X7_found rfl rfl rfl (by decide +kernel) ⟨Nat.le_of_ble_eq_true rfl, Nat.le_of_ble_eq_true rfl⟩) (pv_rw (ci := 6) (q0 := 0) hK (hP.sub (ws' := (wd_X7_found cI cZ cP cS h_t h_t_red h_t_blue h_t_sky h_t_diary h_t_calendar h_t_awakeIn h_t_worths h_t_plants h_t_sheets h_t_bestFrom v_latestFinding)) [0] rfl) (hD.sub (ws' := (wd_X7_found cI cZ cP cS h_t h_t_red h_t_blue h_t_sky h_t_diary h_t_calendar h_t_awakeIn h_t_worths h_t_plants h_t_sheets h_t_bestFrom v_latestFinding)) [0] (by decide) rfl) rfl rfl) rfl rfl hl.1 rfl (lv_room (Nat.le_of_ble_eq_true rfl)) dX7_copy_47 ⟨Nat.zero_le _, Nat.zero_le _⟩) hS hA hP hD rfl (by decide) (by decide) rfl (by decide) rfl rfl (fun H locs hP hD hS => ?_)
                    have hq0 := Option.some.inj hf
                    obtain ⟨eq0, hq1⟩ := Prod.mk.inj hq0
                    obtain ⟨eq1, hq2⟩ := Prod.mk.inj hq1
                    clear hf hq0 hq1
                    subst eq0
                    subst eq1
                    subst hq2
                    exact W.iret hx hb hr (fun t ht hW => ⟨⟨_, (), rfl, rfl, by rw [ht]; exact hP, va_K.moved hW.alike hK, hD⟩, hS.F ht⟩) hS.2.2 dX7_copy_50
                  refine lv_icmp_eq (tgt := 45) hx hb dX7_copy_33 (by decide) (fun c33 => ?_) (fun c33 => ?_)
                  · rw [if_pos c33] at hf
                    exact hj45 ls (lv_sub hl [2] rfl) hf
                  · rw [if_neg c33] at hf
                    refine lv_aload hx hb dX7_copy_36 (lv_at hl 0 rfl) ?_
                    refine va_get (D := (dC, dI)) (ci := 3) (v := .int (v_sform 3)) (C := RX3) (T := TX3) (N := 3) hx hb hts hinX3 hown hK hP 8 rfl rfl 0 (by decide) (hts (.fieldLink RX7 222 "SecondSunrise$Sheet" "form" "I") (by decide +kernel)) (fun _ h9 => h9) rfl dX7_copy_38 ?_
                    refine lv_iconst (v := (-1)) hx hb dX7_copy_41 (by decide) ?_
                    refine lv_icmp_ne (tgt := 51) hx hb dX7_copy_42 (by decide) (fun c42 => ?_) (fun c42 => ?_)
                    · rw [if_neg c42] at hf
                      refine lv_aload hx hb dX7_copy_51 (lv_at hl 1 rfl) ?_
                      refine va_get (D := (dC, dI)) (ci := 3) (v := .int (v_sform 3)) (C := RX3) (T := TX3) (N := 3) hx hb hts hinX3 hown hK hP 8 rfl rfl 0 (by decide) (hts (.fieldLink RX7 222 "SecondSunrise$Sheet" "form" "I") (by decide +kernel)) (fun _ h9 => h9) rfl dX7_copy_53 ?_
                      refine lv_aload hx hb dX7_copy_56 (lv_at hl 0 rfl) ?_
                      refine va_get (D := (dC, dI)) (ci := 3) (v := .int (v_sform 3)) (C := RX3) (T := TX3) (N := 3) hx hb hts hinX3 hown hK hP 8 rfl rfl 0 (by decide) (hts (.fieldLink RX7 222 "SecondSunrise$Sheet" "form" "I") (by decide +kernel)) (fun _ h9 => h9) rfl dX7_copy_58 ?_
                      refine lv_icmp_eq (tgt := 70) hx hb dX7_copy_61 (by decide) (fun c61 => ?_) (fun c61 => ?_)
                      · rw [if_pos c61] at hf
                        refine lv_aload hx hb dX7_copy_70 (lv_at hl 1 rfl) ?_
                        refine lv_iload_n hx hb dX7_copy_72 rfl (lv_at hl 4 rfl) ?_
                        refine lv_iload hx hb dX7_copy_73 (lv_at hl 7 rfl) ?_
                        obtain ⟨r75_325, hc_326, hf⟩ := bd1_e hf
                        refine vp_callSi (va_runV (As := [.int x2, .int x5]) (rest := []) ⟨hx, hb, hml, hown, hts⟩ (c_X3_holds l dC dI cI cZ cP cS h_t_s3 h_t_s3_items (v_sform 3) (v_ssize 3) x2 x5 n r75_325 hc_326) (cwV 2 hts gX7_copy_X3_holds rfl rfl rfl (by decide +kernel) ⟨Nat.le_of_ble_eq_true rfl, Nat.le_of_ble_eq_true rfl⟩) (pv_ro (ci := 3) (q0 := 0) hK (hP.sub (ws' := (wd_X3_holds cI cZ cP cS h_t_s3 h_t_s3_items (v_sform 3) (v_ssize 3))) [8] rfl) rfl rfl) rfl rfl hl.1 rfl (lv_room (Nat.le_of_ble_eq_true rfl)) dX7_copy_75 ⟨Nat.zero_le _, Nat.zero_le _⟩).run (fun x e_327 => ?_)
                        obtain ⟨e_327, hb_328⟩ := e_327
                        rw [e_327] at hb_328 ⊢
                        obtain ⟨k93, ek93, hf⟩ := jn0_e hf
                        have hj93 : ∀ (ls : Array Slot), lv_has ls 8 [(0, .ref h_t)] → k93 = some (r, o_latestFinding, o_sitems) → W p l e (headSpec wsX7_copy rm_X7_copy).room s m ([.ref h_t, .int x1, .int x2, .int x3, .int x4, .int x5] : List Value).toArray below meth c H locs 0 0 (MQ below (RWi (dC, dI) (TY cI cZ cP cS) r s.heap.size (wd_X7_copy cI cZ cP cS h_t h_t_red h_t_blue h_t_sky h_t_diary h_t_calendar h_t_awakeIn h_t_worths h_t_plants h_t_sheets h_t_bestFrom h_t_s0 h_t_s1 h_t_s2 h_t_s3 h_t_s0_items h_t_s1_items h_t_s2_items h_t_s3_items v_latestFinding v_sform v_ssize v_sitems) (wd_X7_copy cI cZ cP cS h_t h_t_red h_t_blue h_t_sky h_t_diary h_t_calendar h_t_awakeIn h_t_worths h_t_plants h_t_sheets h_t_bestFrom h_t_s0 h_t_s1 h_t_s2 h_t_s3 h_t_s0_items h_t_s1_items h_t_s2_items h_t_s3_items o_latestFinding v_sform v_ssize o_sitems)) ([.ref h_t, .int x1, .int x2, .int x3, .int x4, .int x5] : List Value).toArray s 0 0 (va_A (wd_X7_copy cI cZ cP cS h_t h_t_red h_t_blue h_t_sky h_t_diary h_t_calendar h_t_awakeIn h_t_worths h_t_plants h_t_sheets h_t_bestFrom h_t_s0 h_t_s1 h_t_s2 h_t_s3 h_t_s0_items h_t_s1_items h_t_s2_items h_t_s3_items v_latestFinding v_sform v_ssize v_sitems) s.heap.size)) (F0 m 93 ls []) := by
                          intro ls hl hf
                          rw [ek93] at hf
                          refine lv_aload_n hx hb dX7_copy_93 rfl (lv_at hl 0 rfl) ?_
                          refine lv_iconst (v := 2) hx hb dX7_copy_94 (by decide) ?_
                          obtain ⟨r95_329, o95_330, hc_331, hf⟩ := bd2_e hf
                          refine rwi_call (isC := [0]) (isR := [1, 2, 3, 4, 5, 6, 7, 8, 9]) (perm := [9, 0, 1, 2, 3, 4, 5, 6, 7, 8]) (wr := [(h_t_sheets, .inl (cS, 4, .inr (.inr (.inr (.inr (ar4 h_t_s0 h_t_s1 h_t_s2 h_t_s3)))))), (h_t_s0, .inr (3, [.int (v_sform 0), .int (v_ssize 0), .ref h_t_s0_items])), (h_t_s0_items, .inl (cI, 48, .inl (v_sitems 0))), (h_t_s1, .inr (3, [.int (v_sform 1), .int (v_ssize 1), .ref h_t_s1_items])), (h_t_s1_items, .inl (cI, 48, .inl (v_sitems 1))), (h_t_s2, .inr (3, [.int (v_sform 2), .int (v_ssize 2), .ref h_t_s2_items])), (h_t_s2_items, .inl (cI, 48, .inl (v_sitems 2))), (h_t_s3, .inr (3, [.int (v_sform 3), .int (v_ssize 3), .ref h_t_s3_items])), (h_t_s3_items, .inl (cI, 48, .inl (v_sitems 3)))]) (ws2 := (wd_X7_copy cI cZ cP cS h_t h_t_red h_t_blue h_t_sky h_t_diary h_t_calendar h_t_awakeIn h_t_worths h_t_plants h_t_sheets h_t_bestFrom h_t_s0 h_t_s1 h_t_s2 h_t_s3 h_t_s0_items h_t_s1_items h_t_s2_items h_t_s3_items o95_330 v_sform v_ssize v_sitems)) (va_runV (As := [.int 2]) (rest := []) ⟨hx, hb, hml, hown, hts⟩ (c_X7_found l dC dI cI cZ cP cS H.size h_t h_t_red h_t_blue h_t_sky h_t_diary h_t_calendar h_t_awakeIn h_t_worths h_t_plants h_t_sheets h_t_bestFrom v_latestFinding 2 n r95_329 o95_330 hc_331) (cwV 1 hts gX7_copy_X7_found rfl rfl rfl (by decide +kernel) ⟨Nat.le_of_ble_eq_true rfl, Nat.le_of_ble_eq_true rfl⟩) (pv_rw (ci := 6) (q0 := 0) hK (hP.sub (ws' := (wd_X7_found cI cZ cP cS h_t h_t_red h_t_blue h_t_sky h_t_diary h_t_calendar h_t_awakeIn h_t_worths h_t_plants h_t_sheets h_t_bestFrom v_latestFinding)) [0] rfl) (hD.sub (ws' := (wd_X7_found cI cZ cP cS h_t h_t_red h_t_blue h_t_sky h_t_diary h_t_calendar h_t_awakeIn h_t_worths h_t_plants h_t_sheets h_t_bestFrom v_latestFinding)) [0] (by decide) rfl) rfl rfl) rfl rfl hl.1 rfl (lv_room (Nat.le_of_ble_eq_true rfl)) dX7_copy_95 ⟨Nat.zero_le _, Nat.zero_le _⟩) hS hA hP hD rfl (by decide) (by decide) rfl (by decide) rfl rfl (fun H locs hP hD hS => ?_)
                          have hq0 := Option.some.inj hf
                          obtain ⟨eq0, hq1⟩ := Prod.mk.inj hq0
                          obtain ⟨eq1, hq2⟩ := Prod.mk.inj hq1
                          clear hf hq0 hq1
                          subst eq0
                          subst eq1
                          subst hq2
                          exact W.iret hx hb hr (fun t ht hW => ⟨⟨_, (), rfl, rfl, by rw [ht]; exact hP, va_K.moved hW.alike hK, hD⟩, hS.F ht⟩) hS.2.2 dX7_copy_98
                        refine lv_if_eq (tgt := 93) hx hb dX7_copy_78 (by decide) (fun c78 => ?_) (fun c78 => ?_)
                        · rw [if_pos c78] at hf
                          exact hj93 ls (lv_sub hl [2] rfl) hf
                        · rw [if_neg c78] at hf
                          refine lv_aload hx hb dX7_copy_81 (lv_at hl 0 rfl) ?_
                          refine lv_iload hx hb dX7_copy_83 (lv_at hl 6 rfl) ?_
                          refine lv_iload hx hb dX7_copy_85 (lv_at hl 7 rfl) ?_
                          obtain ⟨r87_333, hc_334, hf⟩ := bd1_e hf
                          refine vp_callSi (va_runV (As := [.int x4, .int x5]) (rest := []) ⟨hx, hb, hml, hown, hts⟩ (c_X3_holds l dC dI cI cZ cP cS h_t_s3 h_t_s3_items (v_sform 3) (v_ssize 3) x4 x5 n r87_333 hc_334) (cwV 2 hts gX7_copy_X3_holds rfl rfl rfl (by decide +kernel) ⟨Nat.le_of_ble_eq_true rfl, Nat.le_of_ble_eq_true rfl⟩) (pv_ro (ci := 3) (q0 := 0) hK (hP.sub (ws' := (wd_X3_holds cI cZ cP cS h_t_s3 h_t_s3_items (v_sform 3) (v_ssize 3))) [8] rfl) rfl rfl) rfl rfl hl.1 rfl (lv_room (Nat.le_of_ble_eq_true rfl)) dX7_copy_87 ⟨Nat.zero_le _, Nat.zero_le _⟩).run (fun x e_335 => ?_)
                          obtain ⟨e_335, hb_336⟩ := e_335
                          rw [e_335] at hb_336 ⊢
                          refine lv_if_ne (tgt := 99) hx hb dX7_copy_90 (by decide) (fun c90 => ?_) (fun c90 => ?_)
                          · rw [if_neg c90] at hf
                            refine lv_aload hx hb dX7_copy_99 (lv_at hl 1 rfl) ?_
                            refine va_get (D := (dC, dI)) (ci := 3) (v := .ref h_t_s3_items) (C := RX3) (T := TX3) (N := 3) hx hb hts hinX3 hown hK hP 8 rfl rfl 2 (by decide) (hts (.fieldLink RX7 229 "SecondSunrise$Sheet" "items" "[I") (by decide +kernel)) (fun _ h9 => h9) rfl dX7_copy_101 ?_
                            refine lv_iload_n hx hb dX7_copy_104 rfl (lv_at hl 4 rfl) ?_
                            refine lv_aload hx hb dX7_copy_105 (lv_at hl 0 rfl) ?_
                            refine va_get (D := (dC, dI)) (ci := 3) (v := .ref h_t_s3_items) (C := RX3) (T := TX3) (N := 3) hx hb hts hinX3 hown hK hP 8 rfl rfl 2 (by decide) (hts (.fieldLink RX7 229 "SecondSunrise$Sheet" "items" "[I") (by decide +kernel)) (fun _ h9 => h9) rfl dX7_copy_107 ?_
                            refine lv_iload hx hb dX7_copy_110 (lv_at hl 6 rfl) ?_
                            refine lv_iload hx hb dX7_copy_112 (lv_at hl 7 rfl) ?_
                            obtain ⟨⟨ha_3371, ha_3372, ha_3373, ha_3374, ha_3375⟩, hf⟩ := ac_e hf
                            refine va_copyi hx hb (hml.trans hl.1.symm) hown (hts (.methodLink RX7 274 arraycopyName) (by decide +kernel)) (hts (.native arraycopyName) (by decide +kernel)) (hts (.static arraycopyName) (by decide +kernel)) (hts (.initialized "java/lang/System") (by decide +kernel)) hK hP hD hS 9 9 0 0 rfl rfl rfl rfl rfl ha_3371 ha_3372 ha_3373 ha_3374 ha_3375 (fun _ _ => rfl) (Nat.le_of_ble_eq_true rfl) (by decide) dX7_copy_114 (fun H locs hP hD hS => ?_)
                            have hP : va_P (dC, dI) vwCl (wd_X7_copy cI cZ cP cS h_t h_t_red h_t_blue h_t_sky h_t_diary h_t_calendar h_t_awakeIn h_t_worths h_t_plants h_t_sheets h_t_bestFrom h_t_s0 h_t_s1 h_t_s2 h_t_s3 h_t_s0_items h_t_s1_items h_t_s2_items h_t_s3_items v_latestFinding v_sform v_ssize (va_up v_sitems 3 (va_cpy (v_sitems 3) (v_sitems 3) x2.toNatClampNeg x4.toNatClampNeg x5.toNatClampNeg))) H := hP
                            have hD : va_D (va_A (wd_X7_copy cI cZ cP cS h_t h_t_red h_t_blue h_t_sky h_t_diary h_t_calendar h_t_awakeIn h_t_worths h_t_plants h_t_sheets h_t_bestFrom h_t_s0 h_t_s1 h_t_s2 h_t_s3 h_t_s0_items h_t_s1_items h_t_s2_items h_t_s3_items v_latestFinding v_sform v_ssize v_sitems) s.heap.size) (wd_X7_copy cI cZ cP cS h_t h_t_red h_t_blue h_t_sky h_t_diary h_t_calendar h_t_awakeIn h_t_worths h_t_plants h_t_sheets h_t_bestFrom h_t_s0 h_t_s1 h_t_s2 h_t_s3 h_t_s0_items h_t_s1_items h_t_s2_items h_t_s3_items v_latestFinding v_sform v_ssize (va_up v_sitems 3 (va_cpy (v_sitems 3) (v_sitems 3) x2.toNatClampNeg x4.toNatClampNeg x5.toNatClampNeg))) := hD
                            refine lv_iconst (v := 1) hx hb dX7_copy_117 (by decide) ?_
                            have hq0 := Option.some.inj hf
                            obtain ⟨eq0, hq1⟩ := Prod.mk.inj hq0
                            obtain ⟨eq1, hq2⟩ := Prod.mk.inj hq1
                            clear hf hq0 hq1
                            subst eq0
                            subst eq1
                            subst hq2
                            exact W.iret hx hb hr (fun t ht hW => ⟨⟨_, (), rfl, rfl, by rw [ht]; exact hP, va_K.moved hW.alike hK, hD⟩, hS.F ht⟩) hS.2.2 dX7_copy_118
                          · rw [if_pos c90] at hf
                            exact hj93 ls (lv_sub hl [2] rfl) hf
                      · rw [if_neg c61] at hf
                        refine lv_aload_n hx hb dX7_copy_64 rfl (lv_at hl 2 rfl) ?_
                        refine lv_iconst (v := 4) hx hb dX7_copy_65 (by decide) ?_
                        obtain ⟨r66_338, o66_339, hc_340, hf⟩ := bd2_e hf
                        refine rwi_call (isC := [0]) (isR := [1, 2, 3, 4, 5, 6, 7, 8, 9]) (perm := [9, 0, 1, 2, 3, 4, 5, 6, 7, 8]) (wr := [(h_t_sheets, .inl (cS, 4, .inr (.inr (.inr (.inr (ar4 h_t_s0 h_t_s1 h_t_s2 h_t_s3)))))), (h_t_s0, .inr (3, [.int (v_sform 0), .int (v_ssize 0), .ref h_t_s0_items])), (h_t_s0_items, .inl (cI, 48, .inl (v_sitems 0))), (h_t_s1, .inr (3, [.int (v_sform 1), .int (v_ssize 1), .ref h_t_s1_items])), (h_t_s1_items, .inl (cI, 48, .inl (v_sitems 1))), (h_t_s2, .inr (3, [.int (v_sform 2), .int (v_ssize 2), .ref h_t_s2_items])), (h_t_s2_items, .inl (cI, 48, .inl (v_sitems 2))), (h_t_s3, .inr (3, [.int (v_sform 3), .int (v_ssize 3), .ref h_t_s3_items])), (h_t_s3_items, .inl (cI, 48, .inl (v_sitems 3)))]) (ws2 := (wd_X7_copy cI cZ cP cS h_t h_t_red h_t_blue h_t_sky h_t_diary h_t_calendar h_t_awakeIn h_t_worths h_t_plants h_t_sheets h_t_bestFrom h_t_s0 h_t_s1 h_t_s2 h_t_s3 h_t_s0_items h_t_s1_items h_t_s2_items h_t_s3_items o66_339 v_sform v_ssize v_sitems)) (va_runV (As := [.int 4]) (rest := []) ⟨hx, hb, hml, hown, hts⟩ (c_X7_found l dC dI cI cZ cP cS H.size h_t h_t_red h_t_blue h_t_sky h_t_diary h_t_calendar h_t_awakeIn h_t_worths h_t_plants h_t_sheets h_t_bestFrom v_latestFinding 4 n r66_338 o66_339 hc_340) (cwV 1 hts gX7_copy_X7_found rfl rfl rfl (by decide +kernel) ⟨Nat.le_of_ble_eq_true rfl, Nat.le_of_ble_eq_true rfl⟩) (pv_rw (ci := 6) (q0 := 0) hK (hP.sub (ws' := (wd_X7_found cI cZ cP cS h_t h_t_red h_t_blue h_t_sky h_t_diary h_t_calendar h_t_awakeIn h_t_worths h_t_plants h_t_sheets h_t_bestFrom v_latestFinding)) [0] rfl) (hD.sub (ws' := (wd_X7_found cI cZ cP cS h_t h_t_red h_t_blue h_t_sky h_t_diary h_t_calendar h_t_awakeIn h_t_worths h_t_plants h_t_sheets h_t_bestFrom v_latestFinding)) [0] (by decide) rfl) rfl rfl) rfl rfl hl.1 rfl (lv_room (Nat.le_of_ble_eq_true rfl)) dX7_copy_66 ⟨Nat.zero_le _, Nat.zero_le _⟩) hS hA hP hD rfl (by decide) (by decide) rfl (by decide) rfl rfl (fun H locs hP hD hS => ?_)
                        have hq0 := Option.some.inj hf
                        obtain ⟨eq0, hq1⟩ := Prod.mk.inj hq0
                        obtain ⟨eq1, hq2⟩ := Prod.mk.inj hq1
                        clear hf hq0 hq1
                        subst eq0
                        subst eq1
                        subst hq2
                        exact W.iret hx hb hr (fun t ht hW => ⟨⟨_, (), rfl, rfl, by rw [ht]; exact hP, va_K.moved hW.alike hK, hD⟩, hS.F ht⟩) hS.2.2 dX7_copy_69
                    · rw [if_pos c42] at hf
                      exact hj45 ls (lv_sub hl [2] rfl) hf
                · rw [if_neg c9_3] at hf e_257
                  subst e_257
                  refine W.eq (g2 := F0 m 12 ls [.null]) rfl ?_
                  refine lv_astoreN (lv' := [(7, .null), (6, .ref h_t_s3), (0, .ref h_t), (1, .int x1), (2, .int x2), (3, .int x3), (4, .int x4), (5, .int x5)]) hx hb dX7_copy_12 hl (by decide) rfl (fun ls hl => ?_)
                  refine lv_aload hx hb dX7_copy_14 (lv_at hl 1 rfl) ?_
                  refine lv_ifnull hx hb dX7_copy_16 ?_
                  refine lv_aloadN hx hb dX7_copy_19 (lv_at hl 0 rfl) ?_
                  refine lv_ifnonnullN hx hb dX7_copy_21 ?_
                  refine lv_bipush (v := (-2)) hx hb dX7_copy_24 (by decide) ?_
                  have hq0 := Option.some.inj hf
                  obtain ⟨eq0, hq1⟩ := Prod.mk.inj hq0
                  obtain ⟨eq1, hq2⟩ := Prod.mk.inj hq1
                  clear hf hq0 hq1
                  subst eq0
                  subst eq1
                  subst hq2
                  exact W.iret hx hb hr (fun t ht hW => ⟨⟨_, (), rfl, rfl, by rw [ht]; exact hP, va_K.moved hW.alike hK, hD⟩, hS.F ht⟩) hS.2.2 dX7_copy_26
        · rw [if_neg c2_3] at hf e_1
          subst e_1
          refine W.eq (g2 := F0 m 5 ls [.null]) rfl ?_
          refine lv_astoreN (lv' := [(6, .null), (0, .ref h_t), (1, .int x1), (2, .int x2), (3, .int x3), (4, .int x4), (5, .int x5)]) hx hb dX7_copy_5 hl (by decide) rfl (fun ls hl => ?_)
          refine lv_aload_n hx hb dX7_copy_7 rfl (lv_at hl 1 rfl) ?_
          refine lv_iload_n hx hb dX7_copy_8 rfl (lv_at hl 4 rfl) ?_
          refine va_csq (va_runV (As := [.int x3]) (rest := []) ⟨hx, hb, hml, hown, hts⟩ (c_X7_sheetOf l dC dI cI cZ cP cS h_t h_t_red h_t_blue h_t_sky h_t_diary h_t_calendar h_t_awakeIn h_t_worths h_t_plants h_t_sheets h_t_bestFrom h_t_s0 h_t_s1 h_t_s2 h_t_s3 v_latestFinding x3) (cwV 1 hts gX7_copy_X7_sheetOf rfl rfl rfl (by decide +kernel) ⟨Nat.le_of_ble_eq_true rfl, Nat.le_of_ble_eq_true rfl⟩) (pv_ro (ci := 6) (q0 := 0) hK (hP.sub (ws' := (wd_X7_sheetOf cI cZ cP cS h_t h_t_red h_t_blue h_t_sky h_t_diary h_t_calendar h_t_awakeIn h_t_worths h_t_plants h_t_sheets h_t_bestFrom h_t_s0 h_t_s1 h_t_s2 h_t_s3 v_latestFinding)) [0, 1] rfl) rfl rfl) rfl rfl hl.1 rfl (lv_room (Nat.le_of_ble_eq_true rfl)) dX7_copy_9 ⟨Nat.zero_le _, Nat.zero_le _⟩).run (fun x e_342 => ?_)
          by_cases c9_0 : x3 = 0
          · rw [if_pos c9_0] at hf e_342
            subst e_342
            refine W.eq (g2 := F0 m 12 ls [.ref h_t_s0]) rfl ?_
            refine lv_astore (lv' := [(7, .ref h_t_s0), (6, .null), (0, .ref h_t), (1, .int x1), (2, .int x2), (3, .int x3), (4, .int x4), (5, .int x5)]) hx hb dX7_copy_12 hl (by decide) rfl (fun ls hl => ?_)
            refine lv_aloadN hx hb dX7_copy_14 (lv_at hl 1 rfl) ?_
            refine lv_ifnullN (tgt := 24) hx hb dX7_copy_16 (by decide) ?_
            refine lv_bipush (v := (-2)) hx hb dX7_copy_24 (by decide) ?_
            have hq0 := Option.some.inj hf
            obtain ⟨eq0, hq1⟩ := Prod.mk.inj hq0
            obtain ⟨eq1, hq2⟩ := Prod.mk.inj hq1
            clear hf hq0 hq1
            subst eq0
            subst eq1
            subst hq2
            exact W.iret hx hb hr (fun t ht hW => ⟨⟨_, (), rfl, rfl, by rw [ht]; exact hP, va_K.moved hW.alike hK, hD⟩, hS.F ht⟩) hS.2.2 dX7_copy_26
          · rw [if_neg c9_0] at hf e_342
            by_cases c9_1 : x3 = 1
            · rw [if_pos c9_1] at hf e_342
              subst e_342
              refine W.eq (g2 := F0 m 12 ls [.ref h_t_s1]) rfl ?_
              refine lv_astore (lv' := [(7, .ref h_t_s1), (6, .null), (0, .ref h_t), (1, .int x1), (2, .int x2), (3, .int x3), (4, .int x4), (5, .int x5)]) hx hb dX7_copy_12 hl (by decide) rfl (fun ls hl => ?_)
              refine lv_aloadN hx hb dX7_copy_14 (lv_at hl 1 rfl) ?_
              refine lv_ifnullN (tgt := 24) hx hb dX7_copy_16 (by decide) ?_
              refine lv_bipush (v := (-2)) hx hb dX7_copy_24 (by decide) ?_
              have hq0 := Option.some.inj hf
              obtain ⟨eq0, hq1⟩ := Prod.mk.inj hq0
              obtain ⟨eq1, hq2⟩ := Prod.mk.inj hq1
              clear hf hq0 hq1
              subst eq0
              subst eq1
              subst hq2
              exact W.iret hx hb hr (fun t ht hW => ⟨⟨_, (), rfl, rfl, by rw [ht]; exact hP, va_K.moved hW.alike hK, hD⟩, hS.F ht⟩) hS.2.2 dX7_copy_26
            · rw [if_neg c9_1] at hf e_342
              by_cases c9_2 : x3 = 2
              · rw [if_pos c9_2] at hf e_342
                subst e_342
                refine W.eq (g2 := F0 m 12 ls [.ref h_t_s2]) rfl ?_
                refine lv_astore (lv' := [(7, .ref h_t_s2), (6, .null), (0, .ref h_t), (1, .int x1), (2, .int x2), (3, .int x3), (4, .int x4), (5, .int x5)]) hx hb dX7_copy_12 hl (by decide) rfl (fun ls hl => ?_)
                refine lv_aloadN hx hb dX7_copy_14 (lv_at hl 1 rfl) ?_
                refine lv_ifnullN (tgt := 24) hx hb dX7_copy_16 (by decide) ?_
                refine lv_bipush (v := (-2)) hx hb dX7_copy_24 (by decide) ?_
                have hq0 := Option.some.inj hf
                obtain ⟨eq0, hq1⟩ := Prod.mk.inj hq0
                obtain ⟨eq1, hq2⟩ := Prod.mk.inj hq1
                clear hf hq0 hq1
                subst eq0
                subst eq1
                subst hq2
                exact W.iret hx hb hr (fun t ht hW => ⟨⟨_, (), rfl, rfl, by rw [ht]; exact hP, va_K.moved hW.alike hK, hD⟩, hS.F ht⟩) hS.2.2 dX7_copy_26
              · rw [if_neg c9_2] at hf e_342
                by_cases c9_3 : x3 = 3
                · rw [if_pos c9_3] at hf e_342
                  subst e_342
                  refine W.eq (g2 := F0 m 12 ls [.ref h_t_s3]) rfl ?_
                  refine lv_astore (lv' := [(7, .ref h_t_s3), (6, .null), (0, .ref h_t), (1, .int x1), (2, .int x2), (3, .int x3), (4, .int x4), (5, .int x5)]) hx hb dX7_copy_12 hl (by decide) rfl (fun ls hl => ?_)
                  refine lv_aloadN hx hb dX7_copy_14 (lv_at hl 1 rfl) ?_
                  refine lv_ifnullN (tgt := 24) hx hb dX7_copy_16 (by decide) ?_
                  refine lv_bipush (v := (-2)) hx hb dX7_copy_24 (by decide) ?_
                  have hq0 := Option.some.inj hf
                  obtain ⟨eq0, hq1⟩ := Prod.mk.inj hq0
                  obtain ⟨eq1, hq2⟩ := Prod.mk.inj hq1
                  clear hf hq0 hq1
                  subst eq0
                  subst eq1
                  subst hq2
                  exact W.iret hx hb hr (fun t ht hW => ⟨⟨_, (), rfl, rfl, by rw [ht]; exact hP, va_K.moved hW.alike hK, hD⟩, hS.F ht⟩) hS.2.2 dX7_copy_26
                · rw [if_neg c9_3] at hf e_342
                  subst e_342
                  refine W.eq (g2 := F0 m 12 ls [.null]) rfl ?_
                  refine lv_astoreN (lv' := [(7, .null), (6, .null), (0, .ref h_t), (1, .int x1), (2, .int x2), (3, .int x3), (4, .int x4), (5, .int x5)]) hx hb dX7_copy_12 hl (by decide) rfl (fun ls hl => ?_)
                  refine lv_aloadN hx hb dX7_copy_14 (lv_at hl 1 rfl) ?_
                  refine lv_ifnullN (tgt := 24) hx hb dX7_copy_16 (by decide) ?_
                  refine lv_bipush (v := (-2)) hx hb dX7_copy_24 (by decide) ?_
                  have hq0 := Option.some.inj hf
                  obtain ⟨eq0, hq1⟩ := Prod.mk.inj hq0
                  obtain ⟨eq1, hq2⟩ := Prod.mk.inj hq1
                  clear hf hq0 hq1
                  subst eq0
                  subst eq1
                  subst hq2
                  exact W.iret hx hb hr (fun t ht hW => ⟨⟨_, (), rfl, rfl, by rw [ht]; exact hP, va_K.moved hW.alike hK, hD⟩, hS.F ht⟩) hS.2.2 dX7_copy_26
