abbrev wd_X7_write (cI cZ cP cS : ClassId) (h_t h_t_red h_t_blue h_t_sky h_t_diary h_t_calendar h_t_awakeIn h_t_worths h_t_plants h_t_sheets h_t_bestFrom h_t_red_fitting h_t_red_worstLeft h_t_blue_fitting h_t_blue_worstLeft h_t_s0 h_t_s1 h_t_s2 h_t_s3 h_t_s0_items h_t_s1_items h_t_s2_items h_t_s3_items : Nat) (v_latestFinding : Int32) (v_turn : Nat → Int32) (v_phase : Nat → Int32) (v_up : Nat → Int32) (v_sform : Nat → Int32) (v_ssize : Nat → Int32) (v_sitems : Nat → Nat → Int32) : va_W := [(h_t, .inr (6, [.ref h_t_red, .ref h_t_blue, .ref h_t_sky, .ref h_t_diary, .ref h_t_calendar, .ref h_t_awakeIn, .ref h_t_worths, .ref h_t_plants, .ref h_t_sheets, .ref h_t_bestFrom, .int v_latestFinding])), (h_t_red, .inr (5, [.int (v_turn 0), .int (v_phase 0), .int (v_up 0), .ref h_t_red_fitting, .ref h_t_red_worstLeft])), (h_t_blue, .inr (5, [.int (v_turn 1), .int (v_phase 1), .int (v_up 1), .ref h_t_blue_fitting, .ref h_t_blue_worstLeft])), (h_t_sky, .inr (4, [.ref h_t_red, .ref h_t_blue])), (h_t_sheets, .inl (cS, 4, .inr (.inr (.inr (.inr (ar4 h_t_s0 h_t_s1 h_t_s2 h_t_s3)))))), (h_t_s0, .inr (3, [.int (v_sform 0), .int (v_ssize 0), .ref h_t_s0_items])), (h_t_s0_items, .inl (cI, 48, .inl (v_sitems 0))), (h_t_s1, .inr (3, [.int (v_sform 1), .int (v_ssize 1), .ref h_t_s1_items])), (h_t_s1_items, .inl (cI, 48, .inl (v_sitems 1))), (h_t_s2, .inr (3, [.int (v_sform 2), .int (v_ssize 2), .ref h_t_s2_items])), (h_t_s2_items, .inl (cI, 48, .inl (v_sitems 2))), (h_t_s3, .inr (3, [.int (v_sform 3), .int (v_ssize 3), .ref h_t_s3_items])), (h_t_s3_items, .inl (cI, 48, .inl (v_sitems 3)))]
abbrev rm_X7_write : Room := { frames := 2, cells := 0, slots := 0, locals := 43 }
def L_X7_write_37 (n : Nat) (v_turn : Nat → Int32) (v_phase : Nat → Int32) (v_up : Nat → Int32) (v_ssize : Nat → Int32) (x1 : Int32) (kx37 : (Nat → Nat → Int32) → Option (Int32 × Int32 × (Nat → Nat → Int32))) : Nat → Int32 → (Nat → Nat → Int32) → Option (Int32 × Int32 × (Nat → Nat → Int32))
  | 0, _, _ => none
  | k37 + 1, y37_4, w37_sitems => if (v_ssize 0) ≤ y37_4 then kx37 w37_sitems else bd1_ (f_X4_lightIn n v_turn v_phase v_up (x1 + y37_4)) (fun (r60_6 : Int32) => ix_ y37_4 48 (L_X7_write_37 n v_turn v_phase v_up v_ssize x1 kx37 k37 (y37_4 + 1) (va_up w37_sitems 0 (upd (w37_sitems 0) y37_4.toNatClampNeg r60_6))))
theorem L_X7_write_37_s (n : Nat) (v_turn : Nat → Int32) (v_phase : Nat → Int32) (v_up : Nat → Int32) (v_ssize : Nat → Int32) (x1 : Int32) (kx37 : (Nat → Nat → Int32) → Option (Int32 × Int32 × (Nat → Nat → Int32))) (k37 : Nat) (y37_4 : Int32) (w37_sitems : Nat → Nat → Int32) : L_X7_write_37 n v_turn v_phase v_up v_ssize x1 kx37 (k37 + 1) y37_4 w37_sitems = if (v_ssize 0) ≤ y37_4 then kx37 w37_sitems else bd1_ (f_X4_lightIn n v_turn v_phase v_up (x1 + y37_4)) (fun (r60_6 : Int32) => ix_ y37_4 48 (L_X7_write_37 n v_turn v_phase v_up v_ssize x1 kx37 k37 (y37_4 + 1) (va_up w37_sitems 0 (upd (w37_sitems 0) y37_4.toNatClampNeg r60_6)))) := rfl
def L_X7_write_37q2 (n : Nat) (v_turn : Nat → Int32) (v_phase : Nat → Int32) (v_up : Nat → Int32) (v_ssize : Nat → Int32) (x1 : Int32) (kx37 : (Nat → Nat → Int32) → Option (Int32 × Int32 × (Nat → Nat → Int32))) : Nat → Int32 → (Nat → Nat → Int32) → Option (Int32 × Int32 × (Nat → Nat → Int32))
  | 0, _, _ => none
  | k37 + 1, y37_4, w37_sitems => if (v_ssize 1) ≤ y37_4 then kx37 w37_sitems else bd1_ (f_X4_lightIn n v_turn v_phase v_up (x1 + y37_4)) (fun (r60_18 : Int32) => ix_ y37_4 48 (L_X7_write_37q2 n v_turn v_phase v_up v_ssize x1 kx37 k37 (y37_4 + 1) (va_up w37_sitems 1 (upd (w37_sitems 1) y37_4.toNatClampNeg r60_18))))
theorem L_X7_write_37q2_s (n : Nat) (v_turn : Nat → Int32) (v_phase : Nat → Int32) (v_up : Nat → Int32) (v_ssize : Nat → Int32) (x1 : Int32) (kx37 : (Nat → Nat → Int32) → Option (Int32 × Int32 × (Nat → Nat → Int32))) (k37 : Nat) (y37_4 : Int32) (w37_sitems : Nat → Nat → Int32) : L_X7_write_37q2 n v_turn v_phase v_up v_ssize x1 kx37 (k37 + 1) y37_4 w37_sitems = if (v_ssize 1) ≤ y37_4 then kx37 w37_sitems else bd1_ (f_X4_lightIn n v_turn v_phase v_up (x1 + y37_4)) (fun (r60_18 : Int32) => ix_ y37_4 48 (L_X7_write_37q2 n v_turn v_phase v_up v_ssize x1 kx37 k37 (y37_4 + 1) (va_up w37_sitems 1 (upd (w37_sitems 1) y37_4.toNatClampNeg r60_18)))) := rfl
def L_X7_write_37q3 (n : Nat) (v_turn : Nat → Int32) (v_phase : Nat → Int32) (v_up : Nat → Int32) (v_ssize : Nat → Int32) (x1 : Int32) (kx37 : (Nat → Nat → Int32) → Option (Int32 × Int32 × (Nat → Nat → Int32))) : Nat → Int32 → (Nat → Nat → Int32) → Option (Int32 × Int32 × (Nat → Nat → Int32))
  | 0, _, _ => none
  | k37 + 1, y37_4, w37_sitems => if (v_ssize 2) ≤ y37_4 then kx37 w37_sitems else bd1_ (f_X4_lightIn n v_turn v_phase v_up (x1 + y37_4)) (fun (r60_30 : Int32) => ix_ y37_4 48 (L_X7_write_37q3 n v_turn v_phase v_up v_ssize x1 kx37 k37 (y37_4 + 1) (va_up w37_sitems 2 (upd (w37_sitems 2) y37_4.toNatClampNeg r60_30))))
theorem L_X7_write_37q3_s (n : Nat) (v_turn : Nat → Int32) (v_phase : Nat → Int32) (v_up : Nat → Int32) (v_ssize : Nat → Int32) (x1 : Int32) (kx37 : (Nat → Nat → Int32) → Option (Int32 × Int32 × (Nat → Nat → Int32))) (k37 : Nat) (y37_4 : Int32) (w37_sitems : Nat → Nat → Int32) : L_X7_write_37q3 n v_turn v_phase v_up v_ssize x1 kx37 (k37 + 1) y37_4 w37_sitems = if (v_ssize 2) ≤ y37_4 then kx37 w37_sitems else bd1_ (f_X4_lightIn n v_turn v_phase v_up (x1 + y37_4)) (fun (r60_30 : Int32) => ix_ y37_4 48 (L_X7_write_37q3 n v_turn v_phase v_up v_ssize x1 kx37 k37 (y37_4 + 1) (va_up w37_sitems 2 (upd (w37_sitems 2) y37_4.toNatClampNeg r60_30)))) := rfl
def L_X7_write_37q4 (n : Nat) (v_turn : Nat → Int32) (v_phase : Nat → Int32) (v_up : Nat → Int32) (v_ssize : Nat → Int32) (x1 : Int32) (kx37 : (Nat → Nat → Int32) → Option (Int32 × Int32 × (Nat → Nat → Int32))) : Nat → Int32 → (Nat → Nat → Int32) → Option (Int32 × Int32 × (Nat → Nat → Int32))
  | 0, _, _ => none
  | k37 + 1, y37_4, w37_sitems => if (v_ssize 3) ≤ y37_4 then kx37 w37_sitems else bd1_ (f_X4_lightIn n v_turn v_phase v_up (x1 + y37_4)) (fun (r60_42 : Int32) => ix_ y37_4 48 (L_X7_write_37q4 n v_turn v_phase v_up v_ssize x1 kx37 k37 (y37_4 + 1) (va_up w37_sitems 3 (upd (w37_sitems 3) y37_4.toNatClampNeg r60_42))))
theorem L_X7_write_37q4_s (n : Nat) (v_turn : Nat → Int32) (v_phase : Nat → Int32) (v_up : Nat → Int32) (v_ssize : Nat → Int32) (x1 : Int32) (kx37 : (Nat → Nat → Int32) → Option (Int32 × Int32 × (Nat → Nat → Int32))) (k37 : Nat) (y37_4 : Int32) (w37_sitems : Nat → Nat → Int32) : L_X7_write_37q4 n v_turn v_phase v_up v_ssize x1 kx37 (k37 + 1) y37_4 w37_sitems = if (v_ssize 3) ≤ y37_4 then kx37 w37_sitems else bd1_ (f_X4_lightIn n v_turn v_phase v_up (x1 + y37_4)) (fun (r60_42 : Int32) => ix_ y37_4 48 (L_X7_write_37q4 n v_turn v_phase v_up v_ssize x1 kx37 k37 (y37_4 + 1) (va_up w37_sitems 3 (upd (w37_sitems 3) y37_4.toNatClampNeg r60_42)))) := rfl
def f_X7_write (n : Nat) (v_latestFinding : Int32) (v_turn : Nat → Int32) (v_phase : Nat → Int32) (v_up : Nat → Int32) (v_sform : Nat → Int32) (v_ssize : Nat → Int32) (v_sitems : Nat → Nat → Int32) (x1 : Int32) (x2 : Int32) : Option (Int32 × Int32 × (Nat → Nat → Int32)) := if x2 = 0 then bd1_ (f_X7_noHour n x1) (fun (r11_2 : Int32) => if r11_2 = 0 then if (v_sform 0) = (-1) then bd2_ (f_X7_found n v_latestFinding 1) (fun (r30_10 : Int32) (o30_11 : Int32) => some (r30_10, o30_11, v_sitems)) else jn1_ (fun (u37_sitems : Nat → Nat → Int32) => some (v_ssize 0, v_latestFinding, u37_sitems)) (fun kx37 => L_X7_write_37 n v_turn v_phase v_up v_ssize x1 kx37 n 0 v_sitems) else some ((-2), v_latestFinding, v_sitems)) else if x2 = 1 then bd1_ (f_X7_noHour n x1) (fun (r11_14 : Int32) => if r11_14 = 0 then if (v_sform 1) = (-1) then bd2_ (f_X7_found n v_latestFinding 1) (fun (r30_22 : Int32) (o30_23 : Int32) => some (r30_22, o30_23, v_sitems)) else jn1_ (fun (u37_sitems : Nat → Nat → Int32) => some (v_ssize 1, v_latestFinding, u37_sitems)) (fun kx37 => L_X7_write_37q2 n v_turn v_phase v_up v_ssize x1 kx37 n 0 v_sitems) else some ((-2), v_latestFinding, v_sitems)) else if x2 = 2 then bd1_ (f_X7_noHour n x1) (fun (r11_26 : Int32) => if r11_26 = 0 then if (v_sform 2) = (-1) then bd2_ (f_X7_found n v_latestFinding 1) (fun (r30_34 : Int32) (o30_35 : Int32) => some (r30_34, o30_35, v_sitems)) else jn1_ (fun (u37_sitems : Nat → Nat → Int32) => some (v_ssize 2, v_latestFinding, u37_sitems)) (fun kx37 => L_X7_write_37q3 n v_turn v_phase v_up v_ssize x1 kx37 n 0 v_sitems) else some ((-2), v_latestFinding, v_sitems)) else if x2 = 3 then bd1_ (f_X7_noHour n x1) (fun (r11_38 : Int32) => if r11_38 = 0 then if (v_sform 3) = (-1) then bd2_ (f_X7_found n v_latestFinding 1) (fun (r30_46 : Int32) (o30_47 : Int32) => some (r30_46, o30_47, v_sitems)) else jn1_ (fun (u37_sitems : Nat → Nat → Int32) => some (v_ssize 3, v_latestFinding, u37_sitems)) (fun kx37 => L_X7_write_37q4 n v_turn v_phase v_up v_ssize x1 kx37 n 0 v_sitems) else some ((-2), v_latestFinding, v_sitems)) else some ((-2), v_latestFinding, v_sitems)
set_option maxHeartbeats 4000000 in
set_option maxRecDepth 100000 in
theorem c_X7_write (l : Launch) (dC : Nat → ClassId) (dI : Nat → Nat → Nat) (cI cZ cP cS : ClassId) (sz : Nat) (h_t h_t_red h_t_blue h_t_sky h_t_diary h_t_calendar h_t_awakeIn h_t_worths h_t_plants h_t_sheets h_t_bestFrom h_t_red_fitting h_t_red_worstLeft h_t_blue_fitting h_t_blue_worstLeft h_t_s0 h_t_s1 h_t_s2 h_t_s3 h_t_s0_items h_t_s1_items h_t_s2_items h_t_s3_items : Nat) (v_latestFinding : Int32) (v_turn : Nat → Int32) (v_phase : Nat → Int32) (v_up : Nat → Int32) (v_sform : Nat → Int32) (v_ssize : Nat → Int32) (v_sitems : Nat → Nat → Int32) (x1 : Int32) (x2 : Int32) (n : Nat) (r : Int32) (o_latestFinding : Int32) (o_sitems : Nat → Nat → Int32) (hf : f_X7_write n v_latestFinding v_turn v_phase v_up v_sform v_ssize v_sitems x1 x2 = some (r, o_latestFinding, o_sitems)) : Met l yX7_write wsX7_write rm_X7_write (RW (dC, dI) (TY cI cZ cP cS) [.ref h_t, .int x1, .int x2] sz (wd_X7_write cI cZ cP cS h_t h_t_red h_t_blue h_t_sky h_t_diary h_t_calendar h_t_awakeIn h_t_worths h_t_plants h_t_sheets h_t_bestFrom h_t_red_fitting h_t_red_worstLeft h_t_blue_fitting h_t_blue_worstLeft h_t_s0 h_t_s1 h_t_s2 h_t_s3 h_t_s0_items h_t_s1_items h_t_s2_items h_t_s3_items v_latestFinding v_turn v_phase v_up v_sform v_ssize v_sitems)) (RWi (dC, dI) (TY cI cZ cP cS) r sz (wd_X7_write cI cZ cP cS h_t h_t_red h_t_blue h_t_sky h_t_diary h_t_calendar h_t_awakeIn h_t_worths h_t_plants h_t_sheets h_t_bestFrom h_t_red_fitting h_t_red_worstLeft h_t_blue_fitting h_t_blue_worstLeft h_t_s0 h_t_s1 h_t_s2 h_t_s3 h_t_s0_items h_t_s1_items h_t_s2_items h_t_s3_items v_latestFinding v_turn v_phase v_up v_sform v_ssize v_sitems) (wd_X7_write cI cZ cP cS h_t h_t_red h_t_blue h_t_sky h_t_diary h_t_calendar h_t_awakeIn h_t_worths h_t_plants h_t_sheets h_t_bestFrom h_t_red_fitting h_t_red_worstLeft h_t_blue_fitting h_t_blue_worstLeft h_t_s0 h_t_s1 h_t_s2 h_t_s3 h_t_s0_items h_t_s1_items h_t_s2_items h_t_s3_items o_latestFinding v_turn v_phase v_up v_sform v_ssize o_sitems)) 0 0 (va_A (wd_X7_write cI cZ cP cS h_t h_t_red h_t_blue h_t_sky h_t_diary h_t_calendar h_t_awakeIn h_t_worths h_t_plants h_t_sheets h_t_bestFrom h_t_red_fitting h_t_red_worstLeft h_t_blue_fitting h_t_blue_worstLeft h_t_s0 h_t_s1 h_t_s2 h_t_s3 h_t_s0_items h_t_s1_items h_t_s2_items h_t_s3_items v_latestFinding v_turn v_phase v_up v_sform v_ssize v_sitems) sz) := by
  refine Met.ofW (cc := cX7_write) (maxL := 5) (ret := (some .int)) (by decide) rfl ?_
  intro p e s m args below meth c s₁ B hml hv
  obtain ⟨rfl, hsz, hP, hK, hD0⟩ := hv
  have hx := B.exec
  have hb := B.bytes
  have hr := B.returns
  have hts := atoms_spec (ws := wsX7_write) B.pre
  have hown : s.vm.findClass RX7 = some m.cls := findClass_of_methodNamed B.named
  have hlocks := B.notSynchronized
  subst hsz
  have hD := hD0.self (sz := s.heap.size)
  have hA : ∀ q : Nat, s.heap.size ≤ q → (va_A (wd_X7_write cI cZ cP cS h_t h_t_red h_t_blue h_t_sky h_t_diary h_t_calendar h_t_awakeIn h_t_worths h_t_plants h_t_sheets h_t_bestFrom h_t_red_fitting h_t_red_worstLeft h_t_blue_fitting h_t_blue_worstLeft h_t_s0 h_t_s1 h_t_s2 h_t_s3 h_t_s0_items h_t_s1_items h_t_s2_items h_t_s3_items v_latestFinding v_turn v_phase v_up v_sform v_ssize v_sitems) s.heap.size) q := fun q h => Or.inr h
  have hS : va_S (va_A (wd_X7_write cI cZ cP cS h_t h_t_red h_t_blue h_t_sky h_t_diary h_t_calendar h_t_awakeIn h_t_worths h_t_plants h_t_sheets h_t_bestFrom h_t_red_fitting h_t_red_worstLeft h_t_blue_fitting h_t_blue_worstLeft h_t_s0 h_t_s1 h_t_s2 h_t_s3 h_t_s0_items h_t_s1_items h_t_s2_items h_t_s3_items v_latestFinding v_turn v_phase v_up v_sform v_ssize v_sitems) s.heap.size) s.heap s.heap [] := va_S.rf
  have hinX3 : ∀ w ∈ wsX30, w ∈ wsX7_write := by decide +kernel
  have hinX7 : ∀ w ∈ wsX70, w ∈ wsX7_write := by decide +kernel
  have hl := lv_entry ([.ref h_t, .int x1, .int x2]) (n := 5) (Nat.le_of_ble_eq_true rfl)
  rw [lg_entry_eq]
  generalize (lg_sl ([.ref h_t, .int x1, .int x2]) ++ List.replicate (5 - (lg_sl ([.ref h_t, .int x1, .int x2])).length) Slot.unset).toArray = ls at hl ⊢
  have hl : lv_has ls 5 [(0, .ref h_t), (1, .int x1), (2, .int x2)] := hl
  obtain ⟨H, hH⟩ : ∃ H : Heap, H = s.heap := ⟨_, rfl⟩
  have hP : va_P (dC, dI) vwCl (wd_X7_write cI cZ cP cS h_t h_t_red h_t_blue h_t_sky h_t_diary h_t_calendar h_t_awakeIn h_t_worths h_t_plants h_t_sheets h_t_bestFrom h_t_red_fitting h_t_red_worstLeft h_t_blue_fitting h_t_blue_worstLeft h_t_s0 h_t_s1 h_t_s2 h_t_s3 h_t_s0_items h_t_s1_items h_t_s2_items h_t_s3_items v_latestFinding v_turn v_phase v_up v_sform v_ssize v_sitems) H := by rw [hH]; exact hP
  have hS : va_S (va_A (wd_X7_write cI cZ cP cS h_t h_t_red h_t_blue h_t_sky h_t_diary h_t_calendar h_t_awakeIn h_t_worths h_t_plants h_t_sheets h_t_bestFrom h_t_red_fitting h_t_red_worstLeft h_t_blue_fitting h_t_blue_worstLeft h_t_s0 h_t_s1 h_t_s2 h_t_s3 h_t_s0_items h_t_s1_items h_t_s2_items h_t_s3_items v_latestFinding v_turn v_phase v_up v_sform v_ssize v_sitems) s.heap.size) s.heap H [] := by rw [hH]; exact hS
  obtain ⟨locs, hlo⟩ : ∃ L : List Loc, L = [] := ⟨_, rfl⟩
  rw [← hlo] at hS
  suffices hgo : W p l e (headSpec wsX7_write rm_X7_write).room s m ([.ref h_t, .int x1, .int x2] : List Value).toArray below meth c H locs 0 0 (MQ below (RWi (dC, dI) (TY cI cZ cP cS) r s.heap.size (wd_X7_write cI cZ cP cS h_t h_t_red h_t_blue h_t_sky h_t_diary h_t_calendar h_t_awakeIn h_t_worths h_t_plants h_t_sheets h_t_bestFrom h_t_red_fitting h_t_red_worstLeft h_t_blue_fitting h_t_blue_worstLeft h_t_s0 h_t_s1 h_t_s2 h_t_s3 h_t_s0_items h_t_s1_items h_t_s2_items h_t_s3_items v_latestFinding v_turn v_phase v_up v_sform v_ssize v_sitems) (wd_X7_write cI cZ cP cS h_t h_t_red h_t_blue h_t_sky h_t_diary h_t_calendar h_t_awakeIn h_t_worths h_t_plants h_t_sheets h_t_bestFrom h_t_red_fitting h_t_red_worstLeft h_t_blue_fitting h_t_blue_worstLeft h_t_s0 h_t_s1 h_t_s2 h_t_s3 h_t_s0_items h_t_s1_items h_t_s2_items h_t_s3_items o_latestFinding v_turn v_phase v_up v_sform v_ssize o_sitems)) ([.ref h_t, .int x1, .int x2] : List Value).toArray s 0 0 (va_A (wd_X7_write cI cZ cP cS h_t h_t_red h_t_blue h_t_sky h_t_diary h_t_calendar h_t_awakeIn h_t_worths h_t_plants h_t_sheets h_t_bestFrom h_t_red_fitting h_t_red_worstLeft h_t_blue_fitting h_t_blue_worstLeft h_t_s0 h_t_s1 h_t_s2 h_t_s3 h_t_s0_items h_t_s1_items h_t_s2_items h_t_s3_items v_latestFinding v_turn v_phase v_up v_sform v_ssize v_sitems) s.heap.size)) (F0 m 0 ls []) by rw [hH, hlo] at hgo; exact hgo
  clear hH hlo
  unfold f_X7_write at hf
  refine lv_aload_n hx hb dX7_write_0 rfl (lv_at hl 0 rfl) ?_
  refine lv_iload_n hx hb dX7_write_1 rfl (lv_at hl 2 rfl) ?_
  refine va_csq (va_runV (As := [.int x2]) (rest := []) ⟨hx, hb, hml, hown, hts⟩ (c_X7_sheetOf l dC dI cI cZ cP cS h_t h_t_red h_t_blue h_t_sky h_t_diary h_t_calendar h_t_awakeIn h_t_worths h_t_plants h_t_sheets h_t_bestFrom h_t_s0 h_t_s1 h_t_s2 h_t_s3 v_latestFinding x2) (cwV 1 hts gX7_write_X7_sheetOf rfl rfl rfl (by decide +kernel) ⟨Nat.le_of_ble_eq_true rfl, Nat.le_of_ble_eq_true rfl⟩) (pv_ro (ci := 6) (q0 := 0) hK (hP.sub (ws' := (wd_X7_sheetOf cI cZ cP cS h_t h_t_red h_t_blue h_t_sky h_t_diary h_t_calendar h_t_awakeIn h_t_worths h_t_plants h_t_sheets h_t_bestFrom h_t_s0 h_t_s1 h_t_s2 h_t_s3 v_latestFinding)) [0, 4] rfl) rfl rfl) rfl rfl hl.1 rfl (lv_room (Nat.le_of_ble_eq_true rfl)) dX7_write_2 ⟨Nat.zero_le _, Nat.zero_le _⟩).run (fun x e_1 => ?_)
  by_cases c2_0 : x2 = 0
  · rw [if_pos c2_0] at hf e_1
    subst e_1
    refine W.eq (g2 := F0 m 5 ls [.ref h_t_s0]) rfl ?_
    refine lv_astore_n (lv' := [(3, .ref h_t_s0), (0, .ref h_t), (1, .int x1), (2, .int x2)]) hx hb dX7_write_5 rfl hl (by decide) rfl (fun ls hl => ?_)
    refine lv_aload_n hx hb dX7_write_6 rfl (lv_at hl 0 rfl) ?_
    refine lv_ifnull hx hb dX7_write_7 ?_
    refine lv_iload_n hx hb dX7_write_10 rfl (lv_at hl 2 rfl) ?_
    obtain ⟨r11_2, hc_3, hf⟩ := bd1_e hf
    refine vp_callSi (va_runS (As := [.int x1]) (rest := []) ⟨hx, hb, hml, hown, hts⟩ (c_X7_noHour l dC dI cI cZ cP cS   x1 n r11_2 hc_3) (va_cwS 1 hts gX7_write_X7_noHour rfl rfl rfl (by decide +kernel) ⟨Nat.le_of_ble_eq_true rfl, Nat.le_of_ble_eq_true rfl⟩) (ps_ro hK (hP.sub (ws' := ([] : va_W)) [] rfl)) rfl rfl hl.1 rfl (lv_room (Nat.le_of_ble_eq_true rfl)) dX7_write_11 ⟨Nat.zero_le _, Nat.zero_le _⟩).run (fun x e_4 => ?_)
    obtain ⟨e_4, hb_5⟩ := e_4
    rw [e_4] at hb_5 ⊢
    refine lv_if_eq (tgt := 20) hx hb dX7_write_14 (by decide) (fun c14 => ?_) (fun c14 => ?_)
    · rw [if_pos c14] at hf
      refine lv_aload_n hx hb dX7_write_20 rfl (lv_at hl 0 rfl) ?_
      refine va_get (D := (dC, dI)) (ci := 3) (v := .int (v_sform 0)) (C := RX3) (T := TX3) (N := 3) hx hb hts hinX3 hown hK hP 5 rfl rfl 0 (by decide) (hts (.fieldLink RX7 222 "SecondSunrise$Sheet" "form" "I") (by decide +kernel)) (fun _ h9 => h9) rfl dX7_write_21 ?_
      refine lv_iconst (v := (-1)) hx hb dX7_write_24 (by decide) ?_
      refine lv_icmp_ne (tgt := 34) hx hb dX7_write_25 (by decide) (fun c25 => ?_) (fun c25 => ?_)
      · rw [if_neg c25] at hf
        refine lv_iconst (v := 0) hx hb dX7_write_34 (by decide) ?_
        refine lv_istore (lv' := [(4, .int 0), (3, .ref h_t_s0), (0, .ref h_t), (1, .int x1), (2, .int x2)]) hx hb dX7_write_35 hl (by decide) rfl (fun ls hl => ?_)
        obtain ⟨kx37, ekx37, hf⟩ := jn1_e hf
        have hx37 : ∀ (u37_sitems : Nat → Nat → Int32) (H : Heap) (locs : List Loc) (ls : Array Slot), lv_has ls 5 [(3, .ref h_t_s0)] → va_P (dC, dI) vwCl (wd_X7_write cI cZ cP cS h_t h_t_red h_t_blue h_t_sky h_t_diary h_t_calendar h_t_awakeIn h_t_worths h_t_plants h_t_sheets h_t_bestFrom h_t_red_fitting h_t_red_worstLeft h_t_blue_fitting h_t_blue_worstLeft h_t_s0 h_t_s1 h_t_s2 h_t_s3 h_t_s0_items h_t_s1_items h_t_s2_items h_t_s3_items v_latestFinding v_turn v_phase v_up v_sform v_ssize u37_sitems) H → va_D (va_A (wd_X7_write cI cZ cP cS h_t h_t_red h_t_blue h_t_sky h_t_diary h_t_calendar h_t_awakeIn h_t_worths h_t_plants h_t_sheets h_t_bestFrom h_t_red_fitting h_t_red_worstLeft h_t_blue_fitting h_t_blue_worstLeft h_t_s0 h_t_s1 h_t_s2 h_t_s3 h_t_s0_items h_t_s1_items h_t_s2_items h_t_s3_items v_latestFinding v_turn v_phase v_up v_sform v_ssize v_sitems) s.heap.size) (wd_X7_write cI cZ cP cS h_t h_t_red h_t_blue h_t_sky h_t_diary h_t_calendar h_t_awakeIn h_t_worths h_t_plants h_t_sheets h_t_bestFrom h_t_red_fitting h_t_red_worstLeft h_t_blue_fitting h_t_blue_worstLeft h_t_s0 h_t_s1 h_t_s2 h_t_s3 h_t_s0_items h_t_s1_items h_t_s2_items h_t_s3_items v_latestFinding v_turn v_phase v_up v_sform v_ssize u37_sitems) → va_S (va_A (wd_X7_write cI cZ cP cS h_t h_t_red h_t_blue h_t_sky h_t_diary h_t_calendar h_t_awakeIn h_t_worths h_t_plants h_t_sheets h_t_bestFrom h_t_red_fitting h_t_red_worstLeft h_t_blue_fitting h_t_blue_worstLeft h_t_s0 h_t_s1 h_t_s2 h_t_s3 h_t_s0_items h_t_s1_items h_t_s2_items h_t_s3_items v_latestFinding v_turn v_phase v_up v_sform v_ssize v_sitems) s.heap.size) s.heap H locs → kx37 u37_sitems = some (r, o_latestFinding, o_sitems) → W p l e (headSpec wsX7_write rm_X7_write).room s m ([.ref h_t, .int x1, .int x2] : List Value).toArray below meth c H locs 0 0 (MQ below (RWi (dC, dI) (TY cI cZ cP cS) r s.heap.size (wd_X7_write cI cZ cP cS h_t h_t_red h_t_blue h_t_sky h_t_diary h_t_calendar h_t_awakeIn h_t_worths h_t_plants h_t_sheets h_t_bestFrom h_t_red_fitting h_t_red_worstLeft h_t_blue_fitting h_t_blue_worstLeft h_t_s0 h_t_s1 h_t_s2 h_t_s3 h_t_s0_items h_t_s1_items h_t_s2_items h_t_s3_items v_latestFinding v_turn v_phase v_up v_sform v_ssize v_sitems) (wd_X7_write cI cZ cP cS h_t h_t_red h_t_blue h_t_sky h_t_diary h_t_calendar h_t_awakeIn h_t_worths h_t_plants h_t_sheets h_t_bestFrom h_t_red_fitting h_t_red_worstLeft h_t_blue_fitting h_t_blue_worstLeft h_t_s0 h_t_s1 h_t_s2 h_t_s3 h_t_s0_items h_t_s1_items h_t_s2_items h_t_s3_items o_latestFinding v_turn v_phase v_up v_sform v_ssize o_sitems)) ([.ref h_t, .int x1, .int x2] : List Value).toArray s 0 0 (va_A (wd_X7_write cI cZ cP cS h_t h_t_red h_t_blue h_t_sky h_t_diary h_t_calendar h_t_awakeIn h_t_worths h_t_plants h_t_sheets h_t_bestFrom h_t_red_fitting h_t_red_worstLeft h_t_blue_fitting h_t_blue_worstLeft h_t_s0 h_t_s1 h_t_s2 h_t_s3 h_t_s0_items h_t_s1_items h_t_s2_items h_t_s3_items v_latestFinding v_turn v_phase v_up v_sform v_ssize v_sitems) s.heap.size)) (F0 m 70 ls []) := by
          intro u37_sitems H locs ls hl hP hD hS hf
          rw [ekx37] at hf
          refine lv_aload_n hx hb dX7_write_70 rfl (lv_at hl 0 rfl) ?_
          refine va_get (D := (dC, dI)) (ci := 3) (v := .int (v_ssize 0)) (C := RX3) (T := TX3) (N := 3) hx hb hts hinX3 hown hK hP 5 rfl rfl 1 (by decide) (hts (.fieldLink RX7 228 "SecondSunrise$Sheet" "size" "I") (by decide +kernel)) (fun _ h9 => h9) rfl dX7_write_71 ?_
          have hq0 := Option.some.inj hf
          obtain ⟨eq0, hq1⟩ := Prod.mk.inj hq0
          obtain ⟨eq1, hq2⟩ := Prod.mk.inj hq1
          clear hf hq0 hq1
          subst eq0
          subst eq1
          subst hq2
          exact W.iret hx hb hr (fun t ht hW => ⟨⟨_, (), rfl, rfl, by rw [ht]; exact hP, va_K.moved hW.alike hK, hD⟩, hS.F ht⟩) hS.2.2 dX7_write_74
        have hL37 : ∀ (k37 : Nat) (y37_4 : Int32) (w37_sitems : Nat → Nat → Int32) (H : Heap) (locs : List Loc) (ls : Array Slot), lv_has ls 5 [(0, .ref h_t), (1, .int x1), (3, .ref h_t_s0), (4, .int y37_4)] → va_P (dC, dI) vwCl (wd_X7_write cI cZ cP cS h_t h_t_red h_t_blue h_t_sky h_t_diary h_t_calendar h_t_awakeIn h_t_worths h_t_plants h_t_sheets h_t_bestFrom h_t_red_fitting h_t_red_worstLeft h_t_blue_fitting h_t_blue_worstLeft h_t_s0 h_t_s1 h_t_s2 h_t_s3 h_t_s0_items h_t_s1_items h_t_s2_items h_t_s3_items v_latestFinding v_turn v_phase v_up v_sform v_ssize w37_sitems) H → va_D (va_A (wd_X7_write cI cZ cP cS h_t h_t_red h_t_blue h_t_sky h_t_diary h_t_calendar h_t_awakeIn h_t_worths h_t_plants h_t_sheets h_t_bestFrom h_t_red_fitting h_t_red_worstLeft h_t_blue_fitting h_t_blue_worstLeft h_t_s0 h_t_s1 h_t_s2 h_t_s3 h_t_s0_items h_t_s1_items h_t_s2_items h_t_s3_items v_latestFinding v_turn v_phase v_up v_sform v_ssize v_sitems) s.heap.size) (wd_X7_write cI cZ cP cS h_t h_t_red h_t_blue h_t_sky h_t_diary h_t_calendar h_t_awakeIn h_t_worths h_t_plants h_t_sheets h_t_bestFrom h_t_red_fitting h_t_red_worstLeft h_t_blue_fitting h_t_blue_worstLeft h_t_s0 h_t_s1 h_t_s2 h_t_s3 h_t_s0_items h_t_s1_items h_t_s2_items h_t_s3_items v_latestFinding v_turn v_phase v_up v_sform v_ssize w37_sitems) → va_S (va_A (wd_X7_write cI cZ cP cS h_t h_t_red h_t_blue h_t_sky h_t_diary h_t_calendar h_t_awakeIn h_t_worths h_t_plants h_t_sheets h_t_bestFrom h_t_red_fitting h_t_red_worstLeft h_t_blue_fitting h_t_blue_worstLeft h_t_s0 h_t_s1 h_t_s2 h_t_s3 h_t_s0_items h_t_s1_items h_t_s2_items h_t_s3_items v_latestFinding v_turn v_phase v_up v_sform v_ssize v_sitems) s.heap.size) s.heap H locs → L_X7_write_37 n v_turn v_phase v_up v_ssize x1 kx37 k37 y37_4 w37_sitems = some (r, o_latestFinding, o_sitems) → W p l e (headSpec wsX7_write rm_X7_write).room s m ([.ref h_t, .int x1, .int x2] : List Value).toArray below meth c H locs 0 0 (MQ below (RWi (dC, dI) (TY cI cZ cP cS) r s.heap.size (wd_X7_write cI cZ cP cS h_t h_t_red h_t_blue h_t_sky h_t_diary h_t_calendar h_t_awakeIn h_t_worths h_t_plants h_t_sheets h_t_bestFrom h_t_red_fitting h_t_red_worstLeft h_t_blue_fitting h_t_blue_worstLeft h_t_s0 h_t_s1 h_t_s2 h_t_s3 h_t_s0_items h_t_s1_items h_t_s2_items h_t_s3_items v_latestFinding v_turn v_phase v_up v_sform v_ssize v_sitems) (wd_X7_write cI cZ cP cS h_t h_t_red h_t_blue h_t_sky h_t_diary h_t_calendar h_t_awakeIn h_t_worths h_t_plants h_t_sheets h_t_bestFrom h_t_red_fitting h_t_red_worstLeft h_t_blue_fitting h_t_blue_worstLeft h_t_s0 h_t_s1 h_t_s2 h_t_s3 h_t_s0_items h_t_s1_items h_t_s2_items h_t_s3_items o_latestFinding v_turn v_phase v_up v_sform v_ssize o_sitems)) ([.ref h_t, .int x1, .int x2] : List Value).toArray s 0 0 (va_A (wd_X7_write cI cZ cP cS h_t h_t_red h_t_blue h_t_sky h_t_diary h_t_calendar h_t_awakeIn h_t_worths h_t_plants h_t_sheets h_t_bestFrom h_t_red_fitting h_t_red_worstLeft h_t_blue_fitting h_t_blue_worstLeft h_t_s0 h_t_s1 h_t_s2 h_t_s3 h_t_s0_items h_t_s1_items h_t_s2_items h_t_s3_items v_latestFinding v_turn v_phase v_up v_sform v_ssize v_sitems) s.heap.size)) (F0 m 37 ls []) := by
          intro k37
          induction k37 with
          | zero =>
            intro y37_4 w37_sitems H locs ls hl hP hD hS hf
            exact absurd hf (fun h => Option.some_ne_none _ h.symm)
          | succ k37 ih =>
            intro y37_4 w37_sitems H locs ls hl hP hD hS hf
            rw [L_X7_write_37_s] at hf
            refine lv_iload hx hb dX7_write_37 (lv_at hl 3 rfl) ?_
            refine lv_aload_n hx hb dX7_write_39 rfl (lv_at hl 2 rfl) ?_
            refine va_get (D := (dC, dI)) (ci := 3) (v := .int (v_ssize 0)) (C := RX3) (T := TX3) (N := 3) hx hb hts hinX3 hown hK hP 5 rfl rfl 1 (by decide) (hts (.fieldLink RX7 228 "SecondSunrise$Sheet" "size" "I") (by decide +kernel)) (fun _ h9 => h9) rfl dX7_write_40 ?_
            refine lv_icmp_ge (tgt := 70) hx hb dX7_write_43 (by decide) (fun c43 => ?_) (fun c43 => ?_)
            · rw [if_pos c43] at hf
              exact hx37 w37_sitems H locs ls (lv_sub hl [2] rfl) hP hD hS hf
            · rw [if_neg c43] at hf
              refine lv_aload_n hx hb dX7_write_46 rfl (lv_at hl 2 rfl) ?_
              refine va_get (D := (dC, dI)) (ci := 3) (v := .ref h_t_s0_items) (C := RX3) (T := TX3) (N := 3) hx hb hts hinX3 hown hK hP 5 rfl rfl 2 (by decide) (hts (.fieldLink RX7 229 "SecondSunrise$Sheet" "items" "[I") (by decide +kernel)) (fun _ h9 => h9) rfl dX7_write_47 ?_
              refine lv_iload hx hb dX7_write_50 (lv_at hl 3 rfl) ?_
              refine lv_aload_n hx hb dX7_write_52 rfl (lv_at hl 0 rfl) ?_
              refine va_get (D := (dC, dI)) (ci := 6) (v := .ref h_t_sky) (C := RX7) (T := TX7) (N := 11) hx hb hts hinX7 hown hK hP 0 rfl rfl 2 (by decide) (hts (.fieldLink RX7 26 "SecondSunrise" "sky" "LSecondSunrise$Sky;") (by decide +kernel)) (fun _ h9 => h9) rfl dX7_write_53 ?_
              refine lv_iload_n hx hb dX7_write_56 rfl (lv_at hl 1 rfl) ?_
              refine lv_iload hx hb dX7_write_57 (lv_at hl 3 rfl) ?_
              refine lv_iadd hx hb dX7_write_59 ?_
              obtain ⟨r60_6, hc_7, hf⟩ := bd1_e hf
              refine vp_callSi (va_runV (As := [.int (x1 + y37_4)]) (rest := [.int y37_4, .ref h_t_s0_items]) ⟨hx, hb, hml, hown, hts⟩ (c_X4_lightIn l dC dI cI cZ cP cS h_t_sky h_t_red h_t_blue h_t_red_fitting h_t_red_worstLeft h_t_blue_fitting h_t_blue_worstLeft v_turn v_phase v_up (x1 + y37_4) n r60_6 hc_7) (cwV 1 hts gX7_write_X4_lightIn rfl rfl rfl (by decide +kernel) ⟨Nat.le_of_ble_eq_true rfl, Nat.le_of_ble_eq_true rfl⟩) (pv_ro (ci := 4) (q0 := 0) hK (hP.sub (ws' := (wd_X4_lightIn cI cZ cP cS h_t_sky h_t_red h_t_blue h_t_red_fitting h_t_red_worstLeft h_t_blue_fitting h_t_blue_worstLeft v_turn v_phase v_up)) [3, 1, 2] rfl) rfl rfl) rfl rfl hl.1 rfl (lv_room (Nat.le_of_ble_eq_true rfl)) dX7_write_60 ⟨Nat.zero_le _, Nat.zero_le _⟩).run (fun x e_8 => ?_)
              rw [e_8]
              obtain ⟨hi_9, hf⟩ := ix_e hf
              refine va_iast hx hb hK hP hD hS 6 0 rfl rfl hi_9 dX7_write_63 (fun H locs hP hD hS => ?_)
              have hP : va_P (dC, dI) vwCl (wd_X7_write cI cZ cP cS h_t h_t_red h_t_blue h_t_sky h_t_diary h_t_calendar h_t_awakeIn h_t_worths h_t_plants h_t_sheets h_t_bestFrom h_t_red_fitting h_t_red_worstLeft h_t_blue_fitting h_t_blue_worstLeft h_t_s0 h_t_s1 h_t_s2 h_t_s3 h_t_s0_items h_t_s1_items h_t_s2_items h_t_s3_items v_latestFinding v_turn v_phase v_up v_sform v_ssize (va_up w37_sitems 0 (upd (w37_sitems 0) y37_4.toNatClampNeg r60_6))) H := hP
              have hD : va_D (va_A (wd_X7_write cI cZ cP cS h_t h_t_red h_t_blue h_t_sky h_t_diary h_t_calendar h_t_awakeIn h_t_worths h_t_plants h_t_sheets h_t_bestFrom h_t_red_fitting h_t_red_worstLeft h_t_blue_fitting h_t_blue_worstLeft h_t_s0 h_t_s1 h_t_s2 h_t_s3 h_t_s0_items h_t_s1_items h_t_s2_items h_t_s3_items v_latestFinding v_turn v_phase v_up v_sform v_ssize v_sitems) s.heap.size) (wd_X7_write cI cZ cP cS h_t h_t_red h_t_blue h_t_sky h_t_diary h_t_calendar h_t_awakeIn h_t_worths h_t_plants h_t_sheets h_t_bestFrom h_t_red_fitting h_t_red_worstLeft h_t_blue_fitting h_t_blue_worstLeft h_t_s0 h_t_s1 h_t_s2 h_t_s3 h_t_s0_items h_t_s1_items h_t_s2_items h_t_s3_items v_latestFinding v_turn v_phase v_up v_sform v_ssize (va_up w37_sitems 0 (upd (w37_sitems 0) y37_4.toNatClampNeg r60_6))) := hD
              refine lv_iinc (v := (y37_4 + 1)) (lv' := [(4, .int (y37_4 + 1)), (0, .ref h_t), (1, .int x1), (3, .ref h_t_s0)]) hx hb dX7_write_64 hl (k := 3) rfl rfl (by decide) rfl (fun ls hl => ?_)
              refine lv_goto (tgt := 37) hx hb dX7_write_67 (by decide) ?_
              exact ih (y37_4 + 1) (va_up w37_sitems 0 (upd (w37_sitems 0) y37_4.toNatClampNeg r60_6)) H locs ls (lv_sub hl [1, 2, 3, 0] rfl) hP hD hS hf
        exact hL37 n 0 v_sitems H locs ls (lv_sub hl [2, 3, 1, 0] rfl) hP hD hS hf
      · rw [if_pos c25] at hf
        refine lv_aload_n hx hb dX7_write_28 rfl (lv_at hl 1 rfl) ?_
        refine lv_iconst (v := 1) hx hb dX7_write_29 (by decide) ?_
        obtain ⟨r30_10, o30_11, hc_12, hf⟩ := bd2_e hf
        refine rwi_call (isC := [0]) (isR := [1, 2, 3, 4, 5, 6, 7, 8, 9, 10, 11, 12]) (perm := [12, 0, 1, 2, 3, 4, 5, 6, 7, 8, 9, 10, 11]) (wr := [(h_t_red, .inr (5, [.int (v_turn 0), .int (v_phase 0), .int (v_up 0), .ref h_t_red_fitting, .ref h_t_red_worstLeft])), (h_t_blue, .inr (5, [.int (v_turn 1), .int (v_phase 1), .int (v_up 1), .ref h_t_blue_fitting, .ref h_t_blue_worstLeft])), (h_t_sky, .inr (4, [.ref h_t_red, .ref h_t_blue])), (h_t_sheets, .inl (cS, 4, .inr (.inr (.inr (.inr (ar4 h_t_s0 h_t_s1 h_t_s2 h_t_s3)))))), (h_t_s0, .inr (3, [.int (v_sform 0), .int (v_ssize 0), .ref h_t_s0_items])), (h_t_s0_items, .inl (cI, 48, .inl (v_sitems 0))), (h_t_s1, .inr (3, [.int (v_sform 1), .int (v_ssize 1), .ref h_t_s1_items])), (h_t_s1_items, .inl (cI, 48, .inl (v_sitems 1))), (h_t_s2, .inr (3, [.int (v_sform 2), .int (v_ssize 2), .ref h_t_s2_items])), (h_t_s2_items, .inl (cI, 48, .inl (v_sitems 2))), (h_t_s3, .inr (3, [.int (v_sform 3), .int (v_ssize 3), .ref h_t_s3_items])), (h_t_s3_items, .inl (cI, 48, .inl (v_sitems 3)))]) (ws2 := (wd_X7_write cI cZ cP cS h_t h_t_red h_t_blue h_t_sky h_t_diary h_t_calendar h_t_awakeIn h_t_worths h_t_plants h_t_sheets h_t_bestFrom h_t_red_fitting h_t_red_worstLeft h_t_blue_fitting h_t_blue_worstLeft h_t_s0 h_t_s1 h_t_s2 h_t_s3 h_t_s0_items h_t_s1_items h_t_s2_items h_t_s3_items o30_11 v_turn v_phase v_up v_sform v_ssize v_sitems)) (va_runV (As := [.int 1]) (rest := []) ⟨hx, hb, hml, hown, hts⟩ (c_X7_found l dC dI cI cZ cP cS H.size h_t h_t_red h_t_blue h_t_sky h_t_diary h_t_calendar h_t_awakeIn h_t_worths h_t_plants h_t_sheets h_t_bestFrom v_latestFinding 1 n r30_10 o30_11 hc_12) (cwV 1 hts gX7_write_X7_found rfl rfl rfl (by decide +kernel) ⟨Nat.le_of_ble_eq_true rfl, Nat.le_of_ble_eq_true rfl⟩) (pv_rw (ci := 6) (q0 := 0) hK (hP.sub (ws' := (wd_X7_found cI cZ cP cS h_t h_t_red h_t_blue h_t_sky h_t_diary h_t_calendar h_t_awakeIn h_t_worths h_t_plants h_t_sheets h_t_bestFrom v_latestFinding)) [0] rfl) (hD.sub (ws' := (wd_X7_found cI cZ cP cS h_t h_t_red h_t_blue h_t_sky h_t_diary h_t_calendar h_t_awakeIn h_t_worths h_t_plants h_t_sheets h_t_bestFrom v_latestFinding)) [0] (by decide) rfl) rfl rfl) rfl rfl hl.1 rfl (lv_room (Nat.le_of_ble_eq_true rfl)) dX7_write_30 ⟨Nat.zero_le _, Nat.zero_le _⟩) hS hA hP hD rfl (by decide) (by decide) rfl (by decide) rfl rfl (fun H locs hP hD hS => ?_)
        have hq0 := Option.some.inj hf
        obtain ⟨eq0, hq1⟩ := Prod.mk.inj hq0
        obtain ⟨eq1, hq2⟩ := Prod.mk.inj hq1
        clear hf hq0 hq1
        subst eq0
        subst eq1
        subst hq2
        exact W.iret hx hb hr (fun t ht hW => ⟨⟨_, (), rfl, rfl, by rw [ht]; exact hP, va_K.moved hW.alike hK, hD⟩, hS.F ht⟩) hS.2.2 dX7_write_33
    · rw [if_neg c14] at hf
      refine lv_bipush (v := (-2)) hx hb dX7_write_17 (by decide) ?_
      have hq0 := Option.some.inj hf
      obtain ⟨eq0, hq1⟩ := Prod.mk.inj hq0
      obtain ⟨eq1, hq2⟩ := Prod.mk.inj hq1
      clear hf hq0 hq1
      subst eq0
      subst eq1
      subst hq2
      exact W.iret hx hb hr (fun t ht hW => ⟨⟨_, (), rfl, rfl, by rw [ht]; exact hP, va_K.moved hW.alike hK, hD⟩, hS.F ht⟩) hS.2.2 dX7_write_19
  · rw [if_neg c2_0] at hf e_1
    by_cases c2_1 : x2 = 1
    · rw [if_pos c2_1] at hf e_1
      subst e_1
      refine W.eq (g2 := F0 m 5 ls [.ref h_t_s1]) rfl ?_
      refine lv_astore_n (lv' := [(3, .ref h_t_s1), (0, .ref h_t), (1, .int x1), (2, .int x2)]) hx hb dX7_write_5 rfl hl (by decide) rfl (fun ls hl => ?_)
      refine lv_aload_n hx hb dX7_write_6 rfl (lv_at hl 0 rfl) ?_
      refine lv_ifnull hx hb dX7_write_7 ?_
      refine lv_iload_n hx hb dX7_write_10 rfl (lv_at hl 2 rfl) ?_
      obtain ⟨r11_14, hc_15, hf⟩ := bd1_e hf
      refine vp_callSi (va_runS (As := [.int x1]) (rest := []) ⟨hx, hb, hml, hown, hts⟩ (c_X7_noHour l dC dI cI cZ cP cS   x1 n r11_14 hc_15) (va_cwS 1 hts gX7_write_X7_noHour rfl rfl rfl (by decide +kernel) ⟨Nat.le_of_ble_eq_true rfl, Nat.le_of_ble_eq_true rfl⟩) (ps_ro hK (hP.sub (ws' := ([] : va_W)) [] rfl)) rfl rfl hl.1 rfl (lv_room (Nat.le_of_ble_eq_true rfl)) dX7_write_11 ⟨Nat.zero_le _, Nat.zero_le _⟩).run (fun x e_16 => ?_)
      obtain ⟨e_16, hb_17⟩ := e_16
      rw [e_16] at hb_17 ⊢
      refine lv_if_eq (tgt := 20) hx hb dX7_write_14 (by decide) (fun c14 => ?_) (fun c14 => ?_)
      · rw [if_pos c14] at hf
        refine lv_aload_n hx hb dX7_write_20 rfl (lv_at hl 0 rfl) ?_
        refine va_get (D := (dC, dI)) (ci := 3) (v := .int (v_sform 1)) (C := RX3) (T := TX3) (N := 3) hx hb hts hinX3 hown hK hP 7 rfl rfl 0 (by decide) (hts (.fieldLink RX7 222 "SecondSunrise$Sheet" "form" "I") (by decide +kernel)) (fun _ h9 => h9) rfl dX7_write_21 ?_
        refine lv_iconst (v := (-1)) hx hb dX7_write_24 (by decide) ?_
        refine lv_icmp_ne (tgt := 34) hx hb dX7_write_25 (by decide) (fun c25 => ?_) (fun c25 => ?_)
        · rw [if_neg c25] at hf
          refine lv_iconst (v := 0) hx hb dX7_write_34 (by decide) ?_
          refine lv_istore (lv' := [(4, .int 0), (3, .ref h_t_s1), (0, .ref h_t), (1, .int x1), (2, .int x2)]) hx hb dX7_write_35 hl (by decide) rfl (fun ls hl => ?_)
          obtain ⟨kx37, ekx37, hf⟩ := jn1_e hf
          have hx37 : ∀ (u37_sitems : Nat → Nat → Int32) (H : Heap) (locs : List Loc) (ls : Array Slot), lv_has ls 5 [(3, .ref h_t_s1)] → va_P (dC, dI) vwCl (wd_X7_write cI cZ cP cS h_t h_t_red h_t_blue h_t_sky h_t_diary h_t_calendar h_t_awakeIn h_t_worths h_t_plants h_t_sheets h_t_bestFrom h_t_red_fitting h_t_red_worstLeft h_t_blue_fitting h_t_blue_worstLeft h_t_s0 h_t_s1 h_t_s2 h_t_s3 h_t_s0_items h_t_s1_items h_t_s2_items h_t_s3_items v_latestFinding v_turn v_phase v_up v_sform v_ssize u37_sitems) H → va_D (va_A (wd_X7_write cI cZ cP cS h_t h_t_red h_t_blue h_t_sky h_t_diary h_t_calendar h_t_awakeIn h_t_worths h_t_plants h_t_sheets h_t_bestFrom h_t_red_fitting h_t_red_worstLeft h_t_blue_fitting h_t_blue_worstLeft h_t_s0 h_t_s1 h_t_s2 h_t_s3 h_t_s0_items h_t_s1_items h_t_s2_items h_t_s3_items v_latestFinding v_turn v_phase v_up v_sform v_ssize v_sitems) s.heap.size) (wd_X7_write cI cZ cP cS h_t h_t_red h_t_blue h_t_sky h_t_diary h_t_calendar h_t_awakeIn h_t_worths h_t_plants h_t_sheets h_t_bestFrom h_t_red_fitting h_t_red_worstLeft h_t_blue_fitting h_t_blue_worstLeft h_t_s0 h_t_s1 h_t_s2 h_t_s3 h_t_s0_items h_t_s1_items h_t_s2_items h_t_s3_items v_latestFinding v_turn v_phase v_up v_sform v_ssize u37_sitems) → va_S (va_A (wd_X7_write cI cZ cP cS h_t h_t_red h_t_blue h_t_sky h_t_diary h_t_calendar h_t_awakeIn h_t_worths h_t_plants h_t_sheets h_t_bestFrom h_t_red_fitting h_t_red_worstLeft h_t_blue_fitting h_t_blue_worstLeft h_t_s0 h_t_s1 h_t_s2 h_t_s3 h_t_s0_items h_t_s1_items h_t_s2_items h_t_s3_items v_latestFinding v_turn v_phase v_up v_sform v_ssize v_sitems) s.heap.size) s.heap H locs → kx37 u37_sitems = some (r, o_latestFinding, o_sitems) → W p l e (headSpec wsX7_write rm_X7_write).room s m ([.ref h_t, .int x1, .int x2] : List Value).toArray below meth c H locs 0 0 (MQ below (RWi (dC, dI) (TY cI cZ cP cS) r s.heap.size (wd_X7_write cI cZ cP cS h_t h_t_red h_t_blue h_t_sky h_t_diary h_t_calendar h_t_awakeIn h_t_worths h_t_plants h_t_sheets h_t_bestFrom h_t_red_fitting h_t_red_worstLeft h_t_blue_fitting h_t_blue_worstLeft h_t_s0 h_t_s1 h_t_s2 h_t_s3 h_t_s0_items h_t_s1_items h_t_s2_items h_t_s3_items v_latestFinding v_turn v_phase v_up v_sform v_ssize v_sitems) (wd_X7_write cI cZ cP cS h_t h_t_red h_t_blue h_t_sky h_t_diary h_t_calendar h_t_awakeIn h_t_worths h_t_plants h_t_sheets h_t_bestFrom h_t_red_fitting h_t_red_worstLeft h_t_blue_fitting h_t_blue_worstLeft h_t_s0 h_t_s1 h_t_s2 h_t_s3 h_t_s0_items h_t_s1_items h_t_s2_items h_t_s3_items o_latestFinding v_turn v_phase v_up v_sform v_ssize o_sitems)) ([.ref h_t, .int x1, .int x2] : List Value).toArray s 0 0 (va_A (wd_X7_write cI cZ cP cS h_t h_t_red h_t_blue h_t_sky h_t_diary h_t_calendar h_t_awakeIn h_t_worths h_t_plants h_t_sheets h_t_bestFrom h_t_red_fitting h_t_red_worstLeft h_t_blue_fitting h_t_blue_worstLeft h_t_s0 h_t_s1 h_t_s2 h_t_s3 h_t_s0_items h_t_s1_items h_t_s2_items h_t_s3_items v_latestFinding v_turn v_phase v_up v_sform v_ssize v_sitems) s.heap.size)) (F0 m 70 ls []) := by
            intro u37_sitems H locs ls hl hP hD hS hf
            rw [ekx37] at hf
            refine lv_aload_n hx hb dX7_write_70 rfl (lv_at hl 0 rfl) ?_
            refine va_get (D := (dC, dI)) (ci := 3) (v := .int (v_ssize 1)) (C := RX3) (T := TX3) (N := 3) hx hb hts hinX3 hown hK hP 7 rfl rfl 1 (by decide) (hts (.fieldLink RX7 228 "SecondSunrise$Sheet" "size" "I") (by decide +kernel)) (fun _ h9 => h9) rfl dX7_write_71 ?_
            have hq0 := Option.some.inj hf
            obtain ⟨eq0, hq1⟩ := Prod.mk.inj hq0
            obtain ⟨eq1, hq2⟩ := Prod.mk.inj hq1
            clear hf hq0 hq1
            subst eq0
            subst eq1
            subst hq2
            exact W.iret hx hb hr (fun t ht hW => ⟨⟨_, (), rfl, rfl, by rw [ht]; exact hP, va_K.moved hW.alike hK, hD⟩, hS.F ht⟩) hS.2.2 dX7_write_74
          have hL37 : ∀ (k37 : Nat) (y37_4 : Int32) (w37_sitems : Nat → Nat → Int32) (H : Heap) (locs : List Loc) (ls : Array Slot), lv_has ls 5 [(0, .ref h_t), (1, .int x1), (3, .ref h_t_s1), (4, .int y37_4)] → va_P (dC, dI) vwCl (wd_X7_write cI cZ cP cS h_t h_t_red h_t_blue h_t_sky h_t_diary h_t_calendar h_t_awakeIn h_t_worths h_t_plants h_t_sheets h_t_bestFrom h_t_red_fitting h_t_red_worstLeft h_t_blue_fitting h_t_blue_worstLeft h_t_s0 h_t_s1 h_t_s2 h_t_s3 h_t_s0_items h_t_s1_items h_t_s2_items h_t_s3_items v_latestFinding v_turn v_phase v_up v_sform v_ssize w37_sitems) H → va_D (va_A (wd_X7_write cI cZ cP cS h_t h_t_red h_t_blue h_t_sky h_t_diary h_t_calendar h_t_awakeIn h_t_worths h_t_plants h_t_sheets h_t_bestFrom h_t_red_fitting h_t_red_worstLeft h_t_blue_fitting h_t_blue_worstLeft h_t_s0 h_t_s1 h_t_s2 h_t_s3 h_t_s0_items h_t_s1_items h_t_s2_items h_t_s3_items v_latestFinding v_turn v_phase v_up v_sform v_ssize v_sitems) s.heap.size) (wd_X7_write cI cZ cP cS h_t h_t_red h_t_blue h_t_sky h_t_diary h_t_calendar h_t_awakeIn h_t_worths h_t_plants h_t_sheets h_t_bestFrom h_t_red_fitting h_t_red_worstLeft h_t_blue_fitting h_t_blue_worstLeft h_t_s0 h_t_s1 h_t_s2 h_t_s3 h_t_s0_items h_t_s1_items h_t_s2_items h_t_s3_items v_latestFinding v_turn v_phase v_up v_sform v_ssize w37_sitems) → va_S (va_A (wd_X7_write cI cZ cP cS h_t h_t_red h_t_blue h_t_sky h_t_diary h_t_calendar h_t_awakeIn h_t_worths h_t_plants h_t_sheets h_t_bestFrom h_t_red_fitting h_t_red_worstLeft h_t_blue_fitting h_t_blue_worstLeft h_t_s0 h_t_s1 h_t_s2 h_t_s3 h_t_s0_items h_t_s1_items h_t_s2_items h_t_s3_items v_latestFinding v_turn v_phase v_up v_sform v_ssize v_sitems) s.heap.size) s.heap H locs → L_X7_write_37q2 n v_turn v_phase v_up v_ssize x1 kx37 k37 y37_4 w37_sitems = some (r, o_latestFinding, o_sitems) → W p l e (headSpec wsX7_write rm_X7_write).room s m ([.ref h_t, .int x1, .int x2] : List Value).toArray below meth c H locs 0 0 (MQ below (RWi (dC, dI) (TY cI cZ cP cS) r s.heap.size (wd_X7_write cI cZ cP cS h_t h_t_red h_t_blue h_t_sky h_t_diary h_t_calendar h_t_awakeIn h_t_worths h_t_plants h_t_sheets h_t_bestFrom h_t_red_fitting h_t_red_worstLeft h_t_blue_fitting h_t_blue_worstLeft h_t_s0 h_t_s1 h_t_s2 h_t_s3 h_t_s0_items h_t_s1_items h_t_s2_items h_t_s3_items v_latestFinding v_turn v_phase v_up v_sform v_ssize v_sitems) (wd_X7_write cI cZ cP cS h_t h_t_red h_t_blue h_t_sky h_t_diary h_t_calendar h_t_awakeIn h_t_worths h_t_plants h_t_sheets h_t_bestFrom h_t_red_fitting h_t_red_worstLeft h_t_blue_fitting h_t_blue_worstLeft h_t_s0 h_t_s1 h_t_s2 h_t_s3 h_t_s0_items h_t_s1_items h_t_s2_items h_t_s3_items o_latestFinding v_turn v_phase v_up v_sform v_ssize o_sitems)) ([.ref h_t, .int x1, .int x2] : List Value).toArray s 0 0 (va_A (wd_X7_write cI cZ cP cS h_t h_t_red h_t_blue h_t_sky h_t_diary h_t_calendar h_t_awakeIn h_t_worths h_t_plants h_t_sheets h_t_bestFrom h_t_red_fitting h_t_red_worstLeft h_t_blue_fitting h_t_blue_worstLeft h_t_s0 h_t_s1 h_t_s2 h_t_s3 h_t_s0_items h_t_s1_items h_t_s2_items h_t_s3_items v_latestFinding v_turn v_phase v_up v_sform v_ssize v_sitems) s.heap.size)) (F0 m 37 ls []) := by
            intro k37
            induction k37 with
            | zero =>
              intro y37_4 w37_sitems H locs ls hl hP hD hS hf
              exact absurd hf (fun h => Option.some_ne_none _ h.symm)
            | succ k37 ih =>
              intro y37_4 w37_sitems H locs ls hl hP hD hS hf
              rw [L_X7_write_37q2_s] at hf
              refine lv_iload hx hb dX7_write_37 (lv_at hl 3 rfl) ?_
              refine lv_aload_n hx hb dX7_write_39 rfl (lv_at hl 2 rfl) ?_
              refine va_get (D := (dC, dI)) (ci := 3) (v := .int (v_ssize 1)) (C := RX3) (T := TX3) (N := 3) hx hb hts hinX3 hown hK hP 7 rfl rfl 1 (by decide) (hts (.fieldLink RX7 228 "SecondSunrise$Sheet" "size" "I") (by decide +kernel)) (fun _ h9 => h9) rfl dX7_write_40 ?_
              refine lv_icmp_ge (tgt := 70) hx hb dX7_write_43 (by decide) (fun c43 => ?_) (fun c43 => ?_)
              · rw [if_pos c43] at hf
                exact hx37 w37_sitems H locs ls (lv_sub hl [2] rfl) hP hD hS hf
              · rw [if_neg c43] at hf
                refine lv_aload_n hx hb dX7_write_46 rfl (lv_at hl 2 rfl) ?_
                refine va_get (D := (dC, dI)) (ci := 3) (v := .ref h_t_s1_items) (C := RX3) (T := TX3) (N := 3) hx hb hts hinX3 hown hK hP 7 rfl rfl 2 (by decide) (hts (.fieldLink RX7 229 "SecondSunrise$Sheet" "items" "[I") (by decide +kernel)) (fun _ h9 => h9) rfl dX7_write_47 ?_
                refine lv_iload hx hb dX7_write_50 (lv_at hl 3 rfl) ?_
                refine lv_aload_n hx hb dX7_write_52 rfl (lv_at hl 0 rfl) ?_
                refine va_get (D := (dC, dI)) (ci := 6) (v := .ref h_t_sky) (C := RX7) (T := TX7) (N := 11) hx hb hts hinX7 hown hK hP 0 rfl rfl 2 (by decide) (hts (.fieldLink RX7 26 "SecondSunrise" "sky" "LSecondSunrise$Sky;") (by decide +kernel)) (fun _ h9 => h9) rfl dX7_write_53 ?_
                refine lv_iload_n hx hb dX7_write_56 rfl (lv_at hl 1 rfl) ?_
                refine lv_iload hx hb dX7_write_57 (lv_at hl 3 rfl) ?_
                refine lv_iadd hx hb dX7_write_59 ?_
                obtain ⟨r60_18, hc_19, hf⟩ := bd1_e hf
                refine vp_callSi (va_runV (As := [.int (x1 + y37_4)]) (rest := [.int y37_4, .ref h_t_s1_items]) ⟨hx, hb, hml, hown, hts⟩ (c_X4_lightIn l dC dI cI cZ cP cS h_t_sky h_t_red h_t_blue h_t_red_fitting h_t_red_worstLeft h_t_blue_fitting h_t_blue_worstLeft v_turn v_phase v_up (x1 + y37_4) n r60_18 hc_19) (cwV 1 hts gX7_write_X4_lightIn rfl rfl rfl (by decide +kernel) ⟨Nat.le_of_ble_eq_true rfl, Nat.le_of_ble_eq_true rfl⟩) (pv_ro (ci := 4) (q0 := 0) hK (hP.sub (ws' := (wd_X4_lightIn cI cZ cP cS h_t_sky h_t_red h_t_blue h_t_red_fitting h_t_red_worstLeft h_t_blue_fitting h_t_blue_worstLeft v_turn v_phase v_up)) [3, 1, 2] rfl) rfl rfl) rfl rfl hl.1 rfl (lv_room (Nat.le_of_ble_eq_true rfl)) dX7_write_60 ⟨Nat.zero_le _, Nat.zero_le _⟩).run (fun x e_20 => ?_)
                rw [e_20]
                obtain ⟨hi_21, hf⟩ := ix_e hf
                refine va_iast hx hb hK hP hD hS 8 0 rfl rfl hi_21 dX7_write_63 (fun H locs hP hD hS => ?_)
                have hP : va_P (dC, dI) vwCl (wd_X7_write cI cZ cP cS h_t h_t_red h_t_blue h_t_sky h_t_diary h_t_calendar h_t_awakeIn h_t_worths h_t_plants h_t_sheets h_t_bestFrom h_t_red_fitting h_t_red_worstLeft h_t_blue_fitting h_t_blue_worstLeft h_t_s0 h_t_s1 h_t_s2 h_t_s3 h_t_s0_items h_t_s1_items h_t_s2_items h_t_s3_items v_latestFinding v_turn v_phase v_up v_sform v_ssize (va_up w37_sitems 1 (upd (w37_sitems 1) y37_4.toNatClampNeg r60_18))) H := hP
                have hD : va_D (va_A (wd_X7_write cI cZ cP cS h_t h_t_red h_t_blue h_t_sky h_t_diary h_t_calendar h_t_awakeIn h_t_worths h_t_plants h_t_sheets h_t_bestFrom h_t_red_fitting h_t_red_worstLeft h_t_blue_fitting h_t_blue_worstLeft h_t_s0 h_t_s1 h_t_s2 h_t_s3 h_t_s0_items h_t_s1_items h_t_s2_items h_t_s3_items v_latestFinding v_turn v_phase v_up v_sform v_ssize v_sitems) s.heap.size) (wd_X7_write cI cZ cP cS h_t h_t_red h_t_blue h_t_sky h_t_diary h_t_calendar h_t_awakeIn h_t_worths h_t_plants h_t_sheets h_t_bestFrom h_t_red_fitting h_t_red_worstLeft h_t_blue_fitting h_t_blue_worstLeft h_t_s0 h_t_s1 h_t_s2 h_t_s3 h_t_s0_items h_t_s1_items h_t_s2_items h_t_s3_items v_latestFinding v_turn v_phase v_up v_sform v_ssize (va_up w37_sitems 1 (upd (w37_sitems 1) y37_4.toNatClampNeg r60_18))) := hD
                refine lv_iinc (v := (y37_4 + 1)) (lv' := [(4, .int (y37_4 + 1)), (0, .ref h_t), (1, .int x1), (3, .ref h_t_s1)]) hx hb dX7_write_64 hl (k := 3) rfl rfl (by decide) rfl (fun ls hl => ?_)
                refine lv_goto (tgt := 37) hx hb dX7_write_67 (by decide) ?_
                exact ih (y37_4 + 1) (va_up w37_sitems 1 (upd (w37_sitems 1) y37_4.toNatClampNeg r60_18)) H locs ls (lv_sub hl [1, 2, 3, 0] rfl) hP hD hS hf
          exact hL37 n 0 v_sitems H locs ls (lv_sub hl [2, 3, 1, 0] rfl) hP hD hS hf
        · rw [if_pos c25] at hf
          refine lv_aload_n hx hb dX7_write_28 rfl (lv_at hl 1 rfl) ?_
          refine lv_iconst (v := 1) hx hb dX7_write_29 (by decide) ?_
          obtain ⟨r30_22, o30_23, hc_24, hf⟩ := bd2_e hf
          refine rwi_call (isC := [0]) (isR := [1, 2, 3, 4, 5, 6, 7, 8, 9, 10, 11, 12]) (perm := [12, 0, 1, 2, 3, 4, 5, 6, 7, 8, 9, 10, 11]) (wr := [(h_t_red, .inr (5, [.int (v_turn 0), .int (v_phase 0), .int (v_up 0), .ref h_t_red_fitting, .ref h_t_red_worstLeft])), (h_t_blue, .inr (5, [.int (v_turn 1), .int (v_phase 1), .int (v_up 1), .ref h_t_blue_fitting, .ref h_t_blue_worstLeft])), (h_t_sky, .inr (4, [.ref h_t_red, .ref h_t_blue])), (h_t_sheets, .inl (cS, 4, .inr (.inr (.inr (.inr (ar4 h_t_s0 h_t_s1 h_t_s2 h_t_s3)))))), (h_t_s0, .inr (3, [.int (v_sform 0), .int (v_ssize 0), .ref h_t_s0_items])), (h_t_s0_items, .inl (cI, 48, .inl (v_sitems 0))), (h_t_s1, .inr (3, [.int (v_sform 1), .int (v_ssize 1), .ref h_t_s1_items])), (h_t_s1_items, .inl (cI, 48, .inl (v_sitems 1))), (h_t_s2, .inr (3, [.int (v_sform 2), .int (v_ssize 2), .ref h_t_s2_items])), (h_t_s2_items, .inl (cI, 48, .inl (v_sitems 2))), (h_t_s3, .inr (3, [.int (v_sform 3), .int (v_ssize 3), .ref h_t_s3_items])), (h_t_s3_items, .inl (cI, 48, .inl (v_sitems 3)))]) (ws2 := (wd_X7_write cI cZ cP cS h_t h_t_red h_t_blue h_t_sky h_t_diary h_t_calendar h_t_awakeIn h_t_worths h_t_plants h_t_sheets h_t_bestFrom h_t_red_fitting h_t_red_worstLeft h_t_blue_fitting h_t_blue_worstLeft h_t_s0 h_t_s1 h_t_s2 h_t_s3 h_t_s0_items h_t_s1_items h_t_s2_items h_t_s3_items o30_23 v_turn v_phase v_up v_sform v_ssize v_sitems)) (va_runV (As := [.int 1]) (rest := []) ⟨hx, hb, hml, hown, hts⟩ (c_X7_found l dC dI cI cZ cP cS H.size h_t h_t_red h_t_blue h_t_sky h_t_diary h_t_calendar h_t_awakeIn h_t_worths h_t_plants h_t_sheets h_t_bestFrom v_latestFinding 1 n r30_22 o30_23 hc_24) (cwV 1 hts gX7_write_X7_found rfl rfl rfl (by decide +kernel) ⟨Nat.le_of_ble_eq_true rfl, Nat.le_of_ble_eq_true rfl⟩) (pv_rw (ci := 6) (q0 := 0) hK (hP.sub (ws' := (wd_X7_found cI cZ cP cS h_t h_t_red h_t_blue h_t_sky h_t_diary h_t_calendar h_t_awakeIn h_t_worths h_t_plants h_t_sheets h_t_bestFrom v_latestFinding)) [0] rfl) (hD.sub (ws' := (wd_X7_found cI cZ cP cS h_t h_t_red h_t_blue h_t_sky h_t_diary h_t_calendar h_t_awakeIn h_t_worths h_t_plants h_t_sheets h_t_bestFrom v_latestFinding)) [0] (by decide) rfl) rfl rfl) rfl rfl hl.1 rfl (lv_room (Nat.le_of_ble_eq_true rfl)) dX7_write_30 ⟨Nat.zero_le _, Nat.zero_le _⟩) hS hA hP hD rfl (by decide) (by decide) rfl (by decide) rfl rfl (fun H locs hP hD hS => ?_)
          have hq0 := Option.some.inj hf
          obtain ⟨eq0, hq1⟩ := Prod.mk.inj hq0
          obtain ⟨eq1, hq2⟩ := Prod.mk.inj hq1
          clear hf hq0 hq1
          subst eq0
          subst eq1
          subst hq2
          exact W.iret hx hb hr (fun t ht hW => ⟨⟨_, (), rfl, rfl, by rw [ht]; exact hP, va_K.moved hW.alike hK, hD⟩, hS.F ht⟩) hS.2.2 dX7_write_33
      · rw [if_neg c14] at hf
        refine lv_bipush (v := (-2)) hx hb dX7_write_17 (by decide) ?_
        have hq0 := Option.some.inj hf
        obtain ⟨eq0, hq1⟩ := Prod.mk.inj hq0
        obtain ⟨eq1, hq2⟩ := Prod.mk.inj hq1
        clear hf hq0 hq1
        subst eq0
        subst eq1
        subst hq2
        exact W.iret hx hb hr (fun t ht hW => ⟨⟨_, (), rfl, rfl, by rw [ht]; exact hP, va_K.moved hW.alike hK, hD⟩, hS.F ht⟩) hS.2.2 dX7_write_19
    · rw [if_neg c2_1] at hf e_1
      by_cases c2_2 : x2 = 2
      · rw [if_pos c2_2] at hf e_1
        subst e_1
        refine W.eq (g2 := F0 m 5 ls [.ref h_t_s2]) rfl ?_
        refine lv_astore_n (lv' := [(3, .ref h_t_s2), (0, .ref h_t), (1, .int x1), (2, .int x2)]) hx hb dX7_write_5 rfl hl (by decide) rfl (fun ls hl => ?_)
        refine lv_aload_n hx hb dX7_write_6 rfl (lv_at hl 0 rfl) ?_
        refine lv_ifnull hx hb dX7_write_7 ?_
        refine lv_iload_n hx hb dX7_write_10 rfl (lv_at hl 2 rfl) ?_
        obtain ⟨r11_26, hc_27, hf⟩ := bd1_e hf
        refine vp_callSi (va_runS (As := [.int x1]) (rest := []) ⟨hx, hb, hml, hown, hts⟩ (c_X7_noHour l dC dI cI cZ cP cS   x1 n r11_26 hc_27) (va_cwS 1 hts gX7_write_X7_noHour rfl rfl rfl (by decide +kernel) ⟨Nat.le_of_ble_eq_true rfl, Nat.le_of_ble_eq_true rfl⟩) (ps_ro hK (hP.sub (ws' := ([] : va_W)) [] rfl)) rfl rfl hl.1 rfl (lv_room (Nat.le_of_ble_eq_true rfl)) dX7_write_11 ⟨Nat.zero_le _, Nat.zero_le _⟩).run (fun x e_28 => ?_)
        obtain ⟨e_28, hb_29⟩ := e_28
        rw [e_28] at hb_29 ⊢
        refine lv_if_eq (tgt := 20) hx hb dX7_write_14 (by decide) (fun c14 => ?_) (fun c14 => ?_)
        · rw [if_pos c14] at hf
          refine lv_aload_n hx hb dX7_write_20 rfl (lv_at hl 0 rfl) ?_
          refine va_get (D := (dC, dI)) (ci := 3) (v := .int (v_sform 2)) (C := RX3) (T := TX3) (N := 3) hx hb hts hinX3 hown hK hP 9 rfl rfl 0 (by decide) (hts (.fieldLink RX7 222 "SecondSunrise$Sheet" "form" "I") (by decide +kernel)) (fun _ h9 => h9) rfl dX7_write_21 ?_
          refine lv_iconst (v := (-1)) hx hb dX7_write_24 (by decide) ?_
          refine lv_icmp_ne (tgt := 34) hx hb dX7_write_25 (by decide) (fun c25 => ?_) (fun c25 => ?_)
          · rw [if_neg c25] at hf
            refine lv_iconst (v := 0) hx hb dX7_write_34 (by decide) ?_
            refine lv_istore (lv' := [(4, .int 0), (3, .ref h_t_s2), (0, .ref h_t), (1, .int x1), (2, .int x2)]) hx hb dX7_write_35 hl (by decide) rfl (fun ls hl => ?_)
            obtain ⟨kx37, ekx37, hf⟩ := jn1_e hf
            have hx37 : ∀ (u37_sitems : Nat → Nat → Int32) (H : Heap) (locs : List Loc) (ls : Array Slot), lv_has ls 5 [(3, .ref h_t_s2)] → va_P (dC, dI) vwCl (wd_X7_write cI cZ cP cS h_t h_t_red h_t_blue h_t_sky h_t_diary h_t_calendar h_t_awakeIn h_t_worths h_t_plants h_t_sheets h_t_bestFrom h_t_red_fitting h_t_red_worstLeft h_t_blue_fitting h_t_blue_worstLeft h_t_s0 h_t_s1 h_t_s2 h_t_s3 h_t_s0_items h_t_s1_items h_t_s2_items h_t_s3_items v_latestFinding v_turn v_phase v_up v_sform v_ssize u37_sitems) H → va_D (va_A (wd_X7_write cI cZ cP cS h_t h_t_red h_t_blue h_t_sky h_t_diary h_t_calendar h_t_awakeIn h_t_worths h_t_plants h_t_sheets h_t_bestFrom h_t_red_fitting h_t_red_worstLeft h_t_blue_fitting h_t_blue_worstLeft h_t_s0 h_t_s1 h_t_s2 h_t_s3 h_t_s0_items h_t_s1_items h_t_s2_items h_t_s3_items v_latestFinding v_turn v_phase v_up v_sform v_ssize v_sitems) s.heap.size) (wd_X7_write cI cZ cP cS h_t h_t_red h_t_blue h_t_sky h_t_diary h_t_calendar h_t_awakeIn h_t_worths h_t_plants h_t_sheets h_t_bestFrom h_t_red_fitting h_t_red_worstLeft h_t_blue_fitting h_t_blue_worstLeft h_t_s0 h_t_s1 h_t_s2 h_t_s3 h_t_s0_items h_t_s1_items h_t_s2_items h_t_s3_items v_latestFinding v_turn v_phase v_up v_sform v_ssize u37_sitems) → va_S (va_A (wd_X7_write cI cZ cP cS h_t h_t_red h_t_blue h_t_sky h_t_diary h_t_calendar h_t_awakeIn h_t_worths h_t_plants h_t_sheets h_t_bestFrom h_t_red_fitting h_t_red_worstLeft h_t_blue_fitting h_t_blue_worstLeft h_t_s0 h_t_s1 h_t_s2 h_t_s3 h_t_s0_items h_t_s1_items h_t_s2_items h_t_s3_items v_latestFinding v_turn v_phase v_up v_sform v_ssize v_sitems) s.heap.size) s.heap H locs → kx37 u37_sitems = some (r, o_latestFinding, o_sitems) → W p l e (headSpec wsX7_write rm_X7_write).room s m ([.ref h_t, .int x1, .int x2] : List Value).toArray below meth c H locs 0 0 (MQ below (RWi (dC, dI) (TY cI cZ cP cS) r s.heap.size (wd_X7_write cI cZ cP cS h_t h_t_red h_t_blue h_t_sky h_t_diary h_t_calendar h_t_awakeIn h_t_worths h_t_plants h_t_sheets h_t_bestFrom h_t_red_fitting h_t_red_worstLeft h_t_blue_fitting h_t_blue_worstLeft h_t_s0 h_t_s1 h_t_s2 h_t_s3 h_t_s0_items h_t_s1_items h_t_s2_items h_t_s3_items v_latestFinding v_turn v_phase v_up v_sform v_ssize v_sitems) (wd_X7_write cI cZ cP cS h_t h_t_red h_t_blue h_t_sky h_t_diary h_t_calendar h_t_awakeIn h_t_worths h_t_plants h_t_sheets h_t_bestFrom h_t_red_fitting h_t_red_worstLeft h_t_blue_fitting h_t_blue_worstLeft h_t_s0 h_t_s1 h_t_s2 h_t_s3 h_t_s0_items h_t_s1_items h_t_s2_items h_t_s3_items o_latestFinding v_turn v_phase v_up v_sform v_ssize o_sitems)) ([.ref h_t, .int x1, .int x2] : List Value).toArray s 0 0 (va_A (wd_X7_write cI cZ cP cS h_t h_t_red h_t_blue h_t_sky h_t_diary h_t_calendar h_t_awakeIn h_t_worths h_t_plants h_t_sheets h_t_bestFrom h_t_red_fitting h_t_red_worstLeft h_t_blue_fitting h_t_blue_worstLeft h_t_s0 h_t_s1 h_t_s2 h_t_s3 h_t_s0_items h_t_s1_items h_t_s2_items h_t_s3_items v_latestFinding v_turn v_phase v_up v_sform v_ssize v_sitems) s.heap.size)) (F0 m 70 ls []) := by
              intro u37_sitems H locs ls hl hP hD hS hf
              rw [ekx37] at hf
              refine lv_aload_n hx hb dX7_write_70 rfl (lv_at hl 0 rfl) ?_
              refine va_get (D := (dC, dI)) (ci := 3) (v := .int (v_ssize 2)) (C := RX3) (T := TX3) (N := 3) hx hb hts hinX3 hown hK hP 9 rfl rfl 1 (by decide) (hts (.fieldLink RX7 228 "SecondSunrise$Sheet" "size" "I") (by decide +kernel)) (fun _ h9 => h9) rfl dX7_write_71 ?_
              have hq0 := Option.some.inj hf
              obtain ⟨eq0, hq1⟩ := Prod.mk.inj hq0
              obtain ⟨eq1, hq2⟩ := Prod.mk.inj hq1
              clear hf hq0 hq1
              subst eq0
              subst eq1
              subst hq2
              exact W.iret hx hb hr (fun t ht hW => ⟨⟨_, (), rfl, rfl, by rw [ht]; exact hP, va_K.moved hW.alike hK, hD⟩, hS.F ht⟩) hS.2.2 dX7_write_74
            have hL37 : ∀ (k37 : Nat) (y37_4 : Int32) (w37_sitems : Nat → Nat → Int32) (H : Heap) (locs : List Loc) (ls : Array Slot), lv_has ls 5 [(0, .ref h_t), (1, .int x1), (3, .ref h_t_s2), (4, .int y37_4)] → va_P (dC, dI) vwCl (wd_X7_write cI cZ cP cS h_t h_t_red h_t_blue h_t_sky h_t_diary h_t_calendar h_t_awakeIn h_t_worths h_t_plants h_t_sheets h_t_bestFrom h_t_red_fitting h_t_red_worstLeft h_t_blue_fitting h_t_blue_worstLeft h_t_s0 h_t_s1 h_t_s2 h_t_s3 h_t_s0_items h_t_s1_items h_t_s2_items h_t_s3_items v_latestFinding v_turn v_phase v_up v_sform v_ssize w37_sitems) H → va_D (va_A (wd_X7_write cI cZ cP cS h_t h_t_red h_t_blue h_t_sky h_t_diary h_t_calendar h_t_awakeIn h_t_worths h_t_plants h_t_sheets h_t_bestFrom h_t_red_fitting h_t_red_worstLeft h_t_blue_fitting h_t_blue_worstLeft h_t_s0 h_t_s1 h_t_s2 h_t_s3 h_t_s0_items h_t_s1_items h_t_s2_items h_t_s3_items v_latestFinding v_turn v_phase v_up v_sform v_ssize v_sitems) s.heap.size) (wd_X7_write cI cZ cP cS h_t h_t_red h_t_blue h_t_sky h_t_diary h_t_calendar h_t_awakeIn h_t_worths h_t_plants h_t_sheets h_t_bestFrom h_t_red_fitting h_t_red_worstLeft h_t_blue_fitting h_t_blue_worstLeft h_t_s0 h_t_s1 h_t_s2 h_t_s3 h_t_s0_items h_t_s1_items h_t_s2_items h_t_s3_items v_latestFinding v_turn v_phase v_up v_sform v_ssize w37_sitems) → va_S (va_A (wd_X7_write cI cZ cP cS h_t h_t_red h_t_blue h_t_sky h_t_diary h_t_calendar h_t_awakeIn h_t_worths h_t_plants h_t_sheets h_t_bestFrom h_t_red_fitting h_t_red_worstLeft h_t_blue_fitting h_t_blue_worstLeft h_t_s0 h_t_s1 h_t_s2 h_t_s3 h_t_s0_items h_t_s1_items h_t_s2_items h_t_s3_items v_latestFinding v_turn v_phase v_up v_sform v_ssize v_sitems) s.heap.size) s.heap H locs → L_X7_write_37q3 n v_turn v_phase v_up v_ssize x1 kx37 k37 y37_4 w37_sitems = some (r, o_latestFinding, o_sitems) → W p l e (headSpec wsX7_write rm_X7_write).room s m ([.ref h_t, .int x1, .int x2] : List Value).toArray below meth c H locs 0 0 (MQ below (RWi (dC, dI) (TY cI cZ cP cS) r s.heap.size (wd_X7_write cI cZ cP cS h_t h_t_red h_t_blue h_t_sky h_t_diary h_t_calendar h_t_awakeIn h_t_worths h_t_plants h_t_sheets h_t_bestFrom h_t_red_fitting h_t_red_worstLeft h_t_blue_fitting h_t_blue_worstLeft h_t_s0 h_t_s1 h_t_s2 h_t_s3 h_t_s0_items h_t_s1_items h_t_s2_items h_t_s3_items v_latestFinding v_turn v_phase v_up v_sform v_ssize v_sitems) (wd_X7_write cI cZ cP cS h_t h_t_red h_t_blue h_t_sky h_t_diary h_t_calendar h_t_awakeIn h_t_worths h_t_plants h_t_sheets h_t_bestFrom h_t_red_fitting h_t_red_worstLeft h_t_blue_fitting h_t_blue_worstLeft h_t_s0 h_t_s1 h_t_s2 h_t_s3 h_t_s0_items h_t_s1_items h_t_s2_items h_t_s3_items o_latestFinding v_turn v_phase v_up v_sform v_ssize o_sitems)) ([.ref h_t, .int x1, .int x2] : List Value).toArray s 0 0 (va_A (wd_X7_write cI cZ cP cS h_t h_t_red h_t_blue h_t_sky h_t_diary h_t_calendar h_t_awakeIn h_t_worths h_t_plants h_t_sheets h_t_bestFrom h_t_red_fitting h_t_red_worstLeft h_t_blue_fitting h_t_blue_worstLeft h_t_s0 h_t_s1 h_t_s2 h_t_s3 h_t_s0_items h_t_s1_items h_t_s2_items h_t_s3_items v_latestFinding v_turn v_phase v_up v_sform v_ssize v_sitems) s.heap.size)) (F0 m 37 ls []) := by
              intro k37
              induction k37 with
              | zero =>
                intro y37_4 w37_sitems H locs ls hl hP hD hS hf
                exact absurd hf (fun h => Option.some_ne_none _ h.symm)
              | succ k37 ih =>
                intro y37_4 w37_sitems H locs ls hl hP hD hS hf
                rw [L_X7_write_37q3_s] at hf
                refine lv_iload hx hb dX7_write_37 (lv_at hl 3 rfl) ?_
                refine lv_aload_n hx hb dX7_write_39 rfl (lv_at hl 2 rfl) ?_
                refine va_get (D := (dC, dI)) (ci := 3) (v := .int (v_ssize 2)) (C := RX3) (T := TX3) (N := 3) hx hb hts hinX3 hown hK hP 9 rfl rfl 1 (by decide) (hts (.fieldLink RX7 228 "SecondSunrise$Sheet" "size" "I") (by decide +kernel)) (fun _ h9 => h9) rfl dX7_write_40 ?_
                refine lv_icmp_ge (tgt := 70) hx hb dX7_write_43 (by decide) (fun c43 => ?_) (fun c43 => ?_)
                · rw [if_pos c43] at hf
                  exact hx37 w37_sitems H locs ls (lv_sub hl [2] rfl) hP hD hS hf
                · rw [if_neg c43] at hf
                  refine lv_aload_n hx hb dX7_write_46 rfl (lv_at hl 2 rfl) ?_
                  refine va_get (D := (dC, dI)) (ci := 3) (v := .ref h_t_s2_items) (C := RX3) (T := TX3) (N := 3) hx hb hts hinX3 hown hK hP 9 rfl rfl 2 (by decide) (hts (.fieldLink RX7 229 "SecondSunrise$Sheet" "items" "[I") (by decide +kernel)) (fun _ h9 => h9) rfl dX7_write_47 ?_
                  refine lv_iload hx hb dX7_write_50 (lv_at hl 3 rfl) ?_
                  refine lv_aload_n hx hb dX7_write_52 rfl (lv_at hl 0 rfl) ?_
                  refine va_get (D := (dC, dI)) (ci := 6) (v := .ref h_t_sky) (C := RX7) (T := TX7) (N := 11) hx hb hts hinX7 hown hK hP 0 rfl rfl 2 (by decide) (hts (.fieldLink RX7 26 "SecondSunrise" "sky" "LSecondSunrise$Sky;") (by decide +kernel)) (fun _ h9 => h9) rfl dX7_write_53 ?_
                  refine lv_iload_n hx hb dX7_write_56 rfl (lv_at hl 1 rfl) ?_
                  refine lv_iload hx hb dX7_write_57 (lv_at hl 3 rfl) ?_
                  refine lv_iadd hx hb dX7_write_59 ?_
                  obtain ⟨r60_30, hc_31, hf⟩ := bd1_e hf
                  refine vp_callSi (va_runV (As := [.int (x1 + y37_4)]) (rest := [.int y37_4, .ref h_t_s2_items]) ⟨hx, hb, hml, hown, hts⟩ (c_X4_lightIn l dC dI cI cZ cP cS h_t_sky h_t_red h_t_blue h_t_red_fitting h_t_red_worstLeft h_t_blue_fitting h_t_blue_worstLeft v_turn v_phase v_up (x1 + y37_4) n r60_30 hc_31) (cwV 1 hts gX7_write_X4_lightIn rfl rfl rfl (by decide +kernel) ⟨Nat.le_of_ble_eq_true rfl, Nat.le_of_ble_eq_true rfl⟩) (pv_ro (ci := 4) (q0 := 0) hK (hP.sub (ws' := (wd_X4_lightIn cI cZ cP cS h_t_sky h_t_red h_t_blue h_t_red_fitting h_t_red_worstLeft h_t_blue_fitting h_t_blue_worstLeft v_turn v_phase v_up)) [3, 1, 2] rfl) rfl rfl) rfl rfl hl.1 rfl (lv_room (Nat.le_of_ble_eq_true rfl)) dX7_write_60 ⟨Nat.zero_le _, Nat.zero_le _⟩).run (fun x e_32 => ?_)
                  rw [e_32]
                  obtain ⟨hi_33, hf⟩ := ix_e hf
                  refine va_iast hx hb hK hP hD hS 10 0 rfl rfl hi_33 dX7_write_63 (fun H locs hP hD hS => ?_)
                  have hP : va_P (dC, dI) vwCl (wd_X7_write cI cZ cP cS h_t h_t_red h_t_blue h_t_sky h_t_diary h_t_calendar h_t_awakeIn h_t_worths h_t_plants h_t_sheets h_t_bestFrom h_t_red_fitting h_t_red_worstLeft h_t_blue_fitting h_t_blue_worstLeft h_t_s0 h_t_s1 h_t_s2 h_t_s3 h_t_s0_items h_t_s1_items h_t_s2_items h_t_s3_items v_latestFinding v_turn v_phase v_up v_sform v_ssize (va_up w37_sitems 2 (upd (w37_sitems 2) y37_4.toNatClampNeg r60_30))) H := hP
                  have hD : va_D (va_A (wd_X7_write cI cZ cP cS h_t h_t_red h_t_blue h_t_sky h_t_diary h_t_calendar h_t_awakeIn h_t_worths h_t_plants h_t_sheets h_t_bestFrom h_t_red_fitting h_t_red_worstLeft h_t_blue_fitting h_t_blue_worstLeft h_t_s0 h_t_s1 h_t_s2 h_t_s3 h_t_s0_items h_t_s1_items h_t_s2_items h_t_s3_items v_latestFinding v_turn v_phase v_up v_sform v_ssize v_sitems) s.heap.size) (wd_X7_write cI cZ cP cS h_t h_t_red h_t_blue h_t_sky h_t_diary h_t_calendar h_t_awakeIn h_t_worths h_t_plants h_t_sheets h_t_bestFrom h_t_red_fitting h_t_red_worstLeft h_t_blue_fitting h_t_blue_worstLeft h_t_s0 h_t_s1 h_t_s2 h_t_s3 h_t_s0_items h_t_s1_items h_t_s2_items h_t_s3_items v_latestFinding v_turn v_phase v_up v_sform v_ssize (va_up w37_sitems 2 (upd (w37_sitems 2) y37_4.toNatClampNeg r60_30))) := hD
                  refine lv_iinc (v := (y37_4 + 1)) (lv' := [(4, .int (y37_4 + 1)), (0, .ref h_t), (1, .int x1), (3, .ref h_t_s2)]) hx hb dX7_write_64 hl (k := 3) rfl rfl (by decide) rfl (fun ls hl => ?_)
                  refine lv_goto (tgt := 37) hx hb dX7_write_67 (by decide) ?_
                  exact ih (y37_4 + 1) (va_up w37_sitems 2 (upd (w37_sitems 2) y37_4.toNatClampNeg r60_30)) H locs ls (lv_sub hl [1, 2, 3, 0] rfl) hP hD hS hf
            exact hL37 n 0 v_sitems H locs ls (lv_sub hl [2, 3, 1, 0] rfl) hP hD hS hf
          · rw [if_pos c25] at hf
            refine lv_aload_n hx hb dX7_write_28 rfl (lv_at hl 1 rfl) ?_
            refine lv_iconst (v := 1) hx hb dX7_write_29 (by decide) ?_
            obtain ⟨r30_34, o30_35, hc_36, hf⟩ := bd2_e hf
            refine rwi_call (isC := [0]) (isR := [1, 2, 3, 4, 5, 6, 7, 8, 9, 10, 11, 12]) (perm := [12, 0, 1, 2, 3, 4, 5, 6, 7, 8, 9, 10, 11]) (wr := [(h_t_red, .inr (5, [.int (v_turn 0), .int (v_phase 0), .int (v_up 0), .ref h_t_red_fitting, .ref h_t_red_worstLeft])), (h_t_blue, .inr (5, [.int (v_turn 1), .int (v_phase 1), .int (v_up 1), .ref h_t_blue_fitting, .ref h_t_blue_worstLeft])), (h_t_sky, .inr (4, [.ref h_t_red, .ref h_t_blue])), (h_t_sheets, .inl (cS, 4, .inr (.inr (.inr (.inr (ar4 h_t_s0 h_t_s1 h_t_s2 h_t_s3)))))), (h_t_s0, .inr (3, [.int (v_sform 0), .int (v_ssize 0), .ref h_t_s0_items])), (h_t_s0_items, .inl (cI, 48, .inl (v_sitems 0))), (h_t_s1, .inr (3, [.int (v_sform 1), .int (v_ssize 1), .ref h_t_s1_items])), (h_t_s1_items, .inl (cI, 48, .inl (v_sitems 1))), (h_t_s2, .inr (3, [.int (v_sform 2), .int (v_ssize 2), .ref h_t_s2_items])), (h_t_s2_items, .inl (cI, 48, .inl (v_sitems 2))), (h_t_s3, .inr (3, [.int (v_sform 3), .int (v_ssize 3), .ref h_t_s3_items])), (h_t_s3_items, .inl (cI, 48, .inl (v_sitems 3)))]) (ws2 := (wd_X7_write cI cZ cP cS h_t h_t_red h_t_blue h_t_sky h_t_diary h_t_calendar h_t_awakeIn h_t_worths h_t_plants h_t_sheets h_t_bestFrom h_t_red_fitting h_t_red_worstLeft h_t_blue_fitting h_t_blue_worstLeft h_t_s0 h_t_s1 h_t_s2 h_t_s3 h_t_s0_items h_t_s1_items h_t_s2_items h_t_s3_items o30_35 v_turn v_phase v_up v_sform v_ssize v_sitems)) (va_runV (As := [.int 1]) (rest := []) ⟨hx, hb, hml, hown, hts⟩ (c_X7_found l dC dI cI cZ cP cS H.size h_t h_t_red h_t_blue h_t_sky h_t_diary h_t_calendar h_t_awakeIn h_t_worths h_t_plants h_t_sheets h_t_bestFrom v_latestFinding 1 n r30_34 o30_35 hc_36) (cwV 1 hts gX7_write_X7_found rfl rfl rfl (by decide +kernel) ⟨Nat.le_of_ble_eq_true rfl, Nat.le_of_ble_eq_true rfl⟩) (pv_rw (ci := 6) (q0 := 0) hK (hP.sub (ws' := (wd_X7_found cI cZ cP cS h_t h_t_red h_t_blue h_t_sky h_t_diary h_t_calendar h_t_awakeIn h_t_worths h_t_plants h_t_sheets h_t_bestFrom v_latestFinding)) [0] rfl) (hD.sub (ws' := (wd_X7_found cI cZ cP cS h_t h_t_red h_t_blue h_t_sky h_t_diary h_t_calendar h_t_awakeIn h_t_worths h_t_plants h_t_sheets h_t_bestFrom v_latestFinding)) [0] (by decide) rfl) rfl rfl) rfl rfl hl.1 rfl (lv_room (Nat.le_of_ble_eq_true rfl)) dX7_write_30 ⟨Nat.zero_le _, Nat.zero_le _⟩) hS hA hP hD rfl (by decide) (by decide) rfl (by decide) rfl rfl (fun H locs hP hD hS => ?_)
            have hq0 := Option.some.inj hf
            obtain ⟨eq0, hq1⟩ := Prod.mk.inj hq0
            obtain ⟨eq1, hq2⟩ := Prod.mk.inj hq1
            clear hf hq0 hq1
            subst eq0
            subst eq1
            subst hq2
            exact W.iret hx hb hr (fun t ht hW => ⟨⟨_, (), rfl, rfl, by rw [ht]; exact hP, va_K.moved hW.alike hK, hD⟩, hS.F ht⟩) hS.2.2 dX7_write_33
        · rw [if_neg c14] at hf
          refine lv_bipush (v := (-2)) hx hb dX7_write_17 (by decide) ?_
          have hq0 := Option.some.inj hf
          obtain ⟨eq0, hq1⟩ := Prod.mk.inj hq0
          obtain ⟨eq1, hq2⟩ := Prod.mk.inj hq1
          clear hf hq0 hq1
          subst eq0
          subst eq1
          subst hq2
          exact W.iret hx hb hr (fun t ht hW => ⟨⟨_, (), rfl, rfl, by rw [ht]; exact hP, va_K.moved hW.alike hK, hD⟩, hS.F ht⟩) hS.2.2 dX7_write_19
      · rw [if_neg c2_2] at hf e_1
        by_cases c2_3 : x2 = 3
        · rw [if_pos c2_3] at hf e_1
          subst e_1
          refine W.eq (g2 := F0 m 5 ls [.ref h_t_s3]) rfl ?_
          refine lv_astore_n (lv' := [(3, .ref h_t_s3), (0, .ref h_t), (1, .int x1), (2, .int x2)]) hx hb dX7_write_5 rfl hl (by decide) rfl (fun ls hl => ?_)
          refine lv_aload_n hx hb dX7_write_6 rfl (lv_at hl 0 rfl) ?_
          refine lv_ifnull hx hb dX7_write_7 ?_
          refine lv_iload_n hx hb dX7_write_10 rfl (lv_at hl 2 rfl) ?_
          obtain ⟨r11_38, hc_39, hf⟩ := bd1_e hf
          refine vp_callSi (va_runS (As := [.int x1]) (rest := []) ⟨hx, hb, hml, hown, hts⟩ (c_X7_noHour l dC dI cI cZ cP cS   x1 n r11_38 hc_39) (va_cwS 1 hts gX7_write_X7_noHour rfl rfl rfl (by decide +kernel) ⟨Nat.le_of_ble_eq_true rfl, Nat.le_of_ble_eq_true rfl⟩) (ps_ro hK (hP.sub (ws' := ([] : va_W)) [] rfl)) rfl rfl hl.1 rfl (lv_room (Nat.le_of_ble_eq_true rfl)) dX7_write_11 ⟨Nat.zero_le _, Nat.zero_le _⟩).run (fun x e_40 => ?_)
          obtain ⟨e_40, hb_41⟩ := e_40
          rw [e_40] at hb_41 ⊢
          refine lv_if_eq (tgt := 20) hx hb dX7_write_14 (by decide) (fun c14 => ?_) (fun c14 => ?_)
          · rw [if_pos c14] at hf
            refine lv_aload_n hx hb dX7_write_20 rfl (lv_at hl 0 rfl) ?_
            refine va_get (D := (dC, dI)) (ci := 3) (v := .int (v_sform 3)) (C := RX3) (T := TX3) (N := 3) hx hb hts hinX3 hown hK hP 11 rfl rfl 0 (by decide) (hts (.fieldLink RX7 222 "SecondSunrise$Sheet" "form" "I") (by decide +kernel)) (fun _ h9 => h9) rfl dX7_write_21 ?_
            refine lv_iconst (v := (-1)) hx hb dX7_write_24 (by decide) ?_
            refine lv_icmp_ne (tgt := 34) hx hb dX7_write_25 (by decide) (fun c25 => ?_) (fun c25 => ?_)
            · rw [if_neg c25] at hf
              refine lv_iconst (v := 0) hx hb dX7_write_34 (by decide) ?_
              refine lv_istore (lv' := [(4, .int 0), (3, .ref h_t_s3), (0, .ref h_t), (1, .int x1), (2, .int x2)]) hx hb dX7_write_35 hl (by decide) rfl (fun ls hl => ?_)
              obtain ⟨kx37, ekx37, hf⟩ := jn1_e hf
              have hx37 : ∀ (u37_sitems : Nat → Nat → Int32) (H : Heap) (locs : List Loc) (ls : Array Slot), lv_has ls 5 [(3, .ref h_t_s3)] → va_P (dC, dI) vwCl (wd_X7_write cI cZ cP cS h_t h_t_red h_t_blue h_t_sky h_t_diary h_t_calendar h_t_awakeIn h_t_worths h_t_plants h_t_sheets h_t_bestFrom h_t_red_fitting h_t_red_worstLeft h_t_blue_fitting h_t_blue_worstLeft h_t_s0 h_t_s1 h_t_s2 h_t_s3 h_t_s0_items h_t_s1_items h_t_s2_items h_t_s3_items v_latestFinding v_turn v_phase v_up v_sform v_ssize u37_sitems) H → va_D (va_A (wd_X7_write cI cZ cP cS h_t h_t_red h_t_blue h_t_sky h_t_diary h_t_calendar h_t_awakeIn h_t_worths h_t_plants h_t_sheets h_t_bestFrom h_t_red_fitting h_t_red_worstLeft h_t_blue_fitting h_t_blue_worstLeft h_t_s0 h_t_s1 h_t_s2 h_t_s3 h_t_s0_items h_t_s1_items h_t_s2_items h_t_s3_items v_latestFinding v_turn v_phase v_up v_sform v_ssize v_sitems) s.heap.size) (wd_X7_write cI cZ cP cS h_t h_t_red h_t_blue h_t_sky h_t_diary h_t_calendar h_t_awakeIn h_t_worths h_t_plants h_t_sheets h_t_bestFrom h_t_red_fitting h_t_red_worstLeft h_t_blue_fitting h_t_blue_worstLeft h_t_s0 h_t_s1 h_t_s2 h_t_s3 h_t_s0_items h_t_s1_items h_t_s2_items h_t_s3_items v_latestFinding v_turn v_phase v_up v_sform v_ssize u37_sitems) → va_S (va_A (wd_X7_write cI cZ cP cS h_t h_t_red h_t_blue h_t_sky h_t_diary h_t_calendar h_t_awakeIn h_t_worths h_t_plants h_t_sheets h_t_bestFrom h_t_red_fitting h_t_red_worstLeft h_t_blue_fitting h_t_blue_worstLeft h_t_s0 h_t_s1 h_t_s2 h_t_s3 h_t_s0_items h_t_s1_items h_t_s2_items h_t_s3_items v_latestFinding v_turn v_phase v_up v_sform v_ssize v_sitems) s.heap.size) s.heap H locs → kx37 u37_sitems = some (r, o_latestFinding, o_sitems) → W p l e (headSpec wsX7_write rm_X7_write).room s m ([.ref h_t, .int x1, .int x2] : List Value).toArray below meth c H locs 0 0 (MQ below (RWi (dC, dI) (TY cI cZ cP cS) r s.heap.size (wd_X7_write cI cZ cP cS h_t h_t_red h_t_blue h_t_sky h_t_diary h_t_calendar h_t_awakeIn h_t_worths h_t_plants h_t_sheets h_t_bestFrom h_t_red_fitting h_t_red_worstLeft h_t_blue_fitting h_t_blue_worstLeft h_t_s0 h_t_s1 h_t_s2 h_t_s3 h_t_s0_items h_t_s1_items h_t_s2_items h_t_s3_items v_latestFinding v_turn v_phase v_up v_sform v_ssize v_sitems) (wd_X7_write cI cZ cP cS h_t h_t_red h_t_blue h_t_sky h_t_diary h_t_calendar h_t_awakeIn h_t_worths h_t_plants h_t_sheets h_t_bestFrom h_t_red_fitting h_t_red_worstLeft h_t_blue_fitting h_t_blue_worstLeft h_t_s0 h_t_s1 h_t_s2 h_t_s3 h_t_s0_items h_t_s1_items h_t_s2_items h_t_s3_items o_latestFinding v_turn v_phase v_up v_sform v_ssize o_sitems)) ([.ref h_t, .int x1, .int x2] : List Value).toArray s 0 0 (va_A (wd_X7_write cI cZ cP cS h_t h_t_red h_t_blue h_t_sky h_t_diary h_t_calendar h_t_awakeIn h_t_worths h_t_plants h_t_sheets h_t_bestFrom h_t_red_fitting h_t_red_worstLeft h_t_blue_fitting h_t_blue_worstLeft h_t_s0 h_t_s1 h_t_s2 h_t_s3 h_t_s0_items h_t_s1_items h_t_s2_items h_t_s3_items v_latestFinding v_turn v_phase v_up v_sform v_ssize v_sitems) s.heap.size)) (F0 m 70 ls []) := by
                intro u37_sitems H locs ls hl hP hD hS hf
                rw [ekx37] at hf
                refine lv_aload_n hx hb dX7_write_70 rfl (lv_at hl 0 rfl) ?_
                refine va_get (D := (dC, dI)) (ci := 3) (v := .int (v_ssize 3)) (C := RX3) (T := TX3) (N := 3) hx hb hts hinX3 hown hK hP 11 rfl rfl 1 (by decide) (hts (.fieldLink RX7 228 "SecondSunrise$Sheet" "size" "I") (by decide +kernel)) (fun _ h9 => h9) rfl dX7_write_71 ?_
                have hq0 := Option.some.inj hf
                obtain ⟨eq0, hq1⟩ := Prod.mk.inj hq0
                obtain ⟨eq1, hq2⟩ := Prod.mk.inj hq1
                clear hf hq0 hq1
                subst eq0
                subst eq1
                subst hq2
                exact W.iret hx hb hr (fun t ht hW => ⟨⟨_, (), rfl, rfl, by rw [ht]; exact hP, va_K.moved hW.alike hK, hD⟩, hS.F ht⟩) hS.2.2 dX7_write_74
              have hL37 : ∀ (k37 : Nat) (y37_4 : Int32) (w37_sitems : Nat → Nat → Int32) (H : Heap) (locs : List Loc) (ls : Array Slot), lv_has ls 5 [(0, .ref h_t), (1, .int x1), (3, .ref h_t_s3), (4, .int y37_4)] → va_P (dC, dI) vwCl (wd_X7_write cI cZ cP cS h_t h_t_red h_t_blue h_t_sky h_t_diary h_t_calendar h_t_awakeIn h_t_worths h_t_plants h_t_sheets h_t_bestFrom h_t_red_fitting h_t_red_worstLeft h_t_blue_fitting h_t_blue_worstLeft h_t_s0 h_t_s1 h_t_s2 h_t_s3 h_t_s0_items h_t_s1_items h_t_s2_items h_t_s3_items v_latestFinding v_turn v_phase v_up v_sform v_ssize w37_sitems) H → va_D (va_A (wd_X7_write cI cZ cP cS h_t h_t_red h_t_blue h_t_sky h_t_diary h_t_calendar h_t_awakeIn h_t_worths h_t_plants h_t_sheets h_t_bestFrom h_t_red_fitting h_t_red_worstLeft h_t_blue_fitting h_t_blue_worstLeft h_t_s0 h_t_s1 h_t_s2 h_t_s3 h_t_s0_items h_t_s1_items h_t_s2_items h_t_s3_items v_latestFinding v_turn v_phase v_up v_sform v_ssize v_sitems) s.heap.size) (wd_X7_write cI cZ cP cS h_t h_t_red h_t_blue h_t_sky h_t_diary h_t_calendar h_t_awakeIn h_t_worths h_t_plants h_t_sheets h_t_bestFrom h_t_red_fitting h_t_red_worstLeft h_t_blue_fitting h_t_blue_worstLeft h_t_s0 h_t_s1 h_t_s2 h_t_s3 h_t_s0_items h_t_s1_items h_t_s2_items h_t_s3_items v_latestFinding v_turn v_phase v_up v_sform v_ssize w37_sitems) → va_S (va_A (wd_X7_write cI cZ cP cS h_t h_t_red h_t_blue h_t_sky h_t_diary h_t_calendar h_t_awakeIn h_t_worths h_t_plants h_t_sheets h_t_bestFrom h_t_red_fitting h_t_red_worstLeft h_t_blue_fitting h_t_blue_worstLeft h_t_s0 h_t_s1 h_t_s2 h_t_s3 h_t_s0_items h_t_s1_items h_t_s2_items h_t_s3_items v_latestFinding v_turn v_phase v_up v_sform v_ssize v_sitems) s.heap.size) s.heap H locs → L_X7_write_37q4 n v_turn v_phase v_up v_ssize x1 kx37 k37 y37_4 w37_sitems = some (r, o_latestFinding, o_sitems) → W p l e (headSpec wsX7_write rm_X7_write).room s m ([.ref h_t, .int x1, .int x2] : List Value).toArray below meth c H locs 0 0 (MQ below (RWi (dC, dI) (TY cI cZ cP cS) r s.heap.size (wd_X7_write cI cZ cP cS h_t h_t_red h_t_blue h_t_sky h_t_diary h_t_calendar h_t_awakeIn h_t_worths h_t_plants h_t_sheets h_t_bestFrom h_t_red_fitting h_t_red_worstLeft h_t_blue_fitting h_t_blue_worstLeft h_t_s0 h_t_s1 h_t_s2 h_t_s3 h_t_s0_items h_t_s1_items h_t_s2_items h_t_s3_items v_latestFinding v_turn v_phase v_up v_sform v_ssize v_sitems) (wd_X7_write cI cZ cP cS h_t h_t_red h_t_blue h_t_sky h_t_diary h_t_calendar h_t_awakeIn h_t_worths h_t_plants h_t_sheets h_t_bestFrom h_t_red_fitting h_t_red_worstLeft h_t_blue_fitting h_t_blue_worstLeft h_t_s0 h_t_s1 h_t_s2 h_t_s3 h_t_s0_items h_t_s1_items h_t_s2_items h_t_s3_items o_latestFinding v_turn v_phase v_up v_sform v_ssize o_sitems)) ([.ref h_t, .int x1, .int x2] : List Value).toArray s 0 0 (va_A (wd_X7_write cI cZ cP cS h_t h_t_red h_t_blue h_t_sky h_t_diary h_t_calendar h_t_awakeIn h_t_worths h_t_plants h_t_sheets h_t_bestFrom h_t_red_fitting h_t_red_worstLeft h_t_blue_fitting h_t_blue_worstLeft h_t_s0 h_t_s1 h_t_s2 h_t_s3 h_t_s0_items h_t_s1_items h_t_s2_items h_t_s3_items v_latestFinding v_turn v_phase v_up v_sform v_ssize v_sitems) s.heap.size)) (F0 m 37 ls []) := by
                intro k37
                induction k37 with
                | zero =>
                  intro y37_4 w37_sitems H locs ls hl hP hD hS hf
                  exact absurd hf (fun h => Option.some_ne_none _ h.symm)
                | succ k37 ih =>
                  intro y37_4 w37_sitems H locs ls hl hP hD hS hf
                  rw [L_X7_write_37q4_s] at hf
                  refine lv_iload hx hb dX7_write_37 (lv_at hl 3 rfl) ?_
                  refine lv_aload_n hx hb dX7_write_39 rfl (lv_at hl 2 rfl) ?_
                  refine va_get (D := (dC, dI)) (ci := 3) (v := .int (v_ssize 3)) (C := RX3) (T := TX3) (N := 3) hx hb hts hinX3 hown hK hP 11 rfl rfl 1 (by decide) (hts (.fieldLink RX7 228 "SecondSunrise$Sheet" "size" "I") (by decide +kernel)) (fun _ h9 => h9) rfl dX7_write_40 ?_
                  refine lv_icmp_ge (tgt := 70) hx hb dX7_write_43 (by decide) (fun c43 => ?_) (fun c43 => ?_)
                  · rw [if_pos c43] at hf
                    exact hx37 w37_sitems H locs ls (lv_sub hl [2] rfl) hP hD hS hf
                  · rw [if_neg c43] at hf
                    refine lv_aload_n hx hb dX7_write_46 rfl (lv_at hl 2 rfl) ?_
                    refine va_get (D := (dC, dI)) (ci := 3) (v := .ref h_t_s3_items) (C := RX3) (T := TX3) (N := 3) hx hb hts hinX3 hown hK hP 11 rfl rfl 2 (by decide) (hts (.fieldLink RX7 229 "SecondSunrise$Sheet" "items" "[I") (by decide +kernel)) (fun _ h9 => h9) rfl dX7_write_47 ?_
                    refine lv_iload hx hb dX7_write_50 (lv_at hl 3 rfl) ?_
                    refine lv_aload_n hx hb dX7_write_52 rfl (lv_at hl 0 rfl) ?_
                    refine va_get (D := (dC, dI)) (ci := 6) (v := .ref h_t_sky) (C := RX7) (T := TX7) (N := 11) hx hb hts hinX7 hown hK hP 0 rfl rfl 2 (by decide) (hts (.fieldLink RX7 26 "SecondSunrise" "sky" "LSecondSunrise$Sky;") (by decide +kernel)) (fun _ h9 => h9) rfl dX7_write_53 ?_
                    refine lv_iload_n hx hb dX7_write_56 rfl (lv_at hl 1 rfl) ?_
                    refine lv_iload hx hb dX7_write_57 (lv_at hl 3 rfl) ?_
                    refine lv_iadd hx hb dX7_write_59 ?_
                    obtain ⟨r60_42, hc_43, hf⟩ := bd1_e hf
                    refine vp_callSi (va_runV (As := [.int (x1 + y37_4)]) (rest := [.int y37_4, .ref h_t_s3_items]) ⟨hx, hb, hml, hown, hts⟩ (c_X4_lightIn l dC dI cI cZ cP cS h_t_sky h_t_red h_t_blue h_t_red_fitting h_t_red_worstLeft h_t_blue_fitting h_t_blue_worstLeft v_turn v_phase v_up (x1 + y37_4) n r60_42 hc_43) (cwV 1 hts gX7_write_X4_lightIn rfl rfl rfl (by decide +kernel) ⟨Nat.le_of_ble_eq_true rfl, Nat.le_of_ble_eq_true rfl⟩) (pv_ro (ci := 4) (q0 := 0) hK (hP.sub (ws' := (wd_X4_lightIn cI cZ cP cS h_t_sky h_t_red h_t_blue h_t_red_fitting h_t_red_worstLeft h_t_blue_fitting h_t_blue_worstLeft v_turn v_phase v_up)) [3, 1, 2] rfl) rfl rfl) rfl rfl hl.1 rfl (lv_room (Nat.le_of_ble_eq_true rfl)) dX7_write_60 ⟨Nat.zero_le _, Nat.zero_le _⟩).run (fun x e_44 => ?_)
                    rw [e_44]
                    obtain ⟨hi_45, hf⟩ := ix_e hf
                    refine va_iast hx hb hK hP hD hS 12 0 rfl rfl hi_45 dX7_write_63 (fun H locs hP hD hS => ?_)
                    have hP : va_P (dC, dI) vwCl (wd_X7_write cI cZ cP cS h_t h_t_red h_t_blue h_t_sky h_t_diary h_t_calendar h_t_awakeIn h_t_worths h_t_plants h_t_sheets h_t_bestFrom h_t_red_fitting h_t_red_worstLeft h_t_blue_fitting h_t_blue_worstLeft h_t_s0 h_t_s1 h_t_s2 h_t_s3 h_t_s0_items h_t_s1_items h_t_s2_items h_t_s3_items v_latestFinding v_turn v_phase v_up v_sform v_ssize (va_up w37_sitems 3 (upd (w37_sitems 3) y37_4.toNatClampNeg r60_42))) H := hP
                    have hD : va_D (va_A (wd_X7_write cI cZ cP cS h_t h_t_red h_t_blue h_t_sky h_t_diary h_t_calendar h_t_awakeIn h_t_worths h_t_plants h_t_sheets h_t_bestFrom h_t_red_fitting h_t_red_worstLeft h_t_blue_fitting h_t_blue_worstLeft h_t_s0 h_t_s1 h_t_s2 h_t_s3 h_t_s0_items h_t_s1_items h_t_s2_items h_t_s3_items v_latestFinding v_turn v_phase v_up v_sform v_ssize v_sitems) s.heap.size) (wd_X7_write cI cZ cP cS h_t h_t_red h_t_blue h_t_sky h_t_diary h_t_calendar h_t_awakeIn h_t_worths h_t_plants h_t_sheets h_t_bestFrom h_t_red_fitting h_t_red_worstLeft h_t_blue_fitting h_t_blue_worstLeft h_t_s0 h_t_s1 h_t_s2 h_t_s3 h_t_s0_items h_t_s1_items h_t_s2_items h_t_s3_items v_latestFinding v_turn v_phase v_up v_sform v_ssize (va_up w37_sitems 3 (upd (w37_sitems 3) y37_4.toNatClampNeg r60_42))) := hD
                    refine lv_iinc (v := (y37_4 + 1)) (lv' := [(4, .int (y37_4 + 1)), (0, .ref h_t), (1, .int x1), (3, .ref h_t_s3)]) hx hb dX7_write_64 hl (k := 3) rfl rfl (by decide) rfl (fun ls hl => ?_)
                    refine lv_goto (tgt := 37) hx hb dX7_write_67 (by decide) ?_
                    exact ih (y37_4 + 1) (va_up w37_sitems 3 (upd (w37_sitems 3) y37_4.toNatClampNeg r60_42)) H locs ls (lv_sub hl [1, 2, 3, 0] rfl) hP hD hS hf
              exact hL37 n 0 v_sitems H locs ls (lv_sub hl [2, 3, 1, 0] rfl) hP hD hS hf
            · rw [if_pos c25] at hf
              refine lv_aload_n hx hb dX7_write_28 rfl (lv_at hl 1 rfl) ?_
              refine lv_iconst (v := 1) hx hb dX7_write_29 (by decide) ?_
              obtain ⟨r30_46, o30_47, hc_48, hf⟩ := bd2_e hf
              refine rwi_call (isC := [0]) (isR := [1, 2, 3, 4, 5, 6, 7, 8, 9, 10, 11, 12]) (perm := [12, 0, 1, 2, 3, 4, 5, 6, 7, 8, 9, 10, 11]) (wr := [(h_t_red, .inr (5, [.int (v_turn 0), .int (v_phase 0), .int (v_up 0), .ref h_t_red_fitting, .ref h_t_red_worstLeft])), (h_t_blue, .inr (5, [.int (v_turn 1), .int (v_phase 1), .int (v_up 1), .ref h_t_blue_fitting, .ref h_t_blue_worstLeft])), (h_t_sky, .inr (4, [.ref h_t_red, .ref h_t_blue])), (h_t_sheets, .inl (cS, 4, .inr (.inr (.inr (.inr (ar4 h_t_s0 h_t_s1 h_t_s2 h_t_s3)))))), (h_t_s0, .inr (3, [.int (v_sform 0), .int (v_ssize 0), .ref h_t_s0_items])), (h_t_s0_items, .inl (cI, 48, .inl (v_sitems 0))), (h_t_s1, .inr (3, [.int (v_sform 1), .int (v_ssize 1), .ref h_t_s1_items])), (h_t_s1_items, .inl (cI, 48, .inl (v_sitems 1))), (h_t_s2, .inr (3, [.int (v_sform 2), .int (v_ssize 2), .ref h_t_s2_items])), (h_t_s2_items, .inl (cI, 48, .inl (v_sitems 2))), (h_t_s3, .inr (3, [.int (v_sform 3), .int (v_ssize 3), .ref h_t_s3_items])), (h_t_s3_items, .inl (cI, 48, .inl (v_sitems 3)))]) (ws2 := (wd_X7_write cI cZ cP cS h_t h_t_red h_t_blue h_t_sky h_t_diary h_t_calendar h_t_awakeIn h_t_worths h_t_plants h_t_sheets h_t_bestFrom h_t_red_fitting h_t_red_worstLeft h_t_blue_fitting h_t_blue_worstLeft h_t_s0 h_t_s1 h_t_s2 h_t_s3 h_t_s0_items h_t_s1_items h_t_s2_items h_t_s3_items o30_47 v_turn v_phase v_up v_sform v_ssize v_sitems)) (va_runV (As := [.int 1]) (rest := []) ⟨hx, hb, hml, hown, hts⟩ (c_X7_found l dC dI cI cZ cP cS H.size h_t h_t_red h_t_blue h_t_sky h_t_diary h_t_calendar h_t_awakeIn h_t_worths h_t_plants h_t_sheets h_t_bestFrom v_latestFinding 1 n r30_46 o30_47 hc_48) (cwV 1 hts gX7_write_X7_found rfl rfl rfl (by decide +kernel) ⟨Nat.le_of_ble_eq_true rfl, Nat.le_of_ble_eq_true rfl⟩) (pv_rw (ci := 6) (q0 := 0) hK (hP.sub (ws' := (wd_X7_found cI cZ cP cS h_t h_t_red h_t_blue h_t_sky h_t_diary h_t_calendar h_t_awakeIn h_t_worths h_t_plants h_t_sheets h_t_bestFrom v_latestFinding)) [0] rfl) (hD.sub (ws' := (wd_X7_found cI cZ cP cS h_t h_t_red h_t_blue h_t_sky h_t_diary h_t_calendar h_t_awakeIn h_t_worths h_t_plants h_t_sheets h_t_bestFrom v_latestFinding)) [0] (by decide) rfl) rfl rfl) rfl rfl hl.1 rfl (lv_room (Nat.le_of_ble_eq_true rfl)) dX7_write_30 ⟨Nat.zero_le _, Nat.zero_le _⟩) hS hA hP hD rfl (by decide) (by decide) rfl (by decide) rfl rfl (fun H locs hP hD hS => ?_)
              have hq0 := Option.some.inj hf
              obtain ⟨eq0, hq1⟩ := Prod.mk.inj hq0
              obtain ⟨eq1, hq2⟩ := Prod.mk.inj hq1
              clear hf hq0 hq1
              subst eq0
              subst eq1
              subst hq2
              exact W.iret hx hb hr (fun t ht hW => ⟨⟨_, (), rfl, rfl, by rw [ht]; exact hP, va_K.moved hW.alike hK, hD⟩, hS.F ht⟩) hS.2.2 dX7_write_33
          · rw [if_neg c14] at hf
            refine lv_bipush (v := (-2)) hx hb dX7_write_17 (by decide) ?_
            have hq0 := Option.some.inj hf
            obtain ⟨eq0, hq1⟩ := Prod.mk.inj hq0
            obtain ⟨eq1, hq2⟩ := Prod.mk.inj hq1
            clear hf hq0 hq1
            subst eq0
            subst eq1
            subst hq2
            exact W.iret hx hb hr (fun t ht hW => ⟨⟨_, (), rfl, rfl, by rw [ht]; exact hP, va_K.moved hW.alike hK, hD⟩, hS.F ht⟩) hS.2.2 dX7_write_19
        · rw [if_neg c2_3] at hf e_1
          subst e_1
          refine W.eq (g2 := F0 m 5 ls [.null]) rfl ?_
          refine lv_astore_nN (lv' := [(3, .null), (0, .ref h_t), (1, .int x1), (2, .int x2)]) hx hb dX7_write_5 rfl hl (by decide) rfl (fun ls hl => ?_)
          refine lv_aload_nN hx hb dX7_write_6 rfl (lv_at hl 0 rfl) ?_
          refine lv_ifnullN (tgt := 17) hx hb dX7_write_7 (by decide) ?_
          refine lv_bipush (v := (-2)) hx hb dX7_write_17 (by decide) ?_
          have hq0 := Option.some.inj hf
          obtain ⟨eq0, hq1⟩ := Prod.mk.inj hq0
          obtain ⟨eq1, hq2⟩ := Prod.mk.inj hq1
          clear hf hq0 hq1
          subst eq0
          subst eq1
          subst hq2
          exact W.iret hx hb hr (fun t ht hW => ⟨⟨_, (), rfl, rfl, by rw [ht]; exact hP, va_K.moved hW.alike hK, hD⟩, hS.F ht⟩) hS.2.2 dX7_write_19
