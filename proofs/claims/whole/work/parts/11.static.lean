set_option maxHeartbeats 4000000 in
set_option maxRecDepth 100000 in
theorem gc_SP_isWithin (l : Launch) (D : va_G) (cI cZ cC cG : ClassId) (x lo hi : Int32) : ga_Mr l y_SP_isWithin b_SP_isWithin 3 (some .boolean) 0 D (ga_T cI cZ cC cG) [.int x, .int lo, .int hi] [] (fun r => (r = 1 ∧ (lo ≤ x ∧ x ≤ hi)) ∨ (r = 0 ∧ ¬ (lo ≤ x ∧ x ≤ hi))) := by
  refine ga_enR (by decide) (Nat.le_of_ble_eq_true rfl) ?_
  intro p e s m below meth c ls S hrt hlk hK hP hl
  obtain ⟨hx, hb, hml, hown, hts⟩ := id S
  have hl : lv_has ls 3 [(0, .int x), (1, .int lo), (2, .int hi)] := hl
  refine lv_iload_n hx hb d_SP_isWithin_0 rfl (lv_at hl 0 rfl) ?_
  refine lv_iload_n hx hb d_SP_isWithin_1 rfl (lv_at hl 1 rfl) ?_
  refine lv_icmp_lt (tgt := 14) hx hb d_SP_isWithin_2 (by decide) (fun c2 => ?_) (fun c2 => ?_)
  · refine lv_iconst (v := 0) hx hb d_SP_isWithin_14 (by decide) ?_
    exact ga_rz S hrt hlk (Or.inl rfl) (Or.inr ⟨rfl, fun q => by first | exact absurd q.1 (Int32.not_le.mpr c2) | exact absurd q.2 (Int32.not_le.mpr c7)⟩) d_SP_isWithin_15
  · refine lv_iload_n hx hb d_SP_isWithin_5 rfl (lv_at hl 0 rfl) ?_
    refine lv_iload_n hx hb d_SP_isWithin_6 rfl (lv_at hl 2 rfl) ?_
    refine lv_icmp_gt (tgt := 14) hx hb d_SP_isWithin_7 (by decide) (fun c7 => ?_) (fun c7 => ?_)
    · refine lv_iconst (v := 0) hx hb d_SP_isWithin_14 (by decide) ?_
      exact ga_rz S hrt hlk (Or.inl rfl) (Or.inr ⟨rfl, fun q => by first | exact absurd q.1 (Int32.not_le.mpr c2) | exact absurd q.2 (Int32.not_le.mpr c7)⟩) d_SP_isWithin_15
    · refine lv_iconst (v := 1) hx hb d_SP_isWithin_10 (by decide) ?_
      refine lv_goto (tgt := 15) hx hb d_SP_isWithin_11 (by decide) ?_
      exact ga_rz S hrt hlk (Or.inr rfl) (Or.inl ⟨rfl, Int32.not_lt.mp c2, Int32.not_lt.mp c7⟩) d_SP_isWithin_15
set_option maxHeartbeats 4000000 in
set_option maxRecDepth 100000 in
theorem gc_SP_isTarget (l : Launch) (D : va_G) (cI cZ cC cG : ClassId) (x : Int32) : ga_Mr l y_SP_isTarget b_SP_isTarget 1 (some .boolean) 1 D (ga_T cI cZ cC cG) [.int x] [] (fun r => (r = 1 ∧ (1 ≤ x ∧ x ≤ 40)) ∨ (r = 0 ∧ ¬ (1 ≤ x ∧ x ≤ 40))) := by
  refine ga_enR (by decide) (Nat.le_of_ble_eq_true rfl) ?_
  intro p e s m below meth c ls S hrt hlk hK hP hl
  obtain ⟨hx, hb, hml, hown, hts⟩ := id S
  have hl : lv_has ls 1 [(0, .int x)] := hl
  refine lv_iload_n hx hb d_SP_isTarget_0 rfl (lv_at hl 0 rfl) ?_
  refine lv_iconst (v := 1) hx hb d_SP_isTarget_1 (by decide) ?_
  refine lv_bipush (v := 40) hx hb d_SP_isTarget_2 (by decide) ?_
  refine ga_cs (As := [.int x, .int 1, .int 40]) (rest := []) S hK hP s_SP_73 (gc_SP_isWithin l D cI cZ cC cG x 1 40) [] rfl rfl hl.1 rfl (Nat.le_of_ble_eq_true rfl) ⟨Nat.le_of_ble_eq_true rfl, Nat.le_of_ble_eq_true rfl⟩ ⟨Nat.le_of_ble_eq_true rfl, Nat.le_of_ble_eq_true rfl⟩ d_SP_isTarget_4 (fun r hp4 => ?_)
  rcases hp4 with ⟨rfl, hp4⟩ | ⟨rfl, hp4⟩
  · exact ga_rz S hrt hlk (Or.inr rfl) (Or.inl ⟨rfl, hp4⟩) d_SP_isTarget_7
  · exact ga_rz S hrt hlk (Or.inl rfl) (Or.inr ⟨rfl, hp4⟩) d_SP_isTarget_7
set_option maxHeartbeats 4000000 in
set_option maxRecDepth 100000 in
theorem gc_SP_isBin (l : Launch) (D : va_G) (cI cZ cC cG : ClassId) (x : Int32) : ga_Mr l y_SP_isBin b_SP_isBin 1 (some .boolean) 1 D (ga_T cI cZ cC cG) [.int x] [] (fun r => (r = 1 ∧ (1 ≤ x ∧ x ≤ 60)) ∨ (r = 0 ∧ ¬ (1 ≤ x ∧ x ≤ 60))) := by
  refine ga_enR (by decide) (Nat.le_of_ble_eq_true rfl) ?_
  intro p e s m below meth c ls S hrt hlk hK hP hl
  obtain ⟨hx, hb, hml, hown, hts⟩ := id S
  have hl : lv_has ls 1 [(0, .int x)] := hl
  refine lv_iload_n hx hb d_SP_isBin_0 rfl (lv_at hl 0 rfl) ?_
  refine lv_iconst (v := 1) hx hb d_SP_isBin_1 (by decide) ?_
  refine lv_bipush (v := 60) hx hb d_SP_isBin_2 (by decide) ?_
  refine ga_cs (As := [.int x, .int 1, .int 60]) (rest := []) S hK hP s_SP_73 (gc_SP_isWithin l D cI cZ cC cG x 1 60) [] rfl rfl hl.1 rfl (Nat.le_of_ble_eq_true rfl) ⟨Nat.le_of_ble_eq_true rfl, Nat.le_of_ble_eq_true rfl⟩ ⟨Nat.le_of_ble_eq_true rfl, Nat.le_of_ble_eq_true rfl⟩ d_SP_isBin_4 (fun r hp4 => ?_)
  rcases hp4 with ⟨rfl, hp4⟩ | ⟨rfl, hp4⟩
  · exact ga_rz S hrt hlk (Or.inr rfl) (Or.inl ⟨rfl, hp4⟩) d_SP_isBin_7
  · exact ga_rz S hrt hlk (Or.inl rfl) (Or.inr ⟨rfl, hp4⟩) d_SP_isBin_7
set_option maxHeartbeats 4000000 in
set_option maxRecDepth 100000 in
theorem gc_SP_slot (l : Launch) (D : va_G) (cI cZ cC cG : ClassId) (t pa sh : Nat) (ht : 1 ≤ t) : ga_Mr l y_SP_slot b_SP_slot 3 (some .int) 0 D (ga_T cI cZ cC cG) [.int (nI t), .int (nI pa), .int (nI sh)] [] (fun r => r = nI (gp_sl t pa sh)) := by
  refine ga_enR (by decide) (Nat.le_of_ble_eq_true rfl) ?_
  intro p e s m below meth c ls S hrt hlk hK hP hl
  obtain ⟨hx, hb, hml, hown, hts⟩ := id S
  have hl : lv_has ls 3 [(0, .int (nI t)), (1, .int (nI pa)), (2, .int (nI sh))] := hl
  refine lv_iload_n hx hb d_SP_slot_0 rfl (lv_at hl 0 rfl) ?_
  refine lv_iconst (v := 1) hx hb d_SP_slot_1 (by decide) ?_
  refine lv_isub hx hb d_SP_slot_2 ?_
  refine ga_top (nI (t - 1)) (pk_sub (a := t) (b := 1) (by omega)) ?_
  refine lv_iconst (v := 3) hx hb d_SP_slot_3 (by decide) ?_
  refine lv_imul hx hb d_SP_slot_4 ?_
  refine ga_top (nI ((t - 1) * 3)) (pk_mul (t - 1) 3) ?_
  refine lv_iload_n hx hb d_SP_slot_5 rfl (lv_at hl 2 rfl) ?_
  refine lv_iadd hx hb d_SP_slot_6 ?_
  refine ga_top (nI (((t - 1) * 3) + sh)) (nI_add ((t - 1) * 3) sh) ?_
  refine lv_iconst (v := 4) hx hb d_SP_slot_7 (by decide) ?_
  refine lv_imul hx hb d_SP_slot_8 ?_
  refine ga_top (nI ((((t - 1) * 3) + sh) * 4)) (pk_mul (((t - 1) * 3) + sh) 4) ?_
  refine lv_iload_n hx hb d_SP_slot_9 rfl (lv_at hl 1 rfl) ?_
  refine lv_iadd hx hb d_SP_slot_10 ?_
  refine ga_top (nI (((((t - 1) * 3) + sh) * 4) + pa)) (nI_add ((((t - 1) * 3) + sh) * 4) pa) ?_
  exact ga_ri S hrt hlk rfl d_SP_slot_11
set_option maxHeartbeats 4000000 in
set_option maxRecDepth 100000 in
theorem gc_Re_isFigure (l : Launch) (D : va_G) (cI cZ cC cG : ClassId) (x : Nat) (hx31 : x < 2 ^ 31) : ga_Mr l y_Re_isFigure b_Re_isFigure 1 (some .boolean) 1 D (ga_T cI cZ cC cG) [.int (nI x)] [] (fun r => (r = 1 ∧ (48 ≤ x ∧ x ≤ 57)) ∨ (r = 0 ∧ ¬ (48 ≤ x ∧ x ≤ 57))) := by
  refine ga_enR (by decide) (Nat.le_of_ble_eq_true rfl) ?_
  intro p e s m below meth c ls S hrt hlk hK hP hl
  obtain ⟨hx, hb, hml, hown, hts⟩ := id S
  have hl : lv_has ls 1 [(0, .int (nI x))] := hl
  refine lv_iload_n hx hb d_Re_isFigure_0 rfl (lv_at hl 0 rfl) ?_
  refine lv_bipush (v := 48) hx hb d_Re_isFigure_1 (by decide) ?_
  refine lv_bipush (v := 57) hx hb d_Re_isFigure_3 (by decide) ?_
  refine ga_cs (As := [.int (nI x), .int 48, .int 57]) (rest := []) S hK hP s_Re_90 (gc_SP_isWithin l D cI cZ cC cG (nI x) 48 57) [] rfl rfl hl.1 rfl (Nat.le_of_ble_eq_true rfl) ⟨Nat.le_of_ble_eq_true rfl, Nat.le_of_ble_eq_true rfl⟩ ⟨Nat.le_of_ble_eq_true rfl, Nat.le_of_ble_eq_true rfl⟩ d_Re_isFigure_5 (fun r hp5 => ?_)
  rcases hp5 with ⟨rfl, hp5⟩ | ⟨rfl, hp5⟩
  · have hp5 : 48 ≤ x ∧ x ≤ 57 := ⟨(nI_leI (a := 48) (b := x) (by omega) (by omega)).mp hp5.1, (nI_leI (a := x) (b := 57) (by omega) (by omega)).mp hp5.2⟩
    exact ga_rz S hrt hlk (Or.inr rfl) (Or.inl ⟨rfl, hp5⟩) d_Re_isFigure_8
  · have hp5 : ¬ (48 ≤ x ∧ x ≤ 57) := fun q => hp5 ⟨(nI_leI (a := 48) (b := x) (by omega) (by omega)).mpr q.1, (nI_leI (a := x) (b := 57) (by omega) (by omega)).mpr q.2⟩
    exact ga_rz S hrt hlk (Or.inl rfl) (Or.inr ⟨rfl, hp5⟩) d_Re_isFigure_8
