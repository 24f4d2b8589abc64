set_option maxHeartbeats 4000000 in
set_option maxRecDepth 100000 in
theorem gc_Fa_findHoles (l : Launch) (D : va_G) (cI cZ cC cG : ClassId) (fa fo k : Nat) (told : Nat → Nat) (pl q1 q2 q3 q4 q5 q6 q7 q8 q9 : Nat) (rg sh pa : Nat) (hsh : sh < 3) (hpa : pa < 4) (bn : Nat → Nat) (us : Nat → Bool) (hbn : ∀ j, bn j ≤ 60) (hk : k < 2 ^ 29) : ga_Mv l y_Fa_findHoles b_Fa_findHoles 5 1 0 0 D (ga_T cI cZ cC cG) [.ref fa, .ref pl, .int (nI sh), .int (nI pa)] [(fa, .inr (0, [.ref fo, .int (nI k)])), (fo, .inl (cI, 500, .inl (nA told))), (pl, .inr (1, [.ref q1, .ref q2, .ref q3, .ref q4, .ref q5, .ref q6, .ref q7, .ref q8, .ref q9, .int (nI rg)])), (q1, .inl (cI, 480, .inl (nA bn))), (q3, .inl (cZ, 41, .inl (zA us)))] (fun (x : gp_F) => [(fa, .inr (0, [.ref fo, .int (nI x.2)])), (fo, .inl (cI, 500, .inl (nA x.1))), (pl, .inr (1, [.ref q1, .ref q2, .ref q3, .ref q4, .ref q5, .ref q6, .ref q7, .ref q8, .ref q9, .int (nI rg)])), (q1, .inl (cI, 480, .inl (nA bn))), (q3, .inl (cZ, 41, .inl (zA us)))]) (fun x => x = gp_hl us bn sh pa (told, k) 40) := by
  refine ga_enV (by decide) (Nat.le_of_ble_eq_true rfl) ?_
  intro p e s m below meth c ls A S hrt hlk hnm hK hP hD hA hl
  have hS : va_S A s.heap s.heap [] := va_S.rf
  obtain ⟨hx, hb, hml, hown, hts⟩ := id S
  have hl : lv_has ls 5 [(0, .ref fa), (1, .ref pl), (2, .int (nI sh)), (3, .int (nI pa))] := hl
  refine lv_iconst (v := 1) hx hb d_Fa_findHoles_0 (by decide) ?_
  refine lv_istore (lv' := [(4, .int 1), (0, .ref fa), (1, .ref pl), (2, .int (nI sh)), (3, .int (nI pa))]) hx hb d_Fa_findHoles_1 hl (by decide) rfl (fun ls hl => ?_)
  refine ga_loop (α := Nat × (Nat → Nat) × Nat) (fun x => match x with | (t, td, kk) => 41 - t) (fun x ls H locs => match x with | (t, td, kk) => lv_has ls 5 [(4, .int (nI t)), (0, .ref fa), (1, .ref pl), (2, .int (nI sh)), (3, .int (nI pa))] ∧ va_P D vwCl [(fa, .inr (0, [.ref fo, .int (nI kk)])), (fo, .inl (cI, 500, .inl (nA td))), (pl, .inr (1, [.ref q1, .ref q2, .ref q3, .ref q4, .ref q5, .ref q6, .ref q7, .ref q8, .ref q9, .int (nI rg)])), (q1, .inl (cI, 480, .inl (nA bn))), (q3, .inl (cZ, 41, .inl (zA us)))] H ∧ va_D A [(fa, .inr (0, [.ref fo, .int (nI kk)])), (fo, .inl (cI, 500, .inl (nA td))), (pl, .inr (1, [.ref q1, .ref q2, .ref q3, .ref q4, .ref q5, .ref q6, .ref q7, .ref q8, .ref q9, .int (nI rg)])), (q1, .inl (cI, 480, .inl (nA bn))), (q3, .inl (cZ, 41, .inl (zA us)))] ∧ va_S A s.heap H locs ∧ 1 ≤ t ∧ t ≤ 41 ∧ kk ≤ k + (t - 1) ∧ (td, kk) = gp_hl us bn sh pa (told, k) (t - 1)) ?_ (1, told, k) ⟨lv_sub hl [0, 1, 2, 3, 4] rfl, hP, hD, hS, ⟨by decide, by decide, by omega, rfl⟩⟩
  intro x ls H locs hI ih
  obtain ⟨t, td, kk⟩ := x
  obtain ⟨hl, hP, hD, hS, ⟨h1, h2, h3, h4⟩⟩ := hI
  have hl : lv_has ls 5 [(4, .int (nI t)), (0, .ref fa), (1, .ref pl), (2, .int (nI sh)), (3, .int (nI pa))] := hl
  have hP : va_P D vwCl [(fa, .inr (0, [.ref fo, .int (nI kk)])), (fo, .inl (cI, 500, .inl (nA td))), (pl, .inr (1, [.ref q1, .ref q2, .ref q3, .ref q4, .ref q5, .ref q6, .ref q7, .ref q8, .ref q9, .int (nI rg)])), (q1, .inl (cI, 480, .inl (nA bn))), (q3, .inl (cZ, 41, .inl (zA us)))] H := hP
  have hD : va_D A [(fa, .inr (0, [.ref fo, .int (nI kk)])), (fo, .inl (cI, 500, .inl (nA td))), (pl, .inr (1, [.ref q1, .ref q2, .ref q3, .ref q4, .ref q5, .ref q6, .ref q7, .ref q8, .ref q9, .int (nI rg)])), (q1, .inl (cI, 480, .inl (nA bn))), (q3, .inl (cZ, 41, .inl (zA us)))] := hD
  refine lv_iload hx hb d_Fa_findHoles_3 (lv_at hl 0 rfl) ?_
  refine lv_bipush (v := 40) hx hb d_Fa_findHoles_5 (by decide) ?_
  refine lv_icmp_gt (tgt := 51) hx hb d_Fa_findHoles_7 (by decide) (fun c7 => ?_) (fun c7 => ?_)
  · have c7 : 40 < t := (nI_ltI (a := 40) (b := t) (by omega) (by omega)).mp c7
    exact ga_wv (td, kk) S hrt hlk hP hD hS (by rw [h4, show t - 1 = 40 by omega]) d_Fa_findHoles_51
  · have c7 : ¬ (40 < t) := fun q => c7 ((nI_ltI (a := 40) (b := t) (by omega) (by omega)).mpr q)
    refine lv_aload_n hx hb d_Fa_findHoles_10 rfl (lv_at hl 2 rfl) ?_
    refine ga_get S hK hP 2 rfl f_Fa_32 rfl d_Fa_findHoles_11 ?_
    refine lv_iload hx hb d_Fa_findHoles_14 (lv_at hl 0 rfl) ?_
    refine ga_zld S hK hP 4 1 rfl rfl t (by omega) (by decide) d_Fa_findHoles_16 ?_
    refine lv_if_eq (tgt := 45) hx hb d_Fa_findHoles_17 (by decide) (fun c17 => ?_) (fun c17 => ?_)
    · have c17 : us t = false := bI_0 c17
      refine lv_iinc (v := nI (t + 1)) (lv' := [(4, .int (nI (t + 1))), (0, .ref fa), (1, .ref pl), (2, .int (nI sh)), (3, .int (nI pa))]) hx hb d_Fa_findHoles_45 hl (k := 0) rfl (ga_inc t) (by decide) rfl (fun ls hl => ?_)
      refine lv_goto (tgt := 3) hx hb d_Fa_findHoles_48 (by decide) ?_
      exact ih (t + 1, td, kk) _ _ _ (by show (41 - (t + 1)) < (41 - t); omega) ⟨lv_sub hl [0, 1, 2, 3, 4] rfl, hP, hD, hS, ⟨by omega, by omega, by omega, by rw [show t + 1 - 1 = (t - 1) + 1 by omega, gp_hl, show t - 1 + 1 = t by omega, ← h4]; rw [if_neg (fun q => by first | exact c32 q.2 | (rw [c17] at q; exact absurd q.1 (by decide)))]⟩⟩
    · have c17 : us t = true := bI_1 c17
      refine lv_aload_n hx hb d_Fa_findHoles_20 rfl (lv_at hl 2 rfl) ?_
      refine ga_get S hK hP 2 rfl f_Fa_36 rfl d_Fa_findHoles_21 ?_
      refine lv_iload hx hb d_Fa_findHoles_24 (lv_at hl 0 rfl) ?_
      refine lv_iload_n hx hb d_Fa_findHoles_26 rfl (lv_at hl 4 rfl) ?_
      refine lv_iload_n hx hb d_Fa_findHoles_27 rfl (lv_at hl 3 rfl) ?_
      refine ga_cs (As := [.int (nI t), .int (nI pa), .int (nI sh)]) (rest := [.ref q1]) S hK hP s_Fa_39 (gc_SP_slot l D cI cZ cC cG t pa sh (by omega)) [] rfl rfl hl.1 rfl (Nat.le_of_ble_eq_true rfl) ⟨Nat.le_of_ble_eq_true rfl, Nat.le_of_ble_eq_true rfl⟩ ⟨Nat.le_of_ble_eq_true rfl, Nat.le_of_ble_eq_true rfl⟩ d_Fa_findHoles_28 (fun r hp28 => ?_)
      subst hp28
      have hsl := gp_sl_lt (t := t) (p := pa) (s := sh) (by omega) (by omega) (by omega) (by omega)
      refine ga_ild S hK hP 3 0 rfl rfl (gp_sl t pa sh) (by omega) (by decide) d_Fa_findHoles_31 ?_
      have hb1 := hbn (gp_sl t pa sh)
      refine lv_if_ne (tgt := 45) hx hb d_Fa_findHoles_32 (by decide) (fun c32 => ?_) (fun c32 => ?_)
      · have c32 : ¬ ((bn (gp_sl t pa sh)) = 0) := fun q => c32 ((nI_eq (a := (bn (gp_sl t pa sh))) (b := 0) (by omega) (by omega)).mpr q)
        refine lv_iinc (v := nI (t + 1)) (lv' := [(4, .int (nI (t + 1))), (0, .ref fa), (1, .ref pl), (2, .int (nI sh)), (3, .int (nI pa))]) hx hb d_Fa_findHoles_45 hl (k := 0) rfl (ga_inc t) (by decide) rfl (fun ls hl => ?_)
        refine lv_goto (tgt := 3) hx hb d_Fa_findHoles_48 (by decide) ?_
        exact ih (t + 1, td, kk) _ _ _ (by show (41 - (t + 1)) < (41 - t); omega) ⟨lv_sub hl [0, 1, 2, 3, 4] rfl, hP, hD, hS, ⟨by omega, by omega, by omega, by rw [show t + 1 - 1 = (t - 1) + 1 by omega, gp_hl, show t - 1 + 1 = t by omega, ← h4]; rw [if_neg (fun q => by first | exact c32 q.2 | (rw [c17] at q; exact absurd q.1 (by decide)))]⟩⟩
      · have c32 : (bn (gp_sl t pa sh)) = 0 := (nI_eq (a := (bn (gp_sl t pa sh))) (b := 0) (by omega) (by omega)).mp c32
        refine lv_aload_n hx hb d_Fa_findHoles_35 rfl (lv_at hl 1 rfl) ?_
        refine lv_iload_n hx hb d_Fa_findHoles_36 rfl (lv_at hl 3 rfl) ?_
        refine lv_iload_n hx hb d_Fa_findHoles_37 rfl (lv_at hl 4 rfl) ?_
        refine lv_iload hx hb d_Fa_findHoles_38 (lv_at hl 0 rfl) ?_
        refine lv_iconst (v := 0) hx hb d_Fa_findHoles_40 (by decide) ?_
        refine lv_iconst (v := 0) hx hb d_Fa_findHoles_41 (by decide) ?_
        refine ga_jv (wr := [(pl, .inr (1, [.ref q1, .ref q2, .ref q3, .ref q4, .ref q5, .ref q6, .ref q7, .ref q8, .ref q9, .int (nI rg)])), (q1, .inl (cI, 480, .inl (nA bn))), (q3, .inl (cZ, 41, .inl (zA us)))]) (ga_runV (As := [.int (nI sh), .int (nI pa), .int (nI t), .int 0, .int 0]) (rest := []) S hK s_Fa_43 (gc_Fa_add l D cI cZ cC cG fa fo kk sh pa t 0 0 td (by omega) _) (ga_prV (y := y_Fa_add) (q0 := 0) hK hP hD [0, 1] rfl (by decide) rfl rfl) rfl hl.1 rfl (Nat.le_of_ble_eq_true rfl) ⟨Nat.le_of_ble_eq_true rfl, Nat.le_of_ble_eq_true rfl⟩ ⟨Nat.le_of_ble_eq_true rfl, Nat.le_of_ble_eq_true rfl⟩ d_Fa_findHoles_42) hP hD hS hA [0, 1] [2, 3, 4] rfl rfl (by decide) (by decide) [3, 4, 0, 1, 2] (fun _ => [(fa, .inr (0, [.ref fo, .int (nI ((gp_add (td, kk) sh pa t 0 0).2))])), (fo, .inl (cI, 500, .inl (nA ((gp_add (td, kk) sh pa t 0 0).1)))), (pl, .inr (1, [.ref q1, .ref q2, .ref q3, .ref q4, .ref q5, .ref q6, .ref q7, .ref q8, .ref q9, .int (nI rg)])), (q1, .inl (cI, 480, .inl (nA bn))), (q3, .inl (cZ, 41, .inl (zA us)))]) (fun _ => rfl) (by decide) (fun x H locs hp42 hP hD hS => ?_)
        obtain ⟨⟨td2, kk2⟩, htd2⟩ : ∃ z, z = gp_add (td, kk) sh pa t 0 0 := ⟨_, rfl⟩
        rw [← htd2] at hP hD
        have hP : va_P D vwCl [(fa, .inr (0, [.ref fo, .int (nI kk2)])), (fo, .inl (cI, 500, .inl (nA td2))), (pl, .inr (1, [.ref q1, .ref q2, .ref q3, .ref q4, .ref q5, .ref q6, .ref q7, .ref q8, .ref q9, .int (nI rg)])), (q1, .inl (cI, 480, .inl (nA bn))), (q3, .inl (cZ, 41, .inl (zA us)))] H := hP
        have hD : va_D A [(fa, .inr (0, [.ref fo, .int (nI kk2)])), (fo, .inl (cI, 500, .inl (nA td2))), (pl, .inr (1, [.ref q1, .ref q2, .ref q3, .ref q4, .ref q5, .ref q6, .ref q7, .ref q8, .ref q9, .int (nI rg)])), (q1, .inl (cI, 480, .inl (nA bn))), (q3, .inl (cZ, 41, .inl (zA us)))] := hD
        have hktd2 : kk2 = kk + 1 := by have := gp_add_2 (td, kk) sh pa t 0 0; rw [← htd2] at this; exact this
        refine lv_iinc (v := nI (t + 1)) (lv' := [(4, .int (nI (t + 1))), (0, .ref fa), (1, .ref pl), (2, .int (nI sh)), (3, .int (nI pa))]) hx hb d_Fa_findHoles_45 hl (k := 0) rfl (ga_inc t) (by decide) rfl (fun ls hl => ?_)
        refine lv_goto (tgt := 3) hx hb d_Fa_findHoles_48 (by decide) ?_
        exact ih (t + 1, td2, kk2) _ _ _ (by show (41 - (t + 1)) < (41 - t); omega) ⟨lv_sub hl [0, 1, 2, 3, 4] rfl, hP, hD, hS, ⟨by omega, by omega, by omega, by rw [show t + 1 - 1 = (t - 1) + 1 by omega, gp_hl, show t - 1 + 1 = t by omega, ← h4]; rw [if_pos ⟨c17, c32⟩, htd2]⟩⟩
set_option maxHeartbeats 4000000 in
set_option maxRecDepth 100000 in
theorem gc_Fa_findDoublesOf (l : Launch) (D : va_G) (cI cZ cC cG : ClassId) (fa fo k : Nat) (told : Nat → Nat) (pl q1 q2 q3 q4 q5 q6 q7 q8 q9 : Nat) (rg sh pa : Nat) (hsh : sh < 3) (hpa : pa < 4) (bn : Nat → Nat) (shr us : Nat → Bool) (st0 : gp_F) (a : Nat) (h9 : 1 ≤ a) (h8 : a < 40) (hus : us a = true) (hz : bn (gp_sl a pa sh) ≠ 0) (hst : (told, k) = gp_db us bn shr sh pa st0 (40 * (a - 1))) (hbn : ∀ j, bn j ≤ 60) (hk : k < 2 ^ 29) : ga_Mv l y_Fa_findDoublesOf b_Fa_findDoublesOf 9 1 0 0 D (ga_T cI cZ cC cG) [.ref fa, .ref pl, .int (nI sh), .int (nI pa), .int (nI a), .int (nI (bn (gp_sl a pa sh)))] [(fa, .inr (0, [.ref fo, .int (nI k)])), (fo, .inl (cI, 500, .inl (nA told))), (pl, .inr (1, [.ref q1, .ref q2, .ref q3, .ref q4, .ref q5, .ref q6, .ref q7, .ref q8, .ref q9, .int (nI rg)])), (q1, .inl (cI, 480, .inl (nA bn))), (q2, .inl (cZ, 480, .inl (zA shr))), (q3, .inl (cZ, 41, .inl (zA us)))] (fun (x : gp_F) => [(fa, .inr (0, [.ref fo, .int (nI x.2)])), (fo, .inl (cI, 500, .inl (nA x.1))), (pl, .inr (1, [.ref q1, .ref q2, .ref q3, .ref q4, .ref q5, .ref q6, .ref q7, .ref q8, .ref q9, .int (nI rg)])), (q1, .inl (cI, 480, .inl (nA bn))), (q2, .inl (cZ, 480, .inl (zA shr))), (q3, .inl (cZ, 41, .inl (zA us)))]) (fun x => x = gp_db us bn shr sh pa st0 (40 * a)) := by
  refine ga_enV (by decide) (Nat.le_of_ble_eq_true rfl) ?_
  intro p e s m below meth c ls A S hrt hlk hnm hK hP hD hA hl
  have hS : va_S A s.heap s.heap [] := va_S.rf
  obtain ⟨hx, hb, hml, hown, hts⟩ := id S
  have hl : lv_has ls 9 [(0, .ref fa), (1, .ref pl), (2, .int (nI sh)), (3, .int (nI pa)), (4, .int (nI a)), (5, .int (nI (bn (gp_sl a pa sh))))] := hl
  refine lv_aload_n hx hb d_Fa_findDoublesOf_0 rfl (lv_at hl 1 rfl) ?_
  refine ga_get S hK hP 2 rfl f_Fa_51 rfl d_Fa_findDoublesOf_1 ?_
  refine lv_iload hx hb d_Fa_findDoublesOf_4 (lv_at hl 4 rfl) ?_
  refine lv_iload_n hx hb d_Fa_findDoublesOf_6 rfl (lv_at hl 3 rfl) ?_
  refine lv_iload_n hx hb d_Fa_findDoublesOf_7 rfl (lv_at hl 2 rfl) ?_
  refine ga_cs (As := [.int (nI a), .int (nI pa), .int (nI sh)]) (rest := [.ref q2]) S hK hP s_Fa_39 (gc_SP_slot l D cI cZ cC cG a pa sh (by omega)) [] rfl rfl hl.1 rfl (Nat.le_of_ble_eq_true rfl) ⟨Nat.le_of_ble_eq_true rfl, Nat.le_of_ble_eq_true rfl⟩ ⟨Nat.le_of_ble_eq_true rfl, Nat.le_of_ble_eq_true rfl⟩ d_Fa_findDoublesOf_8 (fun r hp8 => ?_)
  subst hp8
  have hsl := gp_sl_lt (t := a) (p := pa) (s := sh) (by omega) (by omega) (by omega) (by omega)
  have hsa := hbn (gp_sl a pa sh)
  refine ga_zld S hK hP 4 1 rfl rfl (gp_sl a pa sh) (by omega) (by decide) d_Fa_findDoublesOf_11 ?_
  refine lv_istore (lv' := [(6, .int (bI (shr (gp_sl a pa sh)))), (0, .ref fa), (1, .ref pl), (2, .int (nI sh)), (3, .int (nI pa)), (4, .int (nI a)), (5, .int (nI (bn (gp_sl a pa sh))))]) hx hb d_Fa_findDoublesOf_12 hl (by decide) rfl (fun ls hl => ?_)
  refine lv_iload hx hb d_Fa_findDoublesOf_14 (lv_at hl 5 rfl) ?_
  refine lv_iconst (v := 1) hx hb d_Fa_findDoublesOf_16 (by decide) ?_
  refine lv_iadd hx hb d_Fa_findDoublesOf_17 ?_
  refine ga_top (nI (a + 1)) (nI_add a 1) ?_
  refine lv_istore (lv' := [(7, .int (nI (a + 1))), (6, .int (bI (shr (gp_sl a pa sh)))), (0, .ref fa), (1, .ref pl), (2, .int (nI sh)), (3, .int (nI pa)), (4, .int (nI a)), (5, .int (nI (bn (gp_sl a pa sh))))]) hx hb d_Fa_findDoublesOf_18 hl (by decide) rfl (fun ls hl => ?_)
  refine ga_loop (α := Nat × (Nat → Nat) × Nat) (fun x => match x with | (o, td, kk) => 41 - o) (fun x ls H locs => match x with | (o, td, kk) => lv_has ls 9 [(7, .int (nI o)), (6, .int (bI (shr (gp_sl a pa sh)))), (0, .ref fa), (1, .ref pl), (2, .int (nI sh)), (3, .int (nI pa)), (4, .int (nI a)), (5, .int (nI (bn (gp_sl a pa sh))))] ∧ va_P D vwCl [(fa, .inr (0, [.ref fo, .int (nI kk)])), (fo, .inl (cI, 500, .inl (nA td))), (pl, .inr (1, [.ref q1, .ref q2, .ref q3, .ref q4, .ref q5, .ref q6, .ref q7, .ref q8, .ref q9, .int (nI rg)])), (q1, .inl (cI, 480, .inl (nA bn))), (q2, .inl (cZ, 480, .inl (zA shr))), (q3, .inl (cZ, 41, .inl (zA us)))] H ∧ va_D A [(fa, .inr (0, [.ref fo, .int (nI kk)])), (fo, .inl (cI, 500, .inl (nA td))), (pl, .inr (1, [.ref q1, .ref q2, .ref q3, .ref q4, .ref q5, .ref q6, .ref q7, .ref q8, .ref q9, .int (nI rg)])), (q1, .inl (cI, 480, .inl (nA bn))), (q2, .inl (cZ, 480, .inl (zA shr))), (q3, .inl (cZ, 41, .inl (zA us)))] ∧ va_S A s.heap H locs ∧ a + 1 ≤ o ∧ o ≤ 41 ∧ kk ≤ k + o ∧ (td, kk) = gp_db us bn shr sh pa st0 (40 * (a - 1) + (o - 1))) ?_ (a + 1, told, k) ⟨lv_sub hl [0, 1, 2, 3, 4, 5, 6, 7] rfl, hP, hD, hS, ⟨Nat.le_refl _, by omega, by omega, by rw [show a + 1 - 1 = a by omega, gp_db_skip h9 (by omega) (Nat.le_refl _)]; exact hst⟩⟩
  intro x ls H locs hI ih
  obtain ⟨o, td, kk⟩ := x
  obtain ⟨hl, hP, hD, hS, ⟨g1, g2, g3, g4⟩⟩ := hI
  have hl : lv_has ls 9 [(7, .int (nI o)), (6, .int (bI (shr (gp_sl a pa sh)))), (0, .ref fa), (1, .ref pl), (2, .int (nI sh)), (3, .int (nI pa)), (4, .int (nI a)), (5, .int (nI (bn (gp_sl a pa sh))))] := hl
  have hP : va_P D vwCl [(fa, .inr (0, [.ref fo, .int (nI kk)])), (fo, .inl (cI, 500, .inl (nA td))), (pl, .inr (1, [.ref q1, .ref q2, .ref q3, .ref q4, .ref q5, .ref q6, .ref q7, .ref q8, .ref q9, .int (nI rg)])), (q1, .inl (cI, 480, .inl (nA bn))), (q2, .inl (cZ, 480, .inl (zA shr))), (q3, .inl (cZ, 41, .inl (zA us)))] H := hP
  have hD : va_D A [(fa, .inr (0, [.ref fo, .int (nI kk)])), (fo, .inl (cI, 500, .inl (nA td))), (pl, .inr (1, [.ref q1, .ref q2, .ref q3, .ref q4, .ref q5, .ref q6, .ref q7, .ref q8, .ref q9, .int (nI rg)])), (q1, .inl (cI, 480, .inl (nA bn))), (q2, .inl (cZ, 480, .inl (zA shr))), (q3, .inl (cZ, 41, .inl (zA us)))] := hD
  refine lv_iload hx hb d_Fa_findDoublesOf_20 (lv_at hl 0 rfl) ?_
  refine lv_bipush (v := 40) hx hb d_Fa_findDoublesOf_22 (by decide) ?_
  refine lv_icmp_gt (tgt := 91) hx hb d_Fa_findDoublesOf_24 (by decide) (fun c24 => ?_) (fun c24 => ?_)
  · have c24 : 40 < o := (nI_ltI (a := 40) (b := o) (by omega) (by omega)).mp c24
    exact ga_wv (td, kk) S hrt hlk hP hD hS (by rw [g4, show 40 * (a - 1) + (o - 1) = 40 * a by omega]) d_Fa_findDoublesOf_91
  · have c24 : ¬ (40 < o) := fun q => c24 ((nI_ltI (a := 40) (b := o) (by omega) (by omega)).mpr q)
    refine lv_iload hx hb d_Fa_findDoublesOf_27 (lv_at hl 0 rfl) ?_
    refine lv_iload_n hx hb d_Fa_findDoublesOf_29 rfl (lv_at hl 5 rfl) ?_
    refine lv_iload_n hx hb d_Fa_findDoublesOf_30 rfl (lv_at hl 4 rfl) ?_
    refine ga_cs (As := [.int (nI o), .int (nI pa), .int (nI sh)]) (rest := []) S hK hP s_Fa_39 (gc_SP_slot l D cI cZ cC cG o pa sh (by omega)) [] rfl rfl hl.1 rfl (Nat.le_of_ble_eq_true rfl) ⟨Nat.le_of_ble_eq_true rfl, Nat.le_of_ble_eq_true rfl⟩ ⟨Nat.le_of_ble_eq_true rfl, Nat.le_of_ble_eq_true rfl⟩ d_Fa_findDoublesOf_31 (fun r hp31 => ?_)
    subst hp31
    have hsl := gp_sl_lt (t := o) (p := pa) (s := sh) (by omega) (by omega) (by omega) (by omega)
    refine lv_istore (lv' := [(8, .int (nI (gp_sl o pa sh))), (7, .int (nI o)), (6, .int (bI (shr (gp_sl a pa sh)))), (0, .ref fa), (1, .ref pl), (2, .int (nI sh)), (3, .int (nI pa)), (4, .int (nI a)), (5, .int (nI (bn (gp_sl a pa sh))))]) hx hb d_Fa_findDoublesOf_34 hl (by decide) rfl (fun ls hl => ?_)
    refine lv_aload_n hx hb d_Fa_findDoublesOf_36 rfl (lv_at hl 4 rfl) ?_
    refine ga_get S hK hP 2 rfl f_Fa_32 rfl d_Fa_findDoublesOf_37 ?_
    refine lv_iload hx hb d_Fa_findDoublesOf_40 (lv_at hl 1 rfl) ?_
    refine ga_zld S hK hP 5 1 rfl rfl o (by omega) (by decide) d_Fa_findDoublesOf_42 ?_
    refine lv_if_eq (tgt := 85) hx hb d_Fa_findDoublesOf_43 (by decide) (fun c43 => ?_) (fun c43 => ?_)
    · have c43 : us o = false := bI_0 c43
      refine lv_iinc (v := nI (o + 1)) (lv' := [(7, .int (nI (o + 1))), (8, .int (nI (gp_sl o pa sh))), (6, .int (bI (shr (gp_sl a pa sh)))), (0, .ref fa), (1, .ref pl), (2, .int (nI sh)), (3, .int (nI pa)), (4, .int (nI a)), (5, .int (nI (bn (gp_sl a pa sh))))]) hx hb d_Fa_findDoublesOf_85 hl (k := 1) rfl (ga_inc o) (by decide) rfl (fun ls hl => ?_)
      refine lv_goto (tgt := 20) hx hb d_Fa_findDoublesOf_88 (by decide) ?_
      exact ih (o + 1, td, kk) _ _ _ (by show (41 - (o + 1)) < (41 - o); omega) ⟨lv_sub hl [0, 2, 3, 4, 5, 6, 7, 8] rfl, hP, hD, hS, ⟨by omega, by omega, by omega, by rw [show 40 * (a - 1) + (o + 1 - 1) = 40 * (a - 1) + (o - 1) + 1 by omega, gp_db_step h9 (by omega) (by omega), ← g4]; rw [if_neg (fun q => by first | exact c55 q.2.2.1.symm | exact q.2.2.2.1 ⟨c60, c70⟩ | (have := q.2.2.2.2.2; rw [c43] at this; exact absurd this (by decide)))]⟩⟩
    · have c43 : us o = true := bI_1 c43
      refine lv_aload_n hx hb d_Fa_findDoublesOf_46 rfl (lv_at hl 4 rfl) ?_
      refine ga_get S hK hP 2 rfl f_Fa_36 rfl d_Fa_findDoublesOf_47 ?_
      refine lv_iload hx hb d_Fa_findDoublesOf_50 (lv_at hl 0 rfl) ?_
      refine ga_ild S hK hP 3 0 rfl rfl (gp_sl o pa sh) (by omega) (by decide) d_Fa_findDoublesOf_52 ?_
      have hb1 := hbn (gp_sl o pa sh)
      refine lv_iload hx hb d_Fa_findDoublesOf_53 (lv_at hl 8 rfl) ?_
      refine lv_icmp_ne (tgt := 85) hx hb d_Fa_findDoublesOf_55 (by decide) (fun c55 => ?_) (fun c55 => ?_)
      · have c55 : ¬ ((bn (gp_sl o pa sh)) = (bn (gp_sl a pa sh))) := fun q => c55 ((nI_eq (a := (bn (gp_sl o pa sh))) (b := (bn (gp_sl a pa sh))) (by omega) (by omega)).mpr q)
        refine lv_iinc (v := nI (o + 1)) (lv' := [(7, .int (nI (o + 1))), (8, .int (nI (gp_sl o pa sh))), (6, .int (bI (shr (gp_sl a pa sh)))), (0, .ref fa), (1, .ref pl), (2, .int (nI sh)), (3, .int (nI pa)), (4, .int (nI a)), (5, .int (nI (bn (gp_sl a pa sh))))]) hx hb d_Fa_findDoublesOf_85 hl (k := 1) rfl (ga_inc o) (by decide) rfl (fun ls hl => ?_)
        refine lv_goto (tgt := 20) hx hb d_Fa_findDoublesOf_88 (by decide) ?_
        exact ih (o + 1, td, kk) _ _ _ (by show (41 - (o + 1)) < (41 - o); omega) ⟨lv_sub hl [0, 2, 3, 4, 5, 6, 7, 8] rfl, hP, hD, hS, ⟨by omega, by omega, by omega, by rw [show 40 * (a - 1) + (o + 1 - 1) = 40 * (a - 1) + (o - 1) + 1 by omega, gp_db_step h9 (by omega) (by omega), ← g4]; rw [if_neg (fun q => by first | exact c55 q.2.2.1.symm | exact q.2.2.2.1 ⟨c60, c70⟩ | (have := q.2.2.2.2.2; rw [c43] at this; exact absurd this (by decide)))]⟩⟩
      · have c55 : (bn (gp_sl o pa sh)) = (bn (gp_sl a pa sh)) := (nI_eq (a := (bn (gp_sl o pa sh))) (b := (bn (gp_sl a pa sh))) (by omega) (by omega)).mp c55
        refine lv_iload hx hb d_Fa_findDoublesOf_58 (lv_at hl 2 rfl) ?_
        refine lv_if_eq (tgt := 73) hx hb d_Fa_findDoublesOf_60 (by decide) (fun c60 => ?_) (fun c60 => ?_)
        · have c60 : shr (gp_sl a pa sh) = false := bI_0 c60
          refine lv_aload_n hx hb d_Fa_findDoublesOf_73 rfl (lv_at hl 3 rfl) ?_
          refine lv_iload_n hx hb d_Fa_findDoublesOf_74 rfl (lv_at hl 5 rfl) ?_
          refine lv_iload_n hx hb d_Fa_findDoublesOf_75 rfl (lv_at hl 6 rfl) ?_
          refine lv_iload hx hb d_Fa_findDoublesOf_76 (lv_at hl 7 rfl) ?_
          refine lv_iload hx hb d_Fa_findDoublesOf_78 (lv_at hl 1 rfl) ?_
          refine lv_iload hx hb d_Fa_findDoublesOf_80 (lv_at hl 8 rfl) ?_
          refine ga_jv (wr := [(pl, .inr (1, [.ref q1, .ref q2, .ref q3, .ref q4, .ref q5, .ref q6, .ref q7, .ref q8, .ref q9, .int (nI rg)])), (q1, .inl (cI, 480, .inl (nA bn))), (q2, .inl (cZ, 480, .inl (zA shr))), (q3, .inl (cZ, 41, .inl (zA us)))]) (ga_runV (As := [.int (nI sh), .int (nI pa), .int (nI a), .int (nI o), .int (nI (bn (gp_sl a pa sh)))]) (rest := []) S hK s_Fa_43 (gc_Fa_add l D cI cZ cC cG fa fo kk sh pa a o (bn (gp_sl a pa sh)) td (by omega) _) (ga_prV (y := y_Fa_add) (q0 := 0) hK hP hD [0, 1] rfl (by decide) rfl rfl) rfl hl.1 rfl (Nat.le_of_ble_eq_true rfl) ⟨Nat.le_of_ble_eq_true rfl, Nat.le_of_ble_eq_true rfl⟩ ⟨Nat.le_of_ble_eq_true rfl, Nat.le_of_ble_eq_true rfl⟩ d_Fa_findDoublesOf_82) hP hD hS hA [0, 1] [2, 3, 4, 5] rfl rfl (by decide) (by decide) [4, 5, 0, 1, 2, 3] (fun _ => [(fa, .inr (0, [.ref fo, .int (nI ((gp_add (td, kk) sh pa a o (bn (gp_sl a pa sh))).2))])), (fo, .inl (cI, 500, .inl (nA ((gp_add (td, kk) sh pa a o (bn (gp_sl a pa sh))).1)))), (pl, .inr (1, [.ref q1, .ref q2, .ref q3, .ref q4, .ref q5, .ref q6, .ref q7, .ref q8, .ref q9, .int (nI rg)])), (q1, .inl (cI, 480, .inl (nA bn))), (q2, .inl (cZ, 480, .inl (zA shr))), (q3, .inl (cZ, 41, .inl (zA us)))]) (fun _ => rfl) (by decide) (fun x H locs hp82 hP hD hS => ?_)
          obtain ⟨⟨td2, kk2⟩, htd2⟩ : ∃ z, z = gp_add (td, kk) sh pa a o (bn (gp_sl a pa sh)) := ⟨_, rfl⟩
          rw [← htd2] at hP hD
          have hP : va_P D vwCl [(fa, .inr (0, [.ref fo, .int (nI kk2)])), (fo, .inl (cI, 500, .inl (nA td2))), (pl, .inr (1, [.ref q1, .ref q2, .ref q3, .ref q4, .ref q5, .ref q6, .ref q7, .ref q8, .ref q9, .int (nI rg)])), (q1, .inl (cI, 480, .inl (nA bn))), (q2, .inl (cZ, 480, .inl (zA shr))), (q3, .inl (cZ, 41, .inl (zA us)))] H := hP
          have hD : va_D A [(fa, .inr (0, [.ref fo, .int (nI kk2)])), (fo, .inl (cI, 500, .inl (nA td2))), (pl, .inr (1, [.ref q1, .ref q2, .ref q3, .ref q4, .ref q5, .ref q6, .ref q7, .ref q8, .ref q9, .int (nI rg)])), (q1, .inl (cI, 480, .inl (nA bn))), (q2, .inl (cZ, 480, .inl (zA shr))), (q3, .inl (cZ, 41, .inl (zA us)))] := hD
          have hktd2 : kk2 = kk + 1 := by have := gp_add_2 (td, kk) sh pa a o (bn (gp_sl a pa sh)); rw [← htd2] at this; exact this
          refine lv_iinc (v := nI (o + 1)) (lv' := [(7, .int (nI (o + 1))), (8, .int (nI (gp_sl o pa sh))), (6, .int (bI (shr (gp_sl a pa sh)))), (0, .ref fa), (1, .ref pl), (2, .int (nI sh)), (3, .int (nI pa)), (4, .int (nI a)), (5, .int (nI (bn (gp_sl a pa sh))))]) hx hb d_Fa_findDoublesOf_85 hl (k := 1) rfl (ga_inc o) (by decide) rfl (fun ls hl => ?_)
          refine lv_goto (tgt := 20) hx hb d_Fa_findDoublesOf_88 (by decide) ?_
          exact ih (o + 1, td2, kk2) _ _ _ (by show (41 - (o + 1)) < (41 - o); omega) ⟨lv_sub hl [0, 2, 3, 4, 5, 6, 7, 8] rfl, hP, hD, hS, ⟨by omega, by omega, by omega, by rw [show 40 * (a - 1) + (o + 1 - 1) = 40 * (a - 1) + (o - 1) + 1 by omega, gp_db_step h9 (by omega) (by omega), ← g4]; rw [if_pos ⟨by omega, hz, c55.symm, (fun q => by first | (rw [c60] at q; exact absurd q.1 (by decide)) | (rw [c70] at q; exact absurd q.2 (by decide))), hus, c43⟩, htd2]⟩⟩
        · have c60 : shr (gp_sl a pa sh) = true := bI_1 c60
          refine lv_aload_n hx hb d_Fa_findDoublesOf_63 rfl (lv_at hl 4 rfl) ?_
          refine ga_get S hK hP 2 rfl f_Fa_51 rfl d_Fa_findDoublesOf_64 ?_
          refine lv_iload hx hb d_Fa_findDoublesOf_67 (lv_at hl 0 rfl) ?_
          refine ga_zld S hK hP 4 1 rfl rfl (gp_sl o pa sh) (by omega) (by decide) d_Fa_findDoublesOf_69 ?_
          refine lv_if_ne (tgt := 85) hx hb d_Fa_findDoublesOf_70 (by decide) (fun c70 => ?_) (fun c70 => ?_)
          · have c70 : shr (gp_sl o pa sh) = true := bI_1 c70
            refine lv_iinc (v := nI (o + 1)) (lv' := [(7, .int (nI (o + 1))), (8, .int (nI (gp_sl o pa sh))), (6, .int (bI (shr (gp_sl a pa sh)))), (0, .ref fa), (1, .ref pl), (2, .int (nI sh)), (3, .int (nI pa)), (4, .int (nI a)), (5, .int (nI (bn (gp_sl a pa sh))))]) hx hb d_Fa_findDoublesOf_85 hl (k := 1) rfl (ga_inc o) (by decide) rfl (fun ls hl => ?_)
            refine lv_goto (tgt := 20) hx hb d_Fa_findDoublesOf_88 (by decide) ?_
            exact ih (o + 1, td, kk) _ _ _ (by show (41 - (o + 1)) < (41 - o); omega) ⟨lv_sub hl [0, 2, 3, 4, 5, 6, 7, 8] rfl, hP, hD, hS, ⟨by omega, by omega, by omega, by rw [show 40 * (a - 1) + (o + 1 - 1) = 40 * (a - 1) + (o - 1) + 1 by omega, gp_db_step h9 (by omega) (by omega), ← g4]; rw [if_neg (fun q => by first | exact c55 q.2.2.1.symm | exact q.2.2.2.1 ⟨c60, c70⟩ | (have := q.2.2.2.2.2; rw [c43] at this; exact absurd this (by decide)))]⟩⟩
          · have c70 : shr (gp_sl o pa sh) = false := bI_0 c70
            refine lv_aload_n hx hb d_Fa_findDoublesOf_73 rfl (lv_at hl 3 rfl) ?_
            refine lv_iload_n hx hb d_Fa_findDoublesOf_74 rfl (lv_at hl 5 rfl) ?_
            refine lv_iload_n hx hb d_Fa_findDoublesOf_75 rfl (lv_at hl 6 rfl) ?_
            refine lv_iload hx hb d_Fa_findDoublesOf_76 (lv_at hl 7 rfl) ?_
            refine lv_iload hx hb d_Fa_findDoublesOf_78 (lv_at hl 1 rfl) ?_
            refine lv_iload hx hb d_Fa_findDoublesOf_80 (lv_at hl 8 rfl) ?_
            refine ga_jv (wr := [(pl, .inr (1, [.ref q1, .ref q2, .ref q3, .ref q4, .ref q5, .ref q6, .ref q7, .ref q8, .ref q9, .int (nI rg)])), (q1, .inl (cI, 480, .inl (nA bn))), (q2, .inl (cZ, 480, .inl (zA shr))), (q3, .inl (cZ, 41, .inl (zA us)))]) (ga_runV (As := [.int (nI sh), .int (nI pa), .int (nI a), .int (nI o), .int (nI (bn (gp_sl a pa sh)))]) (rest := []) S hK s_Fa_43 (gc_Fa_add l D cI cZ cC cG fa fo kk sh pa a o (bn (gp_sl a pa sh)) td (by omega) _) (ga_prV (y := y_Fa_add) (q0 := 0) hK hP hD [0, 1] rfl (by decide) rfl rfl) rfl hl.1 rfl (Nat.le_of_ble_eq_true rfl) ⟨Nat.le_of_ble_eq_true rfl, Nat.le_of_ble_eq_true rfl⟩ ⟨Nat.le_of_ble_eq_true rfl, Nat.le_of_ble_eq_true rfl⟩ d_Fa_findDoublesOf_82) hP hD hS hA [0, 1] [2, 3, 4, 5] rfl rfl (by decide) (by decide) [4, 5, 0, 1, 2, 3] (fun _ => [(fa, .inr (0, [.ref fo, .int (nI ((gp_add (td, kk) sh pa a o (bn (gp_sl a pa sh))).2))])), (fo, .inl (cI, 500, .inl (nA ((gp_add (td, kk) sh pa a o (bn (gp_sl a pa sh))).1)))), (pl, .inr (1, [.ref q1, .ref q2, .ref q3, .ref q4, .ref q5, .ref q6, .ref q7, .ref q8, .ref q9, .int (nI rg)])), (q1, .inl (cI, 480, .inl (nA bn))), (q2, .inl (cZ, 480, .inl (zA shr))), (q3, .inl (cZ, 41, .inl (zA us)))]) (fun _ => rfl) (by decide) (fun x H locs hp82 hP hD hS => ?_)
            obtain ⟨⟨td2, kk2⟩, htd2⟩ : ∃ z, z = gp_add (td, kk) sh pa a o (bn (gp_sl a pa sh)) := ⟨_, rfl⟩
            rw [← htd2] at hP hD
            have hP : va_P D vwCl [(fa, .inr (0, [.ref fo, .int (nI kk2)])), (fo, .inl (cI, 500, .inl (nA td2))), (pl, .inr (1, [.ref q1, .ref q2, .ref q3, .ref q4, .ref q5, .ref q6, .ref q7, .ref q8, .ref q9, .int (nI rg)])), (q1, .inl (cI, 480, .inl (nA bn))), (q2, .inl (cZ, 480, .inl (zA shr))), (q3, .inl (cZ, 41, .inl (zA us)))] H := hP
            have hD : va_D A [(fa, .inr (0, [.ref fo, .int (nI kk2)])), (fo, .inl (cI, 500, .inl (nA td2))), (pl, .inr (1, [.ref q1, .ref q2, .ref q3, .ref q4, .ref q5, .ref q6, .ref q7, .ref q8, .ref q9, .int (nI rg)])), (q1, .inl (cI, 480, .inl (nA bn))), (q2, .inl (cZ, 480, .inl (zA shr))), (q3, .inl (cZ, 41, .inl (zA us)))] := hD
            have hktd2 : kk2 = kk + 1 := by have := gp_add_2 (td, kk) sh pa a o (bn (gp_sl a pa sh)); rw [← htd2] at this; exact this
            refine lv_iinc (v := nI (o + 1)) (lv' := [(7, .int (nI (o + 1))), (8, .int (nI (gp_sl o pa sh))), (6, .int (bI (shr (gp_sl a pa sh)))), (0, .ref fa), (1, .ref pl), (2, .int (nI sh)), (3, .int (nI pa)), (4, .int (nI a)), (5, .int (nI (bn (gp_sl a pa sh))))]) hx hb d_Fa_findDoublesOf_85 hl (k := 1) rfl (ga_inc o) (by decide) rfl (fun ls hl => ?_)
            refine lv_goto (tgt := 20) hx hb d_Fa_findDoublesOf_88 (by decide) ?_
            exact ih (o + 1, td2, kk2) _ _ _ (by show (41 - (o + 1)) < (41 - o); omega) ⟨lv_sub hl [0, 2, 3, 4, 5, 6, 7, 8] rfl, hP, hD, hS, ⟨by omega, by omega, by omega, by rw [show 40 * (a - 1) + (o + 1 - 1) = 40 * (a - 1) + (o - 1) + 1 by omega, gp_db_step h9 (by omega) (by omega), ← g4]; rw [if_pos ⟨by omega, hz, c55.symm, (fun q => by first | (rw [c60] at q; exact absurd q.1 (by decide)) | (rw [c70] at q; exact absurd q.2 (by decide))), hus, c43⟩, htd2]⟩⟩
