set_option maxHeartbeats 4000000 in
set_option maxRecDepth 100000 in
theorem gc_Fa_findDoubles (l : Launch) (D : va_G) (cI cZ cC cG : ClassId) (fa fo k : Nat) (told : Nat → Nat) (pl q1 q2 q3 q4 q5 q6 q7 q8 q9 : Nat) (rg sh pa : Nat) (hsh : sh < 3) (hpa : pa < 4) (bn : Nat → Nat) (shr us : Nat → Bool) (hbn : ∀ j, bn j ≤ 60) (hk : k < 2 ^ 28) : ga_Mv l y_Fa_findDoubles b_Fa_findDoubles 6 2 0 0 D (ga_T cI cZ cC cG) [.ref fa, .ref pl, .int (nI sh), .int (nI pa)] [(fa, .inr (0, [.ref fo, .int (nI k)])), (fo, .inl (cI, 500, .inl (nA told))), (pl, .inr (1, [.ref q1, .ref q2, .ref q3, .ref q4, .ref q5, .ref q6, .ref q7, .ref q8, .ref q9, .int (nI rg)])), (q1, .inl (cI, 480, .inl (nA bn))), (q2, .inl (cZ, 480, .inl (zA shr))), (q3, .inl (cZ, 41, .inl (zA us)))] (fun (x : gp_F) => [(fa, .inr (0, [.ref fo, .int (nI x.2)])), (fo, .inl (cI, 500, .inl (nA x.1))), (pl, .inr (1, [.ref q1, .ref q2, .ref q3, .ref q4, .ref q5, .ref q6, .ref q7, .ref q8, .ref q9, .int (nI rg)])), (q1, .inl (cI, 480, .inl (nA bn))), (q2, .inl (cZ, 480, .inl (zA shr))), (q3, .inl (cZ, 41, .inl (zA us)))]) (fun x => x = gp_db us bn shr sh pa (told, k) 1600) := by
  refine ga_enV (by decide) (Nat.le_of_ble_eq_true rfl) ?_
  intro p e s m below meth c ls A S hrt hlk hnm hK hP hD hA hl
  have hS : va_S A s.heap s.heap [] := va_S.rf
  obtain ⟨hx, hb, hml, hown, hts⟩ := id S
  have hl : lv_has ls 6 [(0, .ref fa), (1, .ref pl), (2, .int (nI sh)), (3, .int (nI pa))] := hl
  obtain ⟨st0, hst0⟩ : ∃ z, (told, k) = z := ⟨_, rfl⟩
  have hst2 : st0.2 < 2 ^ 28 := by rw [← hst0]; exact hk
  refine lv_iconst (v := 1) hx hb d_Fa_findDoubles_0 (by decide) ?_
  refine lv_istore (lv' := [(4, .int 1), (0, .ref fa), (1, .ref pl), (2, .int (nI sh)), (3, .int (nI pa))]) hx hb d_Fa_findDoubles_1 hl (by decide) rfl (fun ls hl => ?_)
  refine ga_loop (α := Nat × (Nat → Nat) × Nat) (fun x => match x with | (a, td, kk) => 41 - a) (fun x ls H locs => match x with | (a, td, kk) => lv_has ls 6 [(4, .int (nI a)), (0, .ref fa), (1, .ref pl), (2, .int (nI sh)), (3, .int (nI pa))] ∧ va_P D vwCl [(fa, .inr (0, [.ref fo, .int (nI kk)])), (fo, .inl (cI, 500, .inl (nA td))), (pl, .inr (1, [.ref q1, .ref q2, .ref q3, .ref q4, .ref q5, .ref q6, .ref q7, .ref q8, .ref q9, .int (nI rg)])), (q1, .inl (cI, 480, .inl (nA bn))), (q2, .inl (cZ, 480, .inl (zA shr))), (q3, .inl (cZ, 41, .inl (zA us)))] H ∧ va_D A [(fa, .inr (0, [.ref fo, .int (nI kk)])), (fo, .inl (cI, 500, .inl (nA td))), (pl, .inr (1, [.ref q1, .ref q2, .ref q3, .ref q4, .ref q5, .ref q6, .ref q7, .ref q8, .ref q9, .int (nI rg)])), (q1, .inl (cI, 480, .inl (nA bn))), (q2, .inl (cZ, 480, .inl (zA shr))), (q3, .inl (cZ, 41, .inl (zA us)))] ∧ va_S A s.heap H locs ∧ 1 ≤ a ∧ a ≤ 40 ∧ kk ≤ st0.2 + 40 * a ∧ (td, kk) = gp_db us bn shr sh pa st0 (40 * (a - 1))) ?_ (1, told, k) ⟨lv_sub hl [0, 1, 2, 3, 4] rfl, hP, hD, hS, ⟨by decide, by decide, by rw [← hst0]; simp only; omega, by rw [← hst0]; rfl⟩⟩
  intro x ls H locs hI ih
  obtain ⟨a, td, kk⟩ := x
  obtain ⟨hl, hP, hD, hS, ⟨g1, g2, g3, g4⟩⟩ := hI
  have hl : lv_has ls 6 [(4, .int (nI a)), (0, .ref fa), (1, .ref pl), (2, .int (nI sh)), (3, .int (nI pa))] := hl
  have hP : va_P D vwCl [(fa, .inr (0, [.ref fo, .int (nI kk)])), (fo, .inl (cI, 500, .inl (nA td))), (pl, .inr (1, [.ref q1, .ref q2, .ref q3, .ref q4, .ref q5, .ref q6, .ref q7, .ref q8, .ref q9, .int (nI rg)])), (q1, .inl (cI, 480, .inl (nA bn))), (q2, .inl (cZ, 480, .inl (zA shr))), (q3, .inl (cZ, 41, .inl (zA us)))] H := hP
  have hD : va_D A [(fa, .inr (0, [.ref fo, .int (nI kk)])), (fo, .inl (cI, 500, .inl (nA td))), (pl, .inr (1, [.ref q1, .ref q2, .ref q3, .ref q4, .ref q5, .ref q6, .ref q7, .ref q8, .ref q9, .int (nI rg)])), (q1, .inl (cI, 480, .inl (nA bn))), (q2, .inl (cZ, 480, .inl (zA shr))), (q3, .inl (cZ, 41, .inl (zA us)))] := hD
  refine lv_iload hx hb d_Fa_findDoubles_3 (lv_at hl 0 rfl) ?_
  refine lv_bipush (v := 40) hx hb d_Fa_findDoubles_5 (by decide) ?_
  refine lv_icmp_ge (tgt := 56) hx hb d_Fa_findDoubles_7 (by decide) (fun c7 => ?_) (fun c7 => ?_)
  · have c7 : 40 ≤ a := (nI_leI (a := 40) (b := a) (by omega) (by omega)).mp c7
    exact ga_wv (td, kk) S hrt hlk hP hD hS (by rw [hst0, g4, ← gp_db_skip (j := 40) (by omega) (by omega) (by omega), show 40 * (a - 1) + 40 = 1600 by omega]) d_Fa_findDoubles_56
  · have c7 : ¬ (40 ≤ a) := fun q => c7 ((nI_leI (a := 40) (b := a) (by omega) (by omega)).mpr q)
    refine lv_aload_n hx hb d_Fa_findDoubles_10 rfl (lv_at hl 2 rfl) ?_
    refine ga_get S hK hP 2 rfl f_Fa_36 rfl d_Fa_findDoubles_11 ?_
    refine lv_iload hx hb d_Fa_findDoubles_14 (lv_at hl 0 rfl) ?_
    refine lv_iload_n hx hb d_Fa_findDoubles_16 rfl (lv_at hl 4 rfl) ?_
    refine lv_iload_n hx hb d_Fa_findDoubles_17 rfl (lv_at hl 3 rfl) ?_
    refine ga_cs (As := [.int (nI a), .int (nI pa), .int (nI sh)]) (rest := [.ref q1]) S hK hP s_Fa_39 (gc_SP_slot l D cI cZ cC cG a pa sh (by omega)) [] rfl rfl hl.1 rfl (Nat.le_of_ble_eq_true rfl) ⟨Nat.le_of_ble_eq_true rfl, Nat.le_of_ble_eq_true rfl⟩ ⟨Nat.le_of_ble_eq_true rfl, Nat.le_of_ble_eq_true rfl⟩ d_Fa_findDoubles_18 (fun r hp18 => ?_)
    subst hp18
    have hsl := gp_sl_lt (t := a) (p := pa) (s := sh) (by omega) (by omega) (by omega) (by omega)
    refine ga_ild S hK hP 3 0 rfl rfl (gp_sl a pa sh) (by omega) (by decide) d_Fa_findDoubles_21 ?_
    have hb1 := hbn (gp_sl a pa sh)
    refine lv_istore (lv' := [(5, .int (nI (bn (gp_sl a pa sh)))), (4, .int (nI a)), (0, .ref fa), (1, .ref pl), (2, .int (nI sh)), (3, .int (nI pa))]) hx hb d_Fa_findDoubles_22 hl (by decide) rfl (fun ls hl => ?_)
    refine lv_aload_n hx hb d_Fa_findDoubles_24 rfl (lv_at hl 3 rfl) ?_
    refine ga_get S hK hP 2 rfl f_Fa_32 rfl d_Fa_findDoubles_25 ?_
    refine lv_iload hx hb d_Fa_findDoubles_28 (lv_at hl 1 rfl) ?_
    refine ga_zld S hK hP 5 1 rfl rfl a (by omega) (by decide) d_Fa_findDoubles_30 ?_
    refine lv_if_eq (tgt := 50) hx hb d_Fa_findDoubles_31 (by decide) (fun c31 => ?_) (fun c31 => ?_)
    · have c31 : us a = false := bI_0 c31
      refine lv_iinc (v := nI (a + 1)) (lv' := [(4, .int (nI (a + 1))), (5, .int (nI (bn (gp_sl a pa sh)))), (0, .ref fa), (1, .ref pl), (2, .int (nI sh)), (3, .int (nI pa))]) hx hb d_Fa_findDoubles_50 hl (k := 1) rfl (ga_inc a) (by decide) rfl (fun ls hl => ?_)
      refine lv_goto (tgt := 3) hx hb d_Fa_findDoubles_53 (by decide) ?_
      exact ih (a + 1, td, kk) _ _ _ (by show (41 - (a + 1)) < (41 - a); omega) ⟨lv_sub hl [0, 2, 3, 4, 5] rfl, hP, hD, hS, ⟨by omega, by omega, by omega, by rw [show 40 * (a + 1 - 1) = 40 * a by omega]; rw [gp_db_skipA g1 (by first | exact Or.inl c31 | exact Or.inr c36)]; exact g4⟩⟩
    · have c31 : us a = true := bI_1 c31
      refine lv_iload hx hb d_Fa_findDoubles_34 (lv_at hl 0 rfl) ?_
      refine lv_if_eq (tgt := 50) hx hb d_Fa_findDoubles_36 (by decide) (fun c36 => ?_) (fun c36 => ?_)
      · have c36 : (bn (gp_sl a pa sh)) = 0 := (nI_eq (a := (bn (gp_sl a pa sh))) (b := 0) (by omega) (by omega)).mp c36
        refine lv_iinc (v := nI (a + 1)) (lv' := [(4, .int (nI (a + 1))), (5, .int (nI (bn (gp_sl a pa sh)))), (0, .ref fa), (1, .ref pl), (2, .int (nI sh)), (3, .int (nI pa))]) hx hb d_Fa_findDoubles_50 hl (k := 1) rfl (ga_inc a) (by decide) rfl (fun ls hl => ?_)
        refine lv_goto (tgt := 3) hx hb d_Fa_findDoubles_53 (by decide) ?_
        exact ih (a + 1, td, kk) _ _ _ (by show (41 - (a + 1)) < (41 - a); omega) ⟨lv_sub hl [0, 2, 3, 4, 5] rfl, hP, hD, hS, ⟨by omega, by omega, by omega, by rw [show 40 * (a + 1 - 1) = 40 * a by omega]; rw [gp_db_skipA g1 (by first | exact Or.inl c31 | exact Or.inr c36)]; exact g4⟩⟩
      · have c36 : ¬ ((bn (gp_sl a pa sh)) = 0) := fun q => c36 ((nI_eq (a := (bn (gp_sl a pa sh))) (b := 0) (by omega) (by omega)).mpr q)
        refine lv_aload_n hx hb d_Fa_findDoubles_39 rfl (lv_at hl 2 rfl) ?_
        refine lv_aload_n hx hb d_Fa_findDoubles_40 rfl (lv_at hl 3 rfl) ?_
        refine lv_iload_n hx hb d_Fa_findDoubles_41 rfl (lv_at hl 4 rfl) ?_
        refine lv_iload_n hx hb d_Fa_findDoubles_42 rfl (lv_at hl 5 rfl) ?_
        refine lv_iload hx hb d_Fa_findDoubles_43 (lv_at hl 1 rfl) ?_
        refine lv_iload hx hb d_Fa_findDoubles_45 (lv_at hl 0 rfl) ?_
        refine ga_jv (wr := []) (ga_runV (As := [.ref pl, .int (nI sh), .int (nI pa), .int (nI a), .int (nI (bn (gp_sl a pa sh)))]) (rest := []) S hK s_Fa_47 (gc_Fa_findDoublesOf l D cI cZ cC cG fa fo kk td pl q1 q2 q3 q4 q5 q6 q7 q8 q9 rg sh pa (by omega) (by omega) bn shr us st0 a (by omega) (by omega) c31 c36 g4 hbn (by omega) _) (ga_prV (y := y_Fa_findDoublesOf) (q0 := 0) hK hP hD [0, 1, 2, 3, 4, 5] rfl (by decide) rfl rfl) rfl hl.1 rfl (Nat.le_of_ble_eq_true rfl) ⟨Nat.le_of_ble_eq_true rfl, Nat.le_of_ble_eq_true rfl⟩ ⟨Nat.le_of_ble_eq_true rfl, Nat.le_of_ble_eq_true rfl⟩ d_Fa_findDoubles_47) hP hD hS hA [0, 1, 2, 3, 4, 5] [] rfl rfl (by decide) (by decide) [0, 1, 2, 3, 4, 5] (fun (x : gp_F) => [(fa, .inr (0, [.ref fo, .int (nI x.2)])), (fo, .inl (cI, 500, .inl (nA x.1))), (pl, .inr (1, [.ref q1, .ref q2, .ref q3, .ref q4, .ref q5, .ref q6, .ref q7, .ref q8, .ref q9, .int (nI rg)])), (q1, .inl (cI, 480, .inl (nA bn))), (q2, .inl (cZ, 480, .inl (zA shr))), (q3, .inl (cZ, 41, .inl (zA us)))]) (fun _ => rfl) (by decide) (fun x H locs hp47 hP hD hS => ?_)
        obtain ⟨td2, kk2⟩ := x
        have hP : va_P D vwCl [(fa, .inr (0, [.ref fo, .int (nI kk2)])), (fo, .inl (cI, 500, .inl (nA td2))), (pl, .inr (1, [.ref q1, .ref q2, .ref q3, .ref q4, .ref q5, .ref q6, .ref q7, .ref q8, .ref q9, .int (nI rg)])), (q1, .inl (cI, 480, .inl (nA bn))), (q2, .inl (cZ, 480, .inl (zA shr))), (q3, .inl (cZ, 41, .inl (zA us)))] H := hP
        have hD : va_D A [(fa, .inr (0, [.ref fo, .int (nI kk2)])), (fo, .inl (cI, 500, .inl (nA td2))), (pl, .inr (1, [.ref q1, .ref q2, .ref q3, .ref q4, .ref q5, .ref q6, .ref q7, .ref q8, .ref q9, .int (nI rg)])), (q1, .inl (cI, 480, .inl (nA bn))), (q2, .inl (cZ, 480, .inl (zA shr))), (q3, .inl (cZ, 41, .inl (zA us)))] := hD
        have hl2 : kk2 ≤ st0.2 + 40 * a := by have := gp_db_le us bn shr sh pa st0 (40 * a); rw [← hp47] at this; exact this
        refine lv_iinc (v := nI (a + 1)) (lv' := [(4, .int (nI (a + 1))), (5, .int (nI (bn (gp_sl a pa sh)))), (0, .ref fa), (1, .ref pl), (2, .int (nI sh)), (3, .int (nI pa))]) hx hb d_Fa_findDoubles_50 hl (k := 1) rfl (ga_inc a) (by decide) rfl (fun ls hl => ?_)
        refine lv_goto (tgt := 3) hx hb d_Fa_findDoubles_53 (by decide) ?_
        exact ih (a + 1, td2, kk2) _ _ _ (by show (41 - (a + 1)) < (41 - a); omega) ⟨lv_sub hl [0, 2, 3, 4, 5] rfl, hP, hD, hS, ⟨by omega, by omega, by omega, by rw [show 40 * (a + 1 - 1) = 40 * a by omega]; exact hp47⟩⟩
theorem gp_isP_un {bn : Nat → Nat} {sh a b : Nat} (ha : gp_isP bn sh a) (hb : gp_isP bn sh b) : a = b := by
  have key : ∀ x y : Nat, gp_isP bn sh x → gp_isP bn sh y → x ≤ y := by
    intro x y hx hy
    rcases Nat.lt_or_ge y x with h | h
    · obtain ⟨t, h1, h2, h3⟩ := hx.2.2 (by omega)
      have := hy.2.1 t (x - 1) h1 h2 (by have := hx.1; omega) h3
      omega
    · exact h
  exact Nat.le_antisymm (key a b ha hb) (key b a hb ha)
set_option maxHeartbeats 4000000 in
set_option maxRecDepth 100000 in
theorem gc_Fa_findIn (l : Launch) (D : va_G) (cI cZ cC cG : ClassId) (fa fo k : Nat) (told : Nat → Nat) (pl q1 q2 q3 q4 q5 q6 q7 q8 q9 : Nat) (rg : Nat) (bn : Nat → Nat) (shr us : Nat → Bool) (pq : Nat → Nat) (hpq : ∀ sh, sh < 3 → gp_isP bn sh (pq sh)) (hbn : ∀ j, bn j ≤ 60) : ga_Mv l y_Fa_findIn b_Fa_findIn 5 3 0 0 D (ga_T cI cZ cC cG) [.ref fa, .ref pl] [(fa, .inr (0, [.ref fo, .int (nI k)])), (fo, .inl (cI, 500, .inl (nA told))), (pl, .inr (1, [.ref q1, .ref q2, .ref q3, .ref q4, .ref q5, .ref q6, .ref q7, .ref q8, .ref q9, .int (nI rg)])), (q1, .inl (cI, 480, .inl (nA bn))), (q2, .inl (cZ, 480, .inl (zA shr))), (q3, .inl (cZ, 41, .inl (zA us)))] (fun (x : gp_F) => [(fa, .inr (0, [.ref fo, .int (nI x.2)])), (fo, .inl (cI, 500, .inl (nA x.1))), (pl, .inr (1, [.ref q1, .ref q2, .ref q3, .ref q4, .ref q5, .ref q6, .ref q7, .ref q8, .ref q9, .int (nI rg)])), (q1, .inl (cI, 480, .inl (nA bn))), (q2, .inl (cZ, 480, .inl (zA shr))), (q3, .inl (cZ, 41, .inl (zA us)))]) (fun x => x = gp_ck us bn shr pq (told, 0) 12) := by
  refine ga_enV (by decide) (Nat.le_of_ble_eq_true rfl) ?_
  intro p e s m below meth c ls A S hrt hlk hnm hK hP hD hA hl
  have hS : va_S A s.heap s.heap [] := va_S.rf
  obtain ⟨hx, hb, hml, hown, hts⟩ := id S
  have hl : lv_has ls 5 [(0, .ref fa), (1, .ref pl)] := hl
  refine lv_aload_n hx hb d_Fa_findIn_0 rfl (lv_at hl 0 rfl) ?_
  refine lv_iconst (v := 0) hx hb d_Fa_findIn_1 (by decide) ?_
  refine ga_put (ws' := [(fa, .inr (0, [.ref fo, .int 0])), (fo, .inl (cI, 500, .inl (nA told))), (pl, .inr (1, [.ref q1, .ref q2, .ref q3, .ref q4, .ref q5, .ref q6, .ref q7, .ref q8, .ref q9, .int (nI rg)])), (q1, .inl (cI, 480, .inl (nA bn))), (q2, .inl (cZ, 480, .inl (zA shr))), (q3, .inl (cZ, 41, .inl (zA us)))]) S hK hP hD hS 0 rfl p_Fa_15 rfl rfl (Nat.le_of_ble_eq_true rfl) rfl d_Fa_findIn_2 (fun H locs hP hD hS => ?_)
  refine lv_iconst (v := 0) hx hb d_Fa_findIn_5 (by decide) ?_
  refine lv_istore_n (lv' := [(2, .int 0), (0, .ref fa), (1, .ref pl)]) hx hb d_Fa_findIn_6 rfl hl (by decide) rfl (fun ls hl => ?_)
  refine ga_loop (α := Nat × (Nat → Nat) × Nat) (fun x => match x with | (sh, td, kk) => 3 - sh) (fun x ls H locs => match x with | (sh, td, kk) => lv_has ls 5 [(2, .int (nI sh)), (0, .ref fa), (1, .ref pl)] ∧ va_P D vwCl [(fa, .inr (0, [.ref fo, .int (nI kk)])), (fo, .inl (cI, 500, .inl (nA td))), (pl, .inr (1, [.ref q1, .ref q2, .ref q3, .ref q4, .ref q5, .ref q6, .ref q7, .ref q8, .ref q9, .int (nI rg)])), (q1, .inl (cI, 480, .inl (nA bn))), (q2, .inl (cZ, 480, .inl (zA shr))), (q3, .inl (cZ, 41, .inl (zA us)))] H ∧ va_D A [(fa, .inr (0, [.ref fo, .int (nI kk)])), (fo, .inl (cI, 500, .inl (nA td))), (pl, .inr (1, [.ref q1, .ref q2, .ref q3, .ref q4, .ref q5, .ref q6, .ref q7, .ref q8, .ref q9, .int (nI rg)])), (q1, .inl (cI, 480, .inl (nA bn))), (q2, .inl (cZ, 480, .inl (zA shr))), (q3, .inl (cZ, 41, .inl (zA us)))] ∧ va_S A s.heap H locs ∧ sh ≤ 3 ∧ (td, kk) = gp_ck us bn shr pq (told, 0) (4 * sh)) ?_ (0, told, 0) ⟨lv_sub hl [0, 1, 2] rfl, hP, hD, hS, ⟨by decide, rfl⟩⟩
  intro x ls H locs hI ih1
  obtain ⟨sh, td, kk⟩ := x
  obtain ⟨hl, hP, hD, hS, ⟨g1, g2⟩⟩ := hI
  have hl : lv_has ls 5 [(2, .int (nI sh)), (0, .ref fa), (1, .ref pl)] := hl
  have hP : va_P D vwCl [(fa, .inr (0, [.ref fo, .int (nI kk)])), (fo, .inl (cI, 500, .inl (nA td))), (pl, .inr (1, [.ref q1, .ref q2, .ref q3, .ref q4, .ref q5, .ref q6, .ref q7, .ref q8, .ref q9, .int (nI rg)])), (q1, .inl (cI, 480, .inl (nA bn))), (q2, .inl (cZ, 480, .inl (zA shr))), (q3, .inl (cZ, 41, .inl (zA us)))] H := hP
  have hD : va_D A [(fa, .inr (0, [.ref fo, .int (nI kk)])), (fo, .inl (cI, 500, .inl (nA td))), (pl, .inr (1, [.ref q1, .ref q2, .ref q3, .ref q4, .ref q5, .ref q6, .ref q7, .ref q8, .ref q9, .int (nI rg)])), (q1, .inl (cI, 480, .inl (nA bn))), (q2, .inl (cZ, 480, .inl (zA shr))), (q3, .inl (cZ, 41, .inl (zA us)))] := hD
  refine lv_iload_n hx hb d_Fa_findIn_7 rfl (lv_at hl 0 rfl) ?_
  refine lv_iconst (v := 3) hx hb d_Fa_findIn_8 (by decide) ?_
  refine lv_icmp_ge (tgt := 55) hx hb d_Fa_findIn_9 (by decide) (fun c9 => ?_) (fun c9 => ?_)
  · have c9 : 3 ≤ sh := (nI_leI (a := 3) (b := sh) (by omega) (by omega)).mp c9
    exact ga_wv (td, kk) S hrt hlk hP hD hS (by rw [g2, show 4 * sh = 12 by omega]) d_Fa_findIn_55
  · have c9 : ¬ (3 ≤ sh) := fun q => c9 ((nI_leI (a := 3) (b := sh) (by omega) (by omega)).mpr q)
    refine lv_aload_n hx hb d_Fa_findIn_12 rfl (lv_at hl 2 rfl) ?_
    refine lv_iload_n hx hb d_Fa_findIn_13 rfl (lv_at hl 0 rfl) ?_
    refine ga_cr (As := [.int (nI sh)]) (rest := []) (q0 := 2) S hK hP s_Fa_19 (gc_Pl_passesOf l D cI cZ cC cG pl q1 q2 q3 q4 q5 q6 q7 q8 q9 rg sh bn (by omega) hbn) [2, 3] rfl rfl rfl rfl hl.1 rfl (Nat.le_of_ble_eq_true rfl) ⟨Nat.le_of_ble_eq_true rfl, Nat.le_of_ble_eq_true rfl⟩ ⟨Nat.le_of_ble_eq_true rfl, Nat.le_of_ble_eq_true rfl⟩ d_Fa_findIn_14 (fun r hp14 => ?_)
    obtain ⟨ps, rfl, hps⟩ := hp14
    have hps4 := hps.1
    obtain rfl : ps = pq sh := gp_isP_un hps (hpq sh (by omega))
    refine lv_istore_n (lv' := [(3, .int (nI (pq sh))), (2, .int (nI sh)), (0, .ref fa), (1, .ref pl)]) hx hb d_Fa_findIn_17 rfl hl (by decide) rfl (fun ls hl => ?_)
    refine lv_iconst (v := 0) hx hb d_Fa_findIn_18 (by decide) ?_
    refine lv_istore (lv' := [(4, .int 0), (3, .int (nI (pq sh))), (2, .int (nI sh)), (0, .ref fa), (1, .ref pl)]) hx hb d_Fa_findIn_19 hl (by decide) rfl (fun ls hl => ?_)
    refine ga_loop (α := Nat × (Nat → Nat) × Nat) (fun x => match x with | (pa, td2, kk2) => 4 - pa) (fun x ls H locs => match x with | (pa, td2, kk2) => lv_has ls 5 [(4, .int (nI pa)), (3, .int (nI (pq sh))), (2, .int (nI sh)), (0, .ref fa), (1, .ref pl)] ∧ va_P D vwCl [(fa, .inr (0, [.ref fo, .int (nI kk2)])), (fo, .inl (cI, 500, .inl (nA td2))), (pl, .inr (1, [.ref q1, .ref q2, .ref q3, .ref q4, .ref q5, .ref q6, .ref q7, .ref q8, .ref q9, .int (nI rg)])), (q1, .inl (cI, 480, .inl (nA bn))), (q2, .inl (cZ, 480, .inl (zA shr))), (q3, .inl (cZ, 41, .inl (zA us)))] H ∧ va_D A [(fa, .inr (0, [.ref fo, .int (nI kk2)])), (fo, .inl (cI, 500, .inl (nA td2))), (pl, .inr (1, [.ref q1, .ref q2, .ref q3, .ref q4, .ref q5, .ref q6, .ref q7, .ref q8, .ref q9, .int (nI rg)])), (q1, .inl (cI, 480, .inl (nA bn))), (q2, .inl (cZ, 480, .inl (zA shr))), (q3, .inl (cZ, 41, .inl (zA us)))] ∧ va_S A s.heap H locs ∧ pa ≤ pq sh ∧ (td2, kk2) = gp_ck us bn shr pq (told, 0) (4 * sh + pa)) ?_ (0, td, kk) ⟨lv_sub hl [0, 1, 2, 3, 4] rfl, hP, hD, hS, ⟨Nat.zero_le _, g2⟩⟩
    intro x ls H locs hI ih2
    obtain ⟨pa, td2, kk2⟩ := x
    obtain ⟨hl, hP, hD, hS, ⟨f1, f2⟩⟩ := hI
    have hl : lv_has ls 5 [(4, .int (nI pa)), (3, .int (nI (pq sh))), (2, .int (nI sh)), (0, .ref fa), (1, .ref pl)] := hl
    have hP : va_P D vwCl [(fa, .inr (0, [.ref fo, .int (nI kk2)])), (fo, .inl (cI, 500, .inl (nA td2))), (pl, .inr (1, [.ref q1, .ref q2, .ref q3, .ref q4, .ref q5, .ref q6, .ref q7, .ref q8, .ref q9, .int (nI rg)])), (q1, .inl (cI, 480, .inl (nA bn))), (q2, .inl (cZ, 480, .inl (zA shr))), (q3, .inl (cZ, 41, .inl (zA us)))] H := hP
    have hD : va_D A [(fa, .inr (0, [.ref fo, .int (nI kk2)])), (fo, .inl (cI, 500, .inl (nA td2))), (pl, .inr (1, [.ref q1, .ref q2, .ref q3, .ref q4, .ref q5, .ref q6, .ref q7, .ref q8, .ref q9, .int (nI rg)])), (q1, .inl (cI, 480, .inl (nA bn))), (q2, .inl (cZ, 480, .inl (zA shr))), (q3, .inl (cZ, 41, .inl (zA us)))] := hD
    have hkk : kk2 ≤ 0 + 1640 * (4 * sh + pa) := by have := gp_ck_le us bn shr pq (told, 0) (4 * sh + pa); rw [← f2] at this; exact this
    refine lv_iload hx hb d_Fa_findIn_21 (lv_at hl 0 rfl) ?_
    refine lv_iload_n hx hb d_Fa_findIn_23 rfl (lv_at hl 1 rfl) ?_
    refine lv_icmp_ge (tgt := 49) hx hb d_Fa_findIn_24 (by decide) (fun c24 => ?_) (fun c24 => ?_)
    · have c24 : (pq sh) ≤ pa := (nI_leI (a := (pq sh)) (b := pa) (by omega) (by omega)).mp c24
      refine lv_iinc (v := nI (sh + 1)) (lv' := [(2, .int (nI (sh + 1))), (4, .int (nI pa)), (3, .int (nI (pq sh))), (0, .ref fa), (1, .ref pl)]) hx hb d_Fa_findIn_49 hl (k := 2) rfl (ga_inc sh) (by decide) rfl (fun ls hl => ?_)
      refine lv_goto (tgt := 7) hx hb d_Fa_findIn_52 (by decide) ?_
      exact ih1 (sh + 1, td2, kk2) _ _ _ (by show (3 - (sh + 1)) < (3 - sh); omega) ⟨lv_sub hl [0, 3, 4] rfl, hP, hD, hS, ⟨by omega, by rw [show 4 * (sh + 1) = 4 * sh + (pq sh + (4 - pq sh)) by omega, gp_ck_end (hpq sh (by omega)) _ (by omega), f2, show pa = pq sh by omega]⟩⟩
    · have c24 : ¬ ((pq sh) ≤ pa) := fun q => c24 ((nI_leI (a := (pq sh)) (b := pa) (by omega) (by omega)).mpr q)
      refine lv_aload_n hx hb d_Fa_findIn_27 rfl (lv_at hl 3 rfl) ?_
      refine lv_aload_n hx hb d_Fa_findIn_28 rfl (lv_at hl 4 rfl) ?_
      refine lv_iload_n hx hb d_Fa_findIn_29 rfl (lv_at hl 2 rfl) ?_
      refine lv_iload hx hb d_Fa_findIn_30 (lv_at hl 0 rfl) ?_
      refine ga_jv (wr := [(q2, .inl (cZ, 480, .inl (zA shr)))]) (ga_runV (As := [.ref pl, .int (nI sh), .int (nI pa)]) (rest := []) S hK s_Fa_25 (gc_Fa_findHoles l D cI cZ cC cG fa fo kk2 td2 pl q1 q2 q3 q4 q5 q6 q7 q8 q9 rg sh pa (by omega) (by omega) bn us hbn (by omega) _) (ga_prV (y := y_Fa_findHoles) (q0 := 0) hK hP hD [0, 1, 2, 3, 5] rfl (by decide) rfl rfl) rfl hl.1 rfl (Nat.le_of_ble_eq_true rfl) ⟨Nat.le_of_ble_eq_true rfl, Nat.le_of_ble_eq_true rfl⟩ ⟨Nat.le_of_ble_eq_true rfl, Nat.le_of_ble_eq_true rfl⟩ d_Fa_findIn_32) hP hD hS hA [0, 1, 2, 3, 5] [4] rfl rfl (by decide) (by decide) [1, 2, 3, 4, 0, 5] (fun (x : gp_F) => [(fa, .inr (0, [.ref fo, .int (nI x.2)])), (fo, .inl (cI, 500, .inl (nA x.1))), (pl, .inr (1, [.ref q1, .ref q2, .ref q3, .ref q4, .ref q5, .ref q6, .ref q7, .ref q8, .ref q9, .int (nI rg)])), (q1, .inl (cI, 480, .inl (nA bn))), (q2, .inl (cZ, 480, .inl (zA shr))), (q3, .inl (cZ, 41, .inl (zA us)))]) (fun _ => rfl) (by decide) (fun x H locs hp32 hP hD hS => ?_)
      obtain ⟨td1, kk1⟩ := x
      have hP : va_P D vwCl [(fa, .inr (0, [.ref fo, .int (nI kk1)])), (fo, .inl (cI, 500, .inl (nA td1))), (pl, .inr (1, [.ref q1, .ref q2, .ref q3, .ref q4, .ref q5, .ref q6, .ref q7, .ref q8, .ref q9, .int (nI rg)])), (q1, .inl (cI, 480, .inl (nA bn))), (q2, .inl (cZ, 480, .inl (zA shr))), (q3, .inl (cZ, 41, .inl (zA us)))] H := hP
      have hD : va_D A [(fa, .inr (0, [.ref fo, .int (nI kk1)])), (fo, .inl (cI, 500, .inl (nA td1))), (pl, .inr (1, [.ref q1, .ref q2, .ref q3, .ref q4, .ref q5, .ref q6, .ref q7, .ref q8, .ref q9, .int (nI rg)])), (q1, .inl (cI, 480, .inl (nA bn))), (q2, .inl (cZ, 480, .inl (zA shr))), (q3, .inl (cZ, 41, .inl (zA us)))] := hD
      have hl1 : kk1 ≤ kk2 + 40 := by have := gp_hl_le us bn sh pa (td2, kk2) 40; rw [← hp32] at this; exact this
      refine lv_aload_n hx hb d_Fa_findIn_35 rfl (lv_at hl 3 rfl) ?_
      refine lv_aload_n hx hb d_Fa_findIn_36 rfl (lv_at hl 4 rfl) ?_
      refine lv_iload_n hx hb d_Fa_findIn_37 rfl (lv_at hl 2 rfl) ?_
      refine lv_iload hx hb d_Fa_findIn_38 (lv_at hl 0 rfl) ?_
      refine ga_jv (wr := []) (ga_runV (As := [.ref pl, .int (nI sh), .int (nI pa)]) (rest := []) S hK s_Fa_29 (gc_Fa_findDoubles l D cI cZ cC cG fa fo kk1 td1 pl q1 q2 q3 q4 q5 q6 q7 q8 q9 rg sh pa (by omega) (by omega) bn shr us hbn (by omega) _) (ga_prV (y := y_Fa_findDoubles) (q0 := 0) hK hP hD [0, 1, 2, 3, 4, 5] rfl (by decide) rfl rfl) rfl hl.1 rfl (Nat.le_of_ble_eq_true rfl) ⟨Nat.le_of_ble_eq_true rfl, Nat.le_of_ble_eq_true rfl⟩ ⟨Nat.le_of_ble_eq_true rfl, Nat.le_of_ble_eq_true rfl⟩ d_Fa_findIn_40) hP hD hS hA [0, 1, 2, 3, 4, 5] [] rfl rfl (by decide) (by decide) [0, 1, 2, 3, 4, 5] (fun (x : gp_F) => [(fa, .inr (0, [.ref fo, .int (nI x.2)])), (fo, .inl (cI, 500, .inl (nA x.1))), (pl, .inr (1, [.ref q1, .ref q2, .ref q3, .ref q4, .ref q5, .ref q6, .ref q7, .ref q8, .ref q9, .int (nI rg)])), (q1, .inl (cI, 480, .inl (nA bn))), (q2, .inl (cZ, 480, .inl (zA shr))), (q3, .inl (cZ, 41, .inl (zA us)))]) (fun _ => rfl) (by decide) (fun x H locs hp40 hP hD hS => ?_)
      obtain ⟨td2, kk2⟩ := x
      have hP : va_P D vwCl [(fa, .inr (0, [.ref fo, .int (nI kk2)])), (fo, .inl (cI, 500, .inl (nA td2))), (pl, .inr (1, [.ref q1, .ref q2, .ref q3, .ref q4, .ref q5, .ref q6, .ref q7, .ref q8, .ref q9, .int (nI rg)])), (q1, .inl (cI, 480, .inl (nA bn))), (q2, .inl (cZ, 480, .inl (zA shr))), (q3, .inl (cZ, 41, .inl (zA us)))] H := hP
      have hD : va_D A [(fa, .inr (0, [.ref fo, .int (nI kk2)])), (fo, .inl (cI, 500, .inl (nA td2))), (pl, .inr (1, [.ref q1, .ref q2, .ref q3, .ref q4, .ref q5, .ref q6, .ref q7, .ref q8, .ref q9, .int (nI rg)])), (q1, .inl (cI, 480, .inl (nA bn))), (q2, .inl (cZ, 480, .inl (zA shr))), (q3, .inl (cZ, 41, .inl (zA us)))] := hD
      refine lv_iinc (v := nI (pa + 1)) (lv' := [(4, .int (nI (pa + 1))), (3, .int (nI (pq sh))), (2, .int (nI sh)), (0, .ref fa), (1, .ref pl)]) hx hb d_Fa_findIn_43 hl (k := 0) rfl (ga_inc pa) (by decide) rfl (fun ls hl => ?_)
      refine lv_goto (tgt := 21) hx hb d_Fa_findIn_46 (by decide) ?_
      exact ih2 (pa + 1, td2, kk2) _ _ _ (by show (4 - (pa + 1)) < (4 - pa); omega) ⟨lv_sub hl [0, 1, 2, 3, 4] rfl, hP, hD, hS, ⟨by omega, by rw [show 4 * sh + (pa + 1) = 4 * sh + pa + 1 by omega, gp_ck_in (by omega) (by omega), ← f2, ← hp32, ← hp40]⟩⟩
