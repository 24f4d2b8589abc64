set_option maxHeartbeats 4000000 in
set_option maxRecDepth 100000 in
theorem gc_Fa_add (l : Launch) (D : va_G) (cI cZ cC cG : ClassId) (fa fo k sh pa t o b : Nat) (told : Nat → Nat) (hk : k < 2 ^ 30) : ga_Mv l y_Fa_add b_Fa_add 7 0 0 0 D (ga_T cI cZ cC cG) [.ref fa, .int (nI sh), .int (nI pa), .int (nI t), .int (nI o), .int (nI b)] [(fa, .inr (0, [.ref fo, .int (nI k)])), (fo, .inl (cI, 500, .inl (nA told)))] (fun (_ : Unit) => [(fa, .inr (0, [.ref fo, .int (nI ((gp_add (told, k) sh pa t o b).2))])), (fo, .inl (cI, 500, .inl (nA ((gp_add (told, k) sh pa t o b).1))))]) (fun _ => True) := by
  refine ga_enV (by decide) (Nat.le_of_ble_eq_true rfl) ?_
  intro p e s m below meth c ls A S hrt hlk hnm hK hP hD hA hl
  have hS : va_S A s.heap s.heap [] := va_S.rf
  obtain ⟨hx, hb, hml, hown, hts⟩ := id S
  have hl : lv_has ls 7 [(0, .ref fa), (1, .int (nI sh)), (2, .int (nI pa)), (3, .int (nI t)), (4, .int (nI o)), (5, .int (nI b))] := hl
  refine lv_aload_n hx hb d_Fa_add_0 rfl (lv_at hl 0 rfl) ?_
  refine ga_get S hK hP 0 rfl f_Fa_15 rfl d_Fa_add_1 ?_
  refine lv_bipush (v := 100) hx hb d_Fa_add_4 (by decide) ?_
  refine lv_icmp_ge (tgt := 67) hx hb d_Fa_add_6 (by decide) (fun c6 => ?_) (fun c6 => ?_)
  · have c6 : 100 ≤ k := (nI_leI (a := 100) (b := k) (by omega) (by omega)).mp c6
    have he : gp_add (told, k) sh pa t o b = (told, k + 1) := by rw [gp_add, if_neg (by simp only; omega)]
    refine lv_aload_n hx hb d_Fa_add_67 rfl (lv_at hl 0 rfl) ?_
    refine lv_dup hx hb d_Fa_add_68 rfl ?_
    refine ga_get S hK hP 0 rfl f_Fa_15 rfl d_Fa_add_69 ?_
    refine lv_iconst (v := 1) hx hb d_Fa_add_72 (by decide) ?_
    refine lv_iadd hx hb d_Fa_add_73 ?_
    refine ga_top (nI (k + 1)) (nI_add k 1) ?_
    refine ga_put (ws' := [(fa, .inr (0, [.ref fo, .int (nI (k + 1))])), (fo, .inl (cI, 500, .inl (nA told)))]) S hK hP hD hS 0 rfl p_Fa_15 rfl rfl (Nat.le_of_ble_eq_true rfl) rfl d_Fa_add_74 (fun H locs hP hD hS => ?_)
    exact ga_wv () S hrt hlk (by rw [he]; exact hP) (by rw [he]; exact hD) hS trivial d_Fa_add_77
  · have c6 : ¬ (100 ≤ k) := fun q => c6 ((nI_leI (a := 100) (b := k) (by omega) (by omega)).mpr q)
    have he : gp_add (told, k) sh pa t o b = (va_up (va_up (va_up (va_up (va_up told (k * 5) sh) (k * 5 + 1) pa) (k * 5 + 2) t) (k * 5 + 3) o) (k * 5 + 4) b, k + 1) := by rw [gp_add, if_pos (by simp only; omega)]
    refine lv_aload_n hx hb d_Fa_add_9 rfl (lv_at hl 0 rfl) ?_
    refine ga_get S hK hP 0 rfl f_Fa_15 rfl d_Fa_add_10 ?_
    refine lv_iconst (v := 5) hx hb d_Fa_add_13 (by decide) ?_
    refine lv_imul hx hb d_Fa_add_14 ?_
    refine ga_top (nI (k * 5)) (pk_mul k 5) ?_
    refine lv_istore (lv' := [(6, .int (nI (k * 5))), (0, .ref fa), (1, .int (nI sh)), (2, .int (nI pa)), (3, .int (nI t)), (4, .int (nI o)), (5, .int (nI b))]) hx hb d_Fa_add_15 hl (by decide) rfl (fun ls hl => ?_)
    refine lv_aload_n hx hb d_Fa_add_17 rfl (lv_at hl 1 rfl) ?_
    refine ga_get S hK hP 0 rfl f_Fa_11 rfl d_Fa_add_18 ?_
    refine lv_iload hx hb d_Fa_add_21 (lv_at hl 0 rfl) ?_
    refine lv_iload_n hx hb d_Fa_add_23 rfl (lv_at hl 2 rfl) ?_
    refine ga_ist (ws' := [(fa, .inr (0, [.ref fo, .int (nI k)])), (fo, .inl (cI, 500, .inl (nA (va_up told (k * 5) sh))))]) S hK hP hD hS 1 0 rfl rfl (k * 5) sh (by omega) (by decide) rfl d_Fa_add_24 (fun H locs hP hD hS => ?_)
    refine lv_aload_n hx hb d_Fa_add_25 rfl (lv_at hl 1 rfl) ?_
    refine ga_get S hK hP 0 rfl f_Fa_11 rfl d_Fa_add_26 ?_
    refine lv_iload hx hb d_Fa_add_29 (lv_at hl 0 rfl) ?_
    refine lv_iconst (v := 1) hx hb d_Fa_add_31 (by decide) ?_
    refine lv_iadd hx hb d_Fa_add_32 ?_
    refine ga_top (nI ((k * 5) + 1)) (nI_add (k * 5) 1) ?_
    refine lv_iload_n hx hb d_Fa_add_33 rfl (lv_at hl 3 rfl) ?_
    refine ga_ist (ws' := [(fa, .inr (0, [.ref fo, .int (nI k)])), (fo, .inl (cI, 500, .inl (nA (va_up (va_up told (k * 5) sh) ((k * 5) + 1) pa))))]) S hK hP hD hS 1 0 rfl rfl ((k * 5) + 1) pa (by omega) (by decide) rfl d_Fa_add_34 (fun H locs hP hD hS => ?_)
    refine lv_aload_n hx hb d_Fa_add_35 rfl (lv_at hl 1 rfl) ?_
    refine ga_get S hK hP 0 rfl f_Fa_11 rfl d_Fa_add_36 ?_
    refine lv_iload hx hb d_Fa_add_39 (lv_at hl 0 rfl) ?_
    refine lv_iconst (v := 2) hx hb d_Fa_add_41 (by decide) ?_
    refine lv_iadd hx hb d_Fa_add_42 ?_
    refine ga_top (nI ((k * 5) + 2)) (nI_add (k * 5) 2) ?_
    refine lv_iload_n hx hb d_Fa_add_43 rfl (lv_at hl 4 rfl) ?_
    refine ga_ist (ws' := [(fa, .inr (0, [.ref fo, .int (nI k)])), (fo, .inl (cI, 500, .inl (nA (va_up (va_up (va_up told (k * 5) sh) ((k * 5) + 1) pa) ((k * 5) + 2) t))))]) S hK hP hD hS 1 0 rfl rfl ((k * 5) + 2) t (by omega) (by decide) rfl d_Fa_add_44 (fun H locs hP hD hS => ?_)
    refine lv_aload_n hx hb d_Fa_add_45 rfl (lv_at hl 1 rfl) ?_
    refine ga_get S hK hP 0 rfl f_Fa_11 rfl d_Fa_add_46 ?_
    refine lv_iload hx hb d_Fa_add_49 (lv_at hl 0 rfl) ?_
    refine lv_iconst (v := 3) hx hb d_Fa_add_51 (by decide) ?_
    refine lv_iadd hx hb d_Fa_add_52 ?_
    refine ga_top (nI ((k * 5) + 3)) (nI_add (k * 5) 3) ?_
    refine lv_iload hx hb d_Fa_add_53 (lv_at hl 5 rfl) ?_
    refine ga_ist (ws' := [(fa, .inr (0, [.ref fo, .int (nI k)])), (fo, .inl (cI, 500, .inl (nA (va_up (va_up (va_up (va_up told (k * 5) sh) ((k * 5) + 1) pa) ((k * 5) + 2) t) ((k * 5) + 3) o))))]) S hK hP hD hS 1 0 rfl rfl ((k * 5) + 3) o (by omega) (by decide) rfl d_Fa_add_55 (fun H locs hP hD hS => ?_)
    refine lv_aload_n hx hb d_Fa_add_56 rfl (lv_at hl 1 rfl) ?_
    refine ga_get S hK hP 0 rfl f_Fa_11 rfl d_Fa_add_57 ?_
    refine lv_iload hx hb d_Fa_add_60 (lv_at hl 0 rfl) ?_
    refine lv_iconst (v := 4) hx hb d_Fa_add_62 (by decide) ?_
    refine lv_iadd hx hb d_Fa_add_63 ?_
    refine ga_top (nI ((k * 5) + 4)) (nI_add (k * 5) 4) ?_
    refine lv_iload hx hb d_Fa_add_64 (lv_at hl 6 rfl) ?_
    refine ga_ist (ws' := [(fa, .inr (0, [.ref fo, .int (nI k)])), (fo, .inl (cI, 500, .inl (nA (va_up (va_up (va_up (va_up (va_up told (k * 5) sh) ((k * 5) + 1) pa) ((k * 5) + 2) t) ((k * 5) + 3) o) ((k * 5) + 4) b))))]) S hK hP hD hS 1 0 rfl rfl ((k * 5) + 4) b (by omega) (by decide) rfl d_Fa_add_66 (fun H locs hP hD hS => ?_)
    refine lv_aload_n hx hb d_Fa_add_67 rfl (lv_at hl 1 rfl) ?_
    refine lv_dup hx hb d_Fa_add_68 rfl ?_
    refine ga_get S hK hP 0 rfl f_Fa_15 rfl d_Fa_add_69 ?_
    refine lv_iconst (v := 1) hx hb d_Fa_add_72 (by decide) ?_
    refine lv_iadd hx hb d_Fa_add_73 ?_
    refine ga_top (nI (k + 1)) (nI_add k 1) ?_
    refine ga_put (ws' := [(fa, .inr (0, [.ref fo, .int (nI (k + 1))])), (fo, .inl (cI, 500, .inl (nA (va_up (va_up (va_up (va_up (va_up told (k * 5) sh) ((k * 5) + 1) pa) ((k * 5) + 2) t) ((k * 5) + 3) o) ((k * 5) + 4) b))))]) S hK hP hD hS 0 rfl p_Fa_15 rfl rfl (Nat.le_of_ble_eq_true rfl) rfl d_Fa_add_74 (fun H locs hP hD hS => ?_)
    exact ga_wv () S hrt hlk (by rw [he]; exact hP) (by rw [he]; exact hD) hS trivial d_Fa_add_77
set_option maxHeartbeats 4000000 in
set_option maxRecDepth 100000 in
theorem gc_Fa_tell (l : Launch) (D : va_G) (cI cZ cC cG : ClassId) (fa fo k : Nat) (told : Nat → Nat) (i w : Int32) (hk : k < 2 ^ 30) : ga_Mr l y_Fa_tell b_Fa_tell 3 (some .int) 0 D (ga_T cI cZ cC cG) [.ref fa, .int i, .int w] [(fa, .inr (0, [.ref fo, .int (nI k)])), (fo, .inl (cI, 500, .inl (nA told)))] (fun r => r = gp_tell told k i w) := by
  refine ga_enR (by decide) (Nat.le_of_ble_eq_true rfl) ?_
  intro p e s m below meth c ls S hrt hlk hK hP hl
  obtain ⟨hx, hb, hml, hown, hts⟩ := id S
  have hl : lv_has ls 3 [(0, .ref fa), (1, .int i), (2, .int w)] := hl
  refine lv_iload_n hx hb d_Fa_tell_0 rfl (lv_at hl 1 rfl) ?_
  refine lv_if_lt (tgt := 27) hx hb d_Fa_tell_1 (by decide) (fun c1 => ?_) (fun c1 => ?_)
  · have he : gp_tell told k i w = -1 := by rw [gp_tell, if_neg (fun q => absurd q.1 (gp_ltz c1))]
    refine lv_iconst (v := (-1)) hx hb d_Fa_tell_27 (by decide) ?_
    exact ga_ri S hrt hlk he.symm d_Fa_tell_28
  · obtain ⟨i, hi, rfl⟩ := nI_of c1
    refine lv_iload_n hx hb d_Fa_tell_4 rfl (lv_at hl 1 rfl) ?_
    refine lv_aload_n hx hb d_Fa_tell_5 rfl (lv_at hl 0 rfl) ?_
    refine ga_get S hK hP 0 rfl f_Fa_15 rfl d_Fa_tell_6 ?_
    refine lv_icmp_ge (tgt := 27) hx hb d_Fa_tell_9 (by decide) (fun c9 => ?_) (fun c9 => ?_)
    · have c9 : k ≤ i := (nI_leI (a := k) (b := i) (by omega) (by omega)).mp c9
      have he : gp_tell told k (nI i) w = -1 := by rw [gp_tell, nI_toInt hi, if_neg (by omega)]
      refine lv_iconst (v := (-1)) hx hb d_Fa_tell_27 (by decide) ?_
      exact ga_ri S hrt hlk he.symm d_Fa_tell_28
    · have c9 : ¬ (k ≤ i) := fun q => c9 ((nI_leI (a := k) (b := i) (by omega) (by omega)).mpr q)
      refine lv_iload_n hx hb d_Fa_tell_12 rfl (lv_at hl 1 rfl) ?_
      refine lv_bipush (v := 100) hx hb d_Fa_tell_13 (by decide) ?_
      refine lv_icmp_ge (tgt := 27) hx hb d_Fa_tell_15 (by decide) (fun c15 => ?_) (fun c15 => ?_)
      · have c15 : 100 ≤ i := (nI_leI (a := 100) (b := i) (by omega) (by omega)).mp c15
        have he : gp_tell told k (nI i) w = -1 := by rw [gp_tell, nI_toInt hi, if_neg (by omega)]
        refine lv_iconst (v := (-1)) hx hb d_Fa_tell_27 (by decide) ?_
        exact ga_ri S hrt hlk he.symm d_Fa_tell_28
      · have c15 : ¬ (100 ≤ i) := fun q => c15 ((nI_leI (a := 100) (b := i) (by omega) (by omega)).mpr q)
        refine lv_iload_n hx hb d_Fa_tell_18 rfl (lv_at hl 2 rfl) ?_
        refine lv_if_lt (tgt := 27) hx hb d_Fa_tell_19 (by decide) (fun c19 => ?_) (fun c19 => ?_)
        · have he : gp_tell told k (nI i) w = -1 := by rw [gp_tell, if_neg (fun q => absurd q.2.2.2.1 (gp_ltz c19))]
          refine lv_iconst (v := (-1)) hx hb d_Fa_tell_27 (by decide) ?_
          exact ga_ri S hrt hlk he.symm d_Fa_tell_28
        · obtain ⟨w, hw, rfl⟩ := nI_of c19
          refine lv_iload_n hx hb d_Fa_tell_22 rfl (lv_at hl 2 rfl) ?_
          refine lv_iconst (v := 5) hx hb d_Fa_tell_23 (by decide) ?_
          refine lv_icmp_lt (tgt := 29) hx hb d_Fa_tell_24 (by decide) (fun c24 => ?_) (fun c24 => ?_)
          · have c24 : w < 5 := (nI_ltI (a := w) (b := 5) (by omega) (by omega)).mp c24
            have he : gp_tell told k (nI i) (nI w) = nI (told (i * 5 + w)) := by rw [gp_tell, nI_toInt hi, nI_toInt hw, if_pos (by omega)]; rfl
            refine lv_aload_n hx hb d_Fa_tell_29 rfl (lv_at hl 0 rfl) ?_
            refine ga_get S hK hP 0 rfl f_Fa_11 rfl d_Fa_tell_30 ?_
            refine lv_iload_n hx hb d_Fa_tell_33 rfl (lv_at hl 1 rfl) ?_
            refine lv_iconst (v := 5) hx hb d_Fa_tell_34 (by decide) ?_
            refine lv_imul hx hb d_Fa_tell_35 ?_
            refine ga_top (nI (i * 5)) (pk_mul i 5) ?_
            refine lv_iload_n hx hb d_Fa_tell_36 rfl (lv_at hl 2 rfl) ?_
            refine lv_iadd hx hb d_Fa_tell_37 ?_
            refine ga_top (nI ((i * 5) + w)) (nI_add (i * 5) w) ?_
            refine ga_ild S hK hP 1 0 rfl rfl ((i * 5) + w) (by omega) (by decide) d_Fa_tell_38 ?_
            exact ga_ri S hrt hlk he.symm d_Fa_tell_39
          · have c24 : ¬ (w < 5) := fun q => c24 ((nI_ltI (a := w) (b := 5) (by omega) (by omega)).mpr q)
            have he : gp_tell told k (nI i) (nI w) = -1 := by rw [gp_tell, nI_toInt hi, nI_toInt hw, if_neg (by omega)]
            refine lv_iconst (v := (-1)) hx hb d_Fa_tell_27 (by decide) ?_
            exact ga_ri S hrt hlk he.symm d_Fa_tell_28
