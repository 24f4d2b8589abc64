set_option maxHeartbeats 4000000 in
set_option maxRecDepth 100000 in
theorem gc_Pl_addBin (l : Launch) (D : va_G) (cI cZ cC cG : ClassId) (pl q1 q2 q3 q4 q5 q6 q7 q8 q9 : Nat) (rg sl v : Nat) (bn : Nat → Nat) (shr : Nat → Bool) (sb : Bool) (hsl : sl < 480) (hbn : ∀ j, bn j < 2 ^ 31) : ga_Mi l y_Pl_addBin b_Pl_addBin 4 (some .boolean) 0 0 0 D (ga_T cI cZ cC cG) [.ref pl, .int (nI sl), .int (nI v), .int (bI sb)] [(pl, .inr (1, [.ref q1, .ref q2, .ref q3, .ref q4, .ref q5, .ref q6, .ref q7, .ref q8, .ref q9, .int (nI rg)])), (q1, .inl (cI, 480, .inl (nA bn))), (q2, .inl (cZ, 480, .inl (zA shr)))] (fun (x : (Nat → Nat) × (Nat → Bool)) => [(pl, .inr (1, [.ref q1, .ref q2, .ref q3, .ref q4, .ref q5, .ref q6, .ref q7, .ref q8, .ref q9, .int (nI rg)])), (q1, .inl (cI, 480, .inl (nA x.1))), (q2, .inl (cZ, 480, .inl (zA x.2)))]) (fun r x => (r = 1 ∧ bn sl = 0 ∧ x = (va_up bn sl v, va_up shr sl sb)) ∨ (r = 0 ∧ bn sl ≠ 0 ∧ x = (bn, shr))) := by
  refine ga_enI (by decide) (Nat.le_of_ble_eq_true rfl) ?_
  intro p e s m below meth c ls A S hrt hlk hK hP hD hA hl
  have hS : va_S A s.heap s.heap [] := va_S.rf
  obtain ⟨hx, hb, hml, hown, hts⟩ := id S
  have hl : lv_has ls 4 [(0, .ref pl), (1, .int (nI sl)), (2, .int (nI v)), (3, .int (bI sb))] := hl
  refine lv_aload_n hx hb d_Pl_addBin_0 rfl (lv_at hl 0 rfl) ?_
  refine ga_get S hK hP 0 rfl f_Pl_11 rfl d_Pl_addBin_1 ?_
  refine lv_iload_n hx hb d_Pl_addBin_4 rfl (lv_at hl 1 rfl) ?_
  refine ga_ild S hK hP 1 0 rfl rfl sl (by omega) (by decide) d_Pl_addBin_5 ?_
  have hb1 := hbn sl
  refine lv_if_eq (tgt := 11) hx hb d_Pl_addBin_6 (by decide) (fun c6 => ?_) (fun c6 => ?_)
  · have c6 : (bn sl) = 0 := (nI_eq (a := (bn sl)) (b := 0) (by omega) (by omega)).mp c6
    refine lv_aload_n hx hb d_Pl_addBin_11 rfl (lv_at hl 0 rfl) ?_
    refine ga_get S hK hP 0 rfl f_Pl_11 rfl d_Pl_addBin_12 ?_
    refine lv_iload_n hx hb d_Pl_addBin_15 rfl (lv_at hl 1 rfl) ?_
    refine lv_iload_n hx hb d_Pl_addBin_16 rfl (lv_at hl 2 rfl) ?_
    refine ga_ist (ws' := [(pl, .inr (1, [.ref q1, .ref q2, .ref q3, .ref q4, .ref q5, .ref q6, .ref q7, .ref q8, .ref q9, .int (nI rg)])), (q1, .inl (cI, 480, .inl (nA (va_up bn sl v)))), (q2, .inl (cZ, 480, .inl (zA shr)))]) S hK hP hD hS 1 0 rfl rfl sl v (by omega) (by decide) rfl d_Pl_addBin_17 (fun H locs hP hD hS => ?_)
    refine lv_aload_n hx hb d_Pl_addBin_18 rfl (lv_at hl 0 rfl) ?_
    refine ga_get S hK hP 0 rfl f_Pl_17 rfl d_Pl_addBin_19 ?_
    refine lv_iload_n hx hb d_Pl_addBin_22 rfl (lv_at hl 1 rfl) ?_
    refine lv_iload_n hx hb d_Pl_addBin_23 rfl (lv_at hl 3 rfl) ?_
    refine ga_zst (ws' := [(pl, .inr (1, [.ref q1, .ref q2, .ref q3, .ref q4, .ref q5, .ref q6, .ref q7, .ref q8, .ref q9, .int (nI rg)])), (q1, .inl (cI, 480, .inl (nA (va_up bn sl v)))), (q2, .inl (cZ, 480, .inl (zA (va_up shr sl sb))))]) S hK hP hD hS 2 1 rfl rfl sl sb (by omega) (by decide) rfl d_Pl_addBin_24 (fun H locs hP hD hS => ?_)
    refine lv_iconst (v := 1) hx hb d_Pl_addBin_25 (by decide) ?_
    exact ga_wz (va_up bn sl v, va_up shr sl sb) S hrt hlk (Or.inr rfl) hP hD hS (Or.inl ⟨rfl, c6, rfl⟩) d_Pl_addBin_26
  · have c6 : ¬ ((bn sl) = 0) := fun q => c6 ((nI_eq (a := (bn sl)) (b := 0) (by omega) (by omega)).mpr q)
    refine lv_iconst (v := 0) hx hb d_Pl_addBin_9 (by decide) ?_
    exact ga_wz (bn, shr) S hrt hlk (Or.inl rfl) hP hD hS (Or.inr ⟨rfl, c6, rfl⟩) d_Pl_addBin_10
set_option maxHeartbeats 4000000 in
set_option maxRecDepth 100000 in
theorem gc_Pl_addGoingOn (l : Launch) (D : va_G) (cI cZ cC cG : ClassId) (pl q1 q2 q3 q4 q5 q6 q7 q8 q9 : Nat) (rg bi v : Nat) (ne : Nat → Nat) (hbi : bi ≤ 60) (hne : ∀ j, ne j < 2 ^ 31) : ga_Mi l y_Pl_addGoingOn b_Pl_addGoingOn 3 (some .boolean) 0 0 0 D (ga_T cI cZ cC cG) [.ref pl, .int (nI bi), .int (nI v)] [(pl, .inr (1, [.ref q1, .ref q2, .ref q3, .ref q4, .ref q5, .ref q6, .ref q7, .ref q8, .ref q9, .int (nI rg)])), (q5, .inl (cI, 61, .inl (nA ne)))] (fun (x : Nat → Nat) => [(pl, .inr (1, [.ref q1, .ref q2, .ref q3, .ref q4, .ref q5, .ref q6, .ref q7, .ref q8, .ref q9, .int (nI rg)])), (q5, .inl (cI, 61, .inl (nA x)))]) (fun r x => (r = 1 ∧ ne bi = 0 ∧ x = va_up ne bi v) ∨ (r = 0 ∧ ne bi ≠ 0 ∧ x = ne)) := by
  refine ga_enI (by decide) (Nat.le_of_ble_eq_true rfl) ?_
  intro p e s m below meth c ls A S hrt hlk hK hP hD hA hl
  have hS : va_S A s.heap s.heap [] := va_S.rf
  obtain ⟨hx, hb, hml, hown, hts⟩ := id S
  have hl : lv_has ls 3 [(0, .ref pl), (1, .int (nI bi)), (2, .int (nI v))] := hl
  refine lv_aload_n hx hb d_Pl_addGoingOn_0 rfl (lv_at hl 0 rfl) ?_
  refine ga_get S hK hP 0 rfl f_Pl_27 rfl d_Pl_addGoingOn_1 ?_
  refine lv_iload_n hx hb d_Pl_addGoingOn_4 rfl (lv_at hl 1 rfl) ?_
  refine ga_ild S hK hP 1 0 rfl rfl bi (by omega) (by decide) d_Pl_addGoingOn_5 ?_
  have hb1 := hne bi
  refine lv_if_eq (tgt := 11) hx hb d_Pl_addGoingOn_6 (by decide) (fun c6 => ?_) (fun c6 => ?_)
  · have c6 : (ne bi) = 0 := (nI_eq (a := (ne bi)) (b := 0) (by omega) (by omega)).mp c6
    refine lv_aload_n hx hb d_Pl_addGoingOn_11 rfl (lv_at hl 0 rfl) ?_
    refine ga_get S hK hP 0 rfl f_Pl_27 rfl d_Pl_addGoingOn_12 ?_
    refine lv_iload_n hx hb d_Pl_addGoingOn_15 rfl (lv_at hl 1 rfl) ?_
    refine lv_iload_n hx hb d_Pl_addGoingOn_16 rfl (lv_at hl 2 rfl) ?_
    refine ga_ist (ws' := [(pl, .inr (1, [.ref q1, .ref q2, .ref q3, .ref q4, .ref q5, .ref q6, .ref q7, .ref q8, .ref q9, .int (nI rg)])), (q5, .inl (cI, 61, .inl (nA (va_up ne bi v))))]) S hK hP hD hS 1 0 rfl rfl bi v (by omega) (by decide) rfl d_Pl_addGoingOn_17 (fun H locs hP hD hS => ?_)
    refine lv_iconst (v := 1) hx hb d_Pl_addGoingOn_18 (by decide) ?_
    exact ga_wz (va_up ne bi v) S hrt hlk (Or.inr rfl) hP hD hS (Or.inl ⟨rfl, c6, rfl⟩) d_Pl_addGoingOn_19
  · have c6 : ¬ ((ne bi) = 0) := fun q => c6 ((nI_eq (a := (ne bi)) (b := 0) (by omega) (by omega)).mpr q)
    refine lv_iconst (v := 0) hx hb d_Pl_addGoingOn_9 (by decide) ?_
    exact ga_wz ne S hrt hlk (Or.inl rfl) hP hD hS (Or.inr ⟨rfl, c6, rfl⟩) d_Pl_addGoingOn_10
set_option maxHeartbeats 4000000 in
set_option maxRecDepth 100000 in
theorem gc_Pl_addRange (l : Launch) (D : va_G) (cI cZ cC cG : ClassId) (pl q1 q2 q3 q4 q5 q6 q7 q8 q9 : Nat) (rg t f u kd : Nat) (us : Nat → Bool) (r1 r2 r3 r4 : Nat → Nat) (hrg : rg < 66) (ht : t ≤ 40) : ga_Mv l y_Pl_addRange b_Pl_addRange 5 0 0 0 D (ga_T cI cZ cC cG) [.ref pl, .int (nI t), .int (nI f), .int (nI u), .int (nI kd)] [(pl, .inr (1, [.ref q1, .ref q2, .ref q3, .ref q4, .ref q5, .ref q6, .ref q7, .ref q8, .ref q9, .int (nI rg)])), (q3, .inl (cZ, 41, .inl (zA us))), (q6, .inl (cI, 66, .inl (nA r1))), (q7, .inl (cI, 66, .inl (nA r2))), (q8, .inl (cI, 66, .inl (nA r3))), (q9, .inl (cI, 66, .inl (nA r4)))] (fun (_ : Unit) => [(pl, .inr (1, [.ref q1, .ref q2, .ref q3, .ref q4, .ref q5, .ref q6, .ref q7, .ref q8, .ref q9, .int (nI (rg + 1))])), (q3, .inl (cZ, 41, .inl (zA (va_up us t true)))), (q6, .inl (cI, 66, .inl (nA (va_up r1 rg t)))), (q7, .inl (cI, 66, .inl (nA (va_up r2 rg f)))), (q8, .inl (cI, 66, .inl (nA (va_up r3 rg u)))), (q9, .inl (cI, 66, .inl (nA (va_up r4 rg kd))))]) (fun _ => True) := by
  refine ga_enV (by decide) (Nat.le_of_ble_eq_true rfl) ?_
  intro p e s m below meth c ls A S hrt hlk hnm hK hP hD hA hl
  have hS : va_S A s.heap s.heap [] := va_S.rf
  obtain ⟨hx, hb, hml, hown, hts⟩ := id S
  have hl : lv_has ls 5 [(0, .ref pl), (1, .int (nI t)), (2, .int (nI f)), (3, .int (nI u)), (4, .int (nI kd))] := hl
  refine lv_aload_n hx hb d_Pl_addRange_0 rfl (lv_at hl 0 rfl) ?_
  refine ga_get S hK hP 0 rfl f_Pl_48 rfl d_Pl_addRange_1 ?_
  refine lv_bipush (v := 66) hx hb d_Pl_addRange_4 (by decide) ?_
  refine lv_icmp_lt (tgt := 10) hx hb d_Pl_addRange_6 (by decide) (fun c6 => ?_) (fun c6 => ?_)
  · have c6 : rg < 66 := (nI_ltI (a := rg) (b := 66) (by omega) (by omega)).mp c6
    refine lv_aload_n hx hb d_Pl_addRange_10 rfl (lv_at hl 0 rfl) ?_
    refine ga_get S hK hP 0 rfl f_Pl_30 rfl d_Pl_addRange_11 ?_
    refine lv_aload_n hx hb d_Pl_addRange_14 rfl (lv_at hl 0 rfl) ?_
    refine ga_get S hK hP 0 rfl f_Pl_48 rfl d_Pl_addRange_15 ?_
    refine lv_iload_n hx hb d_Pl_addRange_18 rfl (lv_at hl 1 rfl) ?_
    refine ga_ist (ws' := [(pl, .inr (1, [.ref q1, .ref q2, .ref q3, .ref q4, .ref q5, .ref q6, .ref q7, .ref q8, .ref q9, .int (nI rg)])), (q3, .inl (cZ, 41, .inl (zA us))), (q6, .inl (cI, 66, .inl (nA (va_up r1 rg t)))), (q7, .inl (cI, 66, .inl (nA r2))), (q8, .inl (cI, 66, .inl (nA r3))), (q9, .inl (cI, 66, .inl (nA r4)))]) S hK hP hD hS 2 0 rfl rfl rg t (by omega) (by decide) rfl d_Pl_addRange_19 (fun H locs hP hD hS => ?_)
    refine lv_aload_n hx hb d_Pl_addRange_20 rfl (lv_at hl 0 rfl) ?_
    refine ga_get S hK hP 0 rfl f_Pl_33 rfl d_Pl_addRange_21 ?_
    refine lv_aload_n hx hb d_Pl_addRange_24 rfl (lv_at hl 0 rfl) ?_
    refine ga_get S hK hP 0 rfl f_Pl_48 rfl d_Pl_addRange_25 ?_
    refine lv_iload_n hx hb d_Pl_addRange_28 rfl (lv_at hl 2 rfl) ?_
    refine ga_ist (ws' := [(pl, .inr (1, [.ref q1, .ref q2, .ref q3, .ref q4, .ref q5, .ref q6, .ref q7, .ref q8, .ref q9, .int (nI rg)])), (q3, .inl (cZ, 41, .inl (zA us))), (q6, .inl (cI, 66, .inl (nA (va_up r1 rg t)))), (q7, .inl (cI, 66, .inl (nA (va_up r2 rg f)))), (q8, .inl (cI, 66, .inl (nA r3))), (q9, .inl (cI, 66, .inl (nA r4)))]) S hK hP hD hS 3 0 rfl rfl rg f (by omega) (by decide) rfl d_Pl_addRange_29 (fun H locs hP hD hS => ?_)
    refine lv_aload_n hx hb d_Pl_addRange_30 rfl (lv_at hl 0 rfl) ?_
    refine ga_get S hK hP 0 rfl f_Pl_36 rfl d_Pl_addRange_31 ?_
    refine lv_aload_n hx hb d_Pl_addRange_34 rfl (lv_at hl 0 rfl) ?_
    refine ga_get S hK hP 0 rfl f_Pl_48 rfl d_Pl_addRange_35 ?_
    refine lv_iload_n hx hb d_Pl_addRange_38 rfl (lv_at hl 3 rfl) ?_
    refine ga_ist (ws' := [(pl, .inr (1, [.ref q1, .ref q2, .ref q3, .ref q4, .ref q5, .ref q6, .ref q7, .ref q8, .ref q9, .int (nI rg)])), (q3, .inl (cZ, 41, .inl (zA us))), (q6, .inl (cI, 66, .inl (nA (va_up r1 rg t)))), (q7, .inl (cI, 66, .inl (nA (va_up r2 rg f)))), (q8, .inl (cI, 66, .inl (nA (va_up r3 rg u)))), (q9, .inl (cI, 66, .inl (nA r4)))]) S hK hP hD hS 4 0 rfl rfl rg u (by omega) (by decide) rfl d_Pl_addRange_39 (fun H locs hP hD hS => ?_)
    refine lv_aload_n hx hb d_Pl_addRange_40 rfl (lv_at hl 0 rfl) ?_
    refine ga_get S hK hP 0 rfl f_Pl_39 rfl d_Pl_addRange_41 ?_
    refine lv_aload_n hx hb d_Pl_addRange_44 rfl (lv_at hl 0 rfl) ?_
    refine ga_get S hK hP 0 rfl f_Pl_48 rfl d_Pl_addRange_45 ?_
    refine lv_iload hx hb d_Pl_addRange_48 (lv_at hl 4 rfl) ?_
    refine ga_ist (ws' := [(pl, .inr (1, [.ref q1, .ref q2, .ref q3, .ref q4, .ref q5, .ref q6, .ref q7, .ref q8, .ref q9, .int (nI rg)])), (q3, .inl (cZ, 41, .inl (zA us))), (q6, .inl (cI, 66, .inl (nA (va_up r1 rg t)))), (q7, .inl (cI, 66, .inl (nA (va_up r2 rg f)))), (q8, .inl (cI, 66, .inl (nA (va_up r3 rg u)))), (q9, .inl (cI, 66, .inl (nA (va_up r4 rg kd))))]) S hK hP hD hS 5 0 rfl rfl rg kd (by omega) (by decide) rfl d_Pl_addRange_50 (fun H locs hP hD hS => ?_)
    refine lv_aload_n hx hb d_Pl_addRange_51 rfl (lv_at hl 0 rfl) ?_
    refine lv_dup hx hb d_Pl_addRange_52 rfl ?_
    refine ga_get S hK hP 0 rfl f_Pl_48 rfl d_Pl_addRange_53 ?_
    refine lv_iconst (v := 1) hx hb d_Pl_addRange_56 (by decide) ?_
    refine lv_iadd hx hb d_Pl_addRange_57 ?_
    refine ga_top (nI (rg + 1)) (nI_add rg 1) ?_
    refine ga_put (ws' := [(pl, .inr (1, [.ref q1, .ref q2, .ref q3, .ref q4, .ref q5, .ref q6, .ref q7, .ref q8, .ref q9, .int (nI (rg + 1))])), (q3, .inl (cZ, 41, .inl (zA us))), (q6, .inl (cI, 66, .inl (nA (va_up r1 rg t)))), (q7, .inl (cI, 66, .inl (nA (va_up r2 rg f)))), (q8, .inl (cI, 66, .inl (nA (va_up r3 rg u)))), (q9, .inl (cI, 66, .inl (nA (va_up r4 rg kd))))]) S hK hP hD hS 0 rfl p_Pl_48 rfl rfl (Nat.le_of_ble_eq_true rfl) rfl d_Pl_addRange_58 (fun H locs hP hD hS => ?_)
    refine lv_aload_n hx hb d_Pl_addRange_61 rfl (lv_at hl 0 rfl) ?_
    refine ga_get S hK hP 0 rfl f_Pl_21 rfl d_Pl_addRange_62 ?_
    refine lv_iload_n hx hb d_Pl_addRange_65 rfl (lv_at hl 1 rfl) ?_
    refine lv_iconst (v := 1) hx hb d_Pl_addRange_66 (by decide) ?_
    refine ga_zst (ws' := [(pl, .inr (1, [.ref q1, .ref q2, .ref q3, .ref q4, .ref q5, .ref q6, .ref q7, .ref q8, .ref q9, .int (nI (rg + 1))])), (q3, .inl (cZ, 41, .inl (zA (va_up us t true)))), (q6, .inl (cI, 66, .inl (nA (va_up r1 rg t)))), (q7, .inl (cI, 66, .inl (nA (va_up r2 rg f)))), (q8, .inl (cI, 66, .inl (nA (va_up r3 rg u)))), (q9, .inl (cI, 66, .inl (nA (va_up r4 rg kd))))]) S hK hP hD hS 1 1 rfl rfl t true (by omega) (by decide) rfl d_Pl_addRange_67 (fun H locs hP hD hS => ?_)
    exact ga_wv () S hrt hlk hP hD hS trivial d_Pl_addRange_68
  · exact absurd ((nI_ltI (a := rg) (b := 66) (by omega) (by omega)).mpr hrg) c6
set_option maxHeartbeats 4000000 in
set_option maxRecDepth 100000 in
theorem gc_Ar_fill (l : Launch) (D : va_G) (cI cZ cC cG : ClassId) (qa N v : Nat) (f : Nat → Nat) (hN : N < 2 ^ 31) : ga_Mv l y_Ar_fill b_Ar_fill 4 0 0 0 D (ga_T cI cZ cC cG) [.ref qa, .int (nI v)] [(qa, .inl (cI, N, .inl (nA f)))] (fun (_ : Unit) => [(qa, .inl (cI, N, .inl (nA (fun _ => v))))]) (fun _ => True) := by
  refine ga_enV (by decide) (Nat.le_of_ble_eq_true rfl) ?_
  intro p e s m below meth c ls A S hrt hlk hnm hK hP hD hA hl
  have hS : va_S A s.heap s.heap [] := va_S.rf
  obtain ⟨hx, hb, hml, hown, hts⟩ := id S
  have hl : lv_has ls 4 [(0, .ref qa), (1, .int (nI v))] := hl
  refine lv_iconst (v := 0) hx hb d_Ar_fill_0 (by decide) ?_
  refine lv_istore_n (lv' := [(2, .int 0), (0, .ref qa), (1, .int (nI v))]) hx hb d_Ar_fill_1 rfl hl (by decide) rfl (fun ls hl => ?_)
  refine lv_aload_n hx hb d_Ar_fill_2 rfl (lv_at hl 1 rfl) ?_
  refine va_alen (v := nI N) hx hb hK.1 hP 0 0 rfl rfl rfl d_Ar_fill_3 ?_
  refine lv_istore_n (lv' := [(3, .int (nI N)), (2, .int 0), (0, .ref qa), (1, .int (nI v))]) hx hb d_Ar_fill_4 rfl hl (by decide) rfl (fun ls hl => ?_)
  refine ga_loop (α := Nat) (fun i => N - i) (fun i ls H locs => lv_has ls 4 [(3, .int (nI N)), (2, .int (nI i)), (0, .ref qa), (1, .int (nI v))] ∧ va_P D vwCl [(qa, .inl (cI, N, .inl (nA (gp_fl f v i))))] H ∧ va_D A [(qa, .inl (cI, N, .inl (nA (gp_fl f v i))))] ∧ va_S A s.heap H locs ∧ i ≤ N) ?_ 0 ⟨lv_sub hl [0, 1, 2, 3] rfl, by rw [gp_fl_0]; exact hP, by rw [gp_fl_0]; exact hD, hS, Nat.zero_le _⟩
  intro i ls H locs hI ih
  obtain ⟨hl, hP, hD, hS, hi⟩ := hI
  refine lv_iload_n hx hb d_Ar_fill_5 rfl (lv_at hl 1 rfl) ?_
  refine lv_iload_n hx hb d_Ar_fill_6 rfl (lv_at hl 0 rfl) ?_
  refine lv_icmp_ge (tgt := 20) hx hb d_Ar_fill_7 (by decide) (fun c7 => ?_) (fun c7 => ?_)
  · have c7 : N ≤ i := (nI_leI (a := N) (b := i) (by omega) (by omega)).mp c7
    obtain ⟨hP, hD⟩ := ga_setf (q := 0) (g := nA (fun _ => v)) (ws' := [(qa, .inl (cI, N, .inl (nA (fun _ => v))))]) hP hD rfl (fun j hj => by simp only [nA, gp_fl]; rw [if_pos (by omega)]) rfl
    exact ga_wv () S hrt hlk hP hD hS trivial d_Ar_fill_20
  · have c7 : ¬ (N ≤ i) := fun q => c7 ((nI_leI (a := N) (b := i) (by omega) (by omega)).mpr q)
    refine lv_aload_n hx hb d_Ar_fill_10 rfl (lv_at hl 2 rfl) ?_
    refine lv_iload_n hx hb d_Ar_fill_11 rfl (lv_at hl 1 rfl) ?_
    refine lv_iload_n hx hb d_Ar_fill_12 rfl (lv_at hl 3 rfl) ?_
    refine ga_ist (ws' := [(qa, .inl (cI, N, .inl (nA (va_up (gp_fl f v i) i v))))]) S hK hP hD hS 0 0 rfl rfl i v (by omega) hN rfl d_Ar_fill_13 (fun H locs hP hD hS => ?_)
    rw [gp_fl_up] at hP hD
    refine lv_iinc (v := nI (i + 1)) (lv' := [(2, .int (nI (i + 1))), (3, .int (nI N)), (0, .ref qa), (1, .int (nI v))]) hx hb d_Ar_fill_14 hl (k := 1) rfl (ga_inc i) (by decide) rfl (fun ls hl => ?_)
    refine lv_goto (tgt := 5) hx hb d_Ar_fill_17 (by decide) ?_
    exact ih (i + 1) _ _ _ (by show N - (i + 1) < N - i; omega) ⟨lv_sub hl [1, 0, 2, 3] rfl, hP, hD, hS, by omega⟩
set_option maxHeartbeats 4000000 in
set_option maxRecDepth 100000 in
theorem gc_Pl_clear (l : Launch) (D : va_G) (cI cZ cC cG : ClassId) (pl q1 q2 q3 q4 q5 q6 q7 q8 q9 : Nat) (rg : Nat) (bn ne : Nat → Nat) (us he : Nat → Bool) : ga_Mv l y_Pl_clear b_Pl_clear 2 1 0 0 D (ga_T cI cZ cC cG) [.ref pl] [(pl, .inr (1, [.ref q1, .ref q2, .ref q3, .ref q4, .ref q5, .ref q6, .ref q7, .ref q8, .ref q9, .int (nI rg)])), (q1, .inl (cI, 480, .inl (nA bn))), (q3, .inl (cZ, 41, .inl (zA us))), (q4, .inl (cZ, 41, .inl (zA he))), (q5, .inl (cI, 61, .inl (nA ne)))] (fun (_ : Unit) => [(pl, .inr (1, [.ref q1, .ref q2, .ref q3, .ref q4, .ref q5, .ref q6, .ref q7, .ref q8, .ref q9, .int (nI 0)])), (q1, .inl (cI, 480, .inl (nA (fun _ => 0)))), (q3, .inl (cZ, 41, .inl (zA (fun _ => false)))), (q4, .inl (cZ, 41, .inl (zA (fun _ => false)))), (q5, .inl (cI, 61, .inl (nA (fun _ => 0))))]) (fun _ => True) := by
  refine ga_enV (by decide) (Nat.le_of_ble_eq_true rfl) ?_
  intro p e s m below meth c ls A S hrt hlk hnm hK hP hD hA hl
  have hS : va_S A s.heap s.heap [] := va_S.rf
  obtain ⟨hx, hb, hml, hown, hts⟩ := id S
  have hl : lv_has ls 2 [(0, .ref pl)] := hl
  refine lv_aload_n hx hb d_Pl_clear_0 rfl (lv_at hl 0 rfl) ?_
  refine ga_get S hK hP 0 rfl f_Pl_11 rfl d_Pl_clear_1 ?_
  refine lv_iconst (v := 0) hx hb d_Pl_clear_4 (by decide) ?_
  refine ga_jv (wr := [(pl, .inr (1, [.ref q1, .ref q2, .ref q3, .ref q4, .ref q5, .ref q6, .ref q7, .ref q8, .ref q9, .int (nI rg)])), (q3, .inl (cZ, 41, .inl (zA us))), (q4, .inl (cZ, 41, .inl (zA he))), (q5, .inl (cI, 61, .inl (nA ne)))]) (ga_runS (As := [.ref q1, .int 0]) (rest := []) S hK s_Pl_42 (gc_Ar_fill l D cI cZ cC cG q1 480 0 bn (by decide) _) (ga_prS hK hP hD [1] rfl (by decide)) rfl hl.1 rfl (Nat.le_of_ble_eq_true rfl) ⟨Nat.le_of_ble_eq_true rfl, Nat.le_of_ble_eq_true rfl⟩ ⟨Nat.le_of_ble_eq_true rfl, Nat.le_of_ble_eq_true rfl⟩ d_Pl_clear_5) hP hD hS hA [1] [0, 2, 3, 4] rfl rfl (by decide) (by decide) [0, 4, 1, 2, 3] (fun _ => [(pl, .inr (1, [.ref q1, .ref q2, .ref q3, .ref q4, .ref q5, .ref q6, .ref q7, .ref q8, .ref q9, .int (nI rg)])), (q1, .inl (cI, 480, .inl (nA (fun _ => 0)))), (q3, .inl (cZ, 41, .inl (zA us))), (q4, .inl (cZ, 41, .inl (zA he))), (q5, .inl (cI, 61, .inl (nA ne)))]) (fun _ => rfl) (by decide) (fun x H locs hp5 hP hD hS => ?_)
  refine lv_aload_n hx hb d_Pl_clear_8 rfl (lv_at hl 0 rfl) ?_
  refine ga_get S hK hP 0 rfl f_Pl_27 rfl d_Pl_clear_9 ?_
  refine lv_iconst (v := 0) hx hb d_Pl_clear_12 (by decide) ?_
  refine ga_jv (wr := [(pl, .inr (1, [.ref q1, .ref q2, .ref q3, .ref q4, .ref q5, .ref q6, .ref q7, .ref q8, .ref q9, .int (nI rg)])), (q1, .inl (cI, 480, .inl (nA (fun _ => 0)))), (q3, .inl (cZ, 41, .inl (zA us))), (q4, .inl (cZ, 41, .inl (zA he)))]) (ga_runS (As := [.ref q5, .int 0]) (rest := []) S hK s_Pl_42 (gc_Ar_fill l D cI cZ cC cG q5 61 0 ne (by decide) _) (ga_prS hK hP hD [4] rfl (by decide)) rfl hl.1 rfl (Nat.le_of_ble_eq_true rfl) ⟨Nat.le_of_ble_eq_true rfl, Nat.le_of_ble_eq_true rfl⟩ ⟨Nat.le_of_ble_eq_true rfl, Nat.le_of_ble_eq_true rfl⟩ d_Pl_clear_13) hP hD hS hA [4] [0, 1, 2, 3] rfl rfl (by decide) (by decide) [0, 1, 2, 3, 4] (fun _ => [(pl, .inr (1, [.ref q1, .ref q2, .ref q3, .ref q4, .ref q5, .ref q6, .ref q7, .ref q8, .ref q9, .int (nI rg)])), (q1, .inl (cI, 480, .inl (nA (fun _ => 0)))), (q3, .inl (cZ, 41, .inl (zA us))), (q4, .inl (cZ, 41, .inl (zA he))), (q5, .inl (cI, 61, .inl (nA (fun _ => 0))))]) (fun _ => rfl) (by decide) (fun x H locs hp13 hP hD hS => ?_)
  refine lv_iconst (v := 0) hx hb d_Pl_clear_16 (by decide) ?_
  refine lv_istore_n (lv' := [(1, .int 0), (0, .ref pl)]) hx hb d_Pl_clear_17 rfl hl (by decide) rfl (fun ls hl => ?_)
  refine ga_loop (α := Nat × (Nat → Bool) × (Nat → Bool)) (fun x => match x with | (i, u2, h2) => 41 - i) (fun x ls H locs => match x with | (i, u2, h2) => lv_has ls 2 [(1, .int (nI i)), (0, .ref pl)] ∧ va_P D vwCl [(pl, .inr (1, [.ref q1, .ref q2, .ref q3, .ref q4, .ref q5, .ref q6, .ref q7, .ref q8, .ref q9, .int (nI rg)])), (q1, .inl (cI, 480, .inl (nA (fun _ => 0)))), (q3, .inl (cZ, 41, .inl (zA u2))), (q4, .inl (cZ, 41, .inl (zA h2))), (q5, .inl (cI, 61, .inl (nA (fun _ => 0))))] H ∧ va_D A [(pl, .inr (1, [.ref q1, .ref q2, .ref q3, .ref q4, .ref q5, .ref q6, .ref q7, .ref q8, .ref q9, .int (nI rg)])), (q1, .inl (cI, 480, .inl (nA (fun _ => 0)))), (q3, .inl (cZ, 41, .inl (zA u2))), (q4, .inl (cZ, 41, .inl (zA h2))), (q5, .inl (cI, 61, .inl (nA (fun _ => 0))))] ∧ va_S A s.heap H locs ∧ i ≤ 41 ∧ u2 = gp_fl us false i ∧ h2 = gp_fl he false i) ?_ (0, us, he) ⟨lv_sub hl [0, 1] rfl, hP, hD, hS, ⟨by decide, (gp_fl_0 _ _).symm, (gp_fl_0 _ _).symm⟩⟩
  intro x ls H locs hI ih
  obtain ⟨i, u2, h2⟩ := x
  obtain ⟨hl, hP, hD, hS, ⟨hi, hu2, hh2⟩⟩ := hI
  have hl : lv_has ls 2 [(1, .int (nI i)), (0, .ref pl)] := hl
  have hP : va_P D vwCl [(pl, .inr (1, [.ref q1, .ref q2, .ref q3, .ref q4, .ref q5, .ref q6, .ref q7, .ref q8, .ref q9, .int (nI rg)])), (q1, .inl (cI, 480, .inl (nA (fun _ => 0)))), (q3, .inl (cZ, 41, .inl (zA u2))), (q4, .inl (cZ, 41, .inl (zA h2))), (q5, .inl (cI, 61, .inl (nA (fun _ => 0))))] H := hP
  have hD : va_D A [(pl, .inr (1, [.ref q1, .ref q2, .ref q3, .ref q4, .ref q5, .ref q6, .ref q7, .ref q8, .ref q9, .int (nI rg)])), (q1, .inl (cI, 480, .inl (nA (fun _ => 0)))), (q3, .inl (cZ, 41, .inl (zA u2))), (q4, .inl (cZ, 41, .inl (zA h2))), (q5, .inl (cI, 61, .inl (nA (fun _ => 0))))] := hD
  refine lv_iload_n hx hb d_Pl_clear_18 rfl (lv_at hl 0 rfl) ?_
  refine lv_bipush (v := 40) hx hb d_Pl_clear_19 (by decide) ?_
  refine lv_icmp_gt (tgt := 44) hx hb d_Pl_clear_21 (by decide) (fun c21 => ?_) (fun c21 => ?_)
  · have c21 : 40 < i := (nI_ltI (a := 40) (b := i) (by omega) (by omega)).mp c21
    obtain ⟨hP, hD⟩ := ga_setf (q := 2) (g := zA (fun _ => false)) (ws' := [(pl, .inr (1, [.ref q1, .ref q2, .ref q3, .ref q4, .ref q5, .ref q6, .ref q7, .ref q8, .ref q9, .int (nI rg)])), (q1, .inl (cI, 480, .inl (nA (fun _ => 0)))), (q3, .inl (cZ, 41, .inl (zA (fun _ => false)))), (q4, .inl (cZ, 41, .inl (zA h2))), (q5, .inl (cI, 61, .inl (nA (fun _ => 0))))]) hP hD rfl (fun j hj => by simp only [zA, hu2, gp_fl]; rw [if_pos (by omega)]) rfl
    obtain ⟨hP, hD⟩ := ga_setf (q := 3) (g := zA (fun _ => false)) (ws' := [(pl, .inr (1, [.ref q1, .ref q2, .ref q3, .ref q4, .ref q5, .ref q6, .ref q7, .ref q8, .ref q9, .int (nI rg)])), (q1, .inl (cI, 480, .inl (nA (fun _ => 0)))), (q3, .inl (cZ, 41, .inl (zA (fun _ => false)))), (q4, .inl (cZ, 41, .inl (zA (fun _ => false)))), (q5, .inl (cI, 61, .inl (nA (fun _ => 0))))]) hP hD rfl (fun j hj => by simp only [zA, hh2, gp_fl]; rw [if_pos (by omega)]) rfl
    refine lv_aload_n hx hb d_Pl_clear_44 rfl (lv_at hl 1 rfl) ?_
    refine lv_iconst (v := 0) hx hb d_Pl_clear_45 (by decide) ?_
    refine ga_put (ws' := [(pl, .inr (1, [.ref q1, .ref q2, .ref q3, .ref q4, .ref q5, .ref q6, .ref q7, .ref q8, .ref q9, .int 0])), (q1, .inl (cI, 480, .inl (nA (fun _ => 0)))), (q3, .inl (cZ, 41, .inl (zA (fun _ => false)))), (q4, .inl (cZ, 41, .inl (zA (fun _ => false)))), (q5, .inl (cI, 61, .inl (nA (fun _ => 0))))]) S hK hP hD hS 0 rfl p_Pl_48 rfl rfl (Nat.le_of_ble_eq_true rfl) rfl d_Pl_clear_46 (fun H locs hP hD hS => ?_)
    exact ga_wv () S hrt hlk hP hD hS trivial d_Pl_clear_49
  · have c21 : ¬ (40 < i) := fun q => c21 ((nI_ltI (a := 40) (b := i) (by omega) (by omega)).mpr q)
    refine lv_aload_n hx hb d_Pl_clear_24 rfl (lv_at hl 1 rfl) ?_
    refine ga_get S hK hP 0 rfl f_Pl_21 rfl d_Pl_clear_25 ?_
    refine lv_iload_n hx hb d_Pl_clear_28 rfl (lv_at hl 0 rfl) ?_
    refine lv_iconst (v := 0) hx hb d_Pl_clear_29 (by decide) ?_
    refine ga_zst (ws' := [(pl, .inr (1, [.ref q1, .ref q2, .ref q3, .ref q4, .ref q5, .ref q6, .ref q7, .ref q8, .ref q9, .int (nI rg)])), (q1, .inl (cI, 480, .inl (nA (fun _ => 0)))), (q3, .inl (cZ, 41, .inl (zA (va_up u2 i false)))), (q4, .inl (cZ, 41, .inl (zA h2))), (q5, .inl (cI, 61, .inl (nA (fun _ => 0))))]) S hK hP hD hS 2 1 rfl rfl i false (by omega) (by decide) rfl d_Pl_clear_30 (fun H locs hP hD hS => ?_)
    refine lv_aload_n hx hb d_Pl_clear_31 rfl (lv_at hl 1 rfl) ?_
    refine ga_get S hK hP 0 rfl f_Pl_24 rfl d_Pl_clear_32 ?_
    refine lv_iload_n hx hb d_Pl_clear_35 rfl (lv_at hl 0 rfl) ?_
    refine lv_iconst (v := 0) hx hb d_Pl_clear_36 (by decide) ?_
    refine ga_zst (ws' := [(pl, .inr (1, [.ref q1, .ref q2, .ref q3, .ref q4, .ref q5, .ref q6, .ref q7, .ref q8, .ref q9, .int (nI rg)])), (q1, .inl (cI, 480, .inl (nA (fun _ => 0)))), (q3, .inl (cZ, 41, .inl (zA (va_up u2 i false)))), (q4, .inl (cZ, 41, .inl (zA (va_up h2 i false)))), (q5, .inl (cI, 61, .inl (nA (fun _ => 0))))]) S hK hP hD hS 3 1 rfl rfl i false (by omega) (by decide) rfl d_Pl_clear_37 (fun H locs hP hD hS => ?_)
    refine lv_iinc (v := nI (i + 1)) (lv' := [(1, .int (nI (i + 1))), (0, .ref pl)]) hx hb d_Pl_clear_38 hl (k := 0) rfl (ga_inc i) (by decide) rfl (fun ls hl => ?_)
    refine lv_goto (tgt := 18) hx hb d_Pl_clear_41 (by decide) ?_
    exact ih (i + 1, va_up u2 i false, va_up h2 i false) _ _ _ (by show (41 - (i + 1)) < (41 - i); omega) ⟨lv_sub hl [0, 1] rfl, hP, hD, hS, ⟨by omega, by rw [hu2, gp_fl_up], by rw [hh2, gp_fl_up]⟩⟩
